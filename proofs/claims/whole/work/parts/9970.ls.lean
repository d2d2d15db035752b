/-! loading a script: pure, of the reference -/
def y_scs (t : Int → Int) (n : Int) : Nat → Int → (Int → Int) → Int → (Int × Int) × Int × (Int → Int)
  | 0, _, B, c => ((0, -1), c, B)
  | m + 1, p, B, c => if y_k t n p = 0 then ((0, -1), c, B) else if (y_ent t n p B c).1.1 = 0 then y_scs t n m (y_ent t n p B c).2.1 (y_ent t n p B c).2.2 (c + 1) else ((y_ent t n p B c).1, c, B)
def y_script (t : Int → Int) (n : Int) : (Int × Int) × Int × (Int → Int) := y_scs t n (n.toNat + 1) 0 (fun _ => 0) 0
/-- what holds of a script's entries -/
def y_Sb (B : Int → Int) (c : Int) : Prop := (0 ≤ c ∧ c ≤ 40) ∧ ∀ e, 0 ≤ e → e < c → (0 ≤ B (5 * e) ∧ B (5 * e) ≤ 143) ∧ (0 < e → B (5 * (e - 1)) ≤ B (5 * e)) ∧ (0 ≤ B (5 * e + 1) ∧ B (5 * e + 1) ≤ 6) ∧ (B (5 * e + 1) = 0 → 0 ≤ B (5 * e + 4) ∧ B (5 * e + 4) ≤ 143) ∧ (B (5 * e + 1) = 4 → 1 ≤ B (5 * e + 3) ∧ B (5 * e + 3) ≤ 12)
theorem y_Sb_ent {t : Int → Int} {n p : Int} {B : Int → Int} {c : Int} (hb : y_Sb B c) (hc : (y_ent t n p B c).1.1 = 0) : y_Sb (y_ent t n p B c).2.2 (c + 1) := by
  have c9 := y_ent_ne hc
  obtain ⟨⟨hc0, hc4⟩, H⟩ := hb
  have ab := y_act9_b (t := t) (n := n) (p := y_e9 t n (y_e9 t n p))
  unfold y_ent at *
  by_cases w4 : ¬ y_w4 t n p = true
  · rw [if_pos w4] at hc; exact absurd hc (show ¬ (1 : Int) = 0 by decide)
  rw [if_neg w4, if_neg c9] at *
  by_cases h5 : y_nc t n (y_e9 t n p) (if c = 0 then 0 else B (5 * c - 5)) 143 ≠ 0
  · rw [if_pos h5] at hc; exact absurd hc h5
  rw [if_neg h5] at *
  by_cases h6 : y_act9 t n (y_e9 t n (y_e9 t n p)) = -1
  · rw [if_pos h6] at hc; exact absurd hc (show ¬ (1 : Int) = 0 by decide)
  rw [if_neg h6] at *
  generalize y_act9 t n (y_e9 t n (y_e9 t n p)) = a at *
  generalize y_e9 t n (y_e9 t n (y_e9 t n p)) = q at *
  by_cases h7 : (y_ff t n (y_cn t n (y_lim a) q) q).1 ≠ 0
  · rw [if_pos h7] at hc; exact absurd hc h7
  rw [if_neg h7] at *
  by_cases h8 : y_sc t n (y_it t n (y_lim a) q) ≠ 0
  · rw [if_pos h8] at hc; exact absurd hc (show ¬ (1 : Int) = 0 by decide)
  rw [if_neg h8]
  have z5 := y_nc0 (Classical.byContradiction h5)
  have z7 := y_ff_c (Classical.byContradiction h7)
  have ll := y_lim_l a
  have LO : ∀ j, j < 5 * c → y_rB t n (y_lim a) q (5 * c + 2) (z_up (z_up B (5 * c) (y_vv t n (y_e9 t n p))) (5 * c + 1) a) j = B j := fun j hj => by rw [y_rB_lo _ _ _ _ _ (by omega), z_up_ne (by omega), z_up_ne (by omega)]
  have V0 : y_rB t n (y_lim a) q (5 * c + 2) (z_up (z_up B (5 * c) (y_vv t n (y_e9 t n p))) (5 * c + 1) a) (5 * c) = y_vv t n (y_e9 t n p) := by rw [y_rB_lo _ _ _ _ _ (by omega), z_up_ne (by omega), z_up_eq rfl]
  have V1 : y_rB t n (y_lim a) q (5 * c + 2) (z_up (z_up B (5 * c) (y_vv t n (y_e9 t n p))) (5 * c + 1) a) (5 * c + 1) = a := by rw [y_rB_lo _ _ _ _ _ (by omega), z_up_eq rfl]
  refine ⟨by omega, fun e a1 a2 => ?_⟩
  show _ ∧ _
  by_cases z : e = c
  · subst z
    refine ⟨?_, fun e0 => ?_, ?_, fun e0 => ?_, fun e0 => ?_⟩
    · show 0 ≤ y_rB _ _ _ _ _ _ _ ∧ y_rB _ _ _ _ _ _ _ ≤ 143
      rw [V0]
      refine ⟨Int.le_trans ?_ z5.1, z5.2⟩
      by_cases k : e = 0
      · rw [if_pos k]; exact Int.le_refl 0
      · rw [if_neg k]
        have := (H (e - 1) (by omega) (by omega)).1.1
        rw [show 5 * (e - 1) = 5 * e - 5 by omega] at this; exact this
    · show y_rB _ _ _ _ _ _ _ ≤ y_rB _ _ _ _ _ _ _
      rw [V0, LO _ (by omega)]
      rw [if_neg (show ¬ e = 0 by omega)] at z5
      rw [show 5 * (e - 1) = 5 * e - 5 by omega]; exact z5.1
    · show 0 ≤ y_rB _ _ _ _ _ _ _ ∧ y_rB _ _ _ _ _ _ _ ≤ 6
      rw [V1]; omega
    · have e0 : a = 0 := V1.symm.trans e0
      subst e0
      have z := y_nc0 (z7 _ (show y_nc t n (y_e9 t n (y_e9 t n q)) 0 143 ∈ _ from by simp [y_lim, y_cn]))
      have v : y_rB t n (y_lim 0) q (5 * e + 2) (z_up (z_up B (5 * e) (y_vv t n (y_e9 t n p))) (5 * e + 1) 0) (5 * e + 4) = y_vv t n (y_e9 t n (y_e9 t n q)) := by
        show z_up (z_up (z_up _ _ _) _ _) (5 * e + 2 + 1 + 1) (y_vv t n (y_e9 t n (y_e9 t n q))) (5 * e + 4) = _
        rw [z_up_eq (by omega)]
      show 0 ≤ y_rB _ _ _ _ _ _ _ ∧ y_rB _ _ _ _ _ _ _ ≤ 143
      rw [v]; exact z
    · have e0 : a = 4 := V1.symm.trans e0
      subst e0
      have z := y_nc0 (z7 _ (show y_nc t n (y_e9 t n q) 1 12 ∈ _ from by simp [y_lim, y_cn]))
      have v : y_rB t n (y_lim 4) q (5 * e + 2) (z_up (z_up B (5 * e) (y_vv t n (y_e9 t n p))) (5 * e + 1) 4) (5 * e + 3) = y_vv t n (y_e9 t n q) := by
        show z_up (z_up _ _ _) (5 * e + 2 + 1) (y_vv t n (y_e9 t n q)) (5 * e + 3) = _
        rw [z_up_eq (by omega)]
      show 1 ≤ y_rB _ _ _ _ _ _ _ ∧ y_rB _ _ _ _ _ _ _ ≤ 12
      rw [v]; exact z
  · have := H e a1 (by omega)
    show (0 ≤ y_rB _ _ _ _ _ _ _ ∧ y_rB _ _ _ _ _ _ _ ≤ 143) ∧ (_ → y_rB _ _ _ _ _ _ _ ≤ y_rB _ _ _ _ _ _ _) ∧ (0 ≤ y_rB _ _ _ _ _ _ _ ∧ y_rB _ _ _ _ _ _ _ ≤ 6) ∧ (y_rB _ _ _ _ _ _ _ = 0 → 0 ≤ y_rB _ _ _ _ _ _ _ ∧ y_rB _ _ _ _ _ _ _ ≤ 143) ∧ (y_rB _ _ _ _ _ _ _ = 4 → 1 ≤ y_rB _ _ _ _ _ _ _ ∧ y_rB _ _ _ _ _ _ _ ≤ 12)
    rw [LO (5 * e) (by omega), LO (5 * e + 1) (by omega), LO (5 * e + 4) (by omega), LO (5 * e + 3) (by omega), LO (5 * (e - 1)) (by omega)]
    exact this
theorem y_Sb0 : y_Sb (fun _ => 0) 0 := ⟨by omega, fun e a1 a2 => by omega⟩
theorem y_scs_Sb {t : Int → Int} {n : Int} : ∀ (m : Nat) (p : Int) (B : Int → Int) (c : Int), y_Sb B c → y_Sb (y_scs t n m p B c).2.2 (y_scs t n m p B c).2.1
  | 0, _, _, _, h => h
  | m + 1, p, B, c, h => by
    rw [y_scs]
    by_cases k : y_k t n p = 0
    · rw [if_pos k]; exact h
    · rw [if_neg k]
      by_cases z : (y_ent t n p B c).1.1 = 0
      · rw [if_pos z]; exact y_scs_Sb m _ _ _ (y_Sb_ent h z)
      · rw [if_neg z]; exact h
/-- the reference's script -/
def y_S (B : Int → Int) (c : Int) (J : z_J) : Prop := ∀ e f, 0 ≤ e → e < c → 0 ≤ f → f < y_uf B e → J 159 (5 * e + f) = B (5 * e + f)
/-- what the reference holds behind a loaded script -/
def y_ls (J : z_J) (r : (Int × Int) × Int × (Int → Int)) (v : Int) (J' : z_J) : Prop :=
  (∀ j, j ≠ 2 → (j < 13 ∨ 19 < j) → j ≠ 23 → j ≠ 24 → j ≠ 25 → J' 148 j = J 148 j) ∧ J' 148 2 = 0 ∧ J' 148 13 = 0 ∧ J' 148 15 = r.1.1 ∧ J' 148 16 = r.1.2 ∧ (∀ b, b ≠ 148 → b ≠ 159 → b ≠ 160 → J' b = J b) ∧ ((r.1.1 = 0 ∧ v = r.2.1 ∧ J' 148 23 = r.2.1 ∧ J' 148 24 = 0 ∧ y_S r.2.2 r.2.1 J') ∨ (r.1.1 ≠ 0 ∧ v = -7 ∧ J' 148 23 = J 148 23 ∧ J' 148 24 = J 148 24 ∧ J' 159 = J 159))
section R28
variable {l : Launch} {d : Nat} {g : List (Option Nat)} {T : m_E} {J : z_J} {X : z_X} {t : Int → Int} {n : Int}
theorem p_loadScript (ht : J 158 = t) (hn : J 148 13 = n) (hT : y_T t n) : z_Sem l (d + 8) M_R_loadScript [.inr (.inr (.ref 148))] (m_Ex g T, J, X) 0 0 (z_rq (m_Ex g T) (fun v J' X' => y_fX X X' ∧ y_ls J (y_script t n) v J')) := by
  have hn0 := hT.1
  refine z_sem_of z_m331 m_ok_331 (Nat.le_of_ble_eq_true rfl) (fun Wp hs hv hS => ?_)
  have copy : ∀ (m k : Nat) (J1 J2 : z_J) (X1 : z_X) (B : Int → Int) (c : Int), (k : Int) + m = 5 * c → c ≤ 40 → y_fX X X1 → y_fz (z_u J 148 2 0) J1 → J1 148 25 = c → J1 148 15 = 0 → J1 148 16 = -1 → y_E B c J1 → y_script t n = ((0, -1), c, B) → (∀ b, b ≠ 159 → J2 b = (z_u J1 148 13 0) b) → (∀ j : Int, 0 ≤ j → j < (k : Int) → J2 159 j = J1 160 j) → ∀ x1 : Int, Wp 52 [some (.inr (.inr (.ref 148))), some (.inl x1), some (.inl k)] [] (m_Ex g T, J2, X1) 0 0 := by
    intro m
    induction m with
    | zero =>
      intro k J1 J2 X1 B c hk hc hx hf h25 h15 h16 hE he hJ2 hr x1
      have e25 : J2 148 25 = c := by rw [hJ2 148 (by omega), z_u_off (by omega)]; exact h25
      refine w_331_52 hs ?_
      rw [e25]
      refine ⟨by omega, fun _ => ⟨_, _, _, rfl, rfl, hx, ?_⟩, fun c => by omega⟩
      rw [he]
      refine ⟨fun j h1 h2 h3 h4 h5 => ?_, ?_, ?_, ?_, ?_, fun b h1 h2 h3 => ?_, Or.inl ⟨rfl, rfl, ?_, z_u_at rfl, fun e f a1 a2 a3 a4 => ?_⟩⟩
      · rw [z_u_off h4, z_u_off h3, hJ2 148 (by omega), z_u_off (by omega), hf.1 j (by omega) h5, z_u_off h1]
      · rw [z_u_off (by omega), z_u_off (by omega), hJ2 148 (by omega), z_u_off (by omega), hf.1 2 (by omega) (by omega), z_u_at rfl]
      · rw [z_u_off (by omega), z_u_off (by omega), hJ2 148 (by omega), z_u_at rfl]
      · rw [z_u_off (by omega), z_u_off (by omega), hJ2 148 (by omega), z_u_off (by omega)]; exact h15
      · rw [z_u_off (by omega), z_u_off (by omega), hJ2 148 (by omega), z_u_off (by omega)]; exact h16
      · rw [z_u_ne h1, z_u_ne h1, hJ2 b h2, z_u_ne h1, hf.2 b h1 h3, z_u_ne h1]
      · rw [z_u_off (by omega), z_u_at rfl]
      · have l2 := y_lim_l (B (5 * e + 1))
        have a4' := a4
        unfold y_uf at a4'
        have a4'' : f < 2 + ((y_lim (B (5 * e + 1))).length : Int) := a4'
        have a2' : e < c := a2
        rw [z_u_ne (by omega), z_u_ne (by omega), hr _ (by omega) (by omega)]
        exact hE e f a1 a2 a3 a4
    | succ m ih =>
      intro k J1 J2 X1 B c hk hc hx hf h25 h15 h16 hE he hJ2 hr x1
      have e25 : J2 148 25 = c := by rw [hJ2 148 (by omega), z_u_off (by omega)]; exact h25
      refine w_331_52 hs ?_
      rw [e25]
      refine ⟨by omega, fun c => by omega, fun _ => ⟨by omega, ih (k + 1) J1 _ X1 B c (by omega) hc hx hf h25 h15 h16 hE he (fun b hb => by rw [z_u_ne hb]; exact hJ2 b hb) (fun j a1 a2 => ?_) x1⟩⟩
      by_cases z : j = k
      · rw [z_u_at z, hJ2 160 (by omega), z_u_ne (by omega), z]
      · rw [z_u_off z]; exact hr j a1 (by omega)
  have main : ∀ (m : Nat) (p : Int) (B : Int → Int) (c : Int) (J1 : z_J) (X1 : z_X), n - p < (m : Int) → (0 ≤ p ∧ p ≤ n) → (0 ≤ c ∧ c ≤ 40) → y_R t n p J1 X1 → J1 148 25 = c → y_E B c J1 → y_fX X X1 → y_fz (z_u J 148 2 0) J1 → y_script t n = y_scs t n m p B c → Wp 16 [some (.inr (.inr (.ref 148))), some (.inl 1), none] [] (m_Ex g T, J1, X1) 0 0 := by
    intro m
    induction m with
    | zero => intro p B c J1 X1 hm hp; omega
    | succ m ih =>
      intro p B c J1 X1 hm hp hc hR h25 hE hx hf he
      rw [y_scs] at he
      have h15 := hR.2.2.1.1
      refine w_331_16 hs ?_
      rw [h15, hR.2.2.2.2.1]
      refine ⟨fun z => absurd z (by decide), fun _ => ⟨fun k0 => ⟨fun _ => ?_, fun z => absurd rfl z⟩, fun k0 => ?_⟩⟩
      · rw [if_pos k0] at he
        exact copy (5 * c).toNat 0 J1 _ X1 B c (by omega) hc.2 hx hf h25 h15 hR.2.2.1.2 hE he (fun _ _ => rfl) (fun j a1 a2 => by omega) 1
      · rw [if_neg k0] at he
        refine z_cIq (c_readEntry hT hp hc h25 hE hR) ?_
        rintro v J2 X2 ⟨x2, f2, ⟨s0, rfl, s1, s2, s3⟩ | ⟨s0, rfl, s1, s2⟩⟩
        · rw [if_pos s0] at he
          have pp := y_ent_p hp.2 k0 s0
          have c9 := y_ent_ne s0
          exact ih _ _ _ J2 X2 (by omega) (by omega) (by omega) s1 s2 s3 (hx.tr x2) (hf.tr f2) he
        · rw [if_neg s0] at he
          have e2 : J2 148 15 ≠ 0 := by rw [s1]; exact s0
          refine w_331_16 hs ?_
          refine ⟨fun _ => ⟨fun z => absurd z e2, fun _ => ?_⟩, fun z => absurd rfl z⟩
          refine ⟨_, _, _, rfl, rfl, hx.tr x2, ?_⟩
          rw [he]
          have ff := hf.tr f2
          refine ⟨fun j h1 h2 h3 h4 h5 => ?_, ?_, z_u_at rfl, ?_, ?_, fun b h1 h2 h3 => ?_, Or.inr ⟨s0, rfl, ?_, ?_, ?_⟩⟩
          · rw [z_u_off (by omega), ff.1 j (by omega) h5, z_u_off h1]
          · rw [z_u_off (by omega), ff.1 2 (by omega) (by omega), z_u_at rfl]
          · rw [z_u_off (by omega)]; exact s1
          · rw [z_u_off (by omega)]; exact s2
          · rw [z_u_ne h1, ff.2 b h1 h3, z_u_ne h1]
          · rw [z_u_off (by omega), ff.1 23 (by omega) (by omega), z_u_off (by omega)]
          · rw [z_u_off (by omega), ff.1 24 (by omega) (by omega), z_u_off (by omega)]
          · rw [z_u_ne (by omega), ff.2 159 (by omega) (by omega), z_u_ne (by omega)]
  refine w_331_0 hs ?_
  have q8 : ∀ j, z_u (z_u (z_u (z_u (z_u J 148 2 0) 148 25 0) 148 15 0) 148 16 (-1)) 148 14 0 148 j = z_up (z_up (z_up (z_up (z_up (J 148) 2 0) 25 0) 15 0) 16 (-1)) 14 0 j := fun j => by rw [z_u_row, z_u_row, z_u_row, z_u_row, z_u_row]
  have qb : ∀ b, b ≠ 148 → z_u (z_u (z_u (z_u (z_u J 148 2 0) 148 25 0) 148 15 0) 148 16 (-1)) 148 14 0 b = J b := fun b h1 => by rw [z_u_ne h1, z_u_ne h1, z_u_ne h1, z_u_ne h1, z_u_ne h1]
  generalize z_u (z_u (z_u (z_u (z_u J 148 2 0) 148 25 0) 148 15 0) 148 16 (-1)) 148 14 0 = Jz at q8 qb ⊢
  refine z_cVq (c_advanceToken (t := t) (n := n) (p := 0) (by rw [qb 158 (by omega)]; exact ht) (by rw [q8]; simp (disch := omega) only [z_up_ne]; exact hn) (by rw [q8, z_up_eq rfl]) (by omega) hT.2) ?_
  rintro J1 X1 ⟨k1, k2, k3⟩
  refine main (n.toNat + 1) 0 (fun _ => 0) 0 J1 X1 (by omega) (by omega) (by omega) ⟨?_, ?_, ⟨?_, ?_⟩, k1⟩ ?_ (fun e f a1 a2 => by omega) k3 ⟨fun j hj h5 => ?_, fun b h1 h2 => ?_⟩ rfl
  · rw [k2.2 158 (by omega), qb 158 (by omega)]; exact ht
  · rw [k2.1 13 (by omega) (by omega) (by omega), q8]; simp (disch := omega) only [z_up_ne]; exact hn
  · rw [k2.1 15 (by omega) (by omega) (by omega), q8, z_up_ne (by omega), z_up_ne (by omega), z_up_eq rfl]
  · rw [k2.1 16 (by omega) (by omega) (by omega), q8, z_up_ne (by omega), z_up_eq rfl]
  · rw [k2.1 25 (by omega) (by omega) (by omega), q8, z_up_ne (by omega), z_up_ne (by omega), z_up_ne (by omega), z_up_eq rfl]
  · rw [k2.1 j (by omega) (by omega) (by omega), q8, z_u_row, z_up_ne (by omega), z_up_ne (by omega), z_up_ne (by omega), z_up_ne h5]
  · rw [k2.2 b h1, qb b h1, z_u_ne h1]
end R28
