/-! loading a script, of the class (written by wip/whole/gen9972.py) -/
/-- what reading a script may touch -/
def x_fs9 (J J1 : z_J) : Prop := ∀ b j, ¬ ((b = 1 ∧ 2 ≤ j ∧ j ≤ 7) ∨ (b = 24 ∧ j = 5) ∨ (25 ≤ b ∧ b ≤ 29)) → J1 b j = J b j
theorem x_fs9.rf {J : z_J} : x_fs9 J J := fun _ _ _ => rfl
theorem x_fs9.tr {J J1 J2 : z_J} (h1 : x_fs9 J J1) (h2 : x_fs9 J1 J2) : x_fs9 J J2 := fun b j h => (h2 b j h).trans (h1 b j h)
theorem x_fe.f9 {c : Int} {J J1 : z_J} (h : x_fe c J J1) : x_fs9 J J1 := fun b j hn => h b j (by omega)
theorem x_f6.f9 {J J1 : z_J} (h : x_f6 J J1) : x_fs9 J J1 := (h.fe (c := 0)).f9
theorem x_fs9.r2 {J J1 : z_J} (h : x_fs9 J J1) : J1 2 = J 2 := funext (fun j => h 2 j (by omega))
theorem x_fs9.u {J J1 : z_J} {a : Nat} {k v : Int} (h : x_fs9 J J1) (ha : (a = 24 ∧ k = 5) ∨ (a = 1 ∧ 2 ≤ k ∧ k ≤ 7) ∨ (25 ≤ a ∧ a ≤ 29)) : x_fs9 J (z_u J1 a k v) := fun b j hn => by
  rw [z_u_nb (by omega)]; exact h b j hn
def x_fsA (J J1 : z_J) : Prop := ∀ b j, ¬ ((b = 1 ∧ 2 ≤ j ∧ j ≤ 7) ∨ (b = 24 ∧ (j = 5 ∨ j = 6)) ∨ (25 ≤ b ∧ b ≤ 29)) → J1 b j = J b j
theorem x_fsA.rf {J : z_J} : x_fsA J J := fun _ _ _ => rfl
theorem x_fsA.tr {J J1 J2 : z_J} (h1 : x_fsA J J1) (h2 : x_fs9 J1 J2) : x_fsA J J2 := fun b j h => (h2 b j (by omega)).trans (h1 b j h)
theorem x_fsA.u {J J1 : z_J} {a : Nat} {k v : Int} (h : x_fsA J J1) (ha : (a = 24 ∧ (k = 5 ∨ k = 6)) ∨ (a = 1 ∧ 2 ≤ k ∧ k ≤ 7)) : x_fsA J (z_u J1 a k v) := fun b j hn => by
  rw [z_u_nb (by omega)]; exact h b j hn
def x_oe (t : Int → Int) (n c : Int) (J : z_J) (r : (Int × Int) × Int × (Int → Int)) (J' : z_J) : Prop := x_fs9 J J' ∧ ((r.1.1 = 0 ∧ x_R t n r.2.1 J' ∧ J' 1 7 = J 1 7 ∧ J' 24 5 = c + 1 ∧ x_E r.2.2 (c + 1) J') ∨ (r.1.1 ≠ 0 ∧ J' 1 6 = r.1.1 ∧ J' 1 7 = r.1.2))
theorem x_oe_e {t : Int → Int} {n c : Int} {J J' : z_J} {r : (Int × Int) × Int × (Int → Int)} {k q : Int} (hf : x_fs9 J J') (s1 : J' 1 6 = k) (s2 : J' 1 7 = q) (hr : r.1 = (k, q)) (h0 : k ≠ 0) : x_oe t n c J r J' := ⟨hf, Or.inr ⟨by rw [hr]; exact h0, by rw [hr]; exact s1, by rw [hr]; exact s2⟩⟩
theorem x_E_add {t : Int → Int} {n c a v q : Int} {L : List (Int × Int)} {B : Int → Int} {J J1 : z_J} (hL : y_lim a = L) (hc : 0 ≤ c) (hE : x_E B c J) (hf : ∀ b e, 25 ≤ b → b ≤ 29 → e ≠ c → J1 b e = J b e) (e0 : J1 25 c = v) (e1 : J1 26 c = a) (e2 : J1 27 c = y_vv t n q) (e3 : 2 ≤ L.length → J1 28 c = y_vv t n (y_e9 t n q)) (e4 : 3 ≤ L.length → J1 29 c = y_vv t n (y_e9 t n (y_e9 t n q))) : x_E (y_rB t n L q (5 * c + 2) (z_up (z_up B (5 * c) v) (5 * c + 1) a)) (c + 1) J1 := by
  have ll := y_lim_l a
  rw [hL] at ll
  intro e a1 a2
  by_cases z : e = c
  · subst z
    have v1 : y_rB t n L q (5 * e + 2) (z_up (z_up B (5 * e) v) (5 * e + 1) a) (5 * e + 1) = a := by rw [y_rB_lo _ _ _ _ _ (by omega), z_up_eq rfl]
    rw [v1, hL]
    refine ⟨by rw [e0, y_rB_lo _ _ _ _ _ (by omega), z_up_ne (by omega), z_up_eq rfl], e1, ?_, fun k => ?_, fun k => ?_⟩
    · rw [e2, y_rB_0 _ _ _ _ ll.1]
    · rw [e3 k, show 5 * e + 3 = 5 * e + 2 + 1 by omega, y_rB_1 _ _ _ _ k]
    · rw [e4 k, show 5 * e + 4 = 5 * e + 2 + 2 by omega, y_rB_2 _ _ _ _ k]
  · have LO : ∀ j, j < 5 * c → y_rB t n L q (5 * c + 2) (z_up (z_up B (5 * c) v) (5 * c + 1) a) j = B j := fun j hj => by rw [y_rB_lo _ _ _ _ _ (by omega), z_up_ne (by omega), z_up_ne (by omega)]
    rw [LO (5 * e) (by omega), LO (5 * e + 1) (by omega), LO (5 * e + 2) (by omega), LO (5 * e + 3) (by omega), LO (5 * e + 4) (by omega), hf 25 e (by omega) (by omega) z, hf 26 e (by omega) (by omega) z, hf 27 e (by omega) (by omega) z, hf 28 e (by omega) (by omega) z, hf 29 e (by omega) (by omega) z]
    exact hE e a1 (by omega)
section Q28
variable {l : Launch} {d : Nat} {g : List (Option Nat)} {T : m_E} {J : z_J} {X : z_X} {t : Int → Int} {n p : Int} {B : Int → Int} {c : Int}
theorem e_readEntry (hT : y_T t n) (hp : 0 ≤ p ∧ p ≤ n) (hc : 0 ≤ c ∧ c ≤ 40) (h24 : J 24 5 = c) (hE : x_E B c J) (h : x_R t n (y_e9 t n p) J) (k1 : x_tok t n p J) : z_Sem l (d + 5) M_Script_readEntry [.inr (.inr (.ref 24)), .inr (.inr (.ref 1))] (m_Ex g T, J, X) 0 0 (z_vq (m_Ex g T) (fun J' X' => X' = X ∧ x_oe t n c J (y_ent t n p B c) J')) := by
  have b0 := y_tok_b (t := t) (n := n) hp.2
  have b1 := y_tok_b (t := t) (n := n) (p := (y_e9 t n p)) (by omega)
  have b2 := y_tok_b (t := t) (n := n) (p := (y_e9 t n (y_e9 t n p))) (by omega)
  have b3 := y_it_b (t := t) (n := n) (y_lim (y_act9 t n (y_e9 t n (y_e9 t n p)))) (y_e9 t n (y_e9 t n (y_e9 t n p))) (by omega)
  have tb : ∀ W : Bool, (y_b W ≠ 0 → W = true) ∧ (y_b W = 0 → ¬ W = true) := by
    intro W; cases W <;> exact ⟨fun z => by first | rfl | exact absurd rfl z, fun z => by first | decide | exact absurd z (by decide)⟩
  refine z_sem_of z_m89 m_ok_89 (Nat.le_of_ble_eq_true rfl) (fun Wp hs hv hS => ?_)
  refine w_89_0 hs ?_
  refine z_cI (e_isWord4 hT hp h.1 k1) ⟨fun w4 => ?_, fun w4 => ?_⟩
  rotate_left
  · have er : y_ent t n p B c = ((1, y_s t n p), p, B) := by unfold y_ent; rw [if_pos ((tb _).2 w4)]
    rw [er, h.2.2.1, k1.1]
    have ex := x_er_u (J := J) (J1 := J) (c := 1) (p := y_s t n p) x_f6.rf
    exact ⟨fun z => absurd rfl z, fun _ => ⟨_, _, rfl, rfl, rfl, x_oe_e ex.2.2.f9 ex.1 ex.2.1 rfl (by decide)⟩⟩
  have w4 : ¬ ¬ y_w4 t n p = true := fun z => z ((tb _).1 w4)
  rw [h24, h.2.2.1]
  refine ⟨fun c4 => ?_, fun c4 => ⟨fun z => absurd rfl z, fun _ => ?_⟩⟩
  rotate_left
  · have er : y_ent t n p B c = ((3, y_s t n p), p, B) := by unfold y_ent; rw [if_neg w4, if_pos (by omega)]
    rw [er, k1.1]
    have ex := x_er_u (J := J) (J1 := J) (c := 3) (p := y_s t n p) x_f6.rf
    exact ⟨_, _, rfl, rfl, rfl, x_oe_e ex.2.2.f9 ex.1 ex.2.1 rfl (by decide)⟩
  have c4' : ¬ c = 40 := by omega
  refine ⟨fun c0 => ⟨by omega, ?_⟩, fun c0 => ?_⟩
  · have eB : J 25 (c - 1) = B (5 * c - 5) := by rw [(hE (c - 1) (by omega) (by omega)).1, show 5 * (c - 1) = 5 * c - 5 by omega]
    refine z_cIq (e_readNumberT hT (by omega) h) ?_
    rintro v1 J1 X1 ⟨rfl, t1, ⟨c1, rfl, r1, f1⟩ | ⟨c1, ex⟩⟩
    rotate_left
    · have qd : J1 1 6 ≠ 0 := by rw [ex.1]; exact c1
      have c1' : y_nc t n (y_e9 t n p) (if c = 0 then 0 else B (5 * c - 5)) 143 ≠ 0 := by rw [if_neg c0, ← eB]; exact c1
      have er : y_ent t n p B c = ((y_nc t n (y_e9 t n p) (if c = 0 then 0 else B (5 * c - 5)) 143, y_s t n (y_e9 t n p)), p, B) := by unfold y_ent; rw [if_neg w4, if_neg c4', if_pos c1']
      rw [er]
      have ff := ex.2.2.f9.u (a := 25) (k := c) (v := v1) (by omega)
      refine ⟨by omega, z_cV (e_readWord0 (by rw [z_u_ne (by omega)]; exact qd)) ?_⟩
      refine z_cVq (e_readAction0 (p := y_e9 t n p) (c := c) hT (by omega) (by rw [ff.r2]; exact h.1) (t1.u (by omega)) (by rw [z_u_ne (by omega)]; exact qd) (by rw [z_u_ne (by omega), ex.2.2.2 24 (by omega)]; exact h24) (by omega)) ?_
      rintro J2 X2 ⟨rfl, f2, e2⟩
      have q2 : J2 1 6 ≠ 0 := by rw [e2, z_u_ne (by omega)]; exact qd
      refine z_cV (e_readSemicolon0 q2) ⟨fun z => absurd z q2, fun _ => ⟨_, _, rfl, rfl, rfl, x_oe_e (ff.tr f2.f9) ?_ ?_ rfl c1'⟩⟩
      · rw [e2, z_u_ne (by omega), ex.1, if_neg c0, ← eB]
      · rw [e2, z_u_ne (by omega), ex.2.1]
    have c1' : ¬ y_nc t n (y_e9 t n p) (if c = 0 then 0 else B (5 * c - 5)) 143 ≠ 0 := by rw [if_neg c0, ← eB]; exact fun z => z c1
    have ff := f1.f6.f9.u (a := 25) (k := c) (v := y_vv t n (y_e9 t n p)) (by omega)
    refine ⟨by omega, z_cVq (e_readWord hT (by omega) (r1.u (a := 25) (k := c) (v := y_vv t n (y_e9 t n p)) (by omega))) ?_⟩
    rintro J2 X2 ⟨rfl, r2, t2, g2⟩
    have ff2 := ff.tr g2.f6.f9
    have e24b : J2 24 5 = c := by rw [g2.2 24 (by omega), z_u_ne (by omega), f1.2 24 (by omega)]; exact h24
    refine z_cVq (e_readAction hT (by omega) r2 t2 e24b (by omega)) ?_
    rintro J3 X3 ⟨rfl, f3, ⟨a1, s1, s2⟩ | ⟨a1, c5, r3, e7, y6, y7, y8, y9⟩ | ⟨a1, c5, s1, s2⟩⟩
    · have q3 : J3 1 6 ≠ 0 := by rw [s1]; decide
      have er : y_ent t n p B c = ((1, y_s t n (y_e9 t n (y_e9 t n p))), p, B) := by unfold y_ent; rw [if_neg w4, if_neg c4', if_neg c1', if_pos a1]
      rw [er]
      exact z_cV (e_readSemicolon0 q3) ⟨fun z => absurd z q3, fun _ => ⟨_, _, rfl, rfl, rfl, x_oe_e (ff2.tr f3.f9) s1 s2 rfl (by decide)⟩⟩
    rotate_left
    · have q3 : J3 1 6 ≠ 0 := by rw [s1]; exact c5
      have er : y_ent t n p B c = (y_ff t n (y_cn t n (y_lim (y_act9 t n (y_e9 t n (y_e9 t n p)))) (y_e9 t n (y_e9 t n (y_e9 t n p)))) (y_e9 t n (y_e9 t n (y_e9 t n p))), p, B) := by unfold y_ent; rw [if_neg w4, if_neg c4', if_neg c1', if_neg a1, if_pos c5]
      rw [er]
      exact z_cV (e_readSemicolon0 q3) ⟨fun z => absurd z q3, fun _ => ⟨_, _, rfl, rfl, rfl, x_oe_e (ff2.tr f3.f9) s1 s2 rfl c5⟩⟩
    refine z_cVq (e_readSemicolon hT (by omega) r3) ?_
    rintro J4 X4 ⟨rfl, ⟨c6, r4, f4⟩ | ⟨c6, ex⟩⟩
    rotate_left
    · have q4 : J4 1 6 ≠ 0 := by rw [ex.1]; exact c6
      have hs1 : y_sc t n (y_it t n (y_lim (y_act9 t n (y_e9 t n (y_e9 t n p)))) (y_e9 t n (y_e9 t n (y_e9 t n p)))) = 1 := by unfold y_sc at c6 ⊢; by_cases k3 : y_k t n (y_it t n (y_lim (y_act9 t n (y_e9 t n (y_e9 t n p)))) (y_e9 t n (y_e9 t n (y_e9 t n p)))) = 3 <;> simp_all
      have er : y_ent t n p B c = ((1, y_s t n (y_it t n (y_lim (y_act9 t n (y_e9 t n (y_e9 t n p)))) (y_e9 t n (y_e9 t n (y_e9 t n p))))), p, B) := by unfold y_ent; rw [if_neg w4, if_neg c4', if_neg c1', if_neg a1, if_neg (fun z => z c5), if_pos c6]
      rw [er]
      exact ⟨fun z => absurd z q4, fun _ => ⟨_, _, rfl, rfl, rfl, x_oe_e ((ff2.tr f3.f9).tr ex.2.2.f9) (ex.1.trans hs1) ex.2.1 rfl (by decide)⟩⟩
    have er : y_ent t n p B c = ((0, -1), y_e9 t n (y_it t n (y_lim (y_act9 t n (y_e9 t n (y_e9 t n p)))) (y_e9 t n (y_e9 t n (y_e9 t n p)))), y_rB t n (y_lim (y_act9 t n (y_e9 t n (y_e9 t n p)))) (y_e9 t n (y_e9 t n (y_e9 t n p))) (5 * c + 2) (z_up (z_up B (5 * c) (y_vv t n (y_e9 t n p))) (5 * c + 1) (y_act9 t n (y_e9 t n (y_e9 t n p))))) := by unfold y_ent; rw [if_neg w4, if_neg c4', if_neg c1', if_neg a1, if_neg (fun z => z c5), if_neg (fun z => z c6)]
    have ff4 := (ff2.tr f3.f9).tr f4.f6.f9
    have e24 : J4 24 5 = c := by rw [f4.2 24 (by omega), f3 24 5 (by omega)]; exact e24b
    rw [er, r4.2.2.1, e24]
    refine ⟨fun _ => ⟨by omega, ⟨_, _, rfl, rfl, rfl, ff4.u (by omega), Or.inl ⟨rfl, r4.u (by omega), ?_, z_u_at rfl, ?_⟩⟩⟩, fun z => absurd rfl z⟩
    · rw [z_u_ne (by omega), f4.1 7 (by omega) (by omega) (by omega) (by omega), e7, g2.1 7 (by omega) (by omega) (by omega) (by omega), z_u_ne (by omega), f1.1 7 (by omega) (by omega) (by omega) (by omega)]
    · have R : ∀ b, 25 ≤ b → b ≤ 29 → (z_u J4 24 5 (c + 1)) b = J3 b := fun b h1 h2 => by rw [z_u_ne (by omega), f4.2 b (by omega)]
      refine x_E_add rfl hc.1 hE (fun b e h1 h2 h3 => ?_) ?_ ?_ ?_ (fun k => ?_) (fun k => ?_)
      · rw [R b h1 h2, f3 b e (by omega), g2.2 b (by omega), z_u_nb (by omega), f1.2 b (by omega)]
      · rw [R 25 (by omega) (by omega)]
        rw [f3 25 c (by omega), g2.2 25 (by omega), z_u_at rfl]
      · rw [R 26 (by omega) (by omega)]; exact y6
      · rw [R 27 (by omega) (by omega)]; exact y7
      · rw [R 28 (by omega) (by omega)]; exact y8 k
      · rw [R 29 (by omega) (by omega)]; exact y9 k
  · have := c0
    refine z_cIq (e_readNumberT hT (by omega) h) ?_
    rintro v1 J1 X1 ⟨rfl, t1, ⟨c1, rfl, r1, f1⟩ | ⟨c1, ex⟩⟩
    rotate_left
    · have qd : J1 1 6 ≠ 0 := by rw [ex.1]; exact c1
      have c1' : y_nc t n (y_e9 t n p) (if c = 0 then 0 else B (5 * c - 5)) 143 ≠ 0 := by rw [if_pos c0]; exact c1
      have er : y_ent t n p B c = ((y_nc t n (y_e9 t n p) (if c = 0 then 0 else B (5 * c - 5)) 143, y_s t n (y_e9 t n p)), p, B) := by unfold y_ent; rw [if_neg w4, if_neg c4', if_pos c1']
      rw [er]
      have ff := ex.2.2.f9.u (a := 25) (k := c) (v := v1) (by omega)
      refine ⟨by omega, z_cV (e_readWord0 (by rw [z_u_ne (by omega)]; exact qd)) ?_⟩
      refine z_cVq (e_readAction0 (p := y_e9 t n p) (c := c) hT (by omega) (by rw [ff.r2]; exact h.1) (t1.u (by omega)) (by rw [z_u_ne (by omega)]; exact qd) (by rw [z_u_ne (by omega), ex.2.2.2 24 (by omega)]; exact h24) (by omega)) ?_
      rintro J2 X2 ⟨rfl, f2, e2⟩
      have q2 : J2 1 6 ≠ 0 := by rw [e2, z_u_ne (by omega)]; exact qd
      refine z_cV (e_readSemicolon0 q2) ⟨fun z => absurd z q2, fun _ => ⟨_, _, rfl, rfl, rfl, x_oe_e (ff.tr f2.f9) ?_ ?_ rfl c1'⟩⟩
      · rw [e2, z_u_ne (by omega), ex.1, if_pos c0]
      · rw [e2, z_u_ne (by omega), ex.2.1]
    have c1' : ¬ y_nc t n (y_e9 t n p) (if c = 0 then 0 else B (5 * c - 5)) 143 ≠ 0 := by rw [if_pos c0]; exact fun z => z c1
    have ff := f1.f6.f9.u (a := 25) (k := c) (v := y_vv t n (y_e9 t n p)) (by omega)
    refine ⟨by omega, z_cVq (e_readWord hT (by omega) (r1.u (a := 25) (k := c) (v := y_vv t n (y_e9 t n p)) (by omega))) ?_⟩
    rintro J2 X2 ⟨rfl, r2, t2, g2⟩
    have ff2 := ff.tr g2.f6.f9
    have e24b : J2 24 5 = c := by rw [g2.2 24 (by omega), z_u_ne (by omega), f1.2 24 (by omega)]; exact h24
    refine z_cVq (e_readAction hT (by omega) r2 t2 e24b (by omega)) ?_
    rintro J3 X3 ⟨rfl, f3, ⟨a1, s1, s2⟩ | ⟨a1, c5, r3, e7, y6, y7, y8, y9⟩ | ⟨a1, c5, s1, s2⟩⟩
    · have q3 : J3 1 6 ≠ 0 := by rw [s1]; decide
      have er : y_ent t n p B c = ((1, y_s t n (y_e9 t n (y_e9 t n p))), p, B) := by unfold y_ent; rw [if_neg w4, if_neg c4', if_neg c1', if_pos a1]
      rw [er]
      exact z_cV (e_readSemicolon0 q3) ⟨fun z => absurd z q3, fun _ => ⟨_, _, rfl, rfl, rfl, x_oe_e (ff2.tr f3.f9) s1 s2 rfl (by decide)⟩⟩
    rotate_left
    · have q3 : J3 1 6 ≠ 0 := by rw [s1]; exact c5
      have er : y_ent t n p B c = (y_ff t n (y_cn t n (y_lim (y_act9 t n (y_e9 t n (y_e9 t n p)))) (y_e9 t n (y_e9 t n (y_e9 t n p)))) (y_e9 t n (y_e9 t n (y_e9 t n p))), p, B) := by unfold y_ent; rw [if_neg w4, if_neg c4', if_neg c1', if_neg a1, if_pos c5]
      rw [er]
      exact z_cV (e_readSemicolon0 q3) ⟨fun z => absurd z q3, fun _ => ⟨_, _, rfl, rfl, rfl, x_oe_e (ff2.tr f3.f9) s1 s2 rfl c5⟩⟩
    refine z_cVq (e_readSemicolon hT (by omega) r3) ?_
    rintro J4 X4 ⟨rfl, ⟨c6, r4, f4⟩ | ⟨c6, ex⟩⟩
    rotate_left
    · have q4 : J4 1 6 ≠ 0 := by rw [ex.1]; exact c6
      have hs1 : y_sc t n (y_it t n (y_lim (y_act9 t n (y_e9 t n (y_e9 t n p)))) (y_e9 t n (y_e9 t n (y_e9 t n p)))) = 1 := by unfold y_sc at c6 ⊢; by_cases k3 : y_k t n (y_it t n (y_lim (y_act9 t n (y_e9 t n (y_e9 t n p)))) (y_e9 t n (y_e9 t n (y_e9 t n p)))) = 3 <;> simp_all
      have er : y_ent t n p B c = ((1, y_s t n (y_it t n (y_lim (y_act9 t n (y_e9 t n (y_e9 t n p)))) (y_e9 t n (y_e9 t n (y_e9 t n p))))), p, B) := by unfold y_ent; rw [if_neg w4, if_neg c4', if_neg c1', if_neg a1, if_neg (fun z => z c5), if_pos c6]
      rw [er]
      exact ⟨fun z => absurd z q4, fun _ => ⟨_, _, rfl, rfl, rfl, x_oe_e ((ff2.tr f3.f9).tr ex.2.2.f9) (ex.1.trans hs1) ex.2.1 rfl (by decide)⟩⟩
    have er : y_ent t n p B c = ((0, -1), y_e9 t n (y_it t n (y_lim (y_act9 t n (y_e9 t n (y_e9 t n p)))) (y_e9 t n (y_e9 t n (y_e9 t n p)))), y_rB t n (y_lim (y_act9 t n (y_e9 t n (y_e9 t n p)))) (y_e9 t n (y_e9 t n (y_e9 t n p))) (5 * c + 2) (z_up (z_up B (5 * c) (y_vv t n (y_e9 t n p))) (5 * c + 1) (y_act9 t n (y_e9 t n (y_e9 t n p))))) := by unfold y_ent; rw [if_neg w4, if_neg c4', if_neg c1', if_neg a1, if_neg (fun z => z c5), if_neg (fun z => z c6)]
    have ff4 := (ff2.tr f3.f9).tr f4.f6.f9
    have e24 : J4 24 5 = c := by rw [f4.2 24 (by omega), f3 24 5 (by omega)]; exact e24b
    rw [er, r4.2.2.1, e24]
    refine ⟨fun _ => ⟨by omega, ⟨_, _, rfl, rfl, rfl, ff4.u (by omega), Or.inl ⟨rfl, r4.u (by omega), ?_, z_u_at rfl, ?_⟩⟩⟩, fun z => absurd rfl z⟩
    · rw [z_u_ne (by omega), f4.1 7 (by omega) (by omega) (by omega) (by omega), e7, g2.1 7 (by omega) (by omega) (by omega) (by omega), z_u_ne (by omega), f1.1 7 (by omega) (by omega) (by omega) (by omega)]
    · have R : ∀ b, 25 ≤ b → b ≤ 29 → (z_u J4 24 5 (c + 1)) b = J3 b := fun b h1 h2 => by rw [z_u_ne (by omega), f4.2 b (by omega)]
      refine x_E_add rfl hc.1 hE (fun b e h1 h2 h3 => ?_) ?_ ?_ ?_ (fun k => ?_) (fun k => ?_)
      · rw [R b h1 h2, f3 b e (by omega), g2.2 b (by omega), z_u_nb (by omega), f1.2 b (by omega)]
      · rw [R 25 (by omega) (by omega)]
        rw [f3 25 c (by omega), g2.2 25 (by omega), z_u_at rfl]
      · rw [R 26 (by omega) (by omega)]; exact y6
      · rw [R 27 (by omega) (by omega)]; exact y7
      · rw [R 28 (by omega) (by omega)]; exact y8 k
      · rw [R 29 (by omega) (by omega)]; exact y9 k
/-- the class's script -/
def x_S (B : Int → Int) (c : Int) (J : z_J) : Prop := ∀ e, 0 ≤ e → e < c → J 31 e = B (5 * e) ∧ J 32 e = B (5 * e + 1) ∧ J 33 e = B (5 * e + 2) ∧ (2 ≤ (y_lim (B (5 * e + 1))).length → J 34 e = B (5 * e + 3)) ∧ (3 ≤ (y_lim (B (5 * e + 1))).length → J 35 e = B (5 * e + 4))
theorem e_copyScript : z_Sem l (d + 1) M_Script_copyFrom [.inr (.inr (.ref 30)), .inr (.inr (.ref 24))] (m_Ex g T, J, X) 0 0 (z_vq (m_Ex g T) (fun J' X' => X' = X ∧ (∀ b, (b < 30 ∨ 35 < b) → J' b = J b) ∧ J' 30 5 = J 24 5 ∧ J' 30 6 = J 24 6 ∧ ∀ e, 0 ≤ e → e < 40 → J' 31 e = J 25 e ∧ J' 32 e = J 26 e ∧ J' 33 e = J 27 e ∧ J' 34 e = J 28 e ∧ J' 35 e = J 29 e)) := by
  refine z_sem_of z_m91 m_ok_91 (Nat.le_of_ble_eq_true rfl) (fun Wp hs hv hS => ?_)
  refine w_91_0 hs ?_
  refine ⟨_, _, rfl, rfl, rfl, fun b hb => ?_, ?_, ?_, fun r a1 a2 => ?_⟩
  · simp (disch := omega) only [z_u_ne, z_row_ne]
  · rw [z_u_off (by omega), z_u_at rfl]
  · rw [z_u_at rfl]
  · simp (disch := omega) only [z_u_ne, z_row_ne, z_row_eq, z_cpy0, and_self]
theorem e_readScript (ht : J 2 = t) (hn : J 1 1 = n) (hT : y_T t n) : z_Sem l (d + 6) M_Script_read [.inr (.inr (.ref 24)), .inr (.inr (.ref 1))] (m_Ex g T, J, X) 0 0 (z_vq (m_Ex g T) (fun J' X' => X' = X ∧ x_fsA J J' ∧ J' 1 6 = (y_script t n).1.1 ∧ J' 1 7 = (y_script t n).1.2 ∧ J' 24 6 = 0 ∧ ((y_script t n).1.1 = 0 → J' 24 5 = (y_script t n).2.1 ∧ x_E (y_script t n).2.2 (y_script t n).2.1 J'))) := by
  have hn0 := hT.1
  refine z_sem_of z_m88 m_ok_88 (Nat.le_of_ble_eq_true rfl) (fun Wp hs hv hS => ?_)
  have main : ∀ (m : Nat) (p : Int) (B : Int → Int) (c k : Int) (J1 : z_J), n - p < (m : Int) → (0 ≤ p ∧ p ≤ n) → (0 ≤ c ∧ c ≤ 40) → (0 ≤ k ∧ k ≤ p) → x_R t n p J1 → J1 1 7 = -1 → J1 24 5 = c → J1 24 6 = 0 → x_E B c J1 → x_fsA J J1 → y_script t n = y_scs t n m p B c → Wp 10 [some (.inr (.inr (.ref 24))), some (.inr (.inr (.ref 1))), some (.inl k)] [] (m_Ex g T, J1, X) 0 0 := by
    intro m
    induction m with
    | zero => intro p B c k J1 hm hp; omega
    | succ m ih =>
      intro p B c k J1 hm hp hc hk hR h7 h5 h6b hE hf he
      rw [y_scs] at he
      have b0 := y_tok_b (t := t) (n := n) hp.2
      have h6 := hR.2.2.1
      have done : ∀ J2 : z_J, y_k t n p = 0 → x_f4 J1 J2 → z_vq (m_Ex g T) (fun J' X' => X' = X ∧ x_fsA J J' ∧ J' 1 6 = (y_script t n).1.1 ∧ J' 1 7 = (y_script t n).1.2 ∧ J' 24 6 = 0 ∧ ((y_script t n).1.1 = 0 → J' 24 5 = (y_script t n).2.1 ∧ x_E (y_script t n).2.2 (y_script t n).2.1 J')) (.inl none) (m_Ex g T, J2, X) := by
        intro J2 k0 f2
        rw [if_pos k0] at he
        refine ⟨_, _, rfl, rfl, rfl, hf.tr f2.f6.f9, ?_⟩
        rw [he]
        refine ⟨by rw [f2.1 6 (by omega) (by omega) (by omega) (by omega)]; exact h6, by rw [f2.1 7 (by omega) (by omega) (by omega) (by omega)]; exact h7, by rw [f2.2 24 (by omega)]; exact h6b, fun _ => ⟨by rw [f2.2 24 (by omega)]; exact h5, ?_⟩⟩
        intro e a1 a2
        rw [f2.2 25 (by omega), f2.2 26 (by omega), f2.2 27 (by omega), f2.2 28 (by omega), f2.2 29 (by omega)]
        exact hE e a1 a2
      refine w_88_10 hs ?_
      rw [h6]
      refine ⟨fun z => done J1 (Classical.byContradiction (fun k => by have := b0.2.2.2.1 k; omega)) ⟨fun _ _ _ _ _ => rfl, fun _ _ => rfl⟩, fun z => ⟨fun _ => ?_, fun z => absurd rfl z⟩⟩
      refine z_cIq (e_hasNext hT hp hR) ?_
      rintro v J2 X2 ⟨rfl, hv, r2, k2, f2⟩
      refine ⟨fun v0 => done J2 (hv.mp v0) f2, fun v0 => ?_⟩
      have k0 : y_k t n p ≠ 0 := fun z => v0 (hv.mpr z)
      rw [if_neg k0] at he
      have hE2 : x_E B c J2 := fun e a1 a2 => by
        rw [f2.2 25 (by omega), f2.2 26 (by omega), f2.2 27 (by omega), f2.2 28 (by omega), f2.2 29 (by omega)]
        exact hE e a1 a2
      have h62 : J2 24 6 = 0 := by rw [f2.2 24 (by omega)]; exact h6b
      refine z_cVq (e_readEntry hT hp hc (by rw [f2.2 24 (by omega)]; exact h5) hE2 r2 k2) ?_
      rintro J3 X3 ⟨rfl, f3, ⟨s0, s1, s2, s3, s4⟩ | ⟨s0, s1, s2⟩⟩
      · rw [if_pos s0] at he
        have pp := y_ent_p hp.2 k0 s0
        have c9 := y_ent_ne s0
        refine ⟨by omega, ih _ _ _ _ J3 (by omega) (by omega) (by omega) (by omega) s1 ?_ s3 ?_ s4 ((hf.tr f2.f6.f9).tr f3) he⟩
        · rw [s2, f2.1 7 (by omega) (by omega) (by omega) (by omega)]; exact h7
        · exact (by rw [f3 24 6 (by omega)]; exact h62)
      · rw [if_neg s0] at he
        refine ⟨by omega, ?_⟩
        have e2 : J3 1 6 ≠ 0 := by rw [s1]; exact s0
        have fin : z_vq (m_Ex g T) (fun J' X' => X' = X3 ∧ x_fsA J J' ∧ J' 1 6 = (y_script t n).1.1 ∧ J' 1 7 = (y_script t n).1.2 ∧ J' 24 6 = 0 ∧ ((y_script t n).1.1 = 0 → J' 24 5 = (y_script t n).2.1 ∧ x_E (y_script t n).2.2 (y_script t n).2.1 J')) (.inl none) (m_Ex g T, J3, X3) := by
          refine ⟨_, _, rfl, rfl, rfl, (hf.tr f2.f6.f9).tr f3, ?_⟩
          rw [he]
          exact ⟨s1, s2, (by rw [f3 24 6 (by omega)]; exact h62), fun z => absurd z s0⟩
        refine w_88_10 hs ?_
        exact ⟨fun _ => fin, fun _ => ⟨fun z => absurd z e2, fun _ => fin⟩⟩
  refine w_88_0 hs ?_
  refine main (n.toNat + 1) 0 (fun _ => 0) 0 0 _ (by omega) (by omega) (by omega) (by omega) ⟨?_, ?_, ?_, ?_⟩ (z_u_at rfl) ?_ ?_ (fun e a1 a2 => by omega) (((((x_fsA.rf.u (by omega)).u (by omega)).u (by omega)).u (by omega)).u (by omega)) rfl
  · simp (disch := omega) only [z_u_ne]; exact ht
  · rw [z_u_off (by omega), z_u_off (by omega), z_u_off (by omega)]; simp (disch := omega) only [z_u_ne]; exact hn
  · rw [z_u_off (by omega), z_u_at rfl]
  · rw [z_u_off (by omega), z_u_off (by omega), z_u_at rfl]
  · rw [z_u_ne (by omega), z_u_ne (by omega), z_u_ne (by omega), z_u_off (by omega), z_u_at rfl]
  · rw [z_u_ne (by omega), z_u_ne (by omega), z_u_ne (by omega), z_u_at rfl]
def x_ls (J : z_J) (r : (Int × Int) × Int × (Int → Int)) (v : Int) (J' : z_J) : Prop :=
  (∀ b j, ¬ ((b = 1 ∧ 1 ≤ j ∧ j ≤ 7) ∨ (24 ≤ b ∧ b ≤ 35)) → J' b j = J b j) ∧ J' 1 1 = 0 ∧ J' 1 6 = r.1.1 ∧ J' 1 7 = r.1.2 ∧ ((r.1.1 = 0 ∧ v = r.2.1 ∧ J' 30 5 = r.2.1 ∧ J' 30 6 = 0 ∧ x_S r.2.2 r.2.1 J') ∨ (r.1.1 ≠ 0 ∧ v = -7 ∧ ∀ b, (30 ≤ b ∧ b ≤ 35) → ∀ j, J' b j = J b j))
theorem q_loadScript (ht : J 2 = t) (hn : J 1 1 = n) (hT : y_T t n) : z_Sem l (d + 7) M_Q_loadScript [.inr (.inr (.ref 0))] (m_Ex g T, J, X) 0 0 (z_rq (m_Ex g T) (fun v J' X' => X' = X ∧ x_ls J (y_script t n) v J')) := by
  refine z_sem_of z_m116 m_ok_116 (Nat.le_of_ble_eq_true rfl) (fun Wp hs hv hS => ?_)
  refine w_116_0 hs ?_
  refine z_cVq (e_readScript ht hn hT) ?_
  rintro J1 X1 ⟨rfl, f1, e6, e7, e9, hs1⟩
  have hb := y_scs_Sb (t := t) (n := n) (n.toNat + 1) 0 (fun _ => 0) 0 y_Sb0
  have hb : y_Sb (y_script t n).2.2 (y_script t n).2.1 := hb
  generalize y_script t n = r at *
  have hcb := hb.1
  rw [e6]
  refine ⟨fun c0 => ?_, fun c0 => ?_⟩
  · obtain ⟨e5, hE⟩ := hs1 c0
    refine z_cVq (e_copyScript (J := z_u J1 1 1 0)) ?_
    rintro J2 X2 ⟨rfl, f2, g5, g6, gr⟩
    have v5 : J2 30 5 = r.2.1 := by rw [g5, z_u_ne (by omega)]; exact e5
    rw [v5]
    refine ⟨_, _, _, rfl, rfl, rfl, fun b j hn' => ?_, ?_, ?_, ?_, Or.inl ⟨c0, rfl, v5, ?_, fun e a1 a2 => ?_⟩⟩
    · rw [f2 b (by omega), z_u_nb (by omega)]; exact f1 b j (by omega)
    · rw [f2 1 (by omega), z_u_at rfl]
    · rw [f2 1 (by omega), z_u_off (by omega)]; exact e6
    · rw [f2 1 (by omega), z_u_off (by omega)]; exact e7
    · rw [g6, z_u_ne (by omega)]; exact e9
    · obtain ⟨h1, h2, h3, h4, h5⟩ := gr e a1 (by omega)
      rw [h1, h2, h3, h4, h5, z_u_ne (by omega), z_u_ne (by omega), z_u_ne (by omega), z_u_ne (by omega), z_u_ne (by omega)]
      exact hE e a1 a2
  · refine ⟨_, _, _, rfl, rfl, rfl, fun b j hn' => ?_, z_u_at rfl, ?_, ?_, Or.inr ⟨c0, rfl, fun b hb' j => ?_⟩⟩
    · rw [z_u_nb (by omega)]; exact f1 b j (by omega)
    · rw [z_u_off (by omega)]; exact e6
    · rw [z_u_off (by omega)]; exact e7
    · rw [z_u_ne (by omega)]; exact f1 b j (by omega)
end Q28
