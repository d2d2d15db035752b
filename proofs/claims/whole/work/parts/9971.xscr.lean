/-! a script's text, of the class (written by wip/whole/gen9971.py) -/
theorem x_tok_u {t : Int → Int} {n p c q : Int} {J : z_J} (h : x_tok t n p J) : x_tok t n p (z_u (z_u J 1 6 c) 1 7 q) := by
  unfold x_tok
  rw [z_u_off (by omega), z_u_off (by omega), z_u_off (by omega), z_u_off (by omega), z_u_off (by omega), z_u_off (by omega), z_u_off (by omega), z_u_off (by omega)]
  exact h
theorem x_tok.u {t : Int → Int} {n p : Int} {J : z_J} {a : Nat} {k v : Int} (h : x_tok t n p J) (ha : 2 ≤ a) : x_tok t n p (z_u J a k v) := by
  unfold x_tok
  rw [z_u_ne (show 1 ≠ a by omega)]
  exact h
/-- what reading the entry c may touch -/
def x_fe (c : Int) (J J1 : z_J) : Prop := ∀ b j, ¬ ((b = 1 ∧ 2 ≤ j ∧ j ≤ 7) ∨ (26 ≤ b ∧ b ≤ 29 ∧ j = c)) → J1 b j = J b j
theorem x_fe.rf {c : Int} {J : z_J} : x_fe c J J := fun _ _ _ => rfl
theorem x_fe.tr {c : Int} {J J1 J2 : z_J} (h1 : x_fe c J J1) (h2 : x_fe c J1 J2) : x_fe c J J2 := fun b j h => (h2 b j h).trans (h1 b j h)
theorem x_f6.fe {c : Int} {J J1 : z_J} (h : x_f6 J J1) : x_fe c J J1 := fun b j hn => by
  by_cases e : b = 1
  · subst e; exact h.1 j (by omega)
  · rw [h.2 b e]
theorem x_fe.u {c : Int} {J J1 : z_J} {a : Nat} {v : Int} (h : x_fe c J J1) (ha : 26 ≤ a ∧ a ≤ 29) : x_fe c J (z_u J1 a c v) := fun b j hn => by
  rw [z_u_nb (by omega)]; exact h b j hn
theorem x_fe.r2 {c : Int} {J J1 : z_J} (h : x_fe c J J1) : J1 2 = J 2 := funext (fun j => h 2 j (by omega))
theorem y_rB_0 {t : Int → Int} {n : Int} : ∀ (L : List (Int × Int)) (p k : Int) (B : Int → Int), 1 ≤ L.length → y_rB t n L p k B k = y_vv t n p
  | [], _, _, _, h => absurd h (by decide)
  | x :: r, p, k, B, _ => by rw [y_rB, y_rB_lo _ _ _ _ _ (by omega), z_up_eq rfl]
theorem y_rB_1 {t : Int → Int} {n : Int} : ∀ (L : List (Int × Int)) (p k : Int) (B : Int → Int), 2 ≤ L.length → y_rB t n L p k B (k + 1) = y_vv t n (y_e9 t n p)
  | [], _, _, _, h => absurd h (by decide)
  | x :: r, p, k, B, h => by rw [y_rB]; exact y_rB_0 r _ _ _ (by simp at h; omega)
theorem y_rB_2 {t : Int → Int} {n : Int} : ∀ (L : List (Int × Int)) (p k : Int) (B : Int → Int), 3 ≤ L.length → y_rB t n L p k B (k + 2) = y_vv t n (y_e9 t n (y_e9 t n p))
  | [], _, _, _, h => absurd h (by decide)
  | x :: r, p, k, B, h => by rw [y_rB, show k + 2 = k + 1 + 1 by omega]; exact y_rB_1 r _ _ _ (by simp at h; omega)
/-- the class's entries -/
def x_E (B : Int → Int) (c : Int) (J : z_J) : Prop := ∀ e, 0 ≤ e → e < c → J 25 e = B (5 * e) ∧ J 26 e = B (5 * e + 1) ∧ J 27 e = B (5 * e + 2) ∧ (2 ≤ (y_lim (B (5 * e + 1))).length → J 28 e = B (5 * e + 3)) ∧ (3 ≤ (y_lim (B (5 * e + 1))).length → J 29 e = B (5 * e + 4))
/-- how an action ends for the class -/
def x_oa (t : Int → Int) (n p c : Int) (J J' : z_J) : Prop := x_fe c J J' ∧ ((y_act9 t n p = -1 ∧ J' 1 6 = 1 ∧ J' 1 7 = y_s t n p) ∨ (y_act9 t n p ≠ -1 ∧ (y_ff t n (y_cn t n (y_lim (y_act9 t n p)) (y_e9 t n p)) (y_e9 t n p)).1 = 0 ∧ x_R t n (y_it t n (y_lim (y_act9 t n p)) (y_e9 t n p)) J' ∧ J' 1 7 = J 1 7 ∧ J' 26 c = y_act9 t n p ∧ J' 27 c = y_vv t n (y_e9 t n p) ∧ (2 ≤ (y_lim (y_act9 t n p)).length → J' 28 c = y_vv t n (y_e9 t n (y_e9 t n p))) ∧ (3 ≤ (y_lim (y_act9 t n p)).length → J' 29 c = y_vv t n (y_e9 t n (y_e9 t n (y_e9 t n p))))) ∨ (y_act9 t n p ≠ -1 ∧ (y_ff t n (y_cn t n (y_lim (y_act9 t n p)) (y_e9 t n p)) (y_e9 t n p)).1 ≠ 0 ∧ J' 1 6 = (y_ff t n (y_cn t n (y_lim (y_act9 t n p)) (y_e9 t n p)) (y_e9 t n p)).1 ∧ J' 1 7 = (y_ff t n (y_cn t n (y_lim (y_act9 t n p)) (y_e9 t n p)) (y_e9 t n p)).2))
theorem x_oa_bad {t : Int → Int} {n p c a k q : Int} {J J' : z_J} (ha : y_act9 t n p = a) (h1 : a ≠ -1) (hf : x_fe c J J') (hff : y_ff t n (y_cn t n (y_lim a) (y_e9 t n p)) (y_e9 t n p) = (k, q)) (hk : k ≠ 0) (s1 : J' 1 6 = k) (s2 : J' 1 7 = q) : x_oa t n p c J J' := by
  subst ha
  exact ⟨hf, Or.inr (Or.inr ⟨h1, by rw [hff]; exact hk, by rw [hff]; exact s1, by rw [hff]; exact s2⟩)⟩
section Q27
variable {l : Launch} {d : Nat} {g : List (Option Nat)} {T : m_E} {J : z_J} {X : z_X} {t : Int → Int} {n p : Int} {B : Int → Int} {c : Int}
theorem e_readNumberT {lo hi : Int} (hT : y_T t n) (hp : 0 ≤ p ∧ p ≤ n) (h : x_R t n p J) : z_Sem l (d + 3) M_Input_readNumber [.inr (.inr (.ref 1)), .inl lo, .inl hi] (m_Ex g T, J, X) 0 0 (z_rq (m_Ex g T) (fun v J' X' => X' = X ∧ x_tok t n p J' ∧ ((y_nc t n p lo hi = 0 ∧ v = y_vv t n p ∧ x_R t n (y_e9 t n p) J' ∧ x_f4 J J') ∨ (y_nc t n p lo hi ≠ 0 ∧ x_er J (y_nc t n p lo hi) (y_s t n p) J')))) := by
  refine z_sem_of z_m54 m_ok_54 (Nat.le_of_ble_eq_true rfl) (fun Wp hs hv hS => ?_)
  refine w_54_0 hs ?_
  rw [h.2.2.1]
  refine ⟨fun _ => z_cVq (e_readToken h.1 h.2.1 h.2.2.2 (by have := hT.1; omega)) ?_, fun c => absurd rfl c⟩
  rintro J2 X2 ⟨rfl, k1, k2⟩
  have e6 : J2 1 6 = 0 := by rw [k2.1 6 (by omega) (by omega) (by omega) (by omega)]; exact h.2.2.1
  have bad : ∀ (c v : Int), y_nc t n p lo hi = c → c ≠ 0 → z_rq (m_Ex g T) (fun v J' X' => X' = X2 ∧ x_tok t n p J' ∧ ((y_nc t n p lo hi = 0 ∧ v = y_vv t n p ∧ x_R t n (y_e9 t n p) J' ∧ x_f4 J J') ∨ (y_nc t n p lo hi ≠ 0 ∧ x_er J (y_nc t n p lo hi) (y_s t n p) J'))) (.inl (some (.inl v))) (m_Ex g T, z_u (z_u J2 1 6 c) 1 7 (y_s t n p), X2) := fun c v hc h0 => ⟨_, _, _, rfl, rfl, rfl, x_tok_u k1, Or.inr ⟨by rw [hc]; exact h0, by rw [hc]; exact x_er_u k2.f6⟩⟩
  rw [e6, k1.1, k1.2.1]
  refine ⟨fun c2 => ?_, fun c2 => ⟨fun c3 => absurd rfl c3, fun _ => bad 1 _ (by unfold y_nc; rw [if_neg c2]) (by omega)⟩⟩
  have ev := k1.2.2.2 c2
  have ev : J2 1 5 = y_vv t n p := ev
  rw [ev]
  refine ⟨fun c3 => ⟨fun c4 => absurd rfl c4, fun _ => bad 2 _ (by unfold y_nc; rw [if_pos c2, if_neg (fun z => by omega)]) (by omega)⟩, fun c3 => ⟨fun c4 => ?_, fun c4 => ⟨fun c5 => absurd rfl c5, fun _ => bad 2 _ (by unfold y_nc; rw [if_pos c2, if_neg (fun z => by omega)]) (by omega)⟩⟩⟩
  exact ⟨_, _, _, rfl, rfl, rfl, k1, Or.inl ⟨by unfold y_nc; rw [if_pos c2, if_pos ⟨c3, c4⟩], rfl, x_next h k1 k2, k2⟩⟩
/-- an action behind an error -/
theorem e_readAction0 (hT : y_T t n) (hp : 0 ≤ p ∧ p ≤ n) (h2 : J 2 = t) (k1 : x_tok t n p J) (h6 : J 1 6 ≠ 0) (hc : J 24 5 = c) (hc0 : 0 ≤ c ∧ c < 40) : z_Sem l (d + 4) M_Script_readAction [.inr (.inr (.ref 24)), .inr (.inr (.ref 1))] (m_Ex g T, J, X) 0 0 (z_vq (m_Ex g T) (fun J' X' => X' = X ∧ x_fe c J J' ∧ J' 1 = J 1)) := by
  refine z_sem_of z_m90 m_ok_90 (Nat.le_of_ble_eq_true rfl) (fun Wp hs hv hS => ?_)
  refine w_90_0 hs ?_
  refine z_cI (e_isWord5 hT hp h2 k1) ⟨fun w5 => ?_, fun w5 => ?_⟩
  rotate_left
  · rw [hc]
    refine ⟨by omega, ?_⟩
    refine z_cI (e_readNumber0 (by simp (disch := omega) only [z_u_ne]; exact h6)) ?_
    refine ⟨by omega, ?_⟩
    refine z_cI (e_readNumber0 (by simp (disch := omega) only [z_u_ne]; exact h6)) ?_
    try simp (disch := omega) only [z_u_ne, hc]
    refine ⟨by omega, ?_⟩
    refine z_cI (e_readNumber0 (by simp (disch := omega) only [z_u_ne]; exact h6)) ?_
    try simp (disch := omega) only [z_u_ne, hc]
    refine ⟨by omega, ?_⟩
    exact ⟨_, _, rfl, rfl, rfl, ((((x_fe.rf.u (by omega)).u (by omega)).u (by omega)).u (by omega)), by simp (disch := omega) only [z_u_ne]⟩
  refine z_cI (e_isWord6 hT hp h2 k1) ⟨fun w6 => ?_, fun w6 => ?_⟩
  rotate_left
  · rw [hc]
    refine ⟨by omega, ?_⟩
    refine z_cI (e_readNumber0 (by simp (disch := omega) only [z_u_ne]; exact h6)) ?_
    refine ⟨by omega, ?_⟩
    exact ⟨_, _, rfl, rfl, rfl, ((x_fe.rf.u (by omega)).u (by omega)), by simp (disch := omega) only [z_u_ne]⟩
  refine z_cI (e_isWord7 hT hp h2 k1) ⟨fun w7 => ?_, fun w7 => ?_⟩
  rotate_left
  · rw [hc]
    refine ⟨by omega, ?_⟩
    refine z_cI (e_readNumber0 (by simp (disch := omega) only [z_u_ne]; exact h6)) ?_
    refine ⟨by omega, ?_⟩
    exact ⟨_, _, rfl, rfl, rfl, ((x_fe.rf.u (by omega)).u (by omega)), by simp (disch := omega) only [z_u_ne]⟩
  refine z_cI (e_isWord8 hT hp h2 k1) ⟨fun w8 => ?_, fun w8 => ?_⟩
  rotate_left
  · rw [hc]
    refine ⟨by omega, ?_⟩
    refine z_cI (e_readNumber0 (by simp (disch := omega) only [z_u_ne]; exact h6)) ?_
    refine ⟨by omega, ?_⟩
    refine z_cI (e_readNumber0 (by simp (disch := omega) only [z_u_ne]; exact h6)) ?_
    try simp (disch := omega) only [z_u_ne, hc]
    refine ⟨by omega, ?_⟩
    exact ⟨_, _, rfl, rfl, rfl, (((x_fe.rf.u (by omega)).u (by omega)).u (by omega)), by simp (disch := omega) only [z_u_ne]⟩
  refine z_cI (e_isWord9 hT hp h2 k1) ⟨fun w9 => ?_, fun w9 => ?_⟩
  rotate_left
  · rw [hc]
    refine ⟨by omega, ?_⟩
    refine z_cI (e_readNumber0 (by simp (disch := omega) only [z_u_ne]; exact h6)) ?_
    refine ⟨by omega, ?_⟩
    refine z_cI (e_readNumber0 (by simp (disch := omega) only [z_u_ne]; exact h6)) ?_
    try simp (disch := omega) only [z_u_ne, hc]
    refine ⟨by omega, ?_⟩
    exact ⟨_, _, rfl, rfl, rfl, (((x_fe.rf.u (by omega)).u (by omega)).u (by omega)), by simp (disch := omega) only [z_u_ne]⟩
  refine z_cI (e_isWord10 hT hp h2 k1) ⟨fun w10 => ?_, fun w10 => ?_⟩
  rotate_left
  · rw [hc]
    refine ⟨by omega, ?_⟩
    refine z_cI (e_readNumber0 (by simp (disch := omega) only [z_u_ne]; exact h6)) ?_
    refine ⟨by omega, ?_⟩
    exact ⟨_, _, rfl, rfl, rfl, ((x_fe.rf.u (by omega)).u (by omega)), by simp (disch := omega) only [z_u_ne]⟩
  refine z_cI (e_isWord11 hT hp h2 k1) ⟨fun w11 => ?_, fun w11 => ?_⟩
  rotate_left
  · rw [hc]
    refine ⟨by omega, ?_⟩
    refine z_cI (e_readNumber0 (by simp (disch := omega) only [z_u_ne]; exact h6)) ?_
    refine ⟨by omega, ?_⟩
    exact ⟨_, _, rfl, rfl, rfl, ((x_fe.rf.u (by omega)).u (by omega)), by simp (disch := omega) only [z_u_ne]⟩
  exact ⟨fun _ => ⟨_, _, rfl, rfl, rfl, x_fe.rf, rfl⟩, fun z => absurd z h6⟩
theorem y_wx {t : Int → Int} {n p : Int} {W W' : Bool} {V V' : Int} (h : W = true ↔ y_k t n p = 1 ∧ y_wv t (y_s t n p) (y_e9 t n p - y_s t n p).toNat = V) (h' : W' = true ↔ y_k t n p = 1 ∧ y_wv t (y_s t n p) (y_e9 t n p - y_s t n p).toNat = V') (hW : W = true) (hV : V ≠ V') : ¬ W' = true := fun z => hV ((h.mp hW).2.symm.trans (h'.mp z).2)
theorem e_readAction (hT : y_T t n) (hp : 0 ≤ p ∧ p ≤ n) (h : x_R t n (y_e9 t n p) J) (k1 : x_tok t n p J) (hc : J 24 5 = c) (hc0 : 0 ≤ c ∧ c < 40) : z_Sem l (d + 4) M_Script_readAction [.inr (.inr (.ref 24)), .inr (.inr (.ref 1))] (m_Ex g T, J, X) 0 0 (z_vq (m_Ex g T) (fun J' X' => X' = X ∧ x_oa t n p c J J')) := by
  have b0 := y_tok_b (t := t) (n := n) hp.2
  have b1 := y_tok_b (t := t) (n := n) (p := (y_e9 t n p)) (by omega)
  have b2 := y_tok_b (t := t) (n := n) (p := (y_e9 t n (y_e9 t n p))) (by omega)
  have tb : ∀ W : Bool, (y_b W ≠ 0 → W = true) ∧ (y_b W = 0 → ¬ W = true) := by
    intro W; cases W <;> exact ⟨fun z => by first | rfl | exact absurd rfl z, fun z => by first | decide | exact absurd z (by decide)⟩
  refine z_sem_of z_m90 m_ok_90 (Nat.le_of_ble_eq_true rfl) (fun Wp hs hv hS => ?_)
  refine w_90_0 hs ?_
  refine z_cI (e_isWord5 hT hp h.1 k1) ⟨fun w5 => ?_, fun w5 => ?_⟩
  rotate_left
  · have ha : y_act9 t n p = 0 := by unfold y_act9; rw [if_pos ((tb _).1 w5)]
    rw [hc]
    have r0 : x_R t n (y_e9 t n p) (z_u J 26 c 0) := h.u (by omega)
    have f0 : x_fe c J (z_u J 26 c 0) := x_fe.rf.u (by omega)
    refine ⟨by omega, z_cIq (e_readNumber hT (by omega) r0) ?_⟩
    rintro v1 J1 X1 ⟨rfl, ⟨c1, rfl, r1, -, g1⟩ | ⟨c1, ex⟩⟩
    rotate_left
    · have qd : J1 1 6 ≠ 0 := by rw [ex.1]; exact c1
      have ff := f0.tr (ex.2.2.fe (c := c))
      have e24 : J1 24 5 = c := by rw [ff 24 5 (by omega)]; exact hc
      rw [e24]
      refine ⟨by omega, ?_⟩
      refine z_cI (e_readNumber0 (by simp (disch := omega) only [z_u_ne]; exact qd)) ?_
      try simp (disch := omega) only [z_u_ne, e24]
      refine ⟨by omega, ?_⟩
      refine z_cI (e_readNumber0 (by simp (disch := omega) only [z_u_ne]; exact qd)) ?_
      refine ⟨by omega, ?_⟩
      exact ⟨_, _, rfl, rfl, rfl, x_oa_bad ha (by decide) (((ff.u (by omega)).u (by omega)).u (by omega)) (by show y_ff t n (y_cn t n [(0, 49), (0, 7), (0, 143)] (y_e9 t n p)) (y_e9 t n p) = _; simp only [y_cn, y_ff]; rw [if_neg c1]) c1 (by simp (disch := omega) only [z_u_ne]; exact ex.1) (by simp (disch := omega) only [z_u_ne]; exact ex.2.1)⟩
    have f1b := f0.tr (g1.f6.fe (c := c))
    have e24_1 : J1 24 5 = c := by rw [f1b 24 5 (by omega)]; exact hc
    rw [e24_1]
    have r1 : x_R t n (y_e9 t n (y_e9 t n p)) (z_u J1 27 c (y_vv t n (y_e9 t n p))) := r1.u (by omega)
    have f1 := f1b.u (a := 27) (v := y_vv t n (y_e9 t n p)) (by omega)
    refine ⟨by omega, z_cIq (e_readNumber hT (by omega) r1) ?_⟩
    rintro v2 J2 X2 ⟨rfl, ⟨c2, rfl, r2, -, g2⟩ | ⟨c2, ex⟩⟩
    rotate_left
    · have qd : J2 1 6 ≠ 0 := by rw [ex.1]; exact c2
      have ff := f1.tr (ex.2.2.fe (c := c))
      have e24 : J2 24 5 = c := by rw [ff 24 5 (by omega)]; exact hc
      rw [e24]
      refine ⟨by omega, ?_⟩
      refine z_cI (e_readNumber0 (by simp (disch := omega) only [z_u_ne]; exact qd)) ?_
      refine ⟨by omega, ?_⟩
      exact ⟨_, _, rfl, rfl, rfl, x_oa_bad ha (by decide) ((ff.u (by omega)).u (by omega)) (by show y_ff t n (y_cn t n [(0, 49), (0, 7), (0, 143)] (y_e9 t n p)) (y_e9 t n p) = _; simp only [y_cn, y_ff]; rw [if_pos c1, if_neg c2]) c2 (by simp (disch := omega) only [z_u_ne]; exact ex.1) (by simp (disch := omega) only [z_u_ne]; exact ex.2.1)⟩
    have f2b := f1.tr (g2.f6.fe (c := c))
    have e24_2 : J2 24 5 = c := by rw [f2b 24 5 (by omega)]; exact hc
    rw [e24_2]
    have r2 : x_R t n (y_e9 t n (y_e9 t n (y_e9 t n p))) (z_u J2 28 c (y_vv t n (y_e9 t n (y_e9 t n p)))) := r2.u (by omega)
    have f2 := f2b.u (a := 28) (v := y_vv t n (y_e9 t n (y_e9 t n p))) (by omega)
    refine ⟨by omega, z_cIq (e_readNumber hT (by omega) r2) ?_⟩
    rintro v3 J3 X3 ⟨rfl, ⟨c3, rfl, r3, -, g3⟩ | ⟨c3, ex⟩⟩
    rotate_left
    · have qd : J3 1 6 ≠ 0 := by rw [ex.1]; exact c3
      have ff := f2.tr (ex.2.2.fe (c := c))
      have e24 : J3 24 5 = c := by rw [ff 24 5 (by omega)]; exact hc
      refine ⟨by omega, ?_⟩
      exact ⟨_, _, rfl, rfl, rfl, x_oa_bad ha (by decide) (ff.u (by omega)) (by show y_ff t n (y_cn t n [(0, 49), (0, 7), (0, 143)] (y_e9 t n p)) (y_e9 t n p) = _; simp only [y_cn, y_ff]; rw [if_pos c1, if_pos c2, if_neg c3]) c3 (by simp (disch := omega) only [z_u_ne]; exact ex.1) (by simp (disch := omega) only [z_u_ne]; exact ex.2.1)⟩
    have f3b := f2.tr (g3.f6.fe (c := c))
    have e24_3 : J3 24 5 = c := by rw [f3b 24 5 (by omega)]; exact hc
    have r3 : x_R t n (y_e9 t n (y_e9 t n (y_e9 t n (y_e9 t n p)))) (z_u J3 29 c (y_vv t n (y_e9 t n (y_e9 t n (y_e9 t n p))))) := r3.u (by omega)
    have f3 := f3b.u (a := 29) (v := y_vv t n (y_e9 t n (y_e9 t n (y_e9 t n p)))) (by omega)
    refine ⟨by omega, ⟨_, _, rfl, rfl, rfl, f3, Or.inr (Or.inl ?_)⟩⟩
    rw [ha]
    refine ⟨by decide, ?_, r3, ?_, ?_, ?_, fun z => ?_, fun z => ?_⟩
    · show (y_ff t n (y_cn t n [(0, 49), (0, 7), (0, 143)] (y_e9 t n p)) (y_e9 t n p)).1 = 0
      simp only [y_cn, y_ff]; rw [if_pos c1, if_pos c2, if_pos c3]
    · rw [z_u_ne (by omega), g3.1 7 (by omega) (by omega) (by omega) (by omega), z_u_ne (by omega), g2.1 7 (by omega) (by omega) (by omega) (by omega), z_u_ne (by omega), g1.1 7 (by omega) (by omega) (by omega) (by omega), z_u_ne (by omega)]
    · rw [z_u_ne (by omega), g3.2 26 (by omega), z_u_ne (by omega), g2.2 26 (by omega), z_u_ne (by omega), g1.2 26 (by omega), z_u_at rfl]
    · rw [z_u_ne (by omega), g3.2 27 (by omega), z_u_ne (by omega), g2.2 27 (by omega), z_u_at rfl]
    · rw [z_u_ne (by omega), g3.2 28 (by omega), z_u_at rfl]
    · rw [z_u_at rfl]
  refine z_cI (e_isWord6 hT hp h.1 k1) ⟨fun w6 => ?_, fun w6 => ?_⟩
  rotate_left
  · have ha : y_act9 t n p = 1 := by unfold y_act9; rw [if_neg ((tb _).2 w5), if_pos ((tb _).1 w6)]
    rw [hc]
    have r0 : x_R t n (y_e9 t n p) (z_u J 26 c 1) := h.u (by omega)
    have f0 : x_fe c J (z_u J 26 c 1) := x_fe.rf.u (by omega)
    refine ⟨by omega, z_cIq (e_readNumber hT (by omega) r0) ?_⟩
    rintro v1 J1 X1 ⟨rfl, ⟨c1, rfl, r1, -, g1⟩ | ⟨c1, ex⟩⟩
    rotate_left
    · have qd : J1 1 6 ≠ 0 := by rw [ex.1]; exact c1
      have ff := f0.tr (ex.2.2.fe (c := c))
      have e24 : J1 24 5 = c := by rw [ff 24 5 (by omega)]; exact hc
      refine ⟨by omega, ?_⟩
      exact ⟨_, _, rfl, rfl, rfl, x_oa_bad ha (by decide) (ff.u (by omega)) (by show y_ff t n (y_cn t n [(0, 149)] (y_e9 t n p)) (y_e9 t n p) = _; simp only [y_cn, y_ff]; rw [if_neg c1]) c1 (by simp (disch := omega) only [z_u_ne]; exact ex.1) (by simp (disch := omega) only [z_u_ne]; exact ex.2.1)⟩
    have f1b := f0.tr (g1.f6.fe (c := c))
    have e24_1 : J1 24 5 = c := by rw [f1b 24 5 (by omega)]; exact hc
    have r1 : x_R t n (y_e9 t n (y_e9 t n p)) (z_u J1 27 c (y_vv t n (y_e9 t n p))) := r1.u (by omega)
    have f1 := f1b.u (a := 27) (v := y_vv t n (y_e9 t n p)) (by omega)
    refine ⟨by omega, ⟨_, _, rfl, rfl, rfl, f1, Or.inr (Or.inl ?_)⟩⟩
    rw [ha]
    refine ⟨by decide, ?_, r1, ?_, ?_, ?_, fun z => ?_, fun z => ?_⟩
    · show (y_ff t n (y_cn t n [(0, 149)] (y_e9 t n p)) (y_e9 t n p)).1 = 0
      simp only [y_cn, y_ff]; rw [if_pos c1]
    · rw [z_u_ne (by omega), g1.1 7 (by omega) (by omega) (by omega) (by omega), z_u_ne (by omega)]
    · rw [z_u_ne (by omega), g1.2 26 (by omega), z_u_at rfl]
    · rw [z_u_at rfl]
    · exact absurd z (by decide)
    · exact absurd z (by decide)
  refine z_cI (e_isWord7 hT hp h.1 k1) ⟨fun w7 => ?_, fun w7 => ?_⟩
  rotate_left
  · have ha : y_act9 t n p = 2 := by unfold y_act9; rw [if_neg ((tb _).2 w5), if_neg ((tb _).2 w6), if_pos ((tb _).1 w7)]
    rw [hc]
    have r0 : x_R t n (y_e9 t n p) (z_u J 26 c 2) := h.u (by omega)
    have f0 : x_fe c J (z_u J 26 c 2) := x_fe.rf.u (by omega)
    refine ⟨by omega, z_cIq (e_readNumber hT (by omega) r0) ?_⟩
    rintro v1 J1 X1 ⟨rfl, ⟨c1, rfl, r1, -, g1⟩ | ⟨c1, ex⟩⟩
    rotate_left
    · have qd : J1 1 6 ≠ 0 := by rw [ex.1]; exact c1
      have ff := f0.tr (ex.2.2.fe (c := c))
      have e24 : J1 24 5 = c := by rw [ff 24 5 (by omega)]; exact hc
      refine ⟨by omega, ?_⟩
      exact ⟨_, _, rfl, rfl, rfl, x_oa_bad ha (by decide) (ff.u (by omega)) (by show y_ff t n (y_cn t n [(0, 149)] (y_e9 t n p)) (y_e9 t n p) = _; simp only [y_cn, y_ff]; rw [if_neg c1]) c1 (by simp (disch := omega) only [z_u_ne]; exact ex.1) (by simp (disch := omega) only [z_u_ne]; exact ex.2.1)⟩
    have f1b := f0.tr (g1.f6.fe (c := c))
    have e24_1 : J1 24 5 = c := by rw [f1b 24 5 (by omega)]; exact hc
    have r1 : x_R t n (y_e9 t n (y_e9 t n p)) (z_u J1 27 c (y_vv t n (y_e9 t n p))) := r1.u (by omega)
    have f1 := f1b.u (a := 27) (v := y_vv t n (y_e9 t n p)) (by omega)
    refine ⟨by omega, ⟨_, _, rfl, rfl, rfl, f1, Or.inr (Or.inl ?_)⟩⟩
    rw [ha]
    refine ⟨by decide, ?_, r1, ?_, ?_, ?_, fun z => ?_, fun z => ?_⟩
    · show (y_ff t n (y_cn t n [(0, 149)] (y_e9 t n p)) (y_e9 t n p)).1 = 0
      simp only [y_cn, y_ff]; rw [if_pos c1]
    · rw [z_u_ne (by omega), g1.1 7 (by omega) (by omega) (by omega) (by omega), z_u_ne (by omega)]
    · rw [z_u_ne (by omega), g1.2 26 (by omega), z_u_at rfl]
    · rw [z_u_at rfl]
    · exact absurd z (by decide)
    · exact absurd z (by decide)
  refine z_cI (e_isWord8 hT hp h.1 k1) ⟨fun w8 => ?_, fun w8 => ?_⟩
  rotate_left
  · have ha : y_act9 t n p = 3 := by unfold y_act9; rw [if_neg ((tb _).2 w5), if_neg ((tb _).2 w6), if_neg ((tb _).2 w7), if_pos ((tb _).1 w8)]
    rw [hc]
    have r0 : x_R t n (y_e9 t n p) (z_u J 26 c 3) := h.u (by omega)
    have f0 : x_fe c J (z_u J 26 c 3) := x_fe.rf.u (by omega)
    refine ⟨by omega, z_cIq (e_readNumber hT (by omega) r0) ?_⟩
    rintro v1 J1 X1 ⟨rfl, ⟨c1, rfl, r1, -, g1⟩ | ⟨c1, ex⟩⟩
    rotate_left
    · have qd : J1 1 6 ≠ 0 := by rw [ex.1]; exact c1
      have ff := f0.tr (ex.2.2.fe (c := c))
      have e24 : J1 24 5 = c := by rw [ff 24 5 (by omega)]; exact hc
      rw [e24]
      refine ⟨by omega, ?_⟩
      refine z_cI (e_readNumber0 (by simp (disch := omega) only [z_u_ne]; exact qd)) ?_
      refine ⟨by omega, ?_⟩
      exact ⟨_, _, rfl, rfl, rfl, x_oa_bad ha (by decide) ((ff.u (by omega)).u (by omega)) (by show y_ff t n (y_cn t n [(0, 49), (0, 7)] (y_e9 t n p)) (y_e9 t n p) = _; simp only [y_cn, y_ff]; rw [if_neg c1]) c1 (by simp (disch := omega) only [z_u_ne]; exact ex.1) (by simp (disch := omega) only [z_u_ne]; exact ex.2.1)⟩
    have f1b := f0.tr (g1.f6.fe (c := c))
    have e24_1 : J1 24 5 = c := by rw [f1b 24 5 (by omega)]; exact hc
    rw [e24_1]
    have r1 : x_R t n (y_e9 t n (y_e9 t n p)) (z_u J1 27 c (y_vv t n (y_e9 t n p))) := r1.u (by omega)
    have f1 := f1b.u (a := 27) (v := y_vv t n (y_e9 t n p)) (by omega)
    refine ⟨by omega, z_cIq (e_readNumber hT (by omega) r1) ?_⟩
    rintro v2 J2 X2 ⟨rfl, ⟨c2, rfl, r2, -, g2⟩ | ⟨c2, ex⟩⟩
    rotate_left
    · have qd : J2 1 6 ≠ 0 := by rw [ex.1]; exact c2
      have ff := f1.tr (ex.2.2.fe (c := c))
      have e24 : J2 24 5 = c := by rw [ff 24 5 (by omega)]; exact hc
      refine ⟨by omega, ?_⟩
      exact ⟨_, _, rfl, rfl, rfl, x_oa_bad ha (by decide) (ff.u (by omega)) (by show y_ff t n (y_cn t n [(0, 49), (0, 7)] (y_e9 t n p)) (y_e9 t n p) = _; simp only [y_cn, y_ff]; rw [if_pos c1, if_neg c2]) c2 (by simp (disch := omega) only [z_u_ne]; exact ex.1) (by simp (disch := omega) only [z_u_ne]; exact ex.2.1)⟩
    have f2b := f1.tr (g2.f6.fe (c := c))
    have e24_2 : J2 24 5 = c := by rw [f2b 24 5 (by omega)]; exact hc
    have r2 : x_R t n (y_e9 t n (y_e9 t n (y_e9 t n p))) (z_u J2 28 c (y_vv t n (y_e9 t n (y_e9 t n p)))) := r2.u (by omega)
    have f2 := f2b.u (a := 28) (v := y_vv t n (y_e9 t n (y_e9 t n p))) (by omega)
    refine ⟨by omega, ⟨_, _, rfl, rfl, rfl, f2, Or.inr (Or.inl ?_)⟩⟩
    rw [ha]
    refine ⟨by decide, ?_, r2, ?_, ?_, ?_, fun z => ?_, fun z => ?_⟩
    · show (y_ff t n (y_cn t n [(0, 49), (0, 7)] (y_e9 t n p)) (y_e9 t n p)).1 = 0
      simp only [y_cn, y_ff]; rw [if_pos c1, if_pos c2]
    · rw [z_u_ne (by omega), g2.1 7 (by omega) (by omega) (by omega) (by omega), z_u_ne (by omega), g1.1 7 (by omega) (by omega) (by omega) (by omega), z_u_ne (by omega)]
    · rw [z_u_ne (by omega), g2.2 26 (by omega), z_u_ne (by omega), g1.2 26 (by omega), z_u_at rfl]
    · rw [z_u_ne (by omega), g2.2 27 (by omega), z_u_at rfl]
    · rw [z_u_at rfl]
    · exact absurd z (by decide)
  refine z_cI (e_isWord9 hT hp h.1 k1) ⟨fun w9 => ?_, fun w9 => ?_⟩
  rotate_left
  · have ha : y_act9 t n p = 4 := by unfold y_act9; rw [if_neg ((tb _).2 w5), if_neg ((tb _).2 w6), if_neg ((tb _).2 w7), if_neg ((tb _).2 w8), if_neg (y_wx y_w9_v y_w10_v ((tb _).1 w9) (by decide)), if_neg (y_wx y_w9_v y_w11_v ((tb _).1 w9) (by decide)), if_pos ((tb _).1 w9)]
    rw [hc]
    have r0 : x_R t n (y_e9 t n p) (z_u J 26 c 4) := h.u (by omega)
    have f0 : x_fe c J (z_u J 26 c 4) := x_fe.rf.u (by omega)
    refine ⟨by omega, z_cIq (e_readNumber hT (by omega) r0) ?_⟩
    rintro v1 J1 X1 ⟨rfl, ⟨c1, rfl, r1, -, g1⟩ | ⟨c1, ex⟩⟩
    rotate_left
    · have qd : J1 1 6 ≠ 0 := by rw [ex.1]; exact c1
      have ff := f0.tr (ex.2.2.fe (c := c))
      have e24 : J1 24 5 = c := by rw [ff 24 5 (by omega)]; exact hc
      rw [e24]
      refine ⟨by omega, ?_⟩
      refine z_cI (e_readNumber0 (by simp (disch := omega) only [z_u_ne]; exact qd)) ?_
      refine ⟨by omega, ?_⟩
      exact ⟨_, _, rfl, rfl, rfl, x_oa_bad ha (by decide) ((ff.u (by omega)).u (by omega)) (by show y_ff t n (y_cn t n [(0, 7), (1, 12)] (y_e9 t n p)) (y_e9 t n p) = _; simp only [y_cn, y_ff]; rw [if_neg c1]) c1 (by simp (disch := omega) only [z_u_ne]; exact ex.1) (by simp (disch := omega) only [z_u_ne]; exact ex.2.1)⟩
    have f1b := f0.tr (g1.f6.fe (c := c))
    have e24_1 : J1 24 5 = c := by rw [f1b 24 5 (by omega)]; exact hc
    rw [e24_1]
    have r1 : x_R t n (y_e9 t n (y_e9 t n p)) (z_u J1 27 c (y_vv t n (y_e9 t n p))) := r1.u (by omega)
    have f1 := f1b.u (a := 27) (v := y_vv t n (y_e9 t n p)) (by omega)
    refine ⟨by omega, z_cIq (e_readNumber hT (by omega) r1) ?_⟩
    rintro v2 J2 X2 ⟨rfl, ⟨c2, rfl, r2, -, g2⟩ | ⟨c2, ex⟩⟩
    rotate_left
    · have qd : J2 1 6 ≠ 0 := by rw [ex.1]; exact c2
      have ff := f1.tr (ex.2.2.fe (c := c))
      have e24 : J2 24 5 = c := by rw [ff 24 5 (by omega)]; exact hc
      refine ⟨by omega, ?_⟩
      exact ⟨_, _, rfl, rfl, rfl, x_oa_bad ha (by decide) (ff.u (by omega)) (by show y_ff t n (y_cn t n [(0, 7), (1, 12)] (y_e9 t n p)) (y_e9 t n p) = _; simp only [y_cn, y_ff]; rw [if_pos c1, if_neg c2]) c2 (by simp (disch := omega) only [z_u_ne]; exact ex.1) (by simp (disch := omega) only [z_u_ne]; exact ex.2.1)⟩
    have f2b := f1.tr (g2.f6.fe (c := c))
    have e24_2 : J2 24 5 = c := by rw [f2b 24 5 (by omega)]; exact hc
    have r2 : x_R t n (y_e9 t n (y_e9 t n (y_e9 t n p))) (z_u J2 28 c (y_vv t n (y_e9 t n (y_e9 t n p)))) := r2.u (by omega)
    have f2 := f2b.u (a := 28) (v := y_vv t n (y_e9 t n (y_e9 t n p))) (by omega)
    refine ⟨by omega, ⟨_, _, rfl, rfl, rfl, f2, Or.inr (Or.inl ?_)⟩⟩
    rw [ha]
    refine ⟨by decide, ?_, r2, ?_, ?_, ?_, fun z => ?_, fun z => ?_⟩
    · show (y_ff t n (y_cn t n [(0, 7), (1, 12)] (y_e9 t n p)) (y_e9 t n p)).1 = 0
      simp only [y_cn, y_ff]; rw [if_pos c1, if_pos c2]
    · rw [z_u_ne (by omega), g2.1 7 (by omega) (by omega) (by omega) (by omega), z_u_ne (by omega), g1.1 7 (by omega) (by omega) (by omega) (by omega), z_u_ne (by omega)]
    · rw [z_u_ne (by omega), g2.2 26 (by omega), z_u_ne (by omega), g1.2 26 (by omega), z_u_at rfl]
    · rw [z_u_ne (by omega), g2.2 27 (by omega), z_u_at rfl]
    · rw [z_u_at rfl]
    · exact absurd z (by decide)
  refine z_cI (e_isWord10 hT hp h.1 k1) ⟨fun w10 => ?_, fun w10 => ?_⟩
  rotate_left
  · have ha : y_act9 t n p = 5 := by unfold y_act9; rw [if_neg ((tb _).2 w5), if_neg ((tb _).2 w6), if_neg ((tb _).2 w7), if_neg ((tb _).2 w8), if_pos ((tb _).1 w10)]
    rw [hc]
    have r0 : x_R t n (y_e9 t n p) (z_u J 26 c 5) := h.u (by omega)
    have f0 : x_fe c J (z_u J 26 c 5) := x_fe.rf.u (by omega)
    refine ⟨by omega, z_cIq (e_readNumber hT (by omega) r0) ?_⟩
    rintro v1 J1 X1 ⟨rfl, ⟨c1, rfl, r1, -, g1⟩ | ⟨c1, ex⟩⟩
    rotate_left
    · have qd : J1 1 6 ≠ 0 := by rw [ex.1]; exact c1
      have ff := f0.tr (ex.2.2.fe (c := c))
      have e24 : J1 24 5 = c := by rw [ff 24 5 (by omega)]; exact hc
      refine ⟨by omega, ?_⟩
      exact ⟨_, _, rfl, rfl, rfl, x_oa_bad ha (by decide) (ff.u (by omega)) (by show y_ff t n (y_cn t n [(0, 7)] (y_e9 t n p)) (y_e9 t n p) = _; simp only [y_cn, y_ff]; rw [if_neg c1]) c1 (by simp (disch := omega) only [z_u_ne]; exact ex.1) (by simp (disch := omega) only [z_u_ne]; exact ex.2.1)⟩
    have f1b := f0.tr (g1.f6.fe (c := c))
    have e24_1 : J1 24 5 = c := by rw [f1b 24 5 (by omega)]; exact hc
    have r1 : x_R t n (y_e9 t n (y_e9 t n p)) (z_u J1 27 c (y_vv t n (y_e9 t n p))) := r1.u (by omega)
    have f1 := f1b.u (a := 27) (v := y_vv t n (y_e9 t n p)) (by omega)
    refine ⟨by omega, ⟨_, _, rfl, rfl, rfl, f1, Or.inr (Or.inl ?_)⟩⟩
    rw [ha]
    refine ⟨by decide, ?_, r1, ?_, ?_, ?_, fun z => ?_, fun z => ?_⟩
    · show (y_ff t n (y_cn t n [(0, 7)] (y_e9 t n p)) (y_e9 t n p)).1 = 0
      simp only [y_cn, y_ff]; rw [if_pos c1]
    · rw [z_u_ne (by omega), g1.1 7 (by omega) (by omega) (by omega) (by omega), z_u_ne (by omega)]
    · rw [z_u_ne (by omega), g1.2 26 (by omega), z_u_at rfl]
    · rw [z_u_at rfl]
    · exact absurd z (by decide)
    · exact absurd z (by decide)
  refine z_cI (e_isWord11 hT hp h.1 k1) ⟨fun w11 => ?_, fun w11 => ?_⟩
  rotate_left
  · have ha : y_act9 t n p = 6 := by unfold y_act9; rw [if_neg ((tb _).2 w5), if_neg ((tb _).2 w6), if_neg ((tb _).2 w7), if_neg ((tb _).2 w8), if_neg ((tb _).2 w10), if_pos ((tb _).1 w11)]
    rw [hc]
    have r0 : x_R t n (y_e9 t n p) (z_u J 26 c 6) := h.u (by omega)
    have f0 : x_fe c J (z_u J 26 c 6) := x_fe.rf.u (by omega)
    refine ⟨by omega, z_cIq (e_readNumber hT (by omega) r0) ?_⟩
    rintro v1 J1 X1 ⟨rfl, ⟨c1, rfl, r1, -, g1⟩ | ⟨c1, ex⟩⟩
    rotate_left
    · have qd : J1 1 6 ≠ 0 := by rw [ex.1]; exact c1
      have ff := f0.tr (ex.2.2.fe (c := c))
      have e24 : J1 24 5 = c := by rw [ff 24 5 (by omega)]; exact hc
      refine ⟨by omega, ?_⟩
      exact ⟨_, _, rfl, rfl, rfl, x_oa_bad ha (by decide) (ff.u (by omega)) (by show y_ff t n (y_cn t n [(0, 7)] (y_e9 t n p)) (y_e9 t n p) = _; simp only [y_cn, y_ff]; rw [if_neg c1]) c1 (by simp (disch := omega) only [z_u_ne]; exact ex.1) (by simp (disch := omega) only [z_u_ne]; exact ex.2.1)⟩
    have f1b := f0.tr (g1.f6.fe (c := c))
    have e24_1 : J1 24 5 = c := by rw [f1b 24 5 (by omega)]; exact hc
    have r1 : x_R t n (y_e9 t n (y_e9 t n p)) (z_u J1 27 c (y_vv t n (y_e9 t n p))) := r1.u (by omega)
    have f1 := f1b.u (a := 27) (v := y_vv t n (y_e9 t n p)) (by omega)
    refine ⟨by omega, ⟨_, _, rfl, rfl, rfl, f1, Or.inr (Or.inl ?_)⟩⟩
    rw [ha]
    refine ⟨by decide, ?_, r1, ?_, ?_, ?_, fun z => ?_, fun z => ?_⟩
    · show (y_ff t n (y_cn t n [(0, 7)] (y_e9 t n p)) (y_e9 t n p)).1 = 0
      simp only [y_cn, y_ff]; rw [if_pos c1]
    · rw [z_u_ne (by omega), g1.1 7 (by omega) (by omega) (by omega) (by omega), z_u_ne (by omega)]
    · rw [z_u_ne (by omega), g1.2 26 (by omega), z_u_at rfl]
    · rw [z_u_at rfl]
    · exact absurd z (by decide)
    · exact absurd z (by decide)
  have ha : y_act9 t n p = -1 := by unfold y_act9; rw [if_neg ((tb _).2 w5), if_neg ((tb _).2 w6), if_neg ((tb _).2 w7), if_neg ((tb _).2 w8), if_neg ((tb _).2 w10), if_neg ((tb _).2 w11), if_neg ((tb _).2 w9)]
  rw [h.2.2.1, k1.1]
  refine ⟨fun z => absurd rfl z, fun _ => ⟨_, _, rfl, rfl, rfl, (x_er_u (J := J) x_f6.rf).2.2.fe, Or.inl ⟨ha, ?_, ?_⟩⟩⟩
  · exact (x_er_u (J := J) x_f6.rf).1
  · exact (x_er_u (J := J) x_f6.rf).2.1
end Q27
