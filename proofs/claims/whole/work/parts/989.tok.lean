/-! tokens of a text: what they are; both sides read them -/
def y_lt (x : Int) : Bool := decide (97 ≤ x ∧ x ≤ 122)
def y_dg (x : Int) : Bool := decide (48 ≤ x ∧ x ≤ 57)
def y_spc (x : Int) : Bool := decide (x = 32 ∨ x = 10)
theorem y_lt_i {x : Int} : y_lt x = true ↔ 97 ≤ x ∧ x ≤ 122 := by unfold y_lt; rw [decide_eq_true_eq]
theorem y_dg_i {x : Int} : y_dg x = true ↔ 48 ≤ x ∧ x ≤ 57 := by unfold y_dg; rw [decide_eq_true_eq]
theorem y_spc_i {x : Int} : y_spc x = true ↔ x = 32 ∨ x = 10 := by unfold y_spc; rw [decide_eq_true_eq]
def y_run (g : Int → Bool) (t : Int → Int) (n : Int) : Nat → Int → Int
  | 0, p => p
  | f + 1, p => if p < n ∧ g (t p) = true then y_run g t n f (p + 1) else p
/-- where a run of such signs ends -/
def y_end (g : Int → Bool) (t : Int → Int) (n p : Int) : Int := y_run g t n (n - p).toNat p
theorem y_end_s {g : Int → Bool} {t : Int → Int} {n p : Int} : y_end g t n p = if p < n ∧ g (t p) = true then y_end g t n (p + 1) else p := by
  unfold y_end
  by_cases h : p < n
  · rw [show (n - p).toNat = (n - (p + 1)).toNat + 1 by omega, y_run]
  · rw [show (n - p).toNat = 0 by omega, y_run, if_neg (fun z => h z.1)]
theorem y_run_b {g : Int → Bool} {t : Int → Int} {n : Int} : ∀ (f : Nat) (p : Int), p ≤ y_run g t n f p ∧ (p ≤ n → y_run g t n f p ≤ n)
  | 0, p => ⟨Int.le_refl _, fun h => h⟩
  | f + 1, p => by
    rw [y_run]
    split
    · rename_i h
      have := y_run_b (g := g) (t := t) (n := n) f (p + 1)
      exact ⟨by omega, fun _ => this.2 (by omega)⟩
    · exact ⟨Int.le_refl _, fun h => h⟩
theorem y_end_b {g : Int → Bool} {t : Int → Int} {n p : Int} : p ≤ y_end g t n p ∧ (p ≤ n → y_end g t n p ≤ n) := y_run_b _ _
theorem y_run_in {g : Int → Bool} {t : Int → Int} {n : Int} : ∀ (f : Nat) (p k : Int), p ≤ k → k < y_run g t n f p → g (t k) = true
  | 0, p, k, h1, h2 => by rw [y_run] at h2; omega
  | f + 1, p, k, h1, h2 => by
    rw [y_run] at h2
    split at h2
    · rename_i h
      by_cases e : k = p
      · subst e; exact h.2
      · exact y_run_in f (p + 1) k (by omega) h2
    · omega
theorem y_end_in {g : Int → Bool} {t : Int → Int} {n p k : Int} (h1 : p ≤ k) (h2 : k < y_end g t n p) : g (t k) = true := y_run_in _ p k h1 h2
def y_s (t : Int → Int) (n p : Int) : Int := y_end y_spc t n p
def y_k (t : Int → Int) (n p : Int) : Int := if n ≤ y_s t n p then 0 else if y_lt (t (y_s t n p)) = true then (if y_end y_lt t n (y_s t n p) - y_s t n p ≤ 10 then 1 else 4) else if y_dg (t (y_s t n p)) = true then (if y_end y_dg t n (y_s t n p) - y_s t n p ≤ 5 then 2 else 4) else if t (y_s t n p) = 59 then 3 else 4
def y_e9 (t : Int → Int) (n p : Int) : Int := if n ≤ y_s t n p then y_s t n p else if y_lt (t (y_s t n p)) = true then y_end y_lt t n (y_s t n p) else if y_dg (t (y_s t n p)) = true then y_end y_dg t n (y_s t n p) else y_s t n p + 1
def y_wv (t : Int → Int) (s : Int) : Nat → Int
  | 0 => 0
  | k + 1 => y_wv t s k * 32 + t (s + k) - 96
def y_nv (t : Int → Int) (s : Int) : Nat → Int
  | 0 => 0
  | k + 1 => y_nv t s k * 10 + t (s + k) - 48
theorem y_wv_b {t : Int → Int} {s : Int} : ∀ k : Nat, k ≤ 10 → (∀ j : Nat, j < k → 97 ≤ t (s + j) ∧ t (s + j) ≤ 122) → 0 ≤ y_wv t s k ∧ y_wv t s k < (32 ^ k : Nat)
  | 0, _, _ => ⟨Int.le_refl _, by show (0 : Int) < ((32 ^ 0 : Nat) : Int); decide⟩
  | k + 1, h, hj => by
    have i := y_wv_b (t := t) (s := s) k (by omega) (fun j hj9 => hj j (by omega))
    have b := hj k (by omega)
    rw [y_wv, Nat.pow_succ]
    omega
theorem y_nv_b {t : Int → Int} {s : Int} : ∀ k : Nat, k ≤ 5 → (∀ j : Nat, j < k → 48 ≤ t (s + j) ∧ t (s + j) ≤ 57) → 0 ≤ y_nv t s k ∧ y_nv t s k < (10 ^ k : Nat)
  | 0, _, _ => ⟨Int.le_refl _, by show (0 : Int) < ((10 ^ 0 : Nat) : Int); decide⟩
  | k + 1, h, hj => by
    have i := y_nv_b (t := t) (s := s) k (by omega) (fun j hj9 => hj j (by omega))
    have b := hj k (by omega)
    rw [y_nv, Nat.pow_succ]
    omega
theorem y_p32 {k : Nat} (h : k ≤ 10) : 32 ^ k ≤ 1125899906842624 := Nat.pow_le_pow_right (by omega) (show k ≤ 10 from h)
theorem y_p10 {k : Nat} (h : k ≤ 5) : 10 ^ k ≤ 100000 := Nat.pow_le_pow_right (by omega) (show k ≤ 5 from h)
theorem z_255_f : ∀ k : Fin 256, z_and ((k.val : Int) - 128) 255 = if 128 ≤ k.val then (k.val : Int) - 128 else (k.val : Int) + 128 := by decide +kernel
theorem z_255 {b : Int} (h : -128 ≤ b ∧ b ≤ 127) : (0 ≤ b → z_and b 255 = b) ∧ (b < 0 → z_and b 255 = b + 256) := by
  have f := z_255_f ⟨(b + 128).toNat, by omega⟩
  rw [show (((⟨(b + 128).toNat, by omega⟩ : Fin 256).val : Nat) : Int) - 128 = b by show (((b + 128).toNat : Nat) : Int) - 128 = b; omega] at f
  constructor
  · intro h0
    rw [if_pos (by show 128 ≤ (b + 128).toNat; omega)] at f
    exact f
  · intro h0
    rw [if_neg (by show ¬ 128 ≤ (b + 128).toNat; omega)] at f
    rw [f]
    show (((b + 128).toNat : Nat) : Int) + 128 = b + 256
    omega
/-- the reference's token: the one that begins behind p -/
def y_tok (t : Int → Int) (n p : Int) (J : z_J) (X : z_X) : Prop := J 148 18 = y_s t n p ∧ J 148 17 = y_k t n p ∧ J 148 14 = y_e9 t n p ∧ (y_k t n p = 1 → X.1 148 20 = y_wv t (y_s t n p) (y_e9 t n p - y_s t n p).toNat) ∧ (y_k t n p = 2 → X.1 148 20 = y_nv t (y_s t n p) (y_e9 t n p - y_s t n p).toNat)
def y_f3 (J J1 : z_J) : Prop := (∀ j, j ≠ 14 → j ≠ 17 → j ≠ 18 → J1 148 j = J 148 j) ∧ ∀ b, b ≠ 148 → J1 b = J b
def y_fX (X X1 : z_X) : Prop := (∀ (a : Nat) (k : Int), (a ≠ 148 ∨ k ≠ 20) → X1.1 a k = X.1 a k) ∧ X1.2 = X.2
theorem y_fX.rf {X : z_X} : y_fX X X := ⟨fun _ _ _ => rfl, rfl⟩
theorem y_fX.tr {X X1 X2 : z_X} (h1 : y_fX X X1) (h2 : y_fX X1 X2) : y_fX X X2 := ⟨fun a k h => (h2.1 a k h).trans (h1.1 a k h), h2.2.trans h1.2⟩
theorem y_fX.u {X X1 : z_X} {v : Int} (h : y_fX X X1) : y_fX X (z_u X1.1 148 20 v, X1.2) := ⟨fun a k hk => by
  show z_u X1.1 148 20 v a k = _
  by_cases e : a = 148
  · subst e
    rw [z_u_off (by rcases hk with z | z; exact absurd rfl z; exact z)]
    exact h.1 148 k hk
  · rw [z_u_ne e]; exact h.1 a k hk, h.2⟩
theorem y_f3.rf {J : z_J} : y_f3 J J := ⟨fun _ _ _ _ => rfl, fun _ _ => rfl⟩
theorem y_f3.u {J J1 : z_J} {j v : Int} (h : y_f3 J J1) (hj : j = 14 ∨ j = 17 ∨ j = 18) : y_f3 J (z_u J1 148 j v) := ⟨fun i a1 a2 a3 => by rw [z_u_off (by omega)]; exact h.1 i a1 a2 a3, fun b hb => by rw [z_u_ne hb]; exact h.2 b hb⟩
section R22
variable {l : Launch} {d : Nat} {g : List (Option Nat)} {T : m_E} {J : z_J} {X : z_X}
theorem c_advanceToken {t : Int → Int} {n p : Int} (ht : J 158 = t) (hn : J 148 13 = n) (hp : J 148 14 = p) (h0 : 0 ≤ p ∧ p ≤ n ∧ n ≤ 1500) (hb : ∀ k, 0 ≤ k → k < n → -128 ≤ t k ∧ t k ≤ 127) : z_Sem l (d + 3) M_R_advanceToken [.inr (.inr (.ref 148))] (m_Ex g T, J, X) 0 0 (z_vq (m_Ex g T) (fun J' X' => y_tok t n p J' X' ∧ y_f3 J J' ∧ y_fX X X')) := by
  refine z_sem_of z_m316 m_ok_316 (Nat.le_of_ble_eq_true rfl) (fun Wp hs hv hS => ?_)
  obtain ⟨s, hs9⟩ : ∃ s, y_s t n p = s := ⟨_, rfl⟩
  have sb : p ≤ s ∧ s ≤ n := by
    have := y_end_b (g := y_spc) (t := t) (n := n) (p := p)
    unfold y_s at hs9
    rw [hs9] at this
    exact ⟨this.1, this.2 h0.2.1⟩
  -- the end
  have fin : ∀ (J1 : z_J) (X1 : z_X) (x1 k0 e : Int), y_f3 J J1 → y_fX X X1 → J1 148 18 = s → J1 148 17 = k0 → J1 148 14 = e → e = y_e9 t n p → (s ≤ e ∧ e ≤ n + 1) → (k0 = 1 → y_k t n p = (if e - s ≤ 10 then 1 else 4) ∧ (e - s ≤ 10 → X1.1 148 20 = y_wv t s (e - s).toNat)) → (k0 = 2 → y_k t n p = (if e - s ≤ 5 then 2 else 4) ∧ (e - s ≤ 5 → X1.1 148 20 = y_nv t s (e - s).toNat)) → (k0 ≠ 1 → k0 ≠ 2 → y_k t n p = k0) → Wp 282 [some (.inr (.inr (.ref 148))), some (.inl x1)] [] (m_Ex g T, J1, X1) 0 0 := by
    intro J1 X1 x1 k0 e f1 fx j18 j17 j14 he eb k1 k2 k3
    have done : ∀ J2 : z_J, y_f3 J J2 → J2 148 18 = s → J2 148 14 = e → J2 148 17 = y_k t n p → (y_k t n p = 1 → X1.1 148 20 = y_wv t s (e - s).toNat) → (y_k t n p = 2 → X1.1 148 20 = y_nv t s (e - s).toNat) → z_vq (m_Ex g T) (fun J' X' => y_tok t n p J' X' ∧ y_f3 J J' ∧ y_fX X X') (.inl none) (m_Ex g T, J2, X1) := by
      intro J2 f2 a1 a2 a3 a4 a5
      refine ⟨_, _, rfl, rfl, ⟨by rw [hs9]; exact a1, a3, by rw [← he]; exact a2, ?_, ?_⟩, f2, fx⟩
      · rw [hs9, ← he]; exact a4
      · rw [hs9, ← he]; exact a5
    refine w_316t_282 hs ?_
    rw [j17, j14, j18]
    have u4 : ∀ v, (z_u J1 148 17 v) 148 18 = s ∧ (z_u J1 148 17 v) 148 14 = e := fun v => by rw [z_u_off (by omega), z_u_off (by omega)]; exact ⟨j18, j14⟩
    refine ⟨fun c1 => ⟨fun c2 => ?_, fun c2 => ⟨by omega, fun c3 => ?_, fun c3 => ?_⟩⟩, fun c1 => ⟨by omega, fun c2 => ?_, fun c2 => ⟨fun c3 => ?_, fun c3 => by omega⟩⟩⟩
    · have := k3 c1 c2
      exact done J1 f1 j18 j14 (by omega) (fun z => by omega) (fun z => by omega)
    · have := k2 c2
      rw [if_pos c3] at this
      exact done J1 f1 j18 j14 (by omega) (fun z => by omega) (fun z => this.2 c3)
    · have := (k2 c2).1
      rw [if_neg (by omega)] at this
      exact done _ (f1.u (by omega)) (u4 4).1 (u4 4).2 (by rw [z_u_at rfl, this]) (fun z => by omega) (fun z => by omega)
    · have := (k1 c1).1
      rw [if_neg (by omega)] at this
      exact done _ (f1.u (by omega)) (u4 4).1 (u4 4).2 (by rw [z_u_at rfl, this]) (fun z => by omega) (fun z => by omega)
    · have := k1 c1
      rw [if_pos c2] at this
      exact done J1 f1 j18 j14 (by omega) (fun z => this.2 c2) (fun z => by omega)
  have same : ∀ J1 : z_J, y_f3 J J1 → J1 148 13 = n ∧ J1 158 = t := fun J1 f => ⟨by rw [f.1 13 (by omega) (by omega) (by omega)]; exact hn, by rw [f.2 158 (by omega)]; exact ht⟩
  -- digits
  have digs : ∀ (m : Nat) (J1 : z_J) (X1 : z_X) (x1 k0 e : Int), e + m = n → y_f3 J J1 → y_fX X X1 → J1 148 18 = s → J1 148 17 = k0 → J1 148 14 = e → s ≤ e → (k0 = 2 → y_end y_dg t n e = y_e9 t n p ∧ y_k t n p = (if y_e9 t n p - s ≤ 5 then 2 else 4) ∧ (∀ j, s ≤ j → j < e → 48 ≤ t j ∧ t j ≤ 57) ∧ (e - s ≤ 5 → X1.1 148 20 = y_nv t s (e - s).toNat)) → (k0 ≠ 2 → e = y_e9 t n p) → (k0 = 1 → y_k t n p = (if e - s ≤ 10 then 1 else 4) ∧ (e - s ≤ 10 → X1.1 148 20 = y_wv t s (e - s).toNat)) → (k0 ≠ 1 → k0 ≠ 2 → y_k t n p = k0) → Wp 208 [some (.inr (.inr (.ref 148))), some (.inl x1)] [] (m_Ex g T, J1, X1) 0 0 := by
    intro m
    have out : ∀ (J1 : z_J) (X1 : z_X) (x1 e : Int), s ≤ e → e ≤ n → y_f3 J J1 → y_fX X X1 → J1 148 18 = s → J1 148 17 = 2 → J1 148 14 = e → y_end y_dg t n e = y_e9 t n p → y_k t n p = (if y_e9 t n p - s ≤ 5 then 2 else 4) → (e - s ≤ 5 → X1.1 148 20 = y_nv t s (e - s).toNat) → ¬ (e < n ∧ y_dg (t e) = true) → Wp 282 [some (.inr (.inr (.ref 148))), some (.inl x1)] [] (m_Ex g T, J1, X1) 0 0 := by
      intro J1 X1 x1 e a0 a00 a1 a2 a3 a4 a5 a6 a7 a8 a9
      rw [y_end_s, if_neg a9] at a6
      exact fin J1 X1 x1 2 e a1 a2 a3 a4 a5 a6 (by omega) (fun z => by omega) (fun _ => ⟨by rw [a6]; exact a7, a8⟩) (fun z1 z2 => by omega)
    induction m with
    | zero =>
      intro J1 X1 x1 k0 e hm f1 fx j18 j17 j14 se q2 q1 q3 q4
      obtain ⟨j13, j158⟩ := same J1 f1
      refine w_316t_208 hs ?_
      rw [j17, j14, j13]
      refine ⟨fun c => fin J1 X1 x1 k0 e f1 fx j18 j17 j14 (q1 c) (by omega) q3 (fun z => absurd z c) q4, fun c => ⟨fun c1 => ?_, fun c1 => by omega⟩⟩
      obtain ⟨r1, r2, r3, r4⟩ := q2 c
      exact out J1 X1 x1 e se (by omega) f1 fx j18 (by omega) j14 r1 r2 r4 (fun z => by omega)
    | succ m ih =>
      intro J1 X1 x1 k0 e hm f1 fx j18 j17 j14 se q2 q1 q3 q4
      obtain ⟨j13, j158⟩ := same J1 f1
      have be := hb e (by omega) (by omega)
      have zz := z_255 be
      refine w_316t_208 hs ?_
      rw [j17, j14, j13, j18, j158]
      refine ⟨fun c => fin J1 X1 x1 k0 e f1 fx j18 j17 j14 (q1 c) (by omega) q3 (fun z => absurd z c) q4, fun c => ?_⟩
      obtain ⟨r1, r2, r3, r4⟩ := q2 c
      have nd : ¬ (48 ≤ t e ∧ t e ≤ 57) → Wp 282 [some (.inr (.inr (.ref 148))), some (.inl x1)] [] (m_Ex g T, J1, X1) 0 0 := fun hn9 => out J1 X1 x1 e se (by omega) f1 fx j18 (by omega) j14 r1 r2 r4 (fun z => hn9 (y_dg_i.mp z.2))
      refine ⟨fun c1 => by omega, fun c1 => ⟨by omega, fun c2 => nd (by omega), fun c2 => ⟨fun c3 => nd (by omega), fun c3 => ⟨by omega, fun c4 => ?_, fun c4 => ?_⟩⟩⟩⟩
      · -- too long
        have r1' := r1
        rw [y_end_s, if_pos ⟨by omega, y_dg_i.mpr (by omega)⟩] at r1'
        refine w_316t_269 hs ?_
        rw [j14]
        refine ⟨by omega, ih _ X1 x1 k0 (e + 1) (by omega) (f1.u (by omega)) fx (by rw [z_u_off (by omega)]; exact j18) (by rw [z_u_off (by omega)]; exact j17) (by rw [z_u_at rfl]) (by omega) (fun _ => ⟨r1', r2, fun j a1 a2 => ?_, fun z => by omega⟩) (fun z => absurd c z) (fun z => by omega) (fun z1 z2 => by omega)⟩
        by_cases z : j = e
        · subst z; omega
        · exact r3 j a1 (by omega)
      · have r1' := r1
        rw [y_end_s, if_pos ⟨by omega, y_dg_i.mpr (by omega)⟩] at r1'
        have ev := r4 (by omega)
        have nb := y_nv_b (t := t) (s := s) (e - s).toNat (by omega) (fun j hj => r3 (s + j) (by omega) (by omega))
        have p10 := y_p10 (k := (e - s).toNat) (by omega)
        have nx : y_nv t s (e + 1 - s).toNat = y_nv t s (e - s).toNat * 10 + t e - 48 := by
          rw [show (e + 1 - s).toNat = (e - s).toNat + 1 by omega, y_nv, show s + (((e - s).toNat : Nat) : Int) = e by omega]
        rw [ev]
        refine ⟨by omega, fun c5 => by omega, fun c5 => ⟨by omega, ?_⟩⟩
        refine w_316t_269 hs ?_
        rw [j14]
        refine ⟨by omega, ih _ _ x1 k0 (e + 1) (by omega) (f1.u (by omega)) fx.u (by rw [z_u_off (by omega)]; exact j18) (by rw [z_u_off (by omega)]; exact j17) (by rw [z_u_at rfl]) (by omega) (fun _ => ⟨r1', r2, fun j a1 a2 => ?_, fun z => ?_⟩) (fun z => absurd c z) (fun z => by omega) (fun z1 z2 => by omega)⟩
        · by_cases z : j = e
          · subst z; omega
          · exact r3 j a1 (by omega)
        · show (z_u X1.1 148 20 (y_nv t s (e - s).toNat * 10 + z_and (t e) 255 - 48)) 148 20 = _
          rw [z_u_at (show (20 : Int) = 20 from rfl), nx, zz.1 (by omega)]
  -- letters
  have lets : ∀ (m : Nat) (J1 : z_J) (X1 : z_X) (x1 k0 e : Int), e + m = n → y_f3 J J1 → y_fX X X1 → J1 148 18 = s → J1 148 17 = k0 → J1 148 14 = e → s ≤ e → (k0 = 1 → y_end y_lt t n e = y_e9 t n p ∧ y_k t n p = (if y_e9 t n p - s ≤ 10 then 1 else 4) ∧ (∀ j, s ≤ j → j < e → 97 ≤ t j ∧ t j ≤ 122) ∧ (e - s ≤ 10 → X1.1 148 20 = y_wv t s (e - s).toNat)) → (k0 = 2 → e = s ∧ y_end y_dg t n s = y_e9 t n p ∧ y_k t n p = (if y_e9 t n p - s ≤ 5 then 2 else 4) ∧ X1.1 148 20 = 0) → (k0 ≠ 1 → k0 ≠ 2 → e = y_e9 t n p ∧ y_k t n p = k0) → Wp 133 [some (.inr (.inr (.ref 148))), some (.inl x1)] [] (m_Ex g T, J1, X1) 0 0 := by
    intro m
    have out : ∀ (m : Nat) (J1 : z_J) (X1 : z_X) (x1 e : Int), e + m = n → s ≤ e → y_f3 J J1 → y_fX X X1 → J1 148 18 = s → J1 148 17 = 1 → J1 148 14 = e → y_end y_lt t n e = y_e9 t n p → y_k t n p = (if y_e9 t n p - s ≤ 10 then 1 else 4) → (e - s ≤ 10 → X1.1 148 20 = y_wv t s (e - s).toNat) → ¬ (e < n ∧ y_lt (t e) = true) → Wp 208 [some (.inr (.inr (.ref 148))), some (.inl x1)] [] (m_Ex g T, J1, X1) 0 0 := by
      intro m J1 X1 x1 e hm a0 a1 a2 a3 a4 a5 a6 a7 a8 a9
      rw [y_end_s, if_neg a9] at a6
      exact digs m J1 X1 x1 1 e hm a1 a2 a3 a4 a5 a0 (fun z => by omega) (fun _ => a6) (fun _ => ⟨by rw [a6]; exact a7, a8⟩) (fun z1 z2 => by omega)
    have skip : ∀ (m : Nat) (J1 : z_J) (X1 : z_X) (x1 k0 e : Int), e + m = n → y_f3 J J1 → y_fX X X1 → J1 148 18 = s → J1 148 17 = k0 → J1 148 14 = e → s ≤ e → k0 ≠ 1 → (k0 = 2 → e = s ∧ y_end y_dg t n s = y_e9 t n p ∧ y_k t n p = (if y_e9 t n p - s ≤ 5 then 2 else 4) ∧ X1.1 148 20 = 0) → (k0 ≠ 1 → k0 ≠ 2 → e = y_e9 t n p ∧ y_k t n p = k0) → Wp 208 [some (.inr (.inr (.ref 148))), some (.inl x1)] [] (m_Ex g T, J1, X1) 0 0 := by
      intro m J1 X1 x1 k0 e hm a1 a2 a3 a4 a5 a6 a7 a8 a9
      refine digs m J1 X1 x1 k0 e hm a1 a2 a3 a4 a5 a6 (fun z => ?_) (fun z => (a9 a7 z).1) (fun z => absurd z a7) (fun z1 z2 => (a9 z1 z2).2)
      obtain ⟨b1, b2, b3, b4⟩ := a8 z
      subst b1
      exact ⟨b2, b3, fun j c1 c2 => by omega, fun _ => by rw [b4, show (e - e).toNat = 0 by omega]; rfl⟩
    induction m with
    | zero =>
      intro J1 X1 x1 k0 e hm f1 fx j18 j17 j14 se q1 q2 q3
      obtain ⟨j13, j158⟩ := same J1 f1
      refine w_316t_133 hs ?_
      rw [j17, j14, j13]
      refine ⟨fun c => skip 0 J1 X1 x1 k0 e hm f1 fx j18 j17 j14 se c q2 q3, fun c => ⟨fun c1 => ?_, fun c1 => by omega⟩⟩
      obtain ⟨r1, r2, r3, r4⟩ := q1 c
      exact out 0 J1 X1 x1 e hm se f1 fx j18 (by omega) j14 r1 r2 r4 (fun z => by omega)
    | succ m ih =>
      intro J1 X1 x1 k0 e hm f1 fx j18 j17 j14 se q1 q2 q3
      obtain ⟨j13, j158⟩ := same J1 f1
      have be := hb e (by omega) (by omega)
      have zz := z_255 be
      refine w_316t_133 hs ?_
      rw [j17, j14, j13, j18, j158]
      refine ⟨fun c => skip (m + 1) J1 X1 x1 k0 e hm f1 fx j18 j17 j14 se c q2 q3, fun c => ?_⟩
      obtain ⟨r1, r2, r3, r4⟩ := q1 c
      have nd : ¬ (97 ≤ t e ∧ t e ≤ 122) → Wp 208 [some (.inr (.inr (.ref 148))), some (.inl x1)] [] (m_Ex g T, J1, X1) 0 0 := fun hn9 => out (m + 1) J1 X1 x1 e hm se f1 fx j18 (by omega) j14 r1 r2 r4 (fun z => hn9 (y_lt_i.mp z.2))
      refine ⟨fun c1 => by omega, fun c1 => ⟨by omega, fun c2 => nd (by omega), fun c2 => ⟨fun c3 => nd (by omega), fun c3 => ⟨by omega, fun c4 => ?_, fun c4 => ?_⟩⟩⟩⟩
      · have r1' := r1
        rw [y_end_s, if_pos ⟨by omega, y_lt_i.mpr (by omega)⟩] at r1'
        refine w_316t_195 hs ?_
        rw [j14]
        refine ⟨by omega, ih _ X1 x1 k0 (e + 1) (by omega) (f1.u (by omega)) fx (by rw [z_u_off (by omega)]; exact j18) (by rw [z_u_off (by omega)]; exact j17) (by rw [z_u_at rfl]) (by omega) (fun _ => ⟨r1', r2, fun j a1 a2 => ?_, fun z => by omega⟩) (fun z => by omega) (fun z1 z2 => absurd c z1)⟩
        by_cases z : j = e
        · subst z; omega
        · exact r3 j a1 (by omega)
      · have r1' := r1
        rw [y_end_s, if_pos ⟨by omega, y_lt_i.mpr (by omega)⟩] at r1'
        have ev := r4 (by omega)
        have nb := y_wv_b (t := t) (s := s) (e - s).toNat (by omega) (fun j hj => r3 (s + j) (by omega) (by omega))
        have p32 := y_p32 (k := (e - s).toNat) (by omega)
        have nx : y_wv t s (e + 1 - s).toNat = y_wv t s (e - s).toNat * 32 + t e - 96 := by
          rw [show (e + 1 - s).toNat = (e - s).toNat + 1 by omega, y_wv, show s + (((e - s).toNat : Nat) : Int) = e by omega]
        rw [ev]
        refine ⟨by omega, fun c5 => by omega, fun c5 => ⟨by omega, ?_⟩⟩
        refine w_316t_195 hs ?_
        rw [j14]
        refine ⟨by omega, ih _ _ x1 k0 (e + 1) (by omega) (f1.u (by omega)) fx.u (by rw [z_u_off (by omega)]; exact j18) (by rw [z_u_off (by omega)]; exact j17) (by rw [z_u_at rfl]) (by omega) (fun _ => ⟨r1', r2, fun j a1 a2 => ?_, fun z => ?_⟩) (fun z => by omega) (fun z1 z2 => absurd c z1)⟩
        · by_cases z : j = e
          · subst z; omega
          · exact r3 j a1 (by omega)
        · show (z_u X1.1 148 20 (y_wv t s (e - s).toNat * 32 + z_and (t e) 255 - 96)) 148 20 = _
          rw [z_u_at (show (20 : Int) = 20 from rfl), nx, zz.1 (by omega)]
  -- the kind
  have kinds : ∀ (J1 : z_J) (X1 : z_X), y_f3 J J1 → y_fX X X1 → J1 148 18 = s → J1 148 14 = s → X1.1 148 20 = 0 → ∀ x1 : Int, ((n ≤ s ∧ x1 = -1) ∨ (s < n ∧ x1 = z_and (t s) 255)) → Wp 61 [some (.inr (.inr (.ref 148))), some (.inl x1)] [] (m_Ex g T, J1, X1) 0 0 := by
    intro J1 X1 f1 fx j18 j14 x20 x1 hx
    have go : ∀ k0 : Int, (k0 = 1 → s < n ∧ (97 ≤ t s ∧ t s ≤ 122)) → (k0 = 2 → s < n ∧ (48 ≤ t s ∧ t s ≤ 57)) → (k0 = 3 → s < n ∧ t s = 59) → (k0 = 4 → s < n ∧ ¬ (97 ≤ t s ∧ t s ≤ 122) ∧ ¬ (48 ≤ t s ∧ t s ≤ 57) ∧ t s ≠ 59) → (k0 = 0 → n ≤ s) → (k0 = 0 ∨ k0 = 1 ∨ k0 = 2 ∨ k0 = 3 ∨ k0 = 4) → Wp 107 [some (.inr (.inr (.ref 148))), some (.inl x1)] [] (m_Ex g T, z_u J1 148 17 k0, X1) 0 0 := by
      intro k0 a1 a2 a3 a4 a5 a6
      have u17 : (z_u J1 148 17 k0) 148 17 = k0 := z_u_at rfl
      have u18 : (z_u J1 148 17 k0) 148 18 = s := by rw [z_u_off (by omega)]; exact j18
      have u14 : (z_u J1 148 17 k0) 148 14 = s := by rw [z_u_off (by omega)]; exact j14
      have f2 : y_f3 J (z_u J1 148 17 k0) := f1.u (by omega)
      refine w_316t_107 hs ?_
      rw [u17]
      have one : k0 = 3 ∨ k0 = 4 → Wp 123 [some (.inr (.inr (.ref 148))), some (.inl x1)] [] (m_Ex g T, z_u J1 148 17 k0, X1) 0 0 := by
        intro hk
        have sn : s < n := by
          rcases hk with z | z
          · exact (a3 z).1
          · exact (a4 z).1
        have nl : ¬ y_lt (t s) = true := fun z => by
          have := y_lt_i.mp z
          rcases hk with y | y
          · have := (a3 y).2; omega
          · exact (a4 y).2.1 this
        have ng : ¬ y_dg (t s) = true := fun z => by
          have := y_dg_i.mp z
          rcases hk with y | y
          · have := (a3 y).2; omega
          · exact (a4 y).2.2.1 this
        refine w_316t_123 hs ?_
        rw [u14]
        refine ⟨by omega, lets (n - (s + 1)).toNat _ X1 x1 k0 (s + 1) (by omega) (f2.u (by omega)) fx (by rw [z_u_off (by omega)]; exact u18) (by rw [z_u_off (by omega)]; exact u17) (by rw [z_u_at rfl]) (by omega) (fun z => by omega) (fun z => by omega) (fun z1 z2 => ⟨?_, ?_⟩)⟩
        · unfold y_e9
          rw [hs9, if_neg (by omega), if_neg nl, if_neg ng]
        · unfold y_k
          rw [hs9, if_neg (by omega), if_neg nl, if_neg ng]
          rcases hk with y | y
          · rw [if_pos (a3 y).2, y]
          · rw [if_neg (a4 y).2.2.2, y]
      refine ⟨fun c => one (Or.inl c), fun c => ⟨fun c1 => ?_, fun c1 => one (Or.inr c1)⟩⟩
      refine lets (n - s).toNat _ X1 x1 k0 s (by omega) f2 fx u18 u17 u14 (Int.le_refl _) (fun z => ?_) (fun z => ?_) (fun z1 z2 => ?_)
      · obtain ⟨b1, b2⟩ := a1 z
        have yl := y_lt_i.mpr b2
        have e9 : y_e9 t n p = y_end y_lt t n s := by unfold y_e9; rw [hs9, if_neg (by omega), if_pos yl]
        refine ⟨e9.symm, ?_, fun j c1 c2 => by omega, fun _ => by rw [x20, show (s - s).toNat = 0 by omega]; rfl⟩
        rw [e9]
        unfold y_k
        rw [hs9, if_neg (by omega), if_pos yl]
      · obtain ⟨b1, b2⟩ := a2 z
        have nl : ¬ y_lt (t s) = true := fun z => by have := y_lt_i.mp z; omega
        have yd := y_dg_i.mpr b2
        have e9 : y_e9 t n p = y_end y_dg t n s := by unfold y_e9; rw [hs9, if_neg (by omega), if_neg nl, if_pos yd]
        refine ⟨rfl, e9.symm, ?_, x20⟩
        rw [e9]
        unfold y_k
        rw [hs9, if_neg (by omega), if_neg nl, if_pos yd]
      · have k00 : k0 = 0 := by omega
        have := a5 k00
        constructor
        · unfold y_e9; rw [hs9, if_pos this]
        · unfold y_k; rw [hs9, if_pos this, k00]
    have zz : s < n → (0 ≤ t s → z_and (t s) 255 = t s) ∧ (t s < 0 → z_and (t s) 255 = t s + 256) := fun z => z_255 (hb s (by omega) z)
    refine w_316t_61 hs ?_
    refine ⟨fun c => ?_, fun c => go 0 (by omega) (by omega) (by omega) (by omega) (fun _ => ?_) (by omega)⟩
    · have sn : s < n ∧ x1 = z_and (t s) 255 := by
        rcases hx with z | z
        · exact absurd z.2 c
        · exact z
      have z1 := zz sn.1
      have bs9 := hb s (by omega) sn.1
      have k4 : ¬ (97 ≤ t s ∧ t s ≤ 122) → ¬ (48 ≤ t s ∧ t s ≤ 57) → t s ≠ 59 → Wp 107 [some (.inr (.inr (.ref 148))), some (.inl x1)] [] (m_Ex g T, z_u J1 148 17 4, X1) 0 0 := fun b1 b2 b3 => go 4 (by omega) (by omega) (by omega) (fun _ => ⟨sn.1, b1, b2, b3⟩) (by omega) (by omega)
      have k3 : t s = 59 → Wp 107 [some (.inr (.inr (.ref 148))), some (.inl x1)] [] (m_Ex g T, z_u J1 148 17 3, X1) 0 0 := fun b1 => go 3 (by omega) (by omega) (fun _ => ⟨sn.1, b1⟩) (by omega) (by omega) (by omega)
      have k2 : 48 ≤ t s ∧ t s ≤ 57 → Wp 107 [some (.inr (.inr (.ref 148))), some (.inl x1)] [] (m_Ex g T, z_u J1 148 17 2, X1) 0 0 := fun b1 => go 2 (by omega) (fun _ => ⟨sn.1, b1⟩) (by omega) (by omega) (by omega) (by omega)
      have k1 : 97 ≤ t s ∧ t s ≤ 122 → Wp 107 [some (.inr (.inr (.ref 148))), some (.inl x1)] [] (m_Ex g T, z_u J1 148 17 1, X1) 0 0 := fun b1 => go 1 (fun _ => ⟨sn.1, b1⟩) (by omega) (by omega) (by omega) (by omega) (by omega)
      refine ⟨fun c1 => ⟨fun c2 => ⟨fun c3 => k4 (by omega) (by omega) (by omega), fun c3 => k3 (by omega)⟩, fun c2 => ⟨fun c3 => ⟨fun c4 => k4 (by omega) (by omega) (by omega), fun c4 => k3 (by omega)⟩, fun c3 => k2 (by omega)⟩⟩, fun c1 => ⟨fun c2 => ⟨fun c3 => by omega, fun c3 => ⟨fun c4 => ⟨fun c5 => k4 (by omega) (by omega) (by omega), fun c5 => by omega⟩, fun c4 => by omega⟩⟩, fun c2 => k1 (by omega)⟩⟩
    · rcases hx with z | z
      · exact z.1
      · have := zz z.1
        have := hb s (by omega) z.1
        omega
  -- spaces
  have spaces : ∀ (m : Nat) (J1 : z_J) (p1 : Int), p1 + m = n → p ≤ p1 → y_f3 J J1 → J1 148 14 = p1 → y_end y_spc t n p1 = s → Wp 0 [some (.inr (.inr (.ref 148))), none] [] (m_Ex g T, J1, X) 0 0 := by
    intro m
    have out : ∀ (J1 : z_J) (p1 : Int), p ≤ p1 → p1 ≤ n → y_f3 J J1 → J1 148 14 = p1 → y_end y_spc t n p1 = s → ¬ (p1 < n ∧ y_spc (t p1) = true) → Wp 39 [some (.inr (.inr (.ref 148))), none] [] (m_Ex g T, J1, X) 0 0 := by
      intro J1 p1 a0 a1 f1 j14 a2 a3
      rw [y_end_s, if_neg a3] at a2
      obtain ⟨j13, j158⟩ := same J1 f1
      subst a2
      refine w_316t_39 hs ?_
      rw [j14, j13, j158]
      have u20 : (z_u X.1 148 20 0) 148 20 = 0 := z_u_at rfl
      refine ⟨fun c => kinds _ _ (f1.u (by omega)) y_fX.rf.u (by rw [z_u_at rfl]) (by rw [z_u_off (by omega)]; exact j14) u20 (-1) (Or.inl ⟨c, rfl⟩), fun c => ⟨by omega, kinds _ _ (f1.u (by omega)) y_fX.rf.u (by rw [z_u_at rfl]) (by rw [z_u_off (by omega)]; exact j14) u20 _ (Or.inr ⟨c, rfl⟩)⟩⟩
    induction m with
    | zero =>
      intro J1 p1 hm hp1 f1 j14 he
      obtain ⟨j13, j158⟩ := same J1 f1
      refine w_316t_0 hs ?_
      rw [j14, j13]
      exact ⟨fun c => ⟨fun c1 => out J1 p1 hp1 (by omega) f1 j14 he (fun z => by omega), fun c1 => by omega⟩, fun c => by omega⟩
    | succ m ih =>
      intro J1 p1 hm hp1 f1 j14 he
      obtain ⟨j13, j158⟩ := same J1 f1
      have be := hb p1 (by omega) (by omega)
      have zz := z_255 be
      have st : y_spc (t p1) = true → Wp 26 [some (.inr (.inr (.ref 148))), none] [] (m_Ex g T, J1, X) 0 0 := by
        intro hsp
        have he' := he
        rw [y_end_s, if_pos ⟨by omega, hsp⟩] at he'
        refine w_316t_26 hs ?_
        rw [j14]
        exact ⟨by omega, ih _ (p1 + 1) (by omega) (by omega) (f1.u (by omega)) (by rw [z_u_at rfl]) he'⟩
      have no : t p1 ≠ 32 → t p1 ≠ 10 → Wp 39 [some (.inr (.inr (.ref 148))), none] [] (m_Ex g T, J1, X) 0 0 := fun b1 b2 => out J1 p1 hp1 (by omega) f1 j14 he (fun z => by have := y_spc_i.mp z.2; omega)
      refine w_316t_0 hs ?_
      rw [j14, j13, j158]
      refine ⟨fun c => by omega, fun c => ⟨by omega, fun c1 => st (y_spc_i.mpr (by omega)), fun c1 => ⟨fun c2 => by omega, fun c2 => ⟨by omega, fun c3 => no (by omega) (by omega), fun c3 => st (y_spc_i.mpr (by omega))⟩⟩⟩⟩
  exact spaces (n - p).toNat J p (by omega) (Int.le_refl _) y_f3.rf hp hs9
end R22
/-- the class's token: the one that begins behind p -/
def x_tok (t : Int → Int) (n p : Int) (J : z_J) : Prop := J 1 3 = y_s t n p ∧ J 1 4 = y_k t n p ∧ J 1 2 = y_e9 t n p ∧ (y_k t n p = 2 → J 1 5 = y_nv t (y_s t n p) (y_e9 t n p - y_s t n p).toNat)
def x_f4 (J J1 : z_J) : Prop := (∀ j, j ≠ 2 → j ≠ 3 → j ≠ 4 → j ≠ 5 → J1 1 j = J 1 j) ∧ ∀ b, b ≠ 1 → J1 b = J b
theorem x_f4.rf {J : z_J} : x_f4 J J := ⟨fun _ _ _ _ _ => rfl, fun _ _ => rfl⟩
theorem x_f4.tr {J J1 J2 : z_J} (h1 : x_f4 J J1) (h2 : x_f4 J1 J2) : x_f4 J J2 := ⟨fun j a b c e => (h2.1 j a b c e).trans (h1.1 j a b c e), fun b hb => (h2.2 b hb).trans (h1.2 b hb)⟩
theorem x_f4.u {J J1 : z_J} {j v : Int} (h : x_f4 J J1) (hj : j = 2 ∨ j = 3 ∨ j = 4 ∨ j = 5) : x_f4 J (z_u J1 1 j v) := ⟨fun i a1 a2 a3 a4 => by rw [z_u_off (by omega)]; exact h.1 i a1 a2 a3 a4, fun b hb => by rw [z_u_ne hb]; exact h.2 b hb⟩
section Q22
variable {l : Launch} {d : Nat} {g : List (Option Nat)} {T : m_E} {J : z_J} {X : z_X}
theorem e_passLetters {t : Int → Int} {n s : Int} (ht : J 2 = t) (hn : J 1 1 = n) (hs3 : J 1 3 = s) (hs2 : J 1 2 = s) (h0 : 0 ≤ s ∧ s ≤ n ∧ n ≤ 1500) : z_Sem l (d + 1) M_Input_passLetters [.inr (.inr (.ref 1))] (m_Ex g T, J, X) 0 0 (z_vq (m_Ex g T) (fun J' X' => X' = X ∧ J' 1 2 = y_end y_lt t n s ∧ J' 1 3 = s ∧ J' 1 4 = (if y_end y_lt t n s - s ≤ 10 then 1 else 4) ∧ x_f4 J J')) := by
  refine z_sem_of z_m50 m_ok_50 (Nat.le_of_ble_eq_true rfl) (fun Wp hs hv hS => ?_)
  have loop : ∀ (m : Nat) (J1 : z_J) (e : Int), e + m = n → s ≤ e → x_f4 J J1 → J1 1 3 = s → J1 1 2 = e → y_end y_lt t n e = y_end y_lt t n s → Wp 0 [some (.inr (.inr (.ref 1)))] [] (m_Ex g T, J1, X) 0 0 := by
    intro m
    have out : ∀ (J1 : z_J) (e : Int), s ≤ e → e ≤ n → x_f4 J J1 → J1 1 3 = s → J1 1 2 = e → y_end y_lt t n e = y_end y_lt t n s → ¬ (e < n ∧ y_lt (t e) = true) → Wp 52 [some (.inr (.inr (.ref 1)))] [] (m_Ex g T, J1, X) 0 0 := by
      intro J1 e a0 a1 f1 j3 j2 a2 a3
      rw [y_end_s, if_neg a3] at a2
      refine w_50t_52 hs ?_
      rw [j2, j3]
      refine ⟨by omega, fun c => ⟨_, _, rfl, rfl, rfl, ?_, ?_, ?_, f1.u (by omega)⟩, fun c => ⟨_, _, rfl, rfl, rfl, ?_, ?_, ?_, f1.u (by omega)⟩⟩
      · rw [z_u_off (by omega), j2]; exact a2
      · rw [z_u_off (by omega)]; exact j3
      · rw [z_u_at rfl, ← a2, if_neg (by omega)]
      · rw [z_u_off (by omega), j2]; exact a2
      · rw [z_u_off (by omega)]; exact j3
      · rw [z_u_at rfl, ← a2, if_pos c]
    have same : ∀ J1 : z_J, x_f4 J J1 → J1 1 1 = n ∧ J1 2 = t := fun J1 f => ⟨by rw [f.1 1 (by omega) (by omega) (by omega) (by omega)]; exact hn, by rw [f.2 2 (by omega)]; exact ht⟩
    induction m with
    | zero =>
      intro J1 e hm se f1 j3 j2 he
      obtain ⟨j1, jt⟩ := same J1 f1
      refine w_50t_0 hs ?_
      rw [j1, j2]
      exact ⟨fun c => out J1 e se (by omega) f1 j3 j2 he (fun z => by omega), fun c => by omega⟩
    | succ m ih =>
      intro J1 e hm se f1 j3 j2 he
      obtain ⟨j1, jt⟩ := same J1 f1
      refine w_50t_0 hs ?_
      rw [j1, j2, jt]
      refine ⟨fun c => by omega, fun c => ⟨by omega, fun c1 => out J1 e se (by omega) f1 j3 j2 he (fun z => by have := y_lt_i.mp z.2; omega), fun c1 => ⟨by omega, fun c2 => out J1 e se (by omega) f1 j3 j2 he (fun z => by have := y_lt_i.mp z.2; omega), fun c2 => ⟨by omega, ih _ (e + 1) (by omega) (by omega) (f1.u (by omega)) (by rw [z_u_off (by omega)]; exact j3) (by rw [z_u_at rfl]) ?_⟩⟩⟩⟩
      rw [← he, y_end_s (p := e), if_pos ⟨c, y_lt_i.mpr ⟨c1, c2⟩⟩]
  exact loop (n - s).toNat J s (by omega) (Int.le_refl _) x_f4.rf hs3 hs2 rfl
theorem e_passDigits {t : Int → Int} {n s : Int} (ht : J 2 = t) (hn : J 1 1 = n) (hs3 : J 1 3 = s) (hs2 : J 1 2 = s) (h0 : 0 ≤ s ∧ s ≤ n ∧ n ≤ 1500) : z_Sem l (d + 1) M_Input_passDigits [.inr (.inr (.ref 1))] (m_Ex g T, J, X) 0 0 (z_vq (m_Ex g T) (fun J' X' => X' = X ∧ J' 1 2 = y_end y_dg t n s ∧ J' 1 3 = s ∧ J' 1 4 = (if y_end y_dg t n s - s ≤ 5 then 2 else 4) ∧ (y_end y_dg t n s - s ≤ 5 → J' 1 5 = y_nv t s (y_end y_dg t n s - s).toNat) ∧ x_f4 J J')) := by
  refine z_sem_of z_m51 m_ok_51 (Nat.le_of_ble_eq_true rfl) (fun Wp hs hv hS => ?_)
  have loop : ∀ (m : Nat) (J1 : z_J) (e : Int), e + m = n → s ≤ e → x_f4 J J1 → J1 1 3 = s → J1 1 2 = e → y_end y_dg t n e = y_end y_dg t n s → (∀ j, s ≤ j → j < e → 48 ≤ t j ∧ t j ≤ 57) → (e - s ≤ 5 → J1 1 5 = y_nv t s (e - s).toNat) → Wp 5 [some (.inr (.inr (.ref 1)))] [] (m_Ex g T, J1, X) 0 0 := by
    intro m
    have out : ∀ (J1 : z_J) (e : Int), s ≤ e → e ≤ n → x_f4 J J1 → J1 1 3 = s → J1 1 2 = e → y_end y_dg t n e = y_end y_dg t n s → (e - s ≤ 5 → J1 1 5 = y_nv t s (e - s).toNat) → ¬ (e < n ∧ y_dg (t e) = true) → Wp 81 [some (.inr (.inr (.ref 1)))] [] (m_Ex g T, J1, X) 0 0 := by
      intro J1 e a0 a1 f1 j3 j2 a2 a4 a3
      rw [y_end_s, if_neg a3] at a2
      refine w_51t_81 hs ?_
      rw [j2, j3]
      refine ⟨by omega, fun c => ⟨_, _, rfl, rfl, rfl, ?_, ?_, ?_, fun z => by omega, f1.u (by omega)⟩, fun c => ⟨_, _, rfl, rfl, rfl, ?_, ?_, ?_, fun z => ?_, f1.u (by omega)⟩⟩
      · rw [z_u_off (by omega), j2]; exact a2
      · rw [z_u_off (by omega)]; exact j3
      · rw [z_u_at rfl, ← a2, if_neg (by omega)]
      · rw [z_u_off (by omega), j2]; exact a2
      · rw [z_u_off (by omega)]; exact j3
      · rw [z_u_at rfl, ← a2, if_pos c]
      · rw [z_u_off (by omega), ← a2]; exact a4 c
    have same : ∀ J1 : z_J, x_f4 J J1 → J1 1 1 = n ∧ J1 2 = t := fun J1 f => ⟨by rw [f.1 1 (by omega) (by omega) (by omega) (by omega)]; exact hn, by rw [f.2 2 (by omega)]; exact ht⟩
    induction m with
    | zero =>
      intro J1 e hm se f1 j3 j2 he hd hv9
      obtain ⟨j1, jt⟩ := same J1 f1
      refine w_51t_5 hs ?_
      rw [j1, j2]
      exact ⟨fun c => out J1 e se (by omega) f1 j3 j2 he hv9 (fun z => by omega), fun c => by omega⟩
    | succ m ih =>
      intro J1 e hm se f1 j3 j2 he hd hv9
      obtain ⟨j1, jt⟩ := same J1 f1
      refine w_51t_5 hs ?_
      rw [j1, j2, jt]
      refine ⟨fun c => by omega, fun c => ⟨by omega, fun c1 => out J1 e se (by omega) f1 j3 j2 he hv9 (fun z => by have := y_dg_i.mp z.2; omega), fun c1 => ⟨by omega, fun c2 => out J1 e se (by omega) f1 j3 j2 he hv9 (fun z => by have := y_dg_i.mp z.2; omega), fun c2 z1 a1 a2 a3 => ⟨by omega, fun z2 b1 b2 b3 z3 e1 e2 e3 => ?_⟩⟩⟩⟩
      have u2 : (z_u J1 1 5 z3) 1 2 = e := by rw [z_u_off (by omega)]; exact j2
      refine w_51t_68 hs ?_
      rw [u2]
      refine ⟨by omega, ih _ (e + 1) (by omega) (by omega) ((f1.u (by omega)).u (by omega)) (by rw [z_u_off (by omega), z_u_off (by omega)]; exact j3) (by rw [z_u_at rfl]) ?_ (fun j g1 g2 => ?_) (fun g1 => ?_)⟩
      · rw [← he, y_end_s (p := e), if_pos ⟨c, y_dg_i.mpr ⟨c1, c2⟩⟩]
      · by_cases z : j = e
        · subst z; exact ⟨c1, c2⟩
        · exact hd j g1 (by omega)
      · have ev := hv9 (by omega)
        have nb := y_nv_b (t := t) (s := s) (e - s).toNat (by omega) (fun j hj => hd (s + j) (by omega) (by omega))
        have p10 := y_p10 (k := (e - s).toNat) (by omega)
        rw [ev] at a3
        have q1 := a3 (by omega)
        have q2 := b3 (by omega)
        have q3 := e3 (by omega)
        rw [z_u_off (by omega), z_u_at rfl, show (e + 1 - s).toNat = (e - s).toNat + 1 by omega, y_nv, show s + (((e - s).toNat : Nat) : Int) = e by omega]
        omega
  refine w_51t_0 hs ?_
  exact loop (n - s).toNat (z_u J 1 5 0) s (by omega) (Int.le_refl _) (x_f4.rf.u (by omega)) (by rw [z_u_off (by omega)]; exact hs3) (by rw [z_u_off (by omega)]; exact hs2) rfl (fun j a1 a2 => by omega) (fun _ => by rw [z_u_at rfl, show (s - s).toNat = 0 by omega]; rfl)
theorem e_readToken {t : Int → Int} {n p : Int} (ht : J 2 = t) (hn : J 1 1 = n) (hp : J 1 2 = p) (h0 : 0 ≤ p ∧ p ≤ n ∧ n ≤ 1500) : z_Sem l (d + 2) M_Input_readToken [.inr (.inr (.ref 1))] (m_Ex g T, J, X) 0 0 (z_vq (m_Ex g T) (fun J' X' => X' = X ∧ x_tok t n p J' ∧ x_f4 J J')) := by
  obtain ⟨s, hs9⟩ : ∃ s, y_s t n p = s := ⟨_, rfl⟩
  have sb : p ≤ s ∧ s ≤ n := by
    have := y_end_b (g := y_spc) (t := t) (n := n) (p := p)
    unfold y_s at hs9
    rw [hs9] at this
    exact ⟨this.1, this.2 h0.2.1⟩
  have same : ∀ J1 : z_J, x_f4 J J1 → J1 1 1 = n ∧ J1 2 = t := fun J1 f => ⟨by rw [f.1 1 (by omega) (by omega) (by omega) (by omega)]; exact hn, by rw [f.2 2 (by omega)]; exact ht⟩
  refine z_sem_of z_m49 m_ok_49 (Nat.le_of_ble_eq_true rfl) (fun Wp hs hv hS => ?_)
  have sign : s < n → ∀ (J1 : z_J) (x1 : Int), x_f4 J J1 → J1 1 3 = s → J1 1 2 = s → x1 = t s → ¬ (97 ≤ t s ∧ t s ≤ 122) → Wp 106 [some (.inr (.inr (.ref 1))), some (.inl x1)] [] (m_Ex g T, J1, X) 0 0 := by
    intro sn J1 x1 f1 j3 j2 hx nl
    obtain ⟨j1, jt⟩ := same J1 f1
    have nl' : ¬ y_lt (t s) = true := fun z => nl (y_lt_i.mp z)
    have one : ¬ (48 ≤ t s ∧ t s ≤ 57) → Wp 125 [some (.inr (.inr (.ref 1))), some (.inl x1)] [] (m_Ex g T, J1, X) 0 0 := by
      intro nd
      have nd' : ¬ y_dg (t s) = true := fun z => nd (y_dg_i.mp z)
      have last : ∀ k0 : Int, k0 = (if t s = 59 then 3 else 4) → Wp 140 [some (.inr (.inr (.ref 1))), some (.inl x1)] [] (m_Ex g T, z_u J1 1 4 k0, X) 0 0 := by
        intro k0 hk
        have ek : y_k t n p = k0 := by unfold y_k; rw [hs9, if_neg (by omega), if_neg nl', if_neg nd', hk]
        refine w_49t_140 hs ?_
        rw [z_u_off (by omega), j2]
        refine ⟨by omega, _, _, rfl, rfl, rfl, ⟨?_, ?_, ?_, fun z => ?_⟩, (f1.u (by omega)).u (by omega)⟩
        · rw [z_u_off (by omega), z_u_off (by omega), hs9]; exact j3
        · rw [z_u_off (by omega), z_u_at rfl, ek]
        · rw [z_u_at rfl]
          unfold y_e9
          rw [hs9, if_neg (by omega), if_neg nl', if_neg nd']
        · rw [ek, hk] at z
          split at z <;> omega
      refine w_49t_125 hs ?_
      exact ⟨fun c => last 4 (by rw [if_neg (by omega)]), fun c => last 3 (by rw [if_pos (by omega)])⟩
    refine w_49t_106 hs ?_
    refine ⟨fun c => one (by omega), fun c => ⟨fun c1 => one (by omega), fun c1 => z_cVq (e_passDigits jt j1 j3 j2 (by omega)) ?_⟩⟩
    rintro J2 X2 ⟨rfl, k1, k2, k3, k4, k5⟩
    have yd : y_dg (t s) = true := y_dg_i.mpr (by omega)
    have e9 : y_e9 t n p = y_end y_dg t n s := by unfold y_e9; rw [hs9, if_neg (by omega), if_neg nl', if_pos yd]
    have ek : y_k t n p = (if y_end y_dg t n s - s ≤ 5 then 2 else 4) := by unfold y_k; rw [hs9, if_neg (by omega), if_neg nl', if_pos yd]
    refine ⟨_, _, rfl, rfl, rfl, ⟨by rw [hs9]; exact k2, by rw [ek]; exact k3, by rw [e9]; exact k1, fun z => ?_⟩, f1.tr k5⟩
    rw [hs9, e9]
    refine k4 ?_
    rw [ek] at z
    split at z <;> omega
  have spaces : ∀ (m : Nat) (J1 : z_J) (p1 : Int), p1 + m = n → p ≤ p1 → x_f4 J J1 → J1 1 2 = p1 → y_end y_spc t n p1 = s → Wp 0 [some (.inr (.inr (.ref 1))), none] [] (m_Ex g T, J1, X) 0 0 := by
    intro m
    have out : ∀ (J1 : z_J) (p1 : Int), p ≤ p1 → p1 ≤ n → x_f4 J J1 → J1 1 2 = p1 → y_end y_spc t n p1 = s → ¬ (p1 < n ∧ y_spc (t p1) = true) → Wp 52 [some (.inr (.inr (.ref 1))), none] [] (m_Ex g T, J1, X) 0 0 := by
      intro J1 p1 a0 a1 f1 j2 a2 a3
      rw [y_end_s, if_neg a3] at a2
      obtain ⟨j1, jt⟩ := same J1 f1
      subst a2
      refine w_49t_52 hs ?_
      rw [j1, j2]
      refine ⟨fun c => ?_, fun c => ⟨_, _, rfl, rfl, rfl, ⟨?_, ?_, ?_, fun z => ?_⟩, (f1.u (by omega)).u (by omega)⟩⟩
      · have f2 : x_f4 J (z_u J1 1 3 p1) := f1.u (by omega)
        have u3 : (z_u J1 1 3 p1) 1 3 = p1 := z_u_at rfl
        have u2 : (z_u J1 1 3 p1) 1 2 = p1 := by rw [z_u_off (by omega)]; exact j2
        obtain ⟨j1', jt'⟩ := same _ f2
        refine w_49t_77 hs ?_
        rw [u2, jt']
        refine ⟨by omega, fun c1 => sign c _ _ f2 u3 u2 rfl (by omega), fun c1 => ⟨fun c2 => sign c _ _ f2 u3 u2 rfl (by omega), fun c2 => z_cVq (e_passLetters jt' j1' u3 u2 (by omega)) ?_⟩⟩
        rintro J2 X2 ⟨rfl, k1, k2, k3, k5⟩
        have yl : y_lt (t p1) = true := y_lt_i.mpr (by omega)
        have e9 : y_e9 t n p = y_end y_lt t n p1 := by unfold y_e9; rw [hs9, if_neg (by omega), if_pos yl]
        have ek : y_k t n p = (if y_end y_lt t n p1 - p1 ≤ 10 then 1 else 4) := by unfold y_k; rw [hs9, if_neg (by omega), if_pos yl]
        refine ⟨_, _, rfl, rfl, rfl, ⟨by rw [hs9]; exact k2, by rw [ek]; exact k3, by rw [e9]; exact k1, fun z => ?_⟩, f2.tr k5⟩
        rw [ek] at z
        split at z <;> omega
      · rw [z_u_off (by omega), z_u_at rfl, hs9]
      · rw [z_u_at rfl]; unfold y_k; rw [hs9, if_pos c]
      · rw [z_u_off (by omega), z_u_off (by omega), j2]; unfold y_e9; rw [hs9, if_pos c]
      · unfold y_k at z; rw [hs9, if_pos c] at z; omega
    induction m with
    | zero =>
      intro J1 p1 hm hp1 f1 j2 he
      obtain ⟨j1, jt⟩ := same J1 f1
      refine w_49t_0 hs ?_
      rw [j1, j2]
      exact ⟨fun c => out J1 p1 hp1 (by omega) f1 j2 he (fun z => by omega), fun c => by omega⟩
    | succ m ih =>
      intro J1 p1 hm hp1 f1 j2 he
      obtain ⟨j1, jt⟩ := same J1 f1
      have st : y_spc (t p1) = true → Wp 39 [some (.inr (.inr (.ref 1))), none] [] (m_Ex g T, J1, X) 0 0 := by
        intro hsp
        have he' := he
        rw [y_end_s, if_pos ⟨by omega, hsp⟩] at he'
        refine w_49t_39 hs ?_
        rw [j2]
        exact ⟨by omega, ih _ (p1 + 1) (by omega) (by omega) (f1.u (by omega)) (by rw [z_u_at rfl]) he'⟩
      refine w_49t_0 hs ?_
      rw [j1, j2, jt]
      refine ⟨fun c => by omega, fun c => ⟨by omega, fun c1 => st (y_spc_i.mpr (Or.inl c1)), fun c1 => ⟨by omega, fun c2 => out J1 p1 hp1 (by omega) f1 j2 he (fun z => by have := y_spc_i.mp z.2; omega), fun c2 => st (y_spc_i.mpr (Or.inr c2))⟩⟩⟩
  exact spaces (n - p).toNat J p (by omega) (Int.le_refl _) x_f4.rf hp hs9
end Q22
