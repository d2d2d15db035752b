/-! words and numbers (written by wip/whole/gen990.py) -/
def y_vv (t : Int → Int) (n p : Int) : Int := y_nv t (y_s t n p) (y_e9 t n p - y_s t n p).toNat
def y_nc (t : Int → Int) (n p lo hi : Int) : Int := if y_k t n p = 2 then (if lo ≤ y_vv t n p ∧ y_vv t n p ≤ hi then 0 else 2) else 1
def y_sc (t : Int → Int) (n p : Int) : Int := if y_k t n p = 3 then 0 else 1
theorem y_tok_b {t : Int → Int} {n p : Int} (h : p ≤ n) : p ≤ y_s t n p ∧ y_s t n p ≤ y_e9 t n p ∧ y_e9 t n p ≤ n ∧ (y_k t n p ≠ 0 → y_s t n p < y_e9 t n p) ∧ (y_k t n p = 0 ∨ y_k t n p = 1 ∨ y_k t n p = 2 ∨ y_k t n p = 3 ∨ y_k t n p = 4) := by
  have b1 := y_end_b (g := y_spc) (t := t) (n := n) (p := p)
  have b2 := y_end_b (g := y_lt) (t := t) (n := n) (p := y_s t n p)
  have b3 := y_end_b (g := y_dg) (t := t) (n := n) (p := y_s t n p)
  have l1 := y_end_s (g := y_lt) (t := t) (n := n) (p := y_s t n p)
  have l2 := y_end_s (g := y_dg) (t := t) (n := n) (p := y_s t n p)
  have c1 := y_end_b (g := y_lt) (t := t) (n := n) (p := y_s t n p + 1)
  have c2 := y_end_b (g := y_dg) (t := t) (n := n) (p := y_s t n p + 1)
  have e1 : y_s t n p = y_end y_spc t n p := rfl
  unfold y_e9 y_k
  generalize y_s t n p = s at *
  by_cases h0 : n ≤ s
  · rw [if_pos h0, if_pos h0]; omega
  · rw [if_neg h0, if_neg h0]
    by_cases h1 : y_lt (t s) = true
    · rw [if_pos ⟨by omega, h1⟩] at l1
      rw [if_pos h1, if_pos h1]
      split <;> omega
    · rw [if_neg h1, if_neg h1]
      by_cases h2 : y_dg (t s) = true
      · rw [if_pos ⟨by omega, h2⟩] at l2
        rw [if_pos h2, if_pos h2]
        split <;> omega
      · rw [if_neg h2, if_neg h2]
        split <;> omega
/-- a word's letters -/
theorem y_tok_l {t : Int → Int} {n p : Int} (h : y_k t n p = 1) : y_e9 t n p - y_s t n p ≤ 10 ∧ ∀ j, y_s t n p ≤ j → j < y_e9 t n p → 97 ≤ t j ∧ t j ≤ 122 := by
  unfold y_k at h
  unfold y_e9
  generalize y_s t n p = s at *
  by_cases h0 : n ≤ s
  · rw [if_pos h0] at h; omega
  · rw [if_neg h0] at h ⊢
    by_cases h1 : y_lt (t s) = true
    · rw [if_pos h1] at h ⊢
      by_cases h3 : y_end y_lt t n s - s ≤ 10
      · exact ⟨h3, fun j a b => y_lt_i.mp (y_end_in a b)⟩
      · rw [if_neg h3] at h; omega
    · rw [if_neg h1] at h
      by_cases h2 : y_dg (t s) = true
      · rw [if_pos h2] at h
        split at h <;> omega
      · rw [if_neg h2] at h
        split at h <;> omega
theorem y_tok_n {t : Int → Int} {n p : Int} (h : y_k t n p = 2) : 0 ≤ y_vv t n p ∧ y_vv t n p < 100000 := by
  have key : y_e9 t n p - y_s t n p ≤ 5 ∧ ∀ j, y_s t n p ≤ j → j < y_e9 t n p → 48 ≤ t j ∧ t j ≤ 57 := by
    unfold y_k at h
    unfold y_e9
    generalize y_s t n p = s at *
    by_cases h0 : n ≤ s
    · rw [if_pos h0] at h; omega
    · rw [if_neg h0] at h ⊢
      by_cases h1 : y_lt (t s) = true
      · rw [if_pos h1] at h
        split at h <;> omega
      · rw [if_neg h1] at h ⊢
        by_cases h2 : y_dg (t s) = true
        · rw [if_pos h2] at h ⊢
          by_cases h3 : y_end y_dg t n s - s ≤ 5
          · exact ⟨h3, fun j a b => y_dg_i.mp (y_end_in a b)⟩
          · rw [if_neg h3] at h; omega
        · rw [if_neg h2] at h
          split at h <;> omega
  have b := y_nv_b (t := t) (s := y_s t n p) (y_e9 t n p - y_s t n p).toNat (by omega) (fun j hj => key.2 _ (by omega) (by omega))
  have p10 := y_p10 (k := (y_e9 t n p - y_s t n p).toNat) (by omega)
  unfold y_vv
  omega
theorem y_wv_cons {t : Int → Int} {s V d : Int} : ∀ {k : Nat}, (∀ j : Nat, j < k → 97 ≤ t (s + j) ∧ t (s + j) ≤ 122) → y_wv t s k = V * 32 + d → 1 ≤ d → d ≤ 26 → 0 ≤ V → ∃ k', k = k' + 1 ∧ t (s + (k' : Nat)) = d + 96 ∧ y_wv t s k' = V
  | 0, _, h, h1, h2, h3 => by
    have h : (0 : Int) = V * 32 + d := h
    omega
  | k + 1, hl, h, h1, h2, h3 => by
    have b := hl k (by omega)
    rw [y_wv] at h
    exact ⟨k, rfl, by omega, by omega⟩
theorem y_wv_nil {t : Int → Int} {s : Int} : ∀ {k : Nat}, k ≤ 10 → (∀ j : Nat, j < k → 97 ≤ t (s + j) ∧ t (s + j) ≤ 122) → y_wv t s k = 0 → k = 0
  | 0, _, _, _ => rfl
  | k + 1, hk, hl, h => by
    have b := hl k (by omega)
    have c := y_wv_b (t := t) (s := s) k (by omega) (fun j hj => hl j (by omega))
    rw [y_wv] at h
    omega
def y_w0 (t : Int → Int) (n p : Int) : Bool := decide (y_k t n p = 1 ∧ y_e9 t n p - y_s t n p = 4 ∧ t (y_s t n p + 0) = 114 ∧ t (y_s t n p + 1) = 105 ∧ t (y_s t n p + 2) = 100 ∧ t (y_s t n p + 3) = 101)
theorem y_w0_v {t : Int → Int} {n p : Int} : y_w0 t n p = true ↔ y_k t n p = 1 ∧ y_wv t (y_s t n p) (y_e9 t n p - y_s t n p).toNat = 599173 := by
  unfold y_w0
  rw [decide_eq_true_eq]
  constructor
  · rintro ⟨h, he, h0, h1, h2, h3⟩
    refine ⟨h, ?_⟩
    generalize y_s t n p = s at *
    rw [show (y_e9 t n p - s).toNat = 4 by omega]
    simp only [y_wv]
    have g0 : t (s + ((0 : Nat) : Int)) = 114 := h0
    have g1 : t (s + ((1 : Nat) : Int)) = 105 := h1
    have g2 : t (s + ((2 : Nat) : Int)) = 100 := h2
    have g3 : t (s + ((3 : Nat) : Int)) = 101 := h3
    rw [g0, g1, g2, g3]
    decide
  · rintro ⟨h, hv⟩
    obtain ⟨l10, lt⟩ := y_tok_l h
    refine ⟨h, ?_⟩
    generalize y_s t n p = s at *
    have hl : ∀ j : Nat, j < (y_e9 t n p - s).toNat → 97 ≤ t (s + j) ∧ t (s + j) ≤ 122 := fun j hj => lt _ (by omega) (by omega)
    have k10 : (y_e9 t n p - s).toNat ≤ 10 := by omega
    have ke : ((y_e9 t n p - s).toNat : Int) = y_e9 t n p - s ∨ y_e9 t n p - s < 0 := by omega
    generalize hK : (y_e9 t n p - s).toNat = K0 at *
    obtain ⟨K1, e1, a1, v1⟩ := y_wv_cons (V := 18724) (d := 5) (fun j hj => hl j (by omega)) hv (by decide) (by decide) (by decide)
    obtain ⟨K2, e2, a2, v2⟩ := y_wv_cons (V := 585) (d := 4) (fun j hj => hl j (by omega)) v1 (by decide) (by decide) (by decide)
    obtain ⟨K3, e3, a3, v3⟩ := y_wv_cons (V := 18) (d := 9) (fun j hj => hl j (by omega)) v2 (by decide) (by decide) (by decide)
    obtain ⟨K4, e4, a4, v4⟩ := y_wv_cons (V := 0) (d := 18) (fun j hj => hl j (by omega)) v3 (by decide) (by decide) (by decide)
    have z := y_wv_nil (by omega) (fun j hj => hl j (by omega)) v4
    subst z
    subst e4 e3 e2 e1
    exact ⟨by omega, a4, a3, a2, a1⟩
def y_w1 (t : Int → Int) (n p : Int) : Bool := decide (y_k t n p = 1 ∧ y_e9 t n p - y_s t n p = 4 ∧ t (y_s t n p + 0) = 116 ∧ t (y_s t n p + 1) = 105 ∧ t (y_s t n p + 2) = 101 ∧ t (y_s t n p + 3) = 114)
theorem y_w1_v {t : Int → Int} {n p : Int} : y_w1 t n p = true ↔ y_k t n p = 1 ∧ y_wv t (y_s t n p) (y_e9 t n p - y_s t n p).toNat = 664754 := by
  unfold y_w1
  rw [decide_eq_true_eq]
  constructor
  · rintro ⟨h, he, h0, h1, h2, h3⟩
    refine ⟨h, ?_⟩
    generalize y_s t n p = s at *
    rw [show (y_e9 t n p - s).toNat = 4 by omega]
    simp only [y_wv]
    have g0 : t (s + ((0 : Nat) : Int)) = 116 := h0
    have g1 : t (s + ((1 : Nat) : Int)) = 105 := h1
    have g2 : t (s + ((2 : Nat) : Int)) = 101 := h2
    have g3 : t (s + ((3 : Nat) : Int)) = 114 := h3
    rw [g0, g1, g2, g3]
    decide
  · rintro ⟨h, hv⟩
    obtain ⟨l10, lt⟩ := y_tok_l h
    refine ⟨h, ?_⟩
    generalize y_s t n p = s at *
    have hl : ∀ j : Nat, j < (y_e9 t n p - s).toNat → 97 ≤ t (s + j) ∧ t (s + j) ≤ 122 := fun j hj => lt _ (by omega) (by omega)
    have k10 : (y_e9 t n p - s).toNat ≤ 10 := by omega
    have ke : ((y_e9 t n p - s).toNat : Int) = y_e9 t n p - s ∨ y_e9 t n p - s < 0 := by omega
    generalize hK : (y_e9 t n p - s).toNat = K0 at *
    obtain ⟨K1, e1, a1, v1⟩ := y_wv_cons (V := 20773) (d := 18) (fun j hj => hl j (by omega)) hv (by decide) (by decide) (by decide)
    obtain ⟨K2, e2, a2, v2⟩ := y_wv_cons (V := 649) (d := 5) (fun j hj => hl j (by omega)) v1 (by decide) (by decide) (by decide)
    obtain ⟨K3, e3, a3, v3⟩ := y_wv_cons (V := 20) (d := 9) (fun j hj => hl j (by omega)) v2 (by decide) (by decide) (by decide)
    obtain ⟨K4, e4, a4, v4⟩ := y_wv_cons (V := 0) (d := 20) (fun j hj => hl j (by omega)) v3 (by decide) (by decide) (by decide)
    have z := y_wv_nil (by omega) (fun j hj => hl j (by omega)) v4
    subst z
    subst e4 e3 e2 e1
    exact ⟨by omega, a4, a3, a2, a1⟩
def y_w2 (t : Int → Int) (n p : Int) : Bool := decide (y_k t n p = 1 ∧ y_e9 t n p - y_s t n p = 5 ∧ t (y_s t n p + 0) = 112 ∧ t (y_s t n p + 1) = 97 ∧ t (y_s t n p + 2) = 114 ∧ t (y_s t n p + 3) = 116 ∧ t (y_s t n p + 4) = 121)
theorem y_w2_v {t : Int → Int} {n p : Int} : y_w2 t n p = true ↔ y_k t n p = 1 ∧ y_wv t (y_s t n p) (y_e9 t n p - y_s t n p).toNat = 16829081 := by
  unfold y_w2
  rw [decide_eq_true_eq]
  constructor
  · rintro ⟨h, he, h0, h1, h2, h3, h4⟩
    refine ⟨h, ?_⟩
    generalize y_s t n p = s at *
    rw [show (y_e9 t n p - s).toNat = 5 by omega]
    simp only [y_wv]
    have g0 : t (s + ((0 : Nat) : Int)) = 112 := h0
    have g1 : t (s + ((1 : Nat) : Int)) = 97 := h1
    have g2 : t (s + ((2 : Nat) : Int)) = 114 := h2
    have g3 : t (s + ((3 : Nat) : Int)) = 116 := h3
    have g4 : t (s + ((4 : Nat) : Int)) = 121 := h4
    rw [g0, g1, g2, g3, g4]
    decide
  · rintro ⟨h, hv⟩
    obtain ⟨l10, lt⟩ := y_tok_l h
    refine ⟨h, ?_⟩
    generalize y_s t n p = s at *
    have hl : ∀ j : Nat, j < (y_e9 t n p - s).toNat → 97 ≤ t (s + j) ∧ t (s + j) ≤ 122 := fun j hj => lt _ (by omega) (by omega)
    have k10 : (y_e9 t n p - s).toNat ≤ 10 := by omega
    have ke : ((y_e9 t n p - s).toNat : Int) = y_e9 t n p - s ∨ y_e9 t n p - s < 0 := by omega
    generalize hK : (y_e9 t n p - s).toNat = K0 at *
    obtain ⟨K1, e1, a1, v1⟩ := y_wv_cons (V := 525908) (d := 25) (fun j hj => hl j (by omega)) hv (by decide) (by decide) (by decide)
    obtain ⟨K2, e2, a2, v2⟩ := y_wv_cons (V := 16434) (d := 20) (fun j hj => hl j (by omega)) v1 (by decide) (by decide) (by decide)
    obtain ⟨K3, e3, a3, v3⟩ := y_wv_cons (V := 513) (d := 18) (fun j hj => hl j (by omega)) v2 (by decide) (by decide) (by decide)
    obtain ⟨K4, e4, a4, v4⟩ := y_wv_cons (V := 16) (d := 1) (fun j hj => hl j (by omega)) v3 (by decide) (by decide) (by decide)
    obtain ⟨K5, e5, a5, v5⟩ := y_wv_cons (V := 0) (d := 16) (fun j hj => hl j (by omega)) v4 (by decide) (by decide) (by decide)
    have z := y_wv_nil (by omega) (fun j hj => hl j (by omega)) v5
    subst z
    subst e5 e4 e3 e2 e1
    exact ⟨by omega, a5, a4, a3, a2, a1⟩
def y_w3 (t : Int → Int) (n p : Int) : Bool := decide (y_k t n p = 1 ∧ y_e9 t n p - y_s t n p = 9 ∧ t (y_s t n p + 0) = 101 ∧ t (y_s t n p + 1) = 120 ∧ t (y_s t n p + 2) = 116 ∧ t (y_s t n p + 3) = 101 ∧ t (y_s t n p + 4) = 110 ∧ t (y_s t n p + 5) = 115 ∧ t (y_s t n p + 6) = 105 ∧ t (y_s t n p + 7) = 111 ∧ t (y_s t n p + 8) = 110)
theorem y_w3_v {t : Int → Int} {n p : Int} : y_w3 t n p = true ↔ y_k t n p = 1 ∧ y_wv t (y_s t n p) (y_e9 t n p - y_s t n p).toNat = 6343849780718 := by
  unfold y_w3
  rw [decide_eq_true_eq]
  constructor
  · rintro ⟨h, he, h0, h1, h2, h3, h4, h5, h6, h7, h8⟩
    refine ⟨h, ?_⟩
    generalize y_s t n p = s at *
    rw [show (y_e9 t n p - s).toNat = 9 by omega]
    simp only [y_wv]
    have g0 : t (s + ((0 : Nat) : Int)) = 101 := h0
    have g1 : t (s + ((1 : Nat) : Int)) = 120 := h1
    have g2 : t (s + ((2 : Nat) : Int)) = 116 := h2
    have g3 : t (s + ((3 : Nat) : Int)) = 101 := h3
    have g4 : t (s + ((4 : Nat) : Int)) = 110 := h4
    have g5 : t (s + ((5 : Nat) : Int)) = 115 := h5
    have g6 : t (s + ((6 : Nat) : Int)) = 105 := h6
    have g7 : t (s + ((7 : Nat) : Int)) = 111 := h7
    have g8 : t (s + ((8 : Nat) : Int)) = 110 := h8
    rw [g0, g1, g2, g3, g4, g5, g6, g7, g8]
    decide
  · rintro ⟨h, hv⟩
    obtain ⟨l10, lt⟩ := y_tok_l h
    refine ⟨h, ?_⟩
    generalize y_s t n p = s at *
    have hl : ∀ j : Nat, j < (y_e9 t n p - s).toNat → 97 ≤ t (s + j) ∧ t (s + j) ≤ 122 := fun j hj => lt _ (by omega) (by omega)
    have k10 : (y_e9 t n p - s).toNat ≤ 10 := by omega
    have ke : ((y_e9 t n p - s).toNat : Int) = y_e9 t n p - s ∨ y_e9 t n p - s < 0 := by omega
    generalize hK : (y_e9 t n p - s).toNat = K0 at *
    obtain ⟨K1, e1, a1, v1⟩ := y_wv_cons (V := 198245305647) (d := 14) (fun j hj => hl j (by omega)) hv (by decide) (by decide) (by decide)
    obtain ⟨K2, e2, a2, v2⟩ := y_wv_cons (V := 6195165801) (d := 15) (fun j hj => hl j (by omega)) v1 (by decide) (by decide) (by decide)
    obtain ⟨K3, e3, a3, v3⟩ := y_wv_cons (V := 193598931) (d := 9) (fun j hj => hl j (by omega)) v2 (by decide) (by decide) (by decide)
    obtain ⟨K4, e4, a4, v4⟩ := y_wv_cons (V := 6049966) (d := 19) (fun j hj => hl j (by omega)) v3 (by decide) (by decide) (by decide)
    obtain ⟨K5, e5, a5, v5⟩ := y_wv_cons (V := 189061) (d := 14) (fun j hj => hl j (by omega)) v4 (by decide) (by decide) (by decide)
    obtain ⟨K6, e6, a6, v6⟩ := y_wv_cons (V := 5908) (d := 5) (fun j hj => hl j (by omega)) v5 (by decide) (by decide) (by decide)
    obtain ⟨K7, e7, a7, v7⟩ := y_wv_cons (V := 184) (d := 20) (fun j hj => hl j (by omega)) v6 (by decide) (by decide) (by decide)
    obtain ⟨K8, e8, a8, v8⟩ := y_wv_cons (V := 5) (d := 24) (fun j hj => hl j (by omega)) v7 (by decide) (by decide) (by decide)
    obtain ⟨K9, e9, a9, v9⟩ := y_wv_cons (V := 0) (d := 5) (fun j hj => hl j (by omega)) v8 (by decide) (by decide) (by decide)
    have z := y_wv_nil (by omega) (fun j hj => hl j (by omega)) v9
    subst z
    subst e9 e8 e7 e6 e5 e4 e3 e2 e1
    exact ⟨by omega, a9, a8, a7, a6, a5, a4, a3, a2, a1⟩
def y_w4 (t : Int → Int) (n p : Int) : Bool := decide (y_k t n p = 1 ∧ y_e9 t n p - y_s t n p = 2 ∧ t (y_s t n p + 0) = 97 ∧ t (y_s t n p + 1) = 116)
theorem y_w4_v {t : Int → Int} {n p : Int} : y_w4 t n p = true ↔ y_k t n p = 1 ∧ y_wv t (y_s t n p) (y_e9 t n p - y_s t n p).toNat = 52 := by
  unfold y_w4
  rw [decide_eq_true_eq]
  constructor
  · rintro ⟨h, he, h0, h1⟩
    refine ⟨h, ?_⟩
    generalize y_s t n p = s at *
    rw [show (y_e9 t n p - s).toNat = 2 by omega]
    simp only [y_wv]
    have g0 : t (s + ((0 : Nat) : Int)) = 97 := h0
    have g1 : t (s + ((1 : Nat) : Int)) = 116 := h1
    rw [g0, g1]
    decide
  · rintro ⟨h, hv⟩
    obtain ⟨l10, lt⟩ := y_tok_l h
    refine ⟨h, ?_⟩
    generalize y_s t n p = s at *
    have hl : ∀ j : Nat, j < (y_e9 t n p - s).toNat → 97 ≤ t (s + j) ∧ t (s + j) ≤ 122 := fun j hj => lt _ (by omega) (by omega)
    have k10 : (y_e9 t n p - s).toNat ≤ 10 := by omega
    have ke : ((y_e9 t n p - s).toNat : Int) = y_e9 t n p - s ∨ y_e9 t n p - s < 0 := by omega
    generalize hK : (y_e9 t n p - s).toNat = K0 at *
    obtain ⟨K1, e1, a1, v1⟩ := y_wv_cons (V := 1) (d := 20) (fun j hj => hl j (by omega)) hv (by decide) (by decide) (by decide)
    obtain ⟨K2, e2, a2, v2⟩ := y_wv_cons (V := 0) (d := 1) (fun j hj => hl j (by omega)) v1 (by decide) (by decide) (by decide)
    have z := y_wv_nil (by omega) (fun j hj => hl j (by omega)) v2
    subst z
    subst e2 e1
    exact ⟨by omega, a2, a1⟩
def y_w5 (t : Int → Int) (n p : Int) : Bool := decide (y_k t n p = 1 ∧ y_e9 t n p - y_s t n p = 5 ∧ t (y_s t n p + 0) = 105 ∧ t (y_s t n p + 1) = 115 ∧ t (y_s t n p + 2) = 115 ∧ t (y_s t n p + 3) = 117 ∧ t (y_s t n p + 4) = 101)
theorem y_w5_v {t : Int → Int} {n p : Int} : y_w5 t n p = true ↔ y_k t n p = 1 ∧ y_wv t (y_s t n p) (y_e9 t n p - y_s t n p).toNat = 10079909 := by
  unfold y_w5
  rw [decide_eq_true_eq]
  constructor
  · rintro ⟨h, he, h0, h1, h2, h3, h4⟩
    refine ⟨h, ?_⟩
    generalize y_s t n p = s at *
    rw [show (y_e9 t n p - s).toNat = 5 by omega]
    simp only [y_wv]
    have g0 : t (s + ((0 : Nat) : Int)) = 105 := h0
    have g1 : t (s + ((1 : Nat) : Int)) = 115 := h1
    have g2 : t (s + ((2 : Nat) : Int)) = 115 := h2
    have g3 : t (s + ((3 : Nat) : Int)) = 117 := h3
    have g4 : t (s + ((4 : Nat) : Int)) = 101 := h4
    rw [g0, g1, g2, g3, g4]
    decide
  · rintro ⟨h, hv⟩
    obtain ⟨l10, lt⟩ := y_tok_l h
    refine ⟨h, ?_⟩
    generalize y_s t n p = s at *
    have hl : ∀ j : Nat, j < (y_e9 t n p - s).toNat → 97 ≤ t (s + j) ∧ t (s + j) ≤ 122 := fun j hj => lt _ (by omega) (by omega)
    have k10 : (y_e9 t n p - s).toNat ≤ 10 := by omega
    have ke : ((y_e9 t n p - s).toNat : Int) = y_e9 t n p - s ∨ y_e9 t n p - s < 0 := by omega
    generalize hK : (y_e9 t n p - s).toNat = K0 at *
    obtain ⟨K1, e1, a1, v1⟩ := y_wv_cons (V := 314997) (d := 5) (fun j hj => hl j (by omega)) hv (by decide) (by decide) (by decide)
    obtain ⟨K2, e2, a2, v2⟩ := y_wv_cons (V := 9843) (d := 21) (fun j hj => hl j (by omega)) v1 (by decide) (by decide) (by decide)
    obtain ⟨K3, e3, a3, v3⟩ := y_wv_cons (V := 307) (d := 19) (fun j hj => hl j (by omega)) v2 (by decide) (by decide) (by decide)
    obtain ⟨K4, e4, a4, v4⟩ := y_wv_cons (V := 9) (d := 19) (fun j hj => hl j (by omega)) v3 (by decide) (by decide) (by decide)
    obtain ⟨K5, e5, a5, v5⟩ := y_wv_cons (V := 0) (d := 9) (fun j hj => hl j (by omega)) v4 (by decide) (by decide) (by decide)
    have z := y_wv_nil (by omega) (fun j hj => hl j (by omega)) v5
    subst z
    subst e5 e4 e3 e2 e1
    exact ⟨by omega, a5, a4, a3, a2, a1⟩
def y_w6 (t : Int → Int) (n p : Int) : Bool := decide (y_k t n p = 1 ∧ y_e9 t n p - y_s t n p = 6 ∧ t (y_s t n p + 0) = 114 ∧ t (y_s t n p + 1) = 101 ∧ t (y_s t n p + 2) = 100 ∧ t (y_s t n p + 3) = 101 ∧ t (y_s t n p + 4) = 101 ∧ t (y_s t n p + 5) = 109)
theorem y_w6_v {t : Int → Int} {n p : Int} : y_w6 t n p = true ↔ y_k t n p = 1 ∧ y_wv t (y_s t n p) (y_e9 t n p - y_s t n p).toNat = 609359021 := by
  unfold y_w6
  rw [decide_eq_true_eq]
  constructor
  · rintro ⟨h, he, h0, h1, h2, h3, h4, h5⟩
    refine ⟨h, ?_⟩
    generalize y_s t n p = s at *
    rw [show (y_e9 t n p - s).toNat = 6 by omega]
    simp only [y_wv]
    have g0 : t (s + ((0 : Nat) : Int)) = 114 := h0
    have g1 : t (s + ((1 : Nat) : Int)) = 101 := h1
    have g2 : t (s + ((2 : Nat) : Int)) = 100 := h2
    have g3 : t (s + ((3 : Nat) : Int)) = 101 := h3
    have g4 : t (s + ((4 : Nat) : Int)) = 101 := h4
    have g5 : t (s + ((5 : Nat) : Int)) = 109 := h5
    rw [g0, g1, g2, g3, g4, g5]
    decide
  · rintro ⟨h, hv⟩
    obtain ⟨l10, lt⟩ := y_tok_l h
    refine ⟨h, ?_⟩
    generalize y_s t n p = s at *
    have hl : ∀ j : Nat, j < (y_e9 t n p - s).toNat → 97 ≤ t (s + j) ∧ t (s + j) ≤ 122 := fun j hj => lt _ (by omega) (by omega)
    have k10 : (y_e9 t n p - s).toNat ≤ 10 := by omega
    have ke : ((y_e9 t n p - s).toNat : Int) = y_e9 t n p - s ∨ y_e9 t n p - s < 0 := by omega
    generalize hK : (y_e9 t n p - s).toNat = K0 at *
    obtain ⟨K1, e1, a1, v1⟩ := y_wv_cons (V := 19042469) (d := 13) (fun j hj => hl j (by omega)) hv (by decide) (by decide) (by decide)
    obtain ⟨K2, e2, a2, v2⟩ := y_wv_cons (V := 595077) (d := 5) (fun j hj => hl j (by omega)) v1 (by decide) (by decide) (by decide)
    obtain ⟨K3, e3, a3, v3⟩ := y_wv_cons (V := 18596) (d := 5) (fun j hj => hl j (by omega)) v2 (by decide) (by decide) (by decide)
    obtain ⟨K4, e4, a4, v4⟩ := y_wv_cons (V := 581) (d := 4) (fun j hj => hl j (by omega)) v3 (by decide) (by decide) (by decide)
    obtain ⟨K5, e5, a5, v5⟩ := y_wv_cons (V := 18) (d := 5) (fun j hj => hl j (by omega)) v4 (by decide) (by decide) (by decide)
    obtain ⟨K6, e6, a6, v6⟩ := y_wv_cons (V := 0) (d := 18) (fun j hj => hl j (by omega)) v5 (by decide) (by decide) (by decide)
    have z := y_wv_nil (by omega) (fun j hj => hl j (by omega)) v6
    subst z
    subst e6 e5 e4 e3 e2 e1
    exact ⟨by omega, a6, a5, a4, a3, a2, a1⟩
def y_w7 (t : Int → Int) (n p : Int) : Bool := decide (y_k t n p = 1 ∧ y_e9 t n p - y_s t n p = 6 ∧ t (y_s t n p + 0) = 99 ∧ t (y_s t n p + 1) = 97 ∧ t (y_s t n p + 2) = 110 ∧ t (y_s t n p + 3) = 99 ∧ t (y_s t n p + 4) = 101 ∧ t (y_s t n p + 5) = 108)
theorem y_w7_v {t : Int → Int} {n p : Int} : y_w7 t n p = true ↔ y_k t n p = 1 ∧ y_wv t (y_s t n p) (y_e9 t n p - y_s t n p).toNat = 102173868 := by
  unfold y_w7
  rw [decide_eq_true_eq]
  constructor
  · rintro ⟨h, he, h0, h1, h2, h3, h4, h5⟩
    refine ⟨h, ?_⟩
    generalize y_s t n p = s at *
    rw [show (y_e9 t n p - s).toNat = 6 by omega]
    simp only [y_wv]
    have g0 : t (s + ((0 : Nat) : Int)) = 99 := h0
    have g1 : t (s + ((1 : Nat) : Int)) = 97 := h1
    have g2 : t (s + ((2 : Nat) : Int)) = 110 := h2
    have g3 : t (s + ((3 : Nat) : Int)) = 99 := h3
    have g4 : t (s + ((4 : Nat) : Int)) = 101 := h4
    have g5 : t (s + ((5 : Nat) : Int)) = 108 := h5
    rw [g0, g1, g2, g3, g4, g5]
    decide
  · rintro ⟨h, hv⟩
    obtain ⟨l10, lt⟩ := y_tok_l h
    refine ⟨h, ?_⟩
    generalize y_s t n p = s at *
    have hl : ∀ j : Nat, j < (y_e9 t n p - s).toNat → 97 ≤ t (s + j) ∧ t (s + j) ≤ 122 := fun j hj => lt _ (by omega) (by omega)
    have k10 : (y_e9 t n p - s).toNat ≤ 10 := by omega
    have ke : ((y_e9 t n p - s).toNat : Int) = y_e9 t n p - s ∨ y_e9 t n p - s < 0 := by omega
    generalize hK : (y_e9 t n p - s).toNat = K0 at *
    obtain ⟨K1, e1, a1, v1⟩ := y_wv_cons (V := 3192933) (d := 12) (fun j hj => hl j (by omega)) hv (by decide) (by decide) (by decide)
    obtain ⟨K2, e2, a2, v2⟩ := y_wv_cons (V := 99779) (d := 5) (fun j hj => hl j (by omega)) v1 (by decide) (by decide) (by decide)
    obtain ⟨K3, e3, a3, v3⟩ := y_wv_cons (V := 3118) (d := 3) (fun j hj => hl j (by omega)) v2 (by decide) (by decide) (by decide)
    obtain ⟨K4, e4, a4, v4⟩ := y_wv_cons (V := 97) (d := 14) (fun j hj => hl j (by omega)) v3 (by decide) (by decide) (by decide)
    obtain ⟨K5, e5, a5, v5⟩ := y_wv_cons (V := 3) (d := 1) (fun j hj => hl j (by omega)) v4 (by decide) (by decide) (by decide)
    obtain ⟨K6, e6, a6, v6⟩ := y_wv_cons (V := 0) (d := 3) (fun j hj => hl j (by omega)) v5 (by decide) (by decide) (by decide)
    have z := y_wv_nil (by omega) (fun j hj => hl j (by omega)) v6
    subst z
    subst e6 e5 e4 e3 e2 e1
    exact ⟨by omega, a6, a5, a4, a3, a2, a1⟩
def y_w8 (t : Int → Int) (n p : Int) : Bool := decide (y_k t n p = 1 ∧ y_e9 t n p - y_s t n p = 4 ∧ t (y_s t n p + 0) = 119 ∧ t (y_s t n p + 1) = 97 ∧ t (y_s t n p + 2) = 105 ∧ t (y_s t n p + 3) = 116)
theorem y_w8_v {t : Int → Int} {n p : Int} : y_w8 t n p = true ↔ y_k t n p = 1 ∧ y_wv t (y_s t n p) (y_e9 t n p - y_s t n p).toNat = 754996 := by
  unfold y_w8
  rw [decide_eq_true_eq]
  constructor
  · rintro ⟨h, he, h0, h1, h2, h3⟩
    refine ⟨h, ?_⟩
    generalize y_s t n p = s at *
    rw [show (y_e9 t n p - s).toNat = 4 by omega]
    simp only [y_wv]
    have g0 : t (s + ((0 : Nat) : Int)) = 119 := h0
    have g1 : t (s + ((1 : Nat) : Int)) = 97 := h1
    have g2 : t (s + ((2 : Nat) : Int)) = 105 := h2
    have g3 : t (s + ((3 : Nat) : Int)) = 116 := h3
    rw [g0, g1, g2, g3]
    decide
  · rintro ⟨h, hv⟩
    obtain ⟨l10, lt⟩ := y_tok_l h
    refine ⟨h, ?_⟩
    generalize y_s t n p = s at *
    have hl : ∀ j : Nat, j < (y_e9 t n p - s).toNat → 97 ≤ t (s + j) ∧ t (s + j) ≤ 122 := fun j hj => lt _ (by omega) (by omega)
    have k10 : (y_e9 t n p - s).toNat ≤ 10 := by omega
    have ke : ((y_e9 t n p - s).toNat : Int) = y_e9 t n p - s ∨ y_e9 t n p - s < 0 := by omega
    generalize hK : (y_e9 t n p - s).toNat = K0 at *
    obtain ⟨K1, e1, a1, v1⟩ := y_wv_cons (V := 23593) (d := 20) (fun j hj => hl j (by omega)) hv (by decide) (by decide) (by decide)
    obtain ⟨K2, e2, a2, v2⟩ := y_wv_cons (V := 737) (d := 9) (fun j hj => hl j (by omega)) v1 (by decide) (by decide) (by decide)
    obtain ⟨K3, e3, a3, v3⟩ := y_wv_cons (V := 23) (d := 1) (fun j hj => hl j (by omega)) v2 (by decide) (by decide) (by decide)
    obtain ⟨K4, e4, a4, v4⟩ := y_wv_cons (V := 0) (d := 23) (fun j hj => hl j (by omega)) v3 (by decide) (by decide) (by decide)
    have z := y_wv_nil (by omega) (fun j hj => hl j (by omega)) v4
    subst z
    subst e4 e3 e2 e1
    exact ⟨by omega, a4, a3, a2, a1⟩
def y_w9 (t : Int → Int) (n p : Int) : Bool := decide (y_k t n p = 1 ∧ y_e9 t n p - y_s t n p = 7 ∧ t (y_s t n p + 0) = 115 ∧ t (y_s t n p + 1) = 116 ∧ t (y_s t n p + 2) = 97 ∧ t (y_s t n p + 3) = 110 ∧ t (y_s t n p + 4) = 100 ∧ t (y_s t n p + 5) = 98 ∧ t (y_s t n p + 6) = 121)
theorem y_w9_v {t : Int → Int} {n p : Int} : y_w9 t n p = true ↔ y_k t n p = 1 ∧ y_wv t (y_s t n p) (y_e9 t n p - y_s t n p).toNat = 21073694809 := by
  unfold y_w9
  rw [decide_eq_true_eq]
  constructor
  · rintro ⟨h, he, h0, h1, h2, h3, h4, h5, h6⟩
    refine ⟨h, ?_⟩
    generalize y_s t n p = s at *
    rw [show (y_e9 t n p - s).toNat = 7 by omega]
    simp only [y_wv]
    have g0 : t (s + ((0 : Nat) : Int)) = 115 := h0
    have g1 : t (s + ((1 : Nat) : Int)) = 116 := h1
    have g2 : t (s + ((2 : Nat) : Int)) = 97 := h2
    have g3 : t (s + ((3 : Nat) : Int)) = 110 := h3
    have g4 : t (s + ((4 : Nat) : Int)) = 100 := h4
    have g5 : t (s + ((5 : Nat) : Int)) = 98 := h5
    have g6 : t (s + ((6 : Nat) : Int)) = 121 := h6
    rw [g0, g1, g2, g3, g4, g5, g6]
    decide
  · rintro ⟨h, hv⟩
    obtain ⟨l10, lt⟩ := y_tok_l h
    refine ⟨h, ?_⟩
    generalize y_s t n p = s at *
    have hl : ∀ j : Nat, j < (y_e9 t n p - s).toNat → 97 ≤ t (s + j) ∧ t (s + j) ≤ 122 := fun j hj => lt _ (by omega) (by omega)
    have k10 : (y_e9 t n p - s).toNat ≤ 10 := by omega
    have ke : ((y_e9 t n p - s).toNat : Int) = y_e9 t n p - s ∨ y_e9 t n p - s < 0 := by omega
    generalize hK : (y_e9 t n p - s).toNat = K0 at *
    obtain ⟨K1, e1, a1, v1⟩ := y_wv_cons (V := 658552962) (d := 25) (fun j hj => hl j (by omega)) hv (by decide) (by decide) (by decide)
    obtain ⟨K2, e2, a2, v2⟩ := y_wv_cons (V := 20579780) (d := 2) (fun j hj => hl j (by omega)) v1 (by decide) (by decide) (by decide)
    obtain ⟨K3, e3, a3, v3⟩ := y_wv_cons (V := 643118) (d := 4) (fun j hj => hl j (by omega)) v2 (by decide) (by decide) (by decide)
    obtain ⟨K4, e4, a4, v4⟩ := y_wv_cons (V := 20097) (d := 14) (fun j hj => hl j (by omega)) v3 (by decide) (by decide) (by decide)
    obtain ⟨K5, e5, a5, v5⟩ := y_wv_cons (V := 628) (d := 1) (fun j hj => hl j (by omega)) v4 (by decide) (by decide) (by decide)
    obtain ⟨K6, e6, a6, v6⟩ := y_wv_cons (V := 19) (d := 20) (fun j hj => hl j (by omega)) v5 (by decide) (by decide) (by decide)
    obtain ⟨K7, e7, a7, v7⟩ := y_wv_cons (V := 0) (d := 19) (fun j hj => hl j (by omega)) v6 (by decide) (by decide) (by decide)
    have z := y_wv_nil (by omega) (fun j hj => hl j (by omega)) v7
    subst z
    subst e7 e6 e5 e4 e3 e2 e1
    exact ⟨by omega, a7, a6, a5, a4, a3, a2, a1⟩
def y_w10 (t : Int → Int) (n p : Int) : Bool := decide (y_k t n p = 1 ∧ y_e9 t n p - y_s t n p = 5 ∧ t (y_s t n p + 0) = 98 ∧ t (y_s t n p + 1) = 114 ∧ t (y_s t n p + 2) = 101 ∧ t (y_s t n p + 3) = 97 ∧ t (y_s t n p + 4) = 107)
theorem y_w10_v {t : Int → Int} {n p : Int} : y_w10 t n p = true ↔ y_k t n p = 1 ∧ y_wv t (y_s t n p) (y_e9 t n p - y_s t n p).toNat = 2692139 := by
  unfold y_w10
  rw [decide_eq_true_eq]
  constructor
  · rintro ⟨h, he, h0, h1, h2, h3, h4⟩
    refine ⟨h, ?_⟩
    generalize y_s t n p = s at *
    rw [show (y_e9 t n p - s).toNat = 5 by omega]
    simp only [y_wv]
    have g0 : t (s + ((0 : Nat) : Int)) = 98 := h0
    have g1 : t (s + ((1 : Nat) : Int)) = 114 := h1
    have g2 : t (s + ((2 : Nat) : Int)) = 101 := h2
    have g3 : t (s + ((3 : Nat) : Int)) = 97 := h3
    have g4 : t (s + ((4 : Nat) : Int)) = 107 := h4
    rw [g0, g1, g2, g3, g4]
    decide
  · rintro ⟨h, hv⟩
    obtain ⟨l10, lt⟩ := y_tok_l h
    refine ⟨h, ?_⟩
    generalize y_s t n p = s at *
    have hl : ∀ j : Nat, j < (y_e9 t n p - s).toNat → 97 ≤ t (s + j) ∧ t (s + j) ≤ 122 := fun j hj => lt _ (by omega) (by omega)
    have k10 : (y_e9 t n p - s).toNat ≤ 10 := by omega
    have ke : ((y_e9 t n p - s).toNat : Int) = y_e9 t n p - s ∨ y_e9 t n p - s < 0 := by omega
    generalize hK : (y_e9 t n p - s).toNat = K0 at *
    obtain ⟨K1, e1, a1, v1⟩ := y_wv_cons (V := 84129) (d := 11) (fun j hj => hl j (by omega)) hv (by decide) (by decide) (by decide)
    obtain ⟨K2, e2, a2, v2⟩ := y_wv_cons (V := 2629) (d := 1) (fun j hj => hl j (by omega)) v1 (by decide) (by decide) (by decide)
    obtain ⟨K3, e3, a3, v3⟩ := y_wv_cons (V := 82) (d := 5) (fun j hj => hl j (by omega)) v2 (by decide) (by decide) (by decide)
    obtain ⟨K4, e4, a4, v4⟩ := y_wv_cons (V := 2) (d := 18) (fun j hj => hl j (by omega)) v3 (by decide) (by decide) (by decide)
    obtain ⟨K5, e5, a5, v5⟩ := y_wv_cons (V := 0) (d := 2) (fun j hj => hl j (by omega)) v4 (by decide) (by decide) (by decide)
    have z := y_wv_nil (by omega) (fun j hj => hl j (by omega)) v5
    subst z
    subst e5 e4 e3 e2 e1
    exact ⟨by omega, a5, a4, a3, a2, a1⟩
def y_w11 (t : Int → Int) (n p : Int) : Bool := decide (y_k t n p = 1 ∧ y_e9 t n p - y_s t n p = 6 ∧ t (y_s t n p + 0) = 114 ∧ t (y_s t n p + 1) = 101 ∧ t (y_s t n p + 2) = 112 ∧ t (y_s t n p + 3) = 97 ∧ t (y_s t n p + 4) = 105 ∧ t (y_s t n p + 5) = 114)
theorem y_w11_v {t : Int → Int} {n p : Int} : y_w11 t n p = true ↔ y_k t n p = 1 ∧ y_wv t (y_s t n p) (y_e9 t n p - y_s t n p).toNat = 609748274 := by
  unfold y_w11
  rw [decide_eq_true_eq]
  constructor
  · rintro ⟨h, he, h0, h1, h2, h3, h4, h5⟩
    refine ⟨h, ?_⟩
    generalize y_s t n p = s at *
    rw [show (y_e9 t n p - s).toNat = 6 by omega]
    simp only [y_wv]
    have g0 : t (s + ((0 : Nat) : Int)) = 114 := h0
    have g1 : t (s + ((1 : Nat) : Int)) = 101 := h1
    have g2 : t (s + ((2 : Nat) : Int)) = 112 := h2
    have g3 : t (s + ((3 : Nat) : Int)) = 97 := h3
    have g4 : t (s + ((4 : Nat) : Int)) = 105 := h4
    have g5 : t (s + ((5 : Nat) : Int)) = 114 := h5
    rw [g0, g1, g2, g3, g4, g5]
    decide
  · rintro ⟨h, hv⟩
    obtain ⟨l10, lt⟩ := y_tok_l h
    refine ⟨h, ?_⟩
    generalize y_s t n p = s at *
    have hl : ∀ j : Nat, j < (y_e9 t n p - s).toNat → 97 ≤ t (s + j) ∧ t (s + j) ≤ 122 := fun j hj => lt _ (by omega) (by omega)
    have k10 : (y_e9 t n p - s).toNat ≤ 10 := by omega
    have ke : ((y_e9 t n p - s).toNat : Int) = y_e9 t n p - s ∨ y_e9 t n p - s < 0 := by omega
    generalize hK : (y_e9 t n p - s).toNat = K0 at *
    obtain ⟨K1, e1, a1, v1⟩ := y_wv_cons (V := 19054633) (d := 18) (fun j hj => hl j (by omega)) hv (by decide) (by decide) (by decide)
    obtain ⟨K2, e2, a2, v2⟩ := y_wv_cons (V := 595457) (d := 9) (fun j hj => hl j (by omega)) v1 (by decide) (by decide) (by decide)
    obtain ⟨K3, e3, a3, v3⟩ := y_wv_cons (V := 18608) (d := 1) (fun j hj => hl j (by omega)) v2 (by decide) (by decide) (by decide)
    obtain ⟨K4, e4, a4, v4⟩ := y_wv_cons (V := 581) (d := 16) (fun j hj => hl j (by omega)) v3 (by decide) (by decide) (by decide)
    obtain ⟨K5, e5, a5, v5⟩ := y_wv_cons (V := 18) (d := 5) (fun j hj => hl j (by omega)) v4 (by decide) (by decide) (by decide)
    obtain ⟨K6, e6, a6, v6⟩ := y_wv_cons (V := 0) (d := 18) (fun j hj => hl j (by omega)) v5 (by decide) (by decide) (by decide)
    have z := y_wv_nil (by omega) (fun j hj => hl j (by omega)) v6
    subst z
    subst e6 e5 e4 e3 e2 e1
    exact ⟨by omega, a6, a5, a4, a3, a2, a1⟩
def y_pack (a b c d e f : Int) : Int := if f = 0 then (if e = 0 then (((a - 96) * 32 + b - 96) * 32 + c - 96) * 32 + d - 96 else ((((a - 96) * 32 + b - 96) * 32 + c - 96) * 32 + d - 96) * 32 + e - 96) else (if e = 0 then (((a - 96) * 32 + b - 96) * 32 + c - 96) * 32 + d - 96 else ((((a - 96) * 32 + b - 96) * 32 + c - 96) * 32 + d - 96) * 32 + e - 96) * 32 + f - 96
/-- the reference reads at p: no error yet -/
def y_R (t : Int → Int) (n p : Int) (J : z_J) (X : z_X) : Prop := J 158 = t ∧ J 148 13 = n ∧ (J 148 15 = 0 ∧ J 148 16 = -1) ∧ y_tok t n p J X
/-- what holds of a text -/
def y_T (t : Int → Int) (n : Int) : Prop := (0 ≤ n ∧ n ≤ 1500) ∧ ∀ k, 0 ≤ k → k < n → -128 ≤ t k ∧ t k ≤ 127
def y_f6 (J J1 : z_J) : Prop := (∀ j, (j < 14 ∨ 19 < j) → J1 148 j = J 148 j) ∧ ∀ b, b ≠ 148 → J1 b = J b
theorem y_f6.rf {J : z_J} : y_f6 J J := ⟨fun _ _ => rfl, fun _ _ => rfl⟩
theorem y_f6.tr {J J1 J2 : z_J} (h1 : y_f6 J J1) (h2 : y_f6 J1 J2) : y_f6 J J2 := ⟨fun j h => (h2.1 j h).trans (h1.1 j h), fun b h => (h2.2 b h).trans (h1.2 b h)⟩
theorem y_f3.f6 {J J1 : z_J} (h : y_f3 J J1) : y_f6 J J1 := ⟨fun j hj => h.1 j (by omega) (by omega) (by omega), h.2⟩
/-- the reference has found an error -/
def y_er9 (J : z_J) (c p : Int) (J1 : z_J) : Prop := J1 148 15 = c ∧ J1 148 16 = p ∧ y_f6 J J1
theorem y_er_u {J : z_J} {c p : Int} : y_er9 J c p (z_u (z_u J 148 15 c) 148 16 p) := ⟨by rw [z_u_off (by omega), z_u_at rfl], z_u_at rfl, ⟨fun j hj => by rw [z_u_off (by omega), z_u_off (by omega)], fun b hb => by rw [z_u_ne hb, z_u_ne hb]⟩⟩
section R23
variable {l : Launch} {d : Nat} {g : List (Option Nat)} {T : m_E} {J : z_J} {X : z_X} {t : Int → Int} {n p : Int}
theorem c_pack {a b c e f e1 : Int} (ha : 97 ≤ a ∧ a ≤ 122) (hb : 97 ≤ b ∧ b ≤ 122) (hc : 97 ≤ c ∧ c ≤ 122) (he1 : 97 ≤ e1 ∧ e1 ≤ 122) (he : e = 0 ∨ (97 ≤ e ∧ e ≤ 122)) (hf : f = 0 ∨ (97 ≤ f ∧ f ≤ 122)) : z_Sem l (d + 1) M_R_pack [.inl a, .inl b, .inl c, .inl e1, .inl e, .inl f] (m_Ex g T, J, X) 0 0 (z_ret (.inr (.inl (y_pack a b c e1 e f))) (m_Ex g T, J, X)) := by
  have zl : ∀ x y : Int, x = y → (Sum.inl (some (Sum.inr (Sum.inl x))) : z_O) = .inl (some (.inr (.inl y))) := fun x y h => by rw [h]
  refine z_sem_of z_m322 m_ok_322 (Nat.le_of_ble_eq_true rfl) (fun Wp hs hv hS => ?_)
  refine w_322_0 hs ?_
  unfold y_pack
  refine ⟨by omega, fun c1 => ⟨by omega, fun c2 => ⟨by omega, zl _ _ ?_, rfl⟩, fun c2 => ⟨zl _ _ ?_, rfl⟩⟩, fun c1 => ⟨fun c2 => ⟨by omega, zl _ _ ?_, rfl⟩, fun c2 => ⟨zl _ _ ?_, rfl⟩⟩⟩
  · rw [if_neg c2, if_neg c1]
  · rw [if_pos c2, if_neg c1]
  · rw [if_neg c2, if_pos c1]
  · rw [if_pos c2, if_pos c1]
theorem c_wordv {V : Int} {W : Bool} (hW : W = true ↔ y_k t n p = 1 ∧ y_wv t (y_s t n p) (y_e9 t n p - y_s t n p).toNat = V) (hk : y_k t n p = 1) (hx : X.1 148 20 = y_wv t (y_s t n p) (y_e9 t n p - y_s t n p).toNat) : (X.1 148 20 = V → W = true) ∧ (X.1 148 20 ≠ V → W = false) := by
  refine ⟨fun z => hW.mpr ⟨hk, hx ▸ z⟩, fun z => ?_⟩
  cases e : W with
  | false => rfl
  | true => exact absurd (hx.trans (hW.mp e).2) z
theorem c_isWord {a b c e1 e f V : Int} {W : Bool} (ha : 97 ≤ a ∧ a ≤ 122) (hb : 97 ≤ b ∧ b ≤ 122) (hc : 97 ≤ c ∧ c ≤ 122) (he1 : 97 ≤ e1 ∧ e1 ≤ 122) (he : e = 0 ∨ (97 ≤ e ∧ e ≤ 122)) (hf : f = 0 ∨ (97 ≤ f ∧ f ≤ 122)) (hV : y_pack a b c e1 e f = V) (hW : W = true ↔ y_k t n p = 1 ∧ y_wv t (y_s t n p) (y_e9 t n p - y_s t n p).toNat = V) (ht : y_tok t n p J X) : z_Sem l (d + 2) M_R_isWord [.inr (.inr (.ref 148)), .inl a, .inl b, .inl c, .inl e1, .inl e, .inl f] (m_Ex g T, J, X) 0 0 (z_ret (.inl (y_b W)) (m_Ex g T, J, X)) := by
  refine z_sem_of z_m321 m_ok_321 (Nat.le_of_ble_eq_true rfl) (fun Wp hs hv hS => ?_)
  refine w_321_0 hs ?_
  rw [ht.2.1]
  refine ⟨fun k0 => ⟨z_wi ?_, rfl⟩, fun k0 => z_cL (c_pack ha hb hc he1 he hf) ?_⟩
  · cases e9 : W with
    | false => rfl
    | true => exact absurd (hW.mp e9).1 k0
  · rw [hV]
    have w := c_wordv (X := X) hW k0 (ht.2.2.2.1 k0)
    refine ⟨fun k1 => ⟨z_wi ?_, rfl⟩, fun k1 => ⟨z_wi ?_, rfl⟩⟩
    · rw [w.2 k1]; rfl
    · rw [w.1 k1]; rfl
theorem c_isLong {u v k V : Int} {W : Bool} (hk : 0 ≤ k ∧ k ≤ 5) (hV : z_lshl u (5 * k) + v = V) (hr : -9223372036854775808 ≤ V ∧ V ≤ 9223372036854775807) (hW : W = true ↔ y_k t n p = 1 ∧ y_wv t (y_s t n p) (y_e9 t n p - y_s t n p).toNat = V) (ht : y_tok t n p J X) : z_Sem l (d + 1) M_R_isLongWord [.inr (.inr (.ref 148)), .inr (.inl u), .inr (.inl v), .inl k] (m_Ex g T, J, X) 0 0 (z_ret (.inl (y_b W)) (m_Ex g T, J, X)) := by
  refine z_sem_of z_m330 m_ok_330 (Nat.le_of_ble_eq_true rfl) (fun Wp hs hv hS => ?_)
  refine w_330_0 hs ?_
  rw [ht.2.1, hV]
  refine ⟨fun k0 => ⟨z_wi ?_, rfl⟩, fun k0 => ⟨⟨by omega, hr⟩, ?_⟩⟩
  · cases e9 : W with
    | false => rfl
    | true => exact absurd (hW.mp e9).1 k0
  · have w := c_wordv (X := X) hW k0 (ht.2.2.2.1 k0)
    refine ⟨fun k1 => ⟨z_wi ?_, rfl⟩, fun k1 => ⟨z_wi ?_, rfl⟩⟩
    · rw [w.2 k1]; rfl
    · rw [w.1 k1]; rfl
theorem c_next {K : z_J → z_X → Nat → Nat → Prop} {R9 : String → z_J → z_X → Nat → Nat → Prop} {bc bs : Nat} (hT : y_T t n) (hp : 0 ≤ p ∧ p ≤ n) (h : y_R t n p J X) (hK : ∀ J' X', y_R t n (y_e9 t n p) J' X' → y_f3 J J' → y_fX X X' → K J' X' bc bs) : z_CallV l (d + 3) M_R_advanceToken [.inr (.inr (.ref 148))] (m_Ex g T) J X bc bs K R9 := by
  obtain ⟨h1, h2, h3, h4⟩ := h
  have b := y_tok_b (t := t) hp.2
  refine z_cVq (c_advanceToken (l := l) (d := d) (g := g) (T := T) (J := J) (X := X) (t := t) (n := n) (p := y_e9 t n p) h1 h2 h4.2.2.1 (by have := hT.1; omega) hT.2) ?_
  rintro J' X' ⟨k1, k2, k3⟩
  exact hK J' X' ⟨by rw [k2.2 158 (by omega)]; exact h1, by rw [k2.1 13 (by omega) (by omega) (by omega)]; exact h2, ⟨by rw [k2.1 15 (by omega) (by omega) (by omega)]; exact h3.1, by rw [k2.1 16 (by omega) (by omega) (by omega)]; exact h3.2⟩, k1⟩ k2 k3
theorem c_readNumber {lo hi : Int} (hT : y_T t n) (hp : 0 ≤ p ∧ p ≤ n) (h : y_R t n p J X) : z_Sem l (d + 4) M_R_readNumber [.inr (.inr (.ref 148)), .inl lo, .inl hi] (m_Ex g T, J, X) 0 0 (z_rq (m_Ex g T) (fun v J' X' => y_fX X X' ∧ ((y_nc t n p lo hi = 0 ∧ v = 1 ∧ y_R t n (y_e9 t n p) J' X' ∧ J' 148 19 = y_vv t n p ∧ y_f6 J J') ∨ (y_nc t n p lo hi ≠ 0 ∧ v = 0 ∧ y_er9 J (y_nc t n p lo hi) (y_s t n p) J')))) := by
  have h' := h
  obtain ⟨h1, h2, h3, h4⟩ := h'
  have bad : ∀ c : Int, y_nc t n p lo hi = c → c ≠ 0 → z_rq (m_Ex g T) (fun v J' X' => y_fX X X' ∧ ((y_nc t n p lo hi = 0 ∧ v = 1 ∧ y_R t n (y_e9 t n p) J' X' ∧ J' 148 19 = y_vv t n p ∧ y_f6 J J') ∨ (y_nc t n p lo hi ≠ 0 ∧ v = 0 ∧ y_er9 J (y_nc t n p lo hi) (y_s t n p) J'))) (.inl (some (.inl 0))) (m_Ex g T, z_u (z_u J 148 15 c) 148 16 (y_s t n p), X) := fun c hc h0 => ⟨_, _, _, rfl, rfl, y_fX.rf, Or.inr ⟨by rw [hc]; exact h0, rfl, by rw [hc]; exact y_er_u⟩⟩
  refine z_sem_of z_m326 m_ok_326 (Nat.le_of_ble_eq_true rfl) (fun Wp hs hv hS => ?_)
  refine w_326_0 hs ?_
  rw [h4.2.1, h4.1]
  refine ⟨fun k2 => ?_, fun k2 => bad 1 (by unfold y_nc; rw [if_neg k2]) (by omega)⟩
  have ev : X.1 148 20 = y_vv t n p := h4.2.2.2.2 k2
  have vb := y_tok_n k2
  rw [ev]
  refine ⟨fun k3 => bad 2 (by unfold y_nc; rw [if_pos k2, if_neg (fun z => by omega)]) (by omega), fun k3 => ⟨fun k4 => ⟨by omega, ?_⟩, fun k4 => bad 2 (by unfold y_nc; rw [if_pos k2, if_neg (fun z => by omega)]) (by omega)⟩⟩
  have hu : y_R t n p (z_u J 148 19 (y_vv t n p)) X := ⟨by rw [z_u_ne (by omega)]; exact h1, by rw [z_u_off (by omega)]; exact h2, ⟨by rw [z_u_off (by omega)]; exact h3.1, by rw [z_u_off (by omega)]; exact h3.2⟩, by rw [z_u_off (by omega)]; exact h4.1, by rw [z_u_off (by omega)]; exact h4.2.1, by rw [z_u_off (by omega)]; exact h4.2.2.1, h4.2.2.2⟩
  refine c_next hT hp hu (fun J2 X2 r1 r2 r3 => ?_)
  refine ⟨_, _, _, rfl, rfl, r3, Or.inl ⟨by unfold y_nc; rw [if_pos k2, if_pos ⟨k3, k4⟩], rfl, r1, ?_, ⟨fun j hj => ?_, fun b hb => ?_⟩⟩⟩
  · rw [r2.1 19 (by omega) (by omega) (by omega), z_u_at rfl]
  · rw [r2.1 j (by omega) (by omega) (by omega), z_u_off (by omega)]
  · rw [r2.2 b hb, z_u_ne hb]
theorem c_readEnd (hT : y_T t n) (hp : 0 ≤ p ∧ p ≤ n) (h : y_R t n p J X) : z_Sem l (d + 4) M_R_readEnd [.inr (.inr (.ref 148))] (m_Ex g T, J, X) 0 0 (z_rq (m_Ex g T) (fun v J' X' => y_fX X X' ∧ ((y_sc t n p = 0 ∧ v = 1 ∧ y_R t n (y_e9 t n p) J' X' ∧ y_f6 J J') ∨ (y_sc t n p ≠ 0 ∧ v = 0 ∧ y_er9 J (y_sc t n p) (y_s t n p) J')))) := by
  have h' := h
  obtain ⟨h1, h2, h3, h4⟩ := h'
  refine z_sem_of z_m327 m_ok_327 (Nat.le_of_ble_eq_true rfl) (fun Wp hs hv hS => ?_)
  refine w_327_0 hs ?_
  rw [h4.2.1, h4.1]
  refine ⟨fun k2 => c_next hT hp h (fun J2 X2 r1 r2 r3 => ?_), fun k2 => ?_⟩
  · exact ⟨_, _, _, rfl, rfl, r3, Or.inl ⟨by unfold y_sc; rw [if_pos k2], rfl, r1, r2.f6⟩⟩
  · have hc : y_sc t n p = 1 := by unfold y_sc; rw [if_neg k2]
    exact ⟨_, _, _, rfl, rfl, y_fX.rf, Or.inr ⟨by rw [hc]; decide, rfl, by rw [hc]; exact y_er_u⟩⟩
end R23
/-- the class reads at p: no error yet -/
def x_R (t : Int → Int) (n p : Int) (J : z_J) : Prop := J 2 = t ∧ J 1 1 = n ∧ J 1 6 = 0 ∧ J 1 2 = p
def x_f6 (J J1 : z_J) : Prop := (∀ j, (j < 2 ∨ 7 < j) → J1 1 j = J 1 j) ∧ ∀ b, b ≠ 1 → J1 b = J b
theorem x_f6.rf {J : z_J} : x_f6 J J := ⟨fun _ _ => rfl, fun _ _ => rfl⟩
theorem x_f6.tr {J J1 J2 : z_J} (h1 : x_f6 J J1) (h2 : x_f6 J1 J2) : x_f6 J J2 := ⟨fun j h => (h2.1 j h).trans (h1.1 j h), fun b h => (h2.2 b h).trans (h1.2 b h)⟩
theorem x_f4.f6 {J J1 : z_J} (h : x_f4 J J1) : x_f6 J J1 := ⟨fun j hj => h.1 j (by omega) (by omega) (by omega) (by omega), h.2⟩
def x_er (J : z_J) (c p : Int) (J1 : z_J) : Prop := J1 1 6 = c ∧ J1 1 7 = p ∧ x_f6 J J1
theorem x_er_u {J J1 : z_J} {c p : Int} (h : x_f6 J J1) : x_er J c p (z_u (z_u J1 1 6 c) 1 7 p) := ⟨by rw [z_u_off (by omega), z_u_at rfl], z_u_at rfl, ⟨fun j hj => by rw [z_u_off (by omega), z_u_off (by omega)]; exact h.1 j hj, fun b hb => by rw [z_u_ne hb, z_u_ne hb]; exact h.2 b hb⟩⟩
section Q23
variable {l : Launch} {d : Nat} {g : List (Option Nat)} {T : m_E} {J : z_J} {X : z_X} {t : Int → Int} {n p : Int}
theorem x_next (h : x_R t n p J) {J1 : z_J} (k1 : x_tok t n p J1) (k2 : x_f4 J J1) : x_R t n (y_e9 t n p) J1 := ⟨by rw [k2.2 2 (by omega)]; exact h.1, by rw [k2.1 1 (by omega) (by omega) (by omega) (by omega)]; exact h.2.1, by rw [k2.1 6 (by omega) (by omega) (by omega) (by omega)]; exact h.2.2.1, k1.2.2.1⟩
theorem e_readNumber {lo hi : Int} (hT : y_T t n) (hp : 0 ≤ p ∧ p ≤ n) (h : x_R t n p J) : z_Sem l (d + 3) M_Input_readNumber [.inr (.inr (.ref 1)), .inl lo, .inl hi] (m_Ex g T, J, X) 0 0 (z_rq (m_Ex g T) (fun v J' X' => X' = X ∧ ((y_nc t n p lo hi = 0 ∧ v = y_vv t n p ∧ x_R t n (y_e9 t n p) J' ∧ x_tok t n p J' ∧ x_f4 J J') ∨ (y_nc t n p lo hi ≠ 0 ∧ x_er J (y_nc t n p lo hi) (y_s t n p) J')))) := by
  refine z_sem_of z_m54 m_ok_54 (Nat.le_of_ble_eq_true rfl) (fun Wp hs hv hS => ?_)
  refine w_54_0 hs ?_
  rw [h.2.2.1]
  refine ⟨fun _ => z_cVq (e_readToken h.1 h.2.1 h.2.2.2 (by have := hT.1; omega)) ?_, fun c => absurd rfl c⟩
  rintro J2 X2 ⟨rfl, k1, k2⟩
  have e6 : J2 1 6 = 0 := by rw [k2.1 6 (by omega) (by omega) (by omega) (by omega)]; exact h.2.2.1
  have bad : ∀ (c v : Int), y_nc t n p lo hi = c → c ≠ 0 → z_rq (m_Ex g T) (fun v J' X' => X' = X2 ∧ ((y_nc t n p lo hi = 0 ∧ v = y_vv t n p ∧ x_R t n (y_e9 t n p) J' ∧ x_tok t n p J' ∧ x_f4 J J') ∨ (y_nc t n p lo hi ≠ 0 ∧ x_er J (y_nc t n p lo hi) (y_s t n p) J'))) (.inl (some (.inl v))) (m_Ex g T, z_u (z_u J2 1 6 c) 1 7 (y_s t n p), X2) := fun c v hc h0 => ⟨_, _, _, rfl, rfl, rfl, Or.inr ⟨by rw [hc]; exact h0, by rw [hc]; exact x_er_u k2.f6⟩⟩
  rw [e6, k1.1, k1.2.1]
  refine ⟨fun c2 => ?_, fun c2 => ⟨fun c3 => absurd rfl c3, fun _ => bad 1 _ (by unfold y_nc; rw [if_neg c2]) (by omega)⟩⟩
  have ev := k1.2.2.2 c2
  have ev : J2 1 5 = y_vv t n p := ev
  rw [ev]
  refine ⟨fun c3 => ⟨fun c4 => absurd rfl c4, fun _ => bad 2 _ (by unfold y_nc; rw [if_pos c2, if_neg (fun z => by omega)]) (by omega)⟩, fun c3 => ⟨fun c4 => ?_, fun c4 => ⟨fun c5 => absurd rfl c5, fun _ => bad 2 _ (by unfold y_nc; rw [if_pos c2, if_neg (fun z => by omega)]) (by omega)⟩⟩⟩
  exact ⟨_, _, _, rfl, rfl, rfl, Or.inl ⟨by unfold y_nc; rw [if_pos c2, if_pos ⟨c3, c4⟩], rfl, x_next h k1 k2, k1, k2⟩⟩
theorem e_readNumber0 {lo hi : Int} (h : J 1 6 ≠ 0) : z_Sem l (d + 3) M_Input_readNumber [.inr (.inr (.ref 1)), .inl lo, .inl hi] (m_Ex g T, J, X) 0 0 (z_ret (.inl lo) (m_Ex g T, J, X)) := by
  refine z_sem_of z_m54 m_ok_54 (Nat.le_of_ble_eq_true rfl) (fun Wp hs hv hS => ?_)
  refine w_54_0 hs ?_
  exact ⟨fun c => absurd c h, fun _ => ⟨rfl, rfl⟩⟩
theorem e_readSemicolon (hT : y_T t n) (hp : 0 ≤ p ∧ p ≤ n) (h : x_R t n p J) : z_Sem l (d + 3) M_Input_readSemicolon [.inr (.inr (.ref 1))] (m_Ex g T, J, X) 0 0 (z_vq (m_Ex g T) (fun J' X' => X' = X ∧ ((y_sc t n p = 0 ∧ x_R t n (y_e9 t n p) J' ∧ x_f4 J J') ∨ (y_sc t n p ≠ 0 ∧ x_er J (y_sc t n p) (y_s t n p) J')))) := by
  refine z_sem_of z_m55 m_ok_55 (Nat.le_of_ble_eq_true rfl) (fun Wp hs hv hS => ?_)
  refine w_55_0 hs ?_
  rw [h.2.2.1]
  refine ⟨fun _ => z_cVq (e_readToken h.1 h.2.1 h.2.2.2 (by have := hT.1; omega)) ?_, fun c => absurd rfl c⟩
  rintro J2 X2 ⟨rfl, k1, k2⟩
  have e6 : J2 1 6 = 0 := by rw [k2.1 6 (by omega) (by omega) (by omega) (by omega)]; exact h.2.2.1
  rw [e6, k1.1, k1.2.1]
  refine ⟨fun c2 => ⟨_, _, rfl, rfl, rfl, Or.inl ⟨by unfold y_sc; rw [if_pos c2], x_next h k1 k2, k2⟩⟩, fun c2 => ⟨fun c3 => absurd rfl c3, fun _ => ?_⟩⟩
  have hc : y_sc t n p = 1 := by unfold y_sc; rw [if_neg c2]
  exact ⟨_, _, rfl, rfl, rfl, Or.inr ⟨by rw [hc]; decide, by rw [hc]; exact x_er_u k2.f6⟩⟩
theorem e_readSemicolon0 (h : J 1 6 ≠ 0) : z_Sem l (d + 3) M_Input_readSemicolon [.inr (.inr (.ref 1))] (m_Ex g T, J, X) 0 0 (z_vd (m_Ex g T, J, X)) := by
  refine z_sem_of z_m55 m_ok_55 (Nat.le_of_ble_eq_true rfl) (fun Wp hs hv hS => ?_)
  refine w_55_0 hs ?_
  exact ⟨fun c => absurd c h, fun _ => ⟨rfl, rfl⟩⟩
theorem e_readWord (hT : y_T t n) (hp : 0 ≤ p ∧ p ≤ n) (h : x_R t n p J) : z_Sem l (d + 3) M_Input_readWord [.inr (.inr (.ref 1))] (m_Ex g T, J, X) 0 0 (z_vq (m_Ex g T) (fun J' X' => X' = X ∧ x_R t n (y_e9 t n p) J' ∧ x_tok t n p J' ∧ x_f4 J J')) := by
  refine z_sem_of z_m56 m_ok_56 (Nat.le_of_ble_eq_true rfl) (fun Wp hs hv hS => ?_)
  refine w_56_0 hs ?_
  rw [h.2.2.1]
  refine ⟨fun _ => z_cVq (e_readToken h.1 h.2.1 h.2.2.2 (by have := hT.1; omega)) ?_, fun c => absurd rfl c⟩
  rintro J2 X2 ⟨rfl, k1, k2⟩
  exact ⟨_, _, rfl, rfl, rfl, x_next h k1 k2, k1, k2⟩
theorem e_readWord0 (h : J 1 6 ≠ 0) : z_Sem l (d + 3) M_Input_readWord [.inr (.inr (.ref 1))] (m_Ex g T, J, X) 0 0 (z_vd (m_Ex g T, J, X)) := by
  refine z_sem_of z_m56 m_ok_56 (Nat.le_of_ble_eq_true rfl) (fun Wp hs hv hS => ?_)
  refine w_56_0 hs ?_
  exact ⟨fun c => absurd c h, fun _ => ⟨rfl, rfl⟩⟩
theorem e_hasNext (hT : y_T t n) (hp : 0 ≤ p ∧ p ≤ n) (h : x_R t n p J) : z_Sem l (d + 3) M_Input_hasNext [.inr (.inr (.ref 1))] (m_Ex g T, J, X) 0 0 (z_rq (m_Ex g T) (fun v J' X' => X' = X ∧ (v = 0 ↔ y_k t n p = 0) ∧ x_R t n (y_e9 t n p) J' ∧ x_tok t n p J' ∧ x_f4 J J')) := by
  refine z_sem_of z_m48 m_ok_48 (Nat.le_of_ble_eq_true rfl) (fun Wp hs hv hS => ?_)
  refine w_48_0 hs ?_
  refine z_cVq (e_readToken h.1 h.2.1 h.2.2.2 (by have := hT.1; omega)) ?_
  rintro J2 X2 ⟨rfl, k1, k2⟩
  rw [k1.2.1]
  exact ⟨fun c => ⟨_, _, _, rfl, rfl, rfl, ⟨fun _ => c, fun _ => rfl⟩, x_next h k1 k2, k1, k2⟩, fun c => ⟨_, _, _, rfl, rfl, rfl, ⟨fun z => by omega, fun z => absurd z c⟩, x_next h k1 k2, k1, k2⟩⟩
theorem e_isWord0 (hT : y_T t n) (hp : 0 ≤ p ∧ p ≤ n) (h2 : J 2 = t) (k1 : x_tok t n p J) : z_Sem l (d + 1) M_Input_isWord [.inr (.inr (.ref 1)), .inr (.inr (.ref (m_str 0)))] (m_Ex g T, J, X) 0 0 (z_ret (.inl (y_b (y_w0 t n p))) (m_Ex g T, J, X)) := by
  have b := y_tok_b (t := t) hp.2
  have hn := hT.1
  have no : ¬ (y_k t n p = 1 ∧ y_e9 t n p - y_s t n p = 4 ∧ t (y_s t n p + 0) = 114 ∧ t (y_s t n p + 1) = 105 ∧ t (y_s t n p + 2) = 100 ∧ t (y_s t n p + 3) = 101) → z_ret (.inl (y_b (y_w0 t n p))) (m_Ex g T, J, X) (.inl (some (.inl 0))) (m_Ex g T, J, X) := fun z => ⟨z_wi (by unfold y_w0; rw [decide_eq_false z]; rfl), rfl⟩
  refine z_sem_of z_m52 m_ok_52 (Nat.le_of_ble_eq_true rfl) (fun Wp hs hv hS => ?_)
  refine w_52k0_0 hs ?_
  rw [k1.1, k1.2.1, k1.2.2.1, h2]
  exact ⟨fun c => no (fun z => c z.1), fun a0 => ⟨by omega, fun a1 => ⟨by omega, fun b0 => ⟨by omega, fun b1 => ⟨by omega, fun b2 => ⟨by omega, fun b3 => ⟨z_wi (by unfold y_w0; rw [decide_eq_true ⟨a0, a1, b0, b1, b2, b3⟩]; rfl), rfl⟩, fun c => no (fun z => c z.2.2.2.2.2)⟩, fun c => no (fun z => c z.2.2.2.2.1)⟩, fun c => no (fun z => c z.2.2.2.1)⟩, fun c => no (fun z => c z.2.2.1)⟩, fun c => no (fun z => c z.2.1)⟩⟩
theorem e_isWord1 (hT : y_T t n) (hp : 0 ≤ p ∧ p ≤ n) (h2 : J 2 = t) (k1 : x_tok t n p J) : z_Sem l (d + 1) M_Input_isWord [.inr (.inr (.ref 1)), .inr (.inr (.ref (m_str 1)))] (m_Ex g T, J, X) 0 0 (z_ret (.inl (y_b (y_w1 t n p))) (m_Ex g T, J, X)) := by
  have b := y_tok_b (t := t) hp.2
  have hn := hT.1
  have no : ¬ (y_k t n p = 1 ∧ y_e9 t n p - y_s t n p = 4 ∧ t (y_s t n p + 0) = 116 ∧ t (y_s t n p + 1) = 105 ∧ t (y_s t n p + 2) = 101 ∧ t (y_s t n p + 3) = 114) → z_ret (.inl (y_b (y_w1 t n p))) (m_Ex g T, J, X) (.inl (some (.inl 0))) (m_Ex g T, J, X) := fun z => ⟨z_wi (by unfold y_w1; rw [decide_eq_false z]; rfl), rfl⟩
  refine z_sem_of z_m52 m_ok_52 (Nat.le_of_ble_eq_true rfl) (fun Wp hs hv hS => ?_)
  refine w_52k1_0 hs ?_
  rw [k1.1, k1.2.1, k1.2.2.1, h2]
  exact ⟨fun c => no (fun z => c z.1), fun a0 => ⟨by omega, fun a1 => ⟨by omega, fun b0 => ⟨by omega, fun b1 => ⟨by omega, fun b2 => ⟨by omega, fun b3 => ⟨z_wi (by unfold y_w1; rw [decide_eq_true ⟨a0, a1, b0, b1, b2, b3⟩]; rfl), rfl⟩, fun c => no (fun z => c z.2.2.2.2.2)⟩, fun c => no (fun z => c z.2.2.2.2.1)⟩, fun c => no (fun z => c z.2.2.2.1)⟩, fun c => no (fun z => c z.2.2.1)⟩, fun c => no (fun z => c z.2.1)⟩⟩
theorem e_isWord2 (hT : y_T t n) (hp : 0 ≤ p ∧ p ≤ n) (h2 : J 2 = t) (k1 : x_tok t n p J) : z_Sem l (d + 1) M_Input_isWord [.inr (.inr (.ref 1)), .inr (.inr (.ref (m_str 2)))] (m_Ex g T, J, X) 0 0 (z_ret (.inl (y_b (y_w2 t n p))) (m_Ex g T, J, X)) := by
  have b := y_tok_b (t := t) hp.2
  have hn := hT.1
  have no : ¬ (y_k t n p = 1 ∧ y_e9 t n p - y_s t n p = 5 ∧ t (y_s t n p + 0) = 112 ∧ t (y_s t n p + 1) = 97 ∧ t (y_s t n p + 2) = 114 ∧ t (y_s t n p + 3) = 116 ∧ t (y_s t n p + 4) = 121) → z_ret (.inl (y_b (y_w2 t n p))) (m_Ex g T, J, X) (.inl (some (.inl 0))) (m_Ex g T, J, X) := fun z => ⟨z_wi (by unfold y_w2; rw [decide_eq_false z]; rfl), rfl⟩
  refine z_sem_of z_m52 m_ok_52 (Nat.le_of_ble_eq_true rfl) (fun Wp hs hv hS => ?_)
  refine w_52k2_0 hs ?_
  rw [k1.1, k1.2.1, k1.2.2.1, h2]
  exact ⟨fun c => no (fun z => c z.1), fun a0 => ⟨by omega, fun a1 => ⟨by omega, fun b0 => ⟨by omega, fun b1 => ⟨by omega, fun b2 => ⟨by omega, fun b3 => ⟨by omega, fun b4 => ⟨z_wi (by unfold y_w2; rw [decide_eq_true ⟨a0, a1, b0, b1, b2, b3, b4⟩]; rfl), rfl⟩, fun c => no (fun z => c z.2.2.2.2.2.2)⟩, fun c => no (fun z => c z.2.2.2.2.2.1)⟩, fun c => no (fun z => c z.2.2.2.2.1)⟩, fun c => no (fun z => c z.2.2.2.1)⟩, fun c => no (fun z => c z.2.2.1)⟩, fun c => no (fun z => c z.2.1)⟩⟩
theorem e_isWord3 (hT : y_T t n) (hp : 0 ≤ p ∧ p ≤ n) (h2 : J 2 = t) (k1 : x_tok t n p J) : z_Sem l (d + 1) M_Input_isWord [.inr (.inr (.ref 1)), .inr (.inr (.ref (m_str 3)))] (m_Ex g T, J, X) 0 0 (z_ret (.inl (y_b (y_w3 t n p))) (m_Ex g T, J, X)) := by
  have b := y_tok_b (t := t) hp.2
  have hn := hT.1
  have no : ¬ (y_k t n p = 1 ∧ y_e9 t n p - y_s t n p = 9 ∧ t (y_s t n p + 0) = 101 ∧ t (y_s t n p + 1) = 120 ∧ t (y_s t n p + 2) = 116 ∧ t (y_s t n p + 3) = 101 ∧ t (y_s t n p + 4) = 110 ∧ t (y_s t n p + 5) = 115 ∧ t (y_s t n p + 6) = 105 ∧ t (y_s t n p + 7) = 111 ∧ t (y_s t n p + 8) = 110) → z_ret (.inl (y_b (y_w3 t n p))) (m_Ex g T, J, X) (.inl (some (.inl 0))) (m_Ex g T, J, X) := fun z => ⟨z_wi (by unfold y_w3; rw [decide_eq_false z]; rfl), rfl⟩
  refine z_sem_of z_m52 m_ok_52 (Nat.le_of_ble_eq_true rfl) (fun Wp hs hv hS => ?_)
  refine w_52k3_0 hs ?_
  rw [k1.1, k1.2.1, k1.2.2.1, h2]
  exact ⟨fun c => no (fun z => c z.1), fun a0 => ⟨by omega, fun a1 => ⟨by omega, fun b0 => ⟨by omega, fun b1 => ⟨by omega, fun b2 => ⟨by omega, fun b3 => ⟨by omega, fun b4 => ⟨by omega, fun b5 => ⟨by omega, fun b6 => ⟨by omega, fun b7 => ⟨by omega, fun b8 => ⟨z_wi (by unfold y_w3; rw [decide_eq_true ⟨a0, a1, b0, b1, b2, b3, b4, b5, b6, b7, b8⟩]; rfl), rfl⟩, fun c => no (fun z => c z.2.2.2.2.2.2.2.2.2.2)⟩, fun c => no (fun z => c z.2.2.2.2.2.2.2.2.2.1)⟩, fun c => no (fun z => c z.2.2.2.2.2.2.2.2.1)⟩, fun c => no (fun z => c z.2.2.2.2.2.2.2.1)⟩, fun c => no (fun z => c z.2.2.2.2.2.2.1)⟩, fun c => no (fun z => c z.2.2.2.2.2.1)⟩, fun c => no (fun z => c z.2.2.2.2.1)⟩, fun c => no (fun z => c z.2.2.2.1)⟩, fun c => no (fun z => c z.2.2.1)⟩, fun c => no (fun z => c z.2.1)⟩⟩
theorem e_isWord4 (hT : y_T t n) (hp : 0 ≤ p ∧ p ≤ n) (h2 : J 2 = t) (k1 : x_tok t n p J) : z_Sem l (d + 1) M_Input_isWord [.inr (.inr (.ref 1)), .inr (.inr (.ref (m_str 4)))] (m_Ex g T, J, X) 0 0 (z_ret (.inl (y_b (y_w4 t n p))) (m_Ex g T, J, X)) := by
  have b := y_tok_b (t := t) hp.2
  have hn := hT.1
  have no : ¬ (y_k t n p = 1 ∧ y_e9 t n p - y_s t n p = 2 ∧ t (y_s t n p + 0) = 97 ∧ t (y_s t n p + 1) = 116) → z_ret (.inl (y_b (y_w4 t n p))) (m_Ex g T, J, X) (.inl (some (.inl 0))) (m_Ex g T, J, X) := fun z => ⟨z_wi (by unfold y_w4; rw [decide_eq_false z]; rfl), rfl⟩
  refine z_sem_of z_m52 m_ok_52 (Nat.le_of_ble_eq_true rfl) (fun Wp hs hv hS => ?_)
  refine w_52k4_0 hs ?_
  rw [k1.1, k1.2.1, k1.2.2.1, h2]
  exact ⟨fun c => no (fun z => c z.1), fun a0 => ⟨by omega, fun a1 => ⟨by omega, fun b0 => ⟨by omega, fun b1 => ⟨z_wi (by unfold y_w4; rw [decide_eq_true ⟨a0, a1, b0, b1⟩]; rfl), rfl⟩, fun c => no (fun z => c z.2.2.2)⟩, fun c => no (fun z => c z.2.2.1)⟩, fun c => no (fun z => c z.2.1)⟩⟩
theorem e_isWord5 (hT : y_T t n) (hp : 0 ≤ p ∧ p ≤ n) (h2 : J 2 = t) (k1 : x_tok t n p J) : z_Sem l (d + 1) M_Input_isWord [.inr (.inr (.ref 1)), .inr (.inr (.ref (m_str 5)))] (m_Ex g T, J, X) 0 0 (z_ret (.inl (y_b (y_w5 t n p))) (m_Ex g T, J, X)) := by
  have b := y_tok_b (t := t) hp.2
  have hn := hT.1
  have no : ¬ (y_k t n p = 1 ∧ y_e9 t n p - y_s t n p = 5 ∧ t (y_s t n p + 0) = 105 ∧ t (y_s t n p + 1) = 115 ∧ t (y_s t n p + 2) = 115 ∧ t (y_s t n p + 3) = 117 ∧ t (y_s t n p + 4) = 101) → z_ret (.inl (y_b (y_w5 t n p))) (m_Ex g T, J, X) (.inl (some (.inl 0))) (m_Ex g T, J, X) := fun z => ⟨z_wi (by unfold y_w5; rw [decide_eq_false z]; rfl), rfl⟩
  refine z_sem_of z_m52 m_ok_52 (Nat.le_of_ble_eq_true rfl) (fun Wp hs hv hS => ?_)
  refine w_52k5_0 hs ?_
  rw [k1.1, k1.2.1, k1.2.2.1, h2]
  exact ⟨fun c => no (fun z => c z.1), fun a0 => ⟨by omega, fun a1 => ⟨by omega, fun b0 => ⟨by omega, fun b1 => ⟨by omega, fun b2 => ⟨by omega, fun b3 => ⟨by omega, fun b4 => ⟨z_wi (by unfold y_w5; rw [decide_eq_true ⟨a0, a1, b0, b1, b2, b3, b4⟩]; rfl), rfl⟩, fun c => no (fun z => c z.2.2.2.2.2.2)⟩, fun c => no (fun z => c z.2.2.2.2.2.1)⟩, fun c => no (fun z => c z.2.2.2.2.1)⟩, fun c => no (fun z => c z.2.2.2.1)⟩, fun c => no (fun z => c z.2.2.1)⟩, fun c => no (fun z => c z.2.1)⟩⟩
theorem e_isWord6 (hT : y_T t n) (hp : 0 ≤ p ∧ p ≤ n) (h2 : J 2 = t) (k1 : x_tok t n p J) : z_Sem l (d + 1) M_Input_isWord [.inr (.inr (.ref 1)), .inr (.inr (.ref (m_str 6)))] (m_Ex g T, J, X) 0 0 (z_ret (.inl (y_b (y_w6 t n p))) (m_Ex g T, J, X)) := by
  have b := y_tok_b (t := t) hp.2
  have hn := hT.1
  have no : ¬ (y_k t n p = 1 ∧ y_e9 t n p - y_s t n p = 6 ∧ t (y_s t n p + 0) = 114 ∧ t (y_s t n p + 1) = 101 ∧ t (y_s t n p + 2) = 100 ∧ t (y_s t n p + 3) = 101 ∧ t (y_s t n p + 4) = 101 ∧ t (y_s t n p + 5) = 109) → z_ret (.inl (y_b (y_w6 t n p))) (m_Ex g T, J, X) (.inl (some (.inl 0))) (m_Ex g T, J, X) := fun z => ⟨z_wi (by unfold y_w6; rw [decide_eq_false z]; rfl), rfl⟩
  refine z_sem_of z_m52 m_ok_52 (Nat.le_of_ble_eq_true rfl) (fun Wp hs hv hS => ?_)
  refine w_52k6_0 hs ?_
  rw [k1.1, k1.2.1, k1.2.2.1, h2]
  exact ⟨fun c => no (fun z => c z.1), fun a0 => ⟨by omega, fun a1 => ⟨by omega, fun b0 => ⟨by omega, fun b1 => ⟨by omega, fun b2 => ⟨by omega, fun b3 => ⟨by omega, fun b4 => ⟨by omega, fun b5 => ⟨z_wi (by unfold y_w6; rw [decide_eq_true ⟨a0, a1, b0, b1, b2, b3, b4, b5⟩]; rfl), rfl⟩, fun c => no (fun z => c z.2.2.2.2.2.2.2)⟩, fun c => no (fun z => c z.2.2.2.2.2.2.1)⟩, fun c => no (fun z => c z.2.2.2.2.2.1)⟩, fun c => no (fun z => c z.2.2.2.2.1)⟩, fun c => no (fun z => c z.2.2.2.1)⟩, fun c => no (fun z => c z.2.2.1)⟩, fun c => no (fun z => c z.2.1)⟩⟩
theorem e_isWord7 (hT : y_T t n) (hp : 0 ≤ p ∧ p ≤ n) (h2 : J 2 = t) (k1 : x_tok t n p J) : z_Sem l (d + 1) M_Input_isWord [.inr (.inr (.ref 1)), .inr (.inr (.ref (m_str 7)))] (m_Ex g T, J, X) 0 0 (z_ret (.inl (y_b (y_w7 t n p))) (m_Ex g T, J, X)) := by
  have b := y_tok_b (t := t) hp.2
  have hn := hT.1
  have no : ¬ (y_k t n p = 1 ∧ y_e9 t n p - y_s t n p = 6 ∧ t (y_s t n p + 0) = 99 ∧ t (y_s t n p + 1) = 97 ∧ t (y_s t n p + 2) = 110 ∧ t (y_s t n p + 3) = 99 ∧ t (y_s t n p + 4) = 101 ∧ t (y_s t n p + 5) = 108) → z_ret (.inl (y_b (y_w7 t n p))) (m_Ex g T, J, X) (.inl (some (.inl 0))) (m_Ex g T, J, X) := fun z => ⟨z_wi (by unfold y_w7; rw [decide_eq_false z]; rfl), rfl⟩
  refine z_sem_of z_m52 m_ok_52 (Nat.le_of_ble_eq_true rfl) (fun Wp hs hv hS => ?_)
  refine w_52k7_0 hs ?_
  rw [k1.1, k1.2.1, k1.2.2.1, h2]
  exact ⟨fun c => no (fun z => c z.1), fun a0 => ⟨by omega, fun a1 => ⟨by omega, fun b0 => ⟨by omega, fun b1 => ⟨by omega, fun b2 => ⟨by omega, fun b3 => ⟨by omega, fun b4 => ⟨by omega, fun b5 => ⟨z_wi (by unfold y_w7; rw [decide_eq_true ⟨a0, a1, b0, b1, b2, b3, b4, b5⟩]; rfl), rfl⟩, fun c => no (fun z => c z.2.2.2.2.2.2.2)⟩, fun c => no (fun z => c z.2.2.2.2.2.2.1)⟩, fun c => no (fun z => c z.2.2.2.2.2.1)⟩, fun c => no (fun z => c z.2.2.2.2.1)⟩, fun c => no (fun z => c z.2.2.2.1)⟩, fun c => no (fun z => c z.2.2.1)⟩, fun c => no (fun z => c z.2.1)⟩⟩
theorem e_isWord8 (hT : y_T t n) (hp : 0 ≤ p ∧ p ≤ n) (h2 : J 2 = t) (k1 : x_tok t n p J) : z_Sem l (d + 1) M_Input_isWord [.inr (.inr (.ref 1)), .inr (.inr (.ref (m_str 8)))] (m_Ex g T, J, X) 0 0 (z_ret (.inl (y_b (y_w8 t n p))) (m_Ex g T, J, X)) := by
  have b := y_tok_b (t := t) hp.2
  have hn := hT.1
  have no : ¬ (y_k t n p = 1 ∧ y_e9 t n p - y_s t n p = 4 ∧ t (y_s t n p + 0) = 119 ∧ t (y_s t n p + 1) = 97 ∧ t (y_s t n p + 2) = 105 ∧ t (y_s t n p + 3) = 116) → z_ret (.inl (y_b (y_w8 t n p))) (m_Ex g T, J, X) (.inl (some (.inl 0))) (m_Ex g T, J, X) := fun z => ⟨z_wi (by unfold y_w8; rw [decide_eq_false z]; rfl), rfl⟩
  refine z_sem_of z_m52 m_ok_52 (Nat.le_of_ble_eq_true rfl) (fun Wp hs hv hS => ?_)
  refine w_52k8_0 hs ?_
  rw [k1.1, k1.2.1, k1.2.2.1, h2]
  exact ⟨fun c => no (fun z => c z.1), fun a0 => ⟨by omega, fun a1 => ⟨by omega, fun b0 => ⟨by omega, fun b1 => ⟨by omega, fun b2 => ⟨by omega, fun b3 => ⟨z_wi (by unfold y_w8; rw [decide_eq_true ⟨a0, a1, b0, b1, b2, b3⟩]; rfl), rfl⟩, fun c => no (fun z => c z.2.2.2.2.2)⟩, fun c => no (fun z => c z.2.2.2.2.1)⟩, fun c => no (fun z => c z.2.2.2.1)⟩, fun c => no (fun z => c z.2.2.1)⟩, fun c => no (fun z => c z.2.1)⟩⟩
theorem e_isWord9 (hT : y_T t n) (hp : 0 ≤ p ∧ p ≤ n) (h2 : J 2 = t) (k1 : x_tok t n p J) : z_Sem l (d + 1) M_Input_isWord [.inr (.inr (.ref 1)), .inr (.inr (.ref (m_str 9)))] (m_Ex g T, J, X) 0 0 (z_ret (.inl (y_b (y_w9 t n p))) (m_Ex g T, J, X)) := by
  have b := y_tok_b (t := t) hp.2
  have hn := hT.1
  have no : ¬ (y_k t n p = 1 ∧ y_e9 t n p - y_s t n p = 7 ∧ t (y_s t n p + 0) = 115 ∧ t (y_s t n p + 1) = 116 ∧ t (y_s t n p + 2) = 97 ∧ t (y_s t n p + 3) = 110 ∧ t (y_s t n p + 4) = 100 ∧ t (y_s t n p + 5) = 98 ∧ t (y_s t n p + 6) = 121) → z_ret (.inl (y_b (y_w9 t n p))) (m_Ex g T, J, X) (.inl (some (.inl 0))) (m_Ex g T, J, X) := fun z => ⟨z_wi (by unfold y_w9; rw [decide_eq_false z]; rfl), rfl⟩
  refine z_sem_of z_m52 m_ok_52 (Nat.le_of_ble_eq_true rfl) (fun Wp hs hv hS => ?_)
  refine w_52k9_0 hs ?_
  rw [k1.1, k1.2.1, k1.2.2.1, h2]
  exact ⟨fun c => no (fun z => c z.1), fun a0 => ⟨by omega, fun a1 => ⟨by omega, fun b0 => ⟨by omega, fun b1 => ⟨by omega, fun b2 => ⟨by omega, fun b3 => ⟨by omega, fun b4 => ⟨by omega, fun b5 => ⟨by omega, fun b6 => ⟨z_wi (by unfold y_w9; rw [decide_eq_true ⟨a0, a1, b0, b1, b2, b3, b4, b5, b6⟩]; rfl), rfl⟩, fun c => no (fun z => c z.2.2.2.2.2.2.2.2)⟩, fun c => no (fun z => c z.2.2.2.2.2.2.2.1)⟩, fun c => no (fun z => c z.2.2.2.2.2.2.1)⟩, fun c => no (fun z => c z.2.2.2.2.2.1)⟩, fun c => no (fun z => c z.2.2.2.2.1)⟩, fun c => no (fun z => c z.2.2.2.1)⟩, fun c => no (fun z => c z.2.2.1)⟩, fun c => no (fun z => c z.2.1)⟩⟩
theorem e_isWord10 (hT : y_T t n) (hp : 0 ≤ p ∧ p ≤ n) (h2 : J 2 = t) (k1 : x_tok t n p J) : z_Sem l (d + 1) M_Input_isWord [.inr (.inr (.ref 1)), .inr (.inr (.ref (m_str 10)))] (m_Ex g T, J, X) 0 0 (z_ret (.inl (y_b (y_w10 t n p))) (m_Ex g T, J, X)) := by
  have b := y_tok_b (t := t) hp.2
  have hn := hT.1
  have no : ¬ (y_k t n p = 1 ∧ y_e9 t n p - y_s t n p = 5 ∧ t (y_s t n p + 0) = 98 ∧ t (y_s t n p + 1) = 114 ∧ t (y_s t n p + 2) = 101 ∧ t (y_s t n p + 3) = 97 ∧ t (y_s t n p + 4) = 107) → z_ret (.inl (y_b (y_w10 t n p))) (m_Ex g T, J, X) (.inl (some (.inl 0))) (m_Ex g T, J, X) := fun z => ⟨z_wi (by unfold y_w10; rw [decide_eq_false z]; rfl), rfl⟩
  refine z_sem_of z_m52 m_ok_52 (Nat.le_of_ble_eq_true rfl) (fun Wp hs hv hS => ?_)
  refine w_52k10_0 hs ?_
  rw [k1.1, k1.2.1, k1.2.2.1, h2]
  exact ⟨fun c => no (fun z => c z.1), fun a0 => ⟨by omega, fun a1 => ⟨by omega, fun b0 => ⟨by omega, fun b1 => ⟨by omega, fun b2 => ⟨by omega, fun b3 => ⟨by omega, fun b4 => ⟨z_wi (by unfold y_w10; rw [decide_eq_true ⟨a0, a1, b0, b1, b2, b3, b4⟩]; rfl), rfl⟩, fun c => no (fun z => c z.2.2.2.2.2.2)⟩, fun c => no (fun z => c z.2.2.2.2.2.1)⟩, fun c => no (fun z => c z.2.2.2.2.1)⟩, fun c => no (fun z => c z.2.2.2.1)⟩, fun c => no (fun z => c z.2.2.1)⟩, fun c => no (fun z => c z.2.1)⟩⟩
theorem e_isWord11 (hT : y_T t n) (hp : 0 ≤ p ∧ p ≤ n) (h2 : J 2 = t) (k1 : x_tok t n p J) : z_Sem l (d + 1) M_Input_isWord [.inr (.inr (.ref 1)), .inr (.inr (.ref (m_str 11)))] (m_Ex g T, J, X) 0 0 (z_ret (.inl (y_b (y_w11 t n p))) (m_Ex g T, J, X)) := by
  have b := y_tok_b (t := t) hp.2
  have hn := hT.1
  have no : ¬ (y_k t n p = 1 ∧ y_e9 t n p - y_s t n p = 6 ∧ t (y_s t n p + 0) = 114 ∧ t (y_s t n p + 1) = 101 ∧ t (y_s t n p + 2) = 112 ∧ t (y_s t n p + 3) = 97 ∧ t (y_s t n p + 4) = 105 ∧ t (y_s t n p + 5) = 114) → z_ret (.inl (y_b (y_w11 t n p))) (m_Ex g T, J, X) (.inl (some (.inl 0))) (m_Ex g T, J, X) := fun z => ⟨z_wi (by unfold y_w11; rw [decide_eq_false z]; rfl), rfl⟩
  refine z_sem_of z_m52 m_ok_52 (Nat.le_of_ble_eq_true rfl) (fun Wp hs hv hS => ?_)
  refine w_52k11_0 hs ?_
  rw [k1.1, k1.2.1, k1.2.2.1, h2]
  exact ⟨fun c => no (fun z => c z.1), fun a0 => ⟨by omega, fun a1 => ⟨by omega, fun b0 => ⟨by omega, fun b1 => ⟨by omega, fun b2 => ⟨by omega, fun b3 => ⟨by omega, fun b4 => ⟨by omega, fun b5 => ⟨z_wi (by unfold y_w11; rw [decide_eq_true ⟨a0, a1, b0, b1, b2, b3, b4, b5⟩]; rfl), rfl⟩, fun c => no (fun z => c z.2.2.2.2.2.2.2)⟩, fun c => no (fun z => c z.2.2.2.2.2.2.1)⟩, fun c => no (fun z => c z.2.2.2.2.2.1)⟩, fun c => no (fun z => c z.2.2.2.2.1)⟩, fun c => no (fun z => c z.2.2.2.1)⟩, fun c => no (fun z => c z.2.2.1)⟩, fun c => no (fun z => c z.2.1)⟩⟩
end Q23
