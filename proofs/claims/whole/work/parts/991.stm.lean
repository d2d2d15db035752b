/-! statements of a park's text (written by wip/whole/gen991.py) -/
/-- the first error among what is read from p on: its code and place -/
def y_ff (t : Int → Int) (n : Int) : List Int → Int → Int × Int
  | [], _ => (0, -1)
  | c :: cs, p => if c = 0 then y_ff t n cs (y_e9 t n p) else (c, y_s t n p)
def y_cRide (t : Int → Int) (n p : Int) : List Int := [y_nc t n p 1 200, y_nc t n (y_e9 t n p) 0 100, y_nc t n (y_e9 t n (y_e9 t n p)) 1 24, y_nc t n (y_e9 t n (y_e9 t n (y_e9 t n p))) 0 143, y_nc t n (y_e9 t n (y_e9 t n (y_e9 t n (y_e9 t n p)))) (y_vv t n (y_e9 t n (y_e9 t n (y_e9 t n p)))) 143, y_sc t n (y_e9 t n (y_e9 t n (y_e9 t n (y_e9 t n (y_e9 t n p)))))]
def y_cTier (t : Int → Int) (n p : Int) : List Int := [y_nc t n p 1 5, y_nc t n (y_e9 t n p) 1 144, y_nc t n (y_e9 t n (y_e9 t n p)) 0 48, y_nc t n (y_e9 t n (y_e9 t n (y_e9 t n p))) 0 9, y_sc t n (y_e9 t n (y_e9 t n (y_e9 t n (y_e9 t n p))))]
def y_cParty (t : Int → Int) (n p : Int) (ti : Int) : List Int := [y_nc t n p 0 (ti - 1), y_nc t n (y_e9 t n p) 1 12, y_sc t n (y_e9 t n (y_e9 t n p))]
def y_cExt (t : Int → Int) (n p : Int) : List Int := [y_nc t n p 0 48, y_sc t n (y_e9 t n p)]
def k_dRide (D : Int → Int) (a b c e f : Int) : Int → Int := z_up (z_up (z_up (z_up (z_up (z_up D (10 + 14 * D 1 + 0) a) (10 + 14 * D 1 + 1) b) (10 + 14 * D 1 + 2) c) (10 + 14 * D 1 + 3) e) (10 + 14 * D 1 + 4) f) 1 (D 1 + 1)
def k_dTier (D : Int → Int) (a b c e : Int) : Int → Int := z_up (z_up (z_up (z_up (z_up D (122 + 4 * D 2 + 0) a) (122 + 4 * D 2 + 1) b) (122 + 4 * D 2 + 2) c) (122 + 4 * D 2 + 3) e) 2 (D 2 + 1)
def k_dParty (D : Int → Int) (a b : Int) : Int → Int := z_up (z_up (z_up (z_up D (138 + 3 * D 3 + 0) a) (138 + 3 * D 3 + 1) b) (138 + 3 * D 3 + 2) (-1)) 3 (D 3 + 1)
/-- a statement at p: code and place of an error; where it ends; the draft behind it -/
def y_stm (t : Int → Int) (n p : Int) (D : Int → Int) : (Int × Int) × Int × (Int → Int) :=
  if y_w0 t n p = true then (if D 1 = 8 then ((3, y_s t n p), p, D) else (y_ff t n (y_cRide t n (y_e9 t n p)) (y_e9 t n p), (y_e9 t n (y_e9 t n (y_e9 t n (y_e9 t n (y_e9 t n (y_e9 t n (y_e9 t n p))))))), k_dRide D (y_vv t n (y_e9 t n p)) (y_vv t n (y_e9 t n (y_e9 t n p))) (y_vv t n (y_e9 t n (y_e9 t n (y_e9 t n p)))) (y_vv t n (y_e9 t n (y_e9 t n (y_e9 t n (y_e9 t n p))))) (y_vv t n (y_e9 t n (y_e9 t n (y_e9 t n (y_e9 t n (y_e9 t n p))))))))
  else if y_w1 t n p = true then (if D 2 = 4 then ((3, y_s t n p), p, D) else (y_ff t n (y_cTier t n (y_e9 t n p)) (y_e9 t n p), (y_e9 t n (y_e9 t n (y_e9 t n (y_e9 t n (y_e9 t n (y_e9 t n p)))))), k_dTier D (y_vv t n (y_e9 t n p)) (y_vv t n (y_e9 t n (y_e9 t n p))) (y_vv t n (y_e9 t n (y_e9 t n (y_e9 t n p)))) (y_vv t n (y_e9 t n (y_e9 t n (y_e9 t n (y_e9 t n p)))))))
  else if y_w2 t n p = true then (if D 3 = 50 then ((3, y_s t n p), p, D) else (y_ff t n (y_cParty t n (y_e9 t n p) (D 2)) (y_e9 t n p), (y_e9 t n (y_e9 t n (y_e9 t n (y_e9 t n p)))), k_dParty D (y_vv t n (y_e9 t n p)) (y_vv t n (y_e9 t n (y_e9 t n p)))))
  else if y_w3 t n p = true then (y_ff t n (y_cExt t n (y_e9 t n p)) (y_e9 t n p), (y_e9 t n (y_e9 t n (y_e9 t n p))), z_up D 4 (y_vv t n (y_e9 t n p)))
  else ((1, y_s t n p), p, D)
/-- what holds of a draft -/
def y_Db (D : Int → Int) : Prop := D 0 = 0 ∧ (0 ≤ D 1 ∧ D 1 ≤ 8) ∧ (0 ≤ D 2 ∧ D 2 ≤ 4) ∧ (0 ≤ D 3 ∧ D 3 ≤ 50) ∧ (0 ≤ D 4 ∧ D 4 ≤ 48) ∧ D 5 = 0 ∧ (∀ r, 0 ≤ r → r < D 1 → (1 ≤ D (10 + 14 * r + 0) ∧ D (10 + 14 * r + 0) ≤ 200) ∧ (0 ≤ D (10 + 14 * r + 1) ∧ D (10 + 14 * r + 1) ≤ 100) ∧ (1 ≤ D (10 + 14 * r + 2) ∧ D (10 + 14 * r + 2) ≤ 24) ∧ (0 ≤ D (10 + 14 * r + 3) ∧ D (10 + 14 * r + 3) ≤ D (10 + 14 * r + 4) ∧ D (10 + 14 * r + 4) ≤ 143)) ∧ (∀ r w, 0 ≤ r → r < 8 → 5 ≤ w → w < 14 → D (10 + 14 * r + w) = 0) ∧ (∀ i, 0 ≤ i → i < D 2 → y_tier D i) ∧ (∀ i, 0 ≤ i → i < D 3 → (0 ≤ D (138 + 3 * i + 0) ∧ D (138 + 3 * i + 0) < D 2) ∧ (1 ≤ D (138 + 3 * i + 1) ∧ D (138 + 3 * i + 1) ≤ 12) ∧ D (138 + 3 * i + 2) = -1)
theorem y_nc0 {t : Int → Int} {n p lo hi : Int} (h : y_nc t n p lo hi = 0) : lo ≤ y_vv t n p ∧ y_vv t n p ≤ hi := by
  unfold y_nc at h
  by_cases h1 : y_k t n p = 2
  · rw [if_pos h1] at h
    by_cases h2 : lo ≤ y_vv t n p ∧ y_vv t n p ≤ hi
    · exact h2
    · rw [if_neg h2] at h; omega
  · rw [if_neg h1] at h; omega
theorem y_ff_c {t : Int → Int} {n : Int} : ∀ {cs : List Int} {p : Int}, (y_ff t n cs p).1 = 0 → ∀ c, c ∈ cs → c = 0
  | [], _, _, c, hc => by cases hc
  | a :: cs, p, h, c, hc => by
    rw [y_ff] at h
    by_cases e : a = 0
    · rw [if_pos e] at h
      rcases List.mem_cons.mp hc with z | z
      · rw [z, e]
      · exact y_ff_c h c z
    · rw [if_neg e] at h; exact absurd h e
theorem y_Db_ride {D : Int → Int} {a b c e f : Int} (h : y_Db D) (h8 : D 1 ≠ 8) (ha : 1 ≤ a ∧ a ≤ 200) (hb : 0 ≤ b ∧ b ≤ 100) (hc : 1 ≤ c ∧ c ≤ 24) (he : 0 ≤ e ∧ e ≤ 143) (hf : e ≤ f ∧ f ≤ 143) : y_Db (k_dRide D a b c e f) := by
  obtain ⟨d0, d1, d2, d3, d4, d5, hr, hz, ht, hp⟩ := h
  generalize eq' : k_dRide D a b c e f = D'
  have O : ∀ j, j ≠ 1 → (j < 10 + 14 * D 1 ∨ 10 + 14 * D 1 + 4 < j) → D' j = D j := fun j h1 h2 => by rw [← eq']; unfold k_dRide; simp (disch := omega) only [z_up_ne]
  have v1 : D' 1 = D 1 + 1 := by rw [← eq']; unfold k_dRide; rw [z_up_eq rfl]
  have w0 : D' (10 + 14 * D 1 + 0) = a := by rw [← eq']; unfold k_dRide; simp (disch := omega) only [z_up_ne, z_up_eq]
  have w1 : D' (10 + 14 * D 1 + 1) = b := by rw [← eq']; unfold k_dRide; simp (disch := omega) only [z_up_ne, z_up_eq]
  have w2 : D' (10 + 14 * D 1 + 2) = c := by rw [← eq']; unfold k_dRide; simp (disch := omega) only [z_up_ne, z_up_eq]
  have w3 : D' (10 + 14 * D 1 + 3) = e := by rw [← eq']; unfold k_dRide; simp (disch := omega) only [z_up_ne, z_up_eq]
  have w4 : D' (10 + 14 * D 1 + 4) = f := by rw [← eq']; unfold k_dRide; simp (disch := omega) only [z_up_ne, z_up_eq]
  refine ⟨by rw [O 0 (by omega) (by omega)]; exact d0, by omega, by rw [O 2 (by omega) (by omega)]; exact d2, by rw [O 3 (by omega) (by omega)]; exact d3, by rw [O 4 (by omega) (by omega)]; exact d4, by rw [O 5 (by omega) (by omega)]; exact d5, fun r a1 a2 => ?_, fun r w a1 a2 a3 a4 => ?_, fun i a1 a2 => ?_, fun i a1 a2 => ?_⟩
  · by_cases z : r = D 1
    · subst z; rw [w0, w1, w2, w3, w4]; omega
    · rw [O _ (by omega) (by omega), O _ (by omega) (by omega), O _ (by omega) (by omega), O _ (by omega) (by omega), O _ (by omega) (by omega)]
      exact hr r a1 (by omega)
  · rw [O _ (by omega) (by omega)]; exact hz r w a1 a2 a3 a4
  · rw [O 2 (by omega) (by omega)] at a2
    exact y_tier_c (fun w b1 b2 => O _ (by omega) (by omega)) (ht i a1 a2)
  · rw [O 3 (by omega) (by omega)] at a2
    rw [O (138 + 3 * i + 0) (by omega) (by omega), O (138 + 3 * i + 1) (by omega) (by omega), O (138 + 3 * i + 2) (by omega) (by omega), O 2 (by omega) (by omega)]
    exact hp i a1 a2
theorem y_Db_tier {D : Int → Int} {a b c e : Int} (h : y_Db D) (h8 : D 2 ≠ 4) (ha : 1 ≤ a ∧ a ≤ 5) (hb : 1 ≤ b ∧ b ≤ 144) (hc : 0 ≤ c ∧ c ≤ 48) (he : 0 ≤ e ∧ e ≤ 9) : y_Db (k_dTier D a b c e) := by
  obtain ⟨d0, d1, d2, d3, d4, d5, hr, hz, ht, hp⟩ := h
  generalize eq' : k_dTier D a b c e = D'
  have O : ∀ j, j ≠ 2 → (j < 122 + 4 * D 2 ∨ 122 + 4 * D 2 + 3 < j) → D' j = D j := fun j h1 h2 => by rw [← eq']; unfold k_dTier; simp (disch := omega) only [z_up_ne]
  have v2 : D' 2 = D 2 + 1 := by rw [← eq']; unfold k_dTier; rw [z_up_eq rfl]
  have w0 : D' (122 + 4 * D 2 + 0) = a := by rw [← eq']; unfold k_dTier; simp (disch := omega) only [z_up_ne, z_up_eq]
  have w1 : D' (122 + 4 * D 2 + 1) = b := by rw [← eq']; unfold k_dTier; simp (disch := omega) only [z_up_ne, z_up_eq]
  have w2 : D' (122 + 4 * D 2 + 2) = c := by rw [← eq']; unfold k_dTier; simp (disch := omega) only [z_up_ne, z_up_eq]
  have w3 : D' (122 + 4 * D 2 + 3) = e := by rw [← eq']; unfold k_dTier; simp (disch := omega) only [z_up_ne, z_up_eq]
  refine ⟨by rw [O 0 (by omega) (by omega)]; exact d0, by rw [O 1 (by omega) (by omega)]; exact d1, by omega, by rw [O 3 (by omega) (by omega)]; exact d3, by rw [O 4 (by omega) (by omega)]; exact d4, by rw [O 5 (by omega) (by omega)]; exact d5, fun r a1 a2 => ?_, fun r w a1 a2 a3 a4 => ?_, fun i a1 a2 => ?_, fun i a1 a2 => ?_⟩
  · rw [O 1 (by omega) (by omega)] at a2
    rw [O _ (by omega) (by omega), O _ (by omega) (by omega), O _ (by omega) (by omega), O _ (by omega) (by omega), O _ (by omega) (by omega)]
    exact hr r a1 a2
  · rw [O _ (by omega) (by omega)]; exact hz r w a1 a2 a3 a4
  · by_cases z : i = D 2
    · subst z; unfold y_tier; rw [w0, w1, w2, w3]; omega
    · exact y_tier_c (fun w b1 b2 => O _ (by omega) (by omega)) (ht i a1 (by omega))
  · rw [O 3 (by omega) (by omega)] at a2
    have := hp i a1 a2
    rw [O (138 + 3 * i + 0) (by omega) (by omega), O (138 + 3 * i + 1) (by omega) (by omega), O (138 + 3 * i + 2) (by omega) (by omega), v2]
    omega
theorem y_Db_party {D : Int → Int} {a b : Int} (h : y_Db D) (h8 : D 3 ≠ 50) (ha : 0 ≤ a ∧ a ≤ D 2 - 1) (hb : 1 ≤ b ∧ b ≤ 12) : y_Db (k_dParty D a b) := by
  obtain ⟨d0, d1, d2, d3, d4, d5, hr, hz, ht, hp⟩ := h
  generalize eq' : k_dParty D a b = D'
  have O : ∀ j, j ≠ 3 → (j < 138 + 3 * D 3 ∨ 138 + 3 * D 3 + 2 < j) → D' j = D j := fun j h1 h2 => by rw [← eq']; unfold k_dParty; simp (disch := omega) only [z_up_ne]
  have v3 : D' 3 = D 3 + 1 := by rw [← eq']; unfold k_dParty; rw [z_up_eq rfl]
  have w0 : D' (138 + 3 * D 3 + 0) = a := by rw [← eq']; unfold k_dParty; simp (disch := omega) only [z_up_ne, z_up_eq]
  have w1 : D' (138 + 3 * D 3 + 1) = b := by rw [← eq']; unfold k_dParty; simp (disch := omega) only [z_up_ne, z_up_eq]
  have w2 : D' (138 + 3 * D 3 + 2) = -1 := by rw [← eq']; unfold k_dParty; simp (disch := omega) only [z_up_ne, z_up_eq]
  refine ⟨by rw [O 0 (by omega) (by omega)]; exact d0, by rw [O 1 (by omega) (by omega)]; exact d1, by rw [O 2 (by omega) (by omega)]; exact d2, by omega, by rw [O 4 (by omega) (by omega)]; exact d4, by rw [O 5 (by omega) (by omega)]; exact d5, fun r a1 a2 => ?_, fun r w a1 a2 a3 a4 => ?_, fun i a1 a2 => ?_, fun i a1 a2 => ?_⟩
  · rw [O 1 (by omega) (by omega)] at a2
    rw [O _ (by omega) (by omega), O _ (by omega) (by omega), O _ (by omega) (by omega), O _ (by omega) (by omega), O _ (by omega) (by omega)]
    exact hr r a1 a2
  · rw [O _ (by omega) (by omega)]; exact hz r w a1 a2 a3 a4
  · rw [O 2 (by omega) (by omega)] at a2
    exact y_tier_c (fun w b1 b2 => O _ (by omega) (by omega)) (ht i a1 a2)
  · rw [O 2 (by omega) (by omega)]
    by_cases z : i = D 3
    · subst z; rw [w0, w1, w2]; omega
    · rw [O _ (by omega) (by omega), O _ (by omega) (by omega), O _ (by omega) (by omega)]
      exact hp i a1 (by omega)
theorem y_Db_ext {D : Int → Int} {v : Int} (h : y_Db D) (hv : 0 ≤ v ∧ v ≤ 48) : y_Db (z_up D 4 v) := by
  obtain ⟨d0, d1, d2, d3, d4, d5, hr, hz, ht, hp⟩ := h
  have O : ∀ j, j ≠ 4 → z_up D 4 v j = D j := fun j h1 => z_up_ne h1
  refine ⟨by rw [O 0 (by omega)]; exact d0, by rw [O 1 (by omega)]; exact d1, by rw [O 2 (by omega)]; exact d2, by rw [O 3 (by omega)]; exact d3, by rw [z_up_eq rfl]; exact hv, by rw [O 5 (by omega)]; exact d5, fun r a1 a2 => ?_, fun r w a1 a2 a3 a4 => ?_, fun i a1 a2 => ?_, fun i a1 a2 => ?_⟩
  · rw [O 1 (by omega)] at a2
    rw [O _ (by omega), O _ (by omega), O _ (by omega), O _ (by omega), O _ (by omega)]
    exact hr r a1 a2
  · rw [O _ (by omega)]; exact hz r w a1 a2 a3 a4
  · rw [O 2 (by omega)] at a2
    exact y_tier_c (fun w b1 b2 => O _ (by omega)) (ht i a1 a2)
  · rw [O 3 (by omega)] at a2
    rw [O (138 + 3 * i + 0) (by omega), O (138 + 3 * i + 1) (by omega), O (138 + 3 * i + 2) (by omega), O 2 (by omega)]
    exact hp i a1 a2
theorem y_Db_stm {t : Int → Int} {n p : Int} {D : Int → Int} (h : y_Db D) (hc : (y_stm t n p D).1.1 = 0) : y_Db (y_stm t n p D).2.2 := by
  unfold y_stm at *
  by_cases w0 : y_w0 t n p = true
  · rw [if_pos w0] at *
    by_cases h8 : D 1 = 8
    · rw [if_pos h8] at *; exact h
    · rw [if_neg h8] at *
      have z := y_ff_c hc
      exact y_Db_ride h h8 (y_nc0 (z _ (by simp [y_cRide]))) (y_nc0 (z _ (by simp [y_cRide]))) (y_nc0 (z _ (by simp [y_cRide]))) (y_nc0 (z _ (by simp [y_cRide]))) (y_nc0 (z _ (by simp [y_cRide])))
  · rw [if_neg w0] at *
    by_cases w1 : y_w1 t n p = true
    · rw [if_pos w1] at *
      by_cases h8 : D 2 = 4
      · rw [if_pos h8] at *; exact h
      · rw [if_neg h8] at *
        have z := y_ff_c hc
        exact y_Db_tier h h8 (y_nc0 (z _ (by simp [y_cTier]))) (y_nc0 (z _ (by simp [y_cTier]))) (y_nc0 (z _ (by simp [y_cTier]))) (y_nc0 (z _ (by simp [y_cTier])))
    · rw [if_neg w1] at *
      by_cases w2 : y_w2 t n p = true
      · rw [if_pos w2] at *
        by_cases h8 : D 3 = 50
        · rw [if_pos h8] at *; exact h
        · rw [if_neg h8] at *
          have z := y_ff_c hc
          exact y_Db_party h h8 (y_nc0 (z _ (by simp [y_cParty]))) (y_nc0 (z _ (by simp [y_cParty])))
      · rw [if_neg w2] at *
        by_cases w3 : y_w3 t n p = true
        · rw [if_pos w3] at *
          have z := y_ff_c hc
          exact y_Db_ext h (y_nc0 (z _ (by simp [y_cExt])))
        · rw [if_neg w3] at *; exact h
/-- the reference's draft -/
def y_D (D : Int → Int) (J : z_J) : Prop := ∀ j, 0 ≤ j → j < 4964 → J 149 (19856 + j) = D j
def y_fd (J J1 : z_J) : Prop := (∀ j, (j < 14 ∨ 19 < j) → J1 148 j = J 148 j) ∧ (∀ j, (j < 19856 ∨ 24820 ≤ j) → J1 149 j = J 149 j) ∧ ∀ b, b ≠ 148 → b ≠ 149 → J1 b = J b
theorem y_fd.rf {J : z_J} : y_fd J J := ⟨fun _ _ => rfl, fun _ _ => rfl, fun _ _ _ => rfl⟩
theorem y_fd.tr {J J1 J2 : z_J} (h1 : y_fd J J1) (h2 : y_fd J1 J2) : y_fd J J2 := ⟨fun j h => (h2.1 j h).trans (h1.1 j h), fun j h => (h2.2.1 j h).trans (h1.2.1 j h), fun b h h' => (h2.2.2 b h h').trans (h1.2.2 b h h')⟩
theorem y_f6.fd {J J1 : z_J} (h : y_f6 J J1) : y_fd J J1 := ⟨h.1, fun j _ => by rw [h.2 149 (by omega)], fun b hb _ => h.2 b hb⟩
theorem y_fd.u {J J1 : z_J} {k v : Int} (h : y_fd J J1) (hk : 19856 ≤ k ∧ k < 24820) : y_fd J (z_u J1 149 k v) := ⟨fun j hj => by rw [z_u_ne (by omega)]; exact h.1 j hj, fun j hj => by rw [z_u_off (by omega)]; exact h.2.1 j hj, fun b hb hb' => by rw [z_u_ne hb']; exact h.2.2 b hb hb'⟩
/-- how a statement ends for the reference -/
def y_out (t : Int → Int) (n : Int) (J : z_J) (X : z_X) (r : (Int × Int) × Int × (Int → Int)) (v : Int) (J' : z_J) (X' : z_X) : Prop := y_fX X X' ∧ y_fd J J' ∧ ((r.1.1 = 0 ∧ v = 1 ∧ y_R t n r.2.1 J' X' ∧ y_D r.2.2 J') ∨ (r.1.1 ≠ 0 ∧ v = 0 ∧ J' 148 15 = r.1.1 ∧ J' 148 16 = r.1.2))
theorem y_out_e {t : Int → Int} {n : Int} {J J1 J' : z_J} {X X1 X' : z_X} {r : (Int × Int) × Int × (Int → Int)} {c p : Int} (hx : y_fX X X1) (hd : y_fd J J1) (hx2 : y_fX X1 X') (he : y_er9 J1 c p J') (hr : r.1 = (c, p)) (h0 : c ≠ 0) : y_out t n J X r 0 J' X' := ⟨hx.tr hx2, hd.tr he.2.2.fd, Or.inr ⟨by rw [hr]; exact h0, rfl, by rw [hr]; exact he.1, by rw [hr]; exact he.2.1⟩⟩
theorem y_R_u {t : Int → Int} {n p k v : Int} {J : z_J} {X : z_X} (h : y_R t n p J X) : y_R t n p (z_u J 149 k v) X := ⟨by rw [z_u_ne (by omega)]; exact h.1, by rw [z_u_ne (by omega)]; exact h.2.1, ⟨by rw [z_u_ne (by omega)]; exact h.2.2.1.1, by rw [z_u_ne (by omega)]; exact h.2.2.1.2⟩, by rw [z_u_ne (by omega)]; exact h.2.2.2.1, by rw [z_u_ne (by omega)]; exact h.2.2.2.2.1, by rw [z_u_ne (by omega)]; exact h.2.2.2.2.2.1, h.2.2.2.2.2.2⟩
theorem z_pos {v : Int} (h : v = 1) : v ≠ 0 := by omega
section R24
variable {l : Launch} {d : Nat} {g : List (Option Nat)} {T : m_E} {J : z_J} {X : z_X} {t : Int → Int} {n p : Int} {D : Int → Int}
theorem c_readInto {k lo hi : Int} (hk : 19856 ≤ k ∧ k < 24820) (hT : y_T t n) (hp : 0 ≤ p ∧ p ≤ n) (h : y_R t n p J X) : z_Sem l (d + 5) M_R_readInto [.inr (.inr (.ref 148)), .inl k, .inl lo, .inl hi] (m_Ex g T, J, X) 0 0 (z_rq (m_Ex g T) (fun v J' X' => y_fX X X' ∧ ((y_nc t n p lo hi = 0 ∧ v = 1 ∧ y_R t n (y_e9 t n p) J' X' ∧ J' 149 = z_up (J 149) k (y_vv t n p) ∧ y_fd J J') ∨ (y_nc t n p lo hi ≠ 0 ∧ v = 0 ∧ y_er9 J (y_nc t n p lo hi) (y_s t n p) J')))) := by
  refine z_sem_of z_m325 m_ok_325 (Nat.le_of_ble_eq_true rfl) (fun Wp hs hv hS => ?_)
  refine w_325_0 hs ?_
  refine z_cIq (c_readNumber hT hp h) ?_
  rintro v J2 X2 ⟨x2, ⟨c0, rfl, r1, r2, r3⟩ | ⟨c0, rfl, r1⟩⟩
  · refine ⟨fun _ => ⟨by omega, ?_⟩, fun c => absurd c (by decide)⟩
    rw [r2]
    refine ⟨_, _, _, rfl, rfl, x2, Or.inl ⟨c0, rfl, y_R_u r1, ?_, r3.fd.u hk⟩⟩
    rw [z_u_row, r3.2 149 (by omega)]
  · exact ⟨fun c => absurd rfl c, fun _ => ⟨_, _, _, rfl, rfl, x2, Or.inr ⟨c0, rfl, r1⟩⟩⟩
theorem c_readRide (hT : y_T t n) (hp : 0 ≤ p ∧ p ≤ n) (hb : y_Db D) (hD : y_D D J) (h : y_R t n p J X) (hr : y_stm t n p D = (if D 1 = 8 then ((3, y_s t n p), p, D) else (y_ff t n (y_cRide t n (y_e9 t n p)) (y_e9 t n p), (y_e9 t n (y_e9 t n (y_e9 t n (y_e9 t n (y_e9 t n (y_e9 t n (y_e9 t n p))))))), k_dRide D (y_vv t n (y_e9 t n p)) (y_vv t n (y_e9 t n (y_e9 t n p))) (y_vv t n (y_e9 t n (y_e9 t n (y_e9 t n p)))) (y_vv t n (y_e9 t n (y_e9 t n (y_e9 t n (y_e9 t n p))))) (y_vv t n (y_e9 t n (y_e9 t n (y_e9 t n (y_e9 t n (y_e9 t n p))))))))) : z_Sem l (d + 6) M_R_readRide [.inr (.inr (.ref 148))] (m_Ex g T, J, X) 0 0 (z_rq (m_Ex g T) (fun v J' X' => y_out t n J X (y_stm t n p D) v J' X')) := by
  have b0 := y_tok_b (t := t) (n := n) hp.2
  have b1 := y_tok_b (t := t) (n := n) (p := (y_e9 t n p)) (by omega)
  have b2 := y_tok_b (t := t) (n := n) (p := (y_e9 t n (y_e9 t n p))) (by omega)
  have b3 := y_tok_b (t := t) (n := n) (p := (y_e9 t n (y_e9 t n (y_e9 t n p)))) (by omega)
  have b4 := y_tok_b (t := t) (n := n) (p := (y_e9 t n (y_e9 t n (y_e9 t n (y_e9 t n p))))) (by omega)
  have b5 := y_tok_b (t := t) (n := n) (p := (y_e9 t n (y_e9 t n (y_e9 t n (y_e9 t n (y_e9 t n p)))))) (by omega)
  have b6 := y_tok_b (t := t) (n := n) (p := (y_e9 t n (y_e9 t n (y_e9 t n (y_e9 t n (y_e9 t n (y_e9 t n p))))))) (by omega)
  have db := hb
  obtain ⟨d0, d1, d2, d3, d4, d5, -⟩ := db
  have ec : J 149 19857 = D 1 := hD 1 (by omega) (by omega)
  rw [hr]
  refine z_sem_of z_m323 m_ok_323 (Nat.le_of_ble_eq_true rfl) (fun Wp hs hv hS => ?_)
  refine w_323_0 hs ?_
  rw [ec, h.2.2.2.1]
  refine ⟨fun c8 => ?_, fun c8 => ?_⟩
  · rw [if_neg c8]
    refine c_next hT hp h (fun J1 X1 r1 f1 x1 => ?_)
    have g1 := f1.f6.fd
    have xa1 := x1
    have q1 : J1 149 = J 149 := f1.2 149 (by omega)
    have e1 : J1 149 19857 = D 1 := by rw [q1]; exact ec
    rw [e1]
    refine ⟨by omega, z_cIq (c_readInto (J := J1) (k := 19866 + 14 * D 1 + 0) (by omega) hT (by omega) r1) ?_⟩
    rintro v2 J2 X2 ⟨x2, ⟨c1, rfl, r2, p2, s2⟩ | ⟨c1, rfl, z2⟩⟩
    rotate_left
    · exact ⟨fun _ => ⟨_, _, _, rfl, rfl, y_out_e xa1 g1 x2 z2 (by show y_ff t n (y_cRide t n (y_e9 t n p)) (y_e9 t n p) = _; unfold y_cRide; simp only [y_ff]; rw [if_neg c1]) c1⟩, fun c => absurd rfl c⟩
    refine ⟨fun c => absurd c (by decide), fun _ => ?_⟩
    have xa2 := xa1.tr x2
    have g2 := g1.tr s2
    have q2 := p2
    rw [q1] at q2
    refine ⟨by omega, z_cIq (c_readInto (J := J2) (k := 19866 + 14 * D 1 + 1) (by omega) hT (by omega) r2) ?_⟩
    rintro v3 J3 X3 ⟨x3, ⟨c2, rfl, r3, p3, s3⟩ | ⟨c2, rfl, z3⟩⟩
    rotate_left
    · exact ⟨fun _ => ⟨_, _, _, rfl, rfl, y_out_e xa2 g2 x3 z3 (by show y_ff t n (y_cRide t n (y_e9 t n p)) (y_e9 t n p) = _; unfold y_cRide; simp only [y_ff]; rw [if_pos c1, if_neg c2]) c2⟩, fun c => absurd rfl c⟩
    refine ⟨fun c => absurd c (by decide), fun _ => ?_⟩
    have xa3 := xa2.tr x3
    have g3 := g2.tr s3
    have q3 := p3
    rw [q2] at q3
    refine ⟨by omega, z_cIq (c_readInto (J := J3) (k := 19866 + 14 * D 1 + 2) (by omega) hT (by omega) r3) ?_⟩
    rintro v4 J4 X4 ⟨x4, ⟨c3, rfl, r4, p4, s4⟩ | ⟨c3, rfl, z4⟩⟩
    rotate_left
    · exact ⟨fun _ => ⟨_, _, _, rfl, rfl, y_out_e xa3 g3 x4 z4 (by show y_ff t n (y_cRide t n (y_e9 t n p)) (y_e9 t n p) = _; unfold y_cRide; simp only [y_ff]; rw [if_pos c1, if_pos c2, if_neg c3]) c3⟩, fun c => absurd rfl c⟩
    refine ⟨fun c => absurd c (by decide), fun _ => ?_⟩
    have xa4 := xa3.tr x4
    have g4 := g3.tr s4
    have q4 := p4
    rw [q3] at q4
    refine ⟨by omega, z_cIq (c_readInto (J := J4) (k := 19866 + 14 * D 1 + 3) (by omega) hT (by omega) r4) ?_⟩
    rintro v5 J5 X5 ⟨x5, ⟨c4, rfl, r5, p5, s5⟩ | ⟨c4, rfl, z5⟩⟩
    rotate_left
    · exact ⟨fun c => absurd rfl c, fun _ => ⟨_, _, _, rfl, rfl, y_out_e xa4 g4 x5 z5 (by show y_ff t n (y_cRide t n (y_e9 t n p)) (y_e9 t n p) = _; unfold y_cRide; simp only [y_ff]; rw [if_pos c1, if_pos c2, if_pos c3, if_neg c4]) c4⟩⟩
    refine ⟨fun _ => ?_, fun c => absurd c (by decide)⟩
    have xa5 := xa4.tr x5
    have g5 := g4.tr s5
    have q5 := p5
    rw [q4] at q5
    have ev : J5 149 (19866 + 14 * D 1 + 3) = y_vv t n (y_e9 t n (y_e9 t n (y_e9 t n (y_e9 t n p)))) := by rw [q5, z_up_eq rfl]
    rw [ev]
    refine ⟨by omega, z_cIq (c_readInto (J := J5) (k := 19866 + 14 * D 1 + 4) (by omega) hT (by omega) r5) ?_⟩
    rintro v6 J6 X6 ⟨x6, ⟨c5, rfl, r6, p6, s6⟩ | ⟨c5, rfl, z6⟩⟩
    rotate_left
    · exact ⟨fun c => absurd rfl c, fun _ => ⟨_, _, _, rfl, rfl, y_out_e xa5 g5 x6 z6 (by show y_ff t n (y_cRide t n (y_e9 t n p)) (y_e9 t n p) = _; unfold y_cRide; simp only [y_ff]; rw [if_pos c1, if_pos c2, if_pos c3, if_pos c4, if_neg c5]) c5⟩⟩
    refine ⟨fun _ => ?_, fun c => absurd c (by decide)⟩
    have xa6 := xa5.tr x6
    have g6 := g5.tr s6
    have q6 := p6
    rw [q5] at q6
    have en : J6 149 19857 = D 1 := by rw [q6]; simp (disch := omega) only [z_up_ne]; exact ec
    rw [en]
    refine ⟨by omega, z_cIq (c_readEnd hT (by omega) (y_R_u (k := 19857) (v := D 1 + 1) r6)) ?_⟩
    rintro v9 J9 X9 ⟨x9, ⟨c9, rfl, r9, s9⟩ | ⟨c9, rfl, z9⟩⟩
    · refine ⟨Or.inr rfl, _, _, _, rfl, rfl, xa6.tr x9, (g6.u (by omega)).tr s9.fd, Or.inl ⟨?_, rfl, r9, fun j a1 a2 => ?_⟩⟩
      · show (y_ff t n (y_cRide t n (y_e9 t n p)) (y_e9 t n p)).1 = 0
        unfold y_cRide; simp only [y_ff]; rw [if_pos c1, if_pos c2, if_pos c3, if_pos c4, if_pos c5, if_pos c9]
      · rw [s9.2 149 (by omega), z_u_row, q6]
        show _ = (k_dRide D (y_vv t n (y_e9 t n p)) (y_vv t n (y_e9 t n (y_e9 t n p))) (y_vv t n (y_e9 t n (y_e9 t n (y_e9 t n p)))) (y_vv t n (y_e9 t n (y_e9 t n (y_e9 t n (y_e9 t n p))))) (y_vv t n (y_e9 t n (y_e9 t n (y_e9 t n (y_e9 t n (y_e9 t n p))))))) j
        unfold k_dRide
        by_cases h1 : j = 1
        · rw [z_up_eq (by omega), z_up_eq h1]
        · rw [z_up_ne (by omega), z_up_ne h1]
          by_cases o4 : j = 10 + 14 * D 1 + 4
          · rw [z_up_eq (by omega), z_up_eq o4]
          · rw [z_up_ne (by omega), z_up_ne o4]
            by_cases o3 : j = 10 + 14 * D 1 + 3
            · rw [z_up_eq (by omega), z_up_eq o3]
            · rw [z_up_ne (by omega), z_up_ne o3]
              by_cases o2 : j = 10 + 14 * D 1 + 2
              · rw [z_up_eq (by omega), z_up_eq o2]
              · rw [z_up_ne (by omega), z_up_ne o2]
                by_cases o1 : j = 10 + 14 * D 1 + 1
                · rw [z_up_eq (by omega), z_up_eq o1]
                · rw [z_up_ne (by omega), z_up_ne o1]
                  by_cases o0 : j = 10 + 14 * D 1 + 0
                  · rw [z_up_eq (by omega), z_up_eq o0]
                  · rw [z_up_ne (by omega), z_up_ne o0]
                    exact hD j a1 a2
    · refine ⟨Or.inl rfl, _, _, _, rfl, rfl, y_out_e xa6 (g6.u (by omega)) x9 z9 ?_ c9⟩
      show y_ff t n (y_cRide t n (y_e9 t n p)) (y_e9 t n p) = _
      unfold y_cRide; simp only [y_ff]; rw [if_pos c1, if_pos c2, if_pos c3, if_pos c4, if_pos c5, if_neg c9]
  · rw [if_pos c8]
    exact ⟨_, _, _, rfl, rfl, y_out_e y_fX.rf y_fd.rf y_fX.rf y_er_u rfl (by decide)⟩
theorem c_readTier (hT : y_T t n) (hp : 0 ≤ p ∧ p ≤ n) (hb : y_Db D) (hD : y_D D J) (h : y_R t n p J X) (hr : y_stm t n p D = (if D 2 = 4 then ((3, y_s t n p), p, D) else (y_ff t n (y_cTier t n (y_e9 t n p)) (y_e9 t n p), (y_e9 t n (y_e9 t n (y_e9 t n (y_e9 t n (y_e9 t n (y_e9 t n p)))))), k_dTier D (y_vv t n (y_e9 t n p)) (y_vv t n (y_e9 t n (y_e9 t n p))) (y_vv t n (y_e9 t n (y_e9 t n (y_e9 t n p)))) (y_vv t n (y_e9 t n (y_e9 t n (y_e9 t n (y_e9 t n p)))))))) : z_Sem l (d + 6) M_R_readTier [.inr (.inr (.ref 148))] (m_Ex g T, J, X) 0 0 (z_rq (m_Ex g T) (fun v J' X' => y_out t n J X (y_stm t n p D) v J' X')) := by
  have b0 := y_tok_b (t := t) (n := n) hp.2
  have b1 := y_tok_b (t := t) (n := n) (p := (y_e9 t n p)) (by omega)
  have b2 := y_tok_b (t := t) (n := n) (p := (y_e9 t n (y_e9 t n p))) (by omega)
  have b3 := y_tok_b (t := t) (n := n) (p := (y_e9 t n (y_e9 t n (y_e9 t n p)))) (by omega)
  have b4 := y_tok_b (t := t) (n := n) (p := (y_e9 t n (y_e9 t n (y_e9 t n (y_e9 t n p))))) (by omega)
  have b5 := y_tok_b (t := t) (n := n) (p := (y_e9 t n (y_e9 t n (y_e9 t n (y_e9 t n (y_e9 t n p)))))) (by omega)
  have db := hb
  obtain ⟨d0, d1, d2, d3, d4, d5, -⟩ := db
  have ec : J 149 19858 = D 2 := hD 2 (by omega) (by omega)
  rw [hr]
  refine z_sem_of z_m328 m_ok_328 (Nat.le_of_ble_eq_true rfl) (fun Wp hs hv hS => ?_)
  refine w_328_0 hs ?_
  rw [ec, h.2.2.2.1]
  refine ⟨fun c8 => ?_, fun c8 => ?_⟩
  · rw [if_neg c8]
    refine c_next hT hp h (fun J1 X1 r1 f1 x1 => ?_)
    have g1 := f1.f6.fd
    have xa1 := x1
    have q1 : J1 149 = J 149 := f1.2 149 (by omega)
    have e1 : J1 149 19858 = D 2 := by rw [q1]; exact ec
    rw [e1]
    refine ⟨by omega, z_cIq (c_readInto (J := J1) (k := 19978 + 4 * D 2 + 0) (by omega) hT (by omega) r1) ?_⟩
    rintro v2 J2 X2 ⟨x2, ⟨c1, rfl, r2, p2, s2⟩ | ⟨c1, rfl, z2⟩⟩
    rotate_left
    · exact ⟨fun _ => ⟨_, _, _, rfl, rfl, y_out_e xa1 g1 x2 z2 (by show y_ff t n (y_cTier t n (y_e9 t n p)) (y_e9 t n p) = _; unfold y_cTier; simp only [y_ff]; rw [if_neg c1]) c1⟩, fun c => absurd rfl c⟩
    refine ⟨fun c => absurd c (by decide), fun _ => ?_⟩
    have xa2 := xa1.tr x2
    have g2 := g1.tr s2
    have q2 := p2
    rw [q1] at q2
    refine ⟨by omega, z_cIq (c_readInto (J := J2) (k := 19978 + 4 * D 2 + 1) (by omega) hT (by omega) r2) ?_⟩
    rintro v3 J3 X3 ⟨x3, ⟨c2, rfl, r3, p3, s3⟩ | ⟨c2, rfl, z3⟩⟩
    rotate_left
    · exact ⟨fun _ => ⟨_, _, _, rfl, rfl, y_out_e xa2 g2 x3 z3 (by show y_ff t n (y_cTier t n (y_e9 t n p)) (y_e9 t n p) = _; unfold y_cTier; simp only [y_ff]; rw [if_pos c1, if_neg c2]) c2⟩, fun c => absurd rfl c⟩
    refine ⟨fun c => absurd c (by decide), fun _ => ?_⟩
    have xa3 := xa2.tr x3
    have g3 := g2.tr s3
    have q3 := p3
    rw [q2] at q3
    refine ⟨by omega, z_cIq (c_readInto (J := J3) (k := 19978 + 4 * D 2 + 2) (by omega) hT (by omega) r3) ?_⟩
    rintro v4 J4 X4 ⟨x4, ⟨c3, rfl, r4, p4, s4⟩ | ⟨c3, rfl, z4⟩⟩
    rotate_left
    · exact ⟨fun _ => ⟨_, _, _, rfl, rfl, y_out_e xa3 g3 x4 z4 (by show y_ff t n (y_cTier t n (y_e9 t n p)) (y_e9 t n p) = _; unfold y_cTier; simp only [y_ff]; rw [if_pos c1, if_pos c2, if_neg c3]) c3⟩, fun c => absurd rfl c⟩
    refine ⟨fun c => absurd c (by decide), fun _ => ?_⟩
    have xa4 := xa3.tr x4
    have g4 := g3.tr s4
    have q4 := p4
    rw [q3] at q4
    refine ⟨by omega, z_cIq (c_readInto (J := J4) (k := 19978 + 4 * D 2 + 3) (by omega) hT (by omega) r4) ?_⟩
    rintro v5 J5 X5 ⟨x5, ⟨c4, rfl, r5, p5, s5⟩ | ⟨c4, rfl, z5⟩⟩
    rotate_left
    · exact ⟨fun c => absurd rfl c, fun _ => ⟨_, _, _, rfl, rfl, y_out_e xa4 g4 x5 z5 (by show y_ff t n (y_cTier t n (y_e9 t n p)) (y_e9 t n p) = _; unfold y_cTier; simp only [y_ff]; rw [if_pos c1, if_pos c2, if_pos c3, if_neg c4]) c4⟩⟩
    refine ⟨fun _ => ?_, fun c => absurd c (by decide)⟩
    have xa5 := xa4.tr x5
    have g5 := g4.tr s5
    have q5 := p5
    rw [q4] at q5
    have en : J5 149 19858 = D 2 := by rw [q5]; simp (disch := omega) only [z_up_ne]; exact ec
    rw [en]
    refine ⟨by omega, z_cIq (c_readEnd hT (by omega) (y_R_u (k := 19858) (v := D 2 + 1) r5)) ?_⟩
    rintro v9 J9 X9 ⟨x9, ⟨c9, rfl, r9, s9⟩ | ⟨c9, rfl, z9⟩⟩
    · refine ⟨Or.inr rfl, _, _, _, rfl, rfl, xa5.tr x9, (g5.u (by omega)).tr s9.fd, Or.inl ⟨?_, rfl, r9, fun j a1 a2 => ?_⟩⟩
      · show (y_ff t n (y_cTier t n (y_e9 t n p)) (y_e9 t n p)).1 = 0
        unfold y_cTier; simp only [y_ff]; rw [if_pos c1, if_pos c2, if_pos c3, if_pos c4, if_pos c9]
      · rw [s9.2 149 (by omega), z_u_row, q5]
        show _ = (k_dTier D (y_vv t n (y_e9 t n p)) (y_vv t n (y_e9 t n (y_e9 t n p))) (y_vv t n (y_e9 t n (y_e9 t n (y_e9 t n p)))) (y_vv t n (y_e9 t n (y_e9 t n (y_e9 t n (y_e9 t n p)))))) j
        unfold k_dTier
        by_cases h1 : j = 2
        · rw [z_up_eq (by omega), z_up_eq h1]
        · rw [z_up_ne (by omega), z_up_ne h1]
          by_cases o3 : j = 122 + 4 * D 2 + 3
          · rw [z_up_eq (by omega), z_up_eq o3]
          · rw [z_up_ne (by omega), z_up_ne o3]
            by_cases o2 : j = 122 + 4 * D 2 + 2
            · rw [z_up_eq (by omega), z_up_eq o2]
            · rw [z_up_ne (by omega), z_up_ne o2]
              by_cases o1 : j = 122 + 4 * D 2 + 1
              · rw [z_up_eq (by omega), z_up_eq o1]
              · rw [z_up_ne (by omega), z_up_ne o1]
                by_cases o0 : j = 122 + 4 * D 2 + 0
                · rw [z_up_eq (by omega), z_up_eq o0]
                · rw [z_up_ne (by omega), z_up_ne o0]
                  exact hD j a1 a2
    · refine ⟨Or.inl rfl, _, _, _, rfl, rfl, y_out_e xa5 (g5.u (by omega)) x9 z9 ?_ c9⟩
      show y_ff t n (y_cTier t n (y_e9 t n p)) (y_e9 t n p) = _
      unfold y_cTier; simp only [y_ff]; rw [if_pos c1, if_pos c2, if_pos c3, if_pos c4, if_neg c9]
  · rw [if_pos c8]
    exact ⟨_, _, _, rfl, rfl, y_out_e y_fX.rf y_fd.rf y_fX.rf y_er_u rfl (by decide)⟩
end R24
