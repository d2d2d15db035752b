/-! statements of a park's text, of the class (written by wip/whole/gen994.py) -/
/-- the class's draft -/
def x_D (D : Int → Int) (J : z_J) : Prop := J 3 2 = D 4 ∧ J 4 11 = D 1 ∧ J 16 4 = D 2 ∧ J 16 8 = D 3 ∧ (∀ r, 0 ≤ r → r < D 1 → J 5 r = D (10 + 14 * r + 0) ∧ J 6 r = D (10 + 14 * r + 1) ∧ J 7 r = D (10 + 14 * r + 2) ∧ J 8 r = D (10 + 14 * r + 3) ∧ J 9 r = D (10 + 14 * r + 4)) ∧ (∀ i, 0 ≤ i → i < D 2 → J 17 i = D (122 + 4 * i + 0) ∧ J 18 i = D (122 + 4 * i + 1) ∧ J 19 i = D (122 + 4 * i + 2) ∧ J 20 i = D (122 + 4 * i + 3)) ∧ (∀ i, 0 ≤ i → i < D 3 → J 21 i = D (138 + 3 * i + 0) ∧ J 22 i = D (138 + 3 * i + 1) ∧ J 23 i = D (138 + 3 * i + 2))
/-- what reading a park may touch -/
def x_fb (b : Nat) (j : Int) : Prop := (b = 1 ∧ 2 ≤ j ∧ j ≤ 7) ∨ (b = 3 ∧ j = 2) ∨ (b = 4 ∧ j = 11) ∨ (5 ≤ b ∧ b ≤ 9) ∨ (b = 16 ∧ (j = 4 ∨ j = 8)) ∨ (17 ≤ b ∧ b ≤ 23)
def x_fd (J J1 : z_J) : Prop := ∀ b j, ¬ x_fb b j → J1 b j = J b j
theorem x_fd.rf {J : z_J} : x_fd J J := fun _ _ _ => rfl
theorem x_fd.tr {J J1 J2 : z_J} (h1 : x_fd J J1) (h2 : x_fd J1 J2) : x_fd J J2 := fun b j h => (h2 b j h).trans (h1 b j h)
theorem x_f6.fd {J J1 : z_J} (h : x_f6 J J1) : x_fd J J1 := fun b j hn => by
  by_cases e : b = 1
  · subst e; exact h.1 j (by unfold x_fb at hn; omega)
  · rw [h.2 b e]
theorem x_fd.u {J J1 : z_J} {a : Nat} {k v : Int} (h : x_fd J J1) (hk : x_fb a k) : x_fd J (z_u J1 a k v) := fun b j hn => by
  by_cases e : b = a ∧ j = k
  · rw [e.1, e.2] at hn; exact absurd hk hn
  · rw [z_u_nb (by omega)]; exact h b j hn
theorem x_D.fr {D : Int → Int} {J J1 : z_J} (h : x_D D J) (e : ∀ b, b ≠ 1 → J1 b = J b) : x_D D J1 := by
  unfold x_D
  rw [e 3 (by omega), e 4 (by omega), e 16 (by omega), e 5 (by omega), e 6 (by omega), e 7 (by omega), e 8 (by omega), e 9 (by omega), e 17 (by omega), e 18 (by omega), e 19 (by omega), e 20 (by omega), e 21 (by omega), e 22 (by omega), e 23 (by omega)]
  exact h
theorem x_R.u {t : Int → Int} {n p : Int} {J : z_J} {a : Nat} {k v : Int} (h : x_R t n p J) (ha : 3 ≤ a) : x_R t n p (z_u J a k v) := by
  unfold x_R
  rw [z_u_ne (show 2 ≠ a by omega), z_u_ne (show 1 ≠ a by omega)]
  exact h
/-- how a statement ends for the class -/
def x_o9 (t : Int → Int) (n : Int) (J : z_J) (r : (Int × Int) × Int × (Int → Int)) (J' : z_J) : Prop := x_fd J J' ∧ ((r.1.1 = 0 ∧ x_R t n r.2.1 J' ∧ J' 1 7 = J 1 7 ∧ x_D r.2.2 J') ∨ (r.1.1 ≠ 0 ∧ J' 1 6 = r.1.1 ∧ J' 1 7 = r.1.2))
theorem x_o9_e {t : Int → Int} {n : Int} {J J1 J' : z_J} {r : (Int × Int) × Int × (Int → Int)} {c p : Int} (hd : x_fd J J1) (he : x_er J1 c p J') (hr : r.1 = (c, p)) (h0 : c ≠ 0) : x_o9 t n J r J' := ⟨hd.tr he.2.2.fd, Or.inr ⟨by rw [hr]; exact h0, by rw [hr]; exact he.1, by rw [hr]; exact he.2.1⟩⟩
theorem x_D_ride {D : Int → Int} {J : z_J} {a b c e f : Int} (hb : y_Db D) (h8 : D 1 ≠ 8) (h : x_D D J) : x_D (k_dRide D a b c e f) (z_u (z_u (z_u (z_u (z_u (z_u J 5 (D 1) a) 6 (D 1) b) 7 (D 1) c) 8 (D 1) e) 9 (D 1) f) 4 11 (D 1 + 1)) := by
  obtain ⟨d0, d1, d2, d3, d4, d5, -⟩ := hb
  generalize eq' : k_dRide D a b c e f = D'
  have O : ∀ j, j ≠ 1 → (j < 10 + 14 * D 1 ∨ 10 + 14 * D 1 + 4 < j) → D' j = D j := fun j h1 h2 => by rw [← eq']; unfold k_dRide; simp (disch := omega) only [z_up_ne]
  have v1 : D' 1 = D 1 + 1 := by rw [← eq']; unfold k_dRide; rw [z_up_eq rfl]
  have w0 : D' (10 + 14 * D 1 + 0) = a := by rw [← eq']; unfold k_dRide; simp (disch := omega) only [z_up_ne, z_up_eq]
  have w1 : D' (10 + 14 * D 1 + 1) = b := by rw [← eq']; unfold k_dRide; simp (disch := omega) only [z_up_ne, z_up_eq]
  have w2 : D' (10 + 14 * D 1 + 2) = c := by rw [← eq']; unfold k_dRide; simp (disch := omega) only [z_up_ne, z_up_eq]
  have w3 : D' (10 + 14 * D 1 + 3) = e := by rw [← eq']; unfold k_dRide; simp (disch := omega) only [z_up_ne, z_up_eq]
  have w4 : D' (10 + 14 * D 1 + 4) = f := by rw [← eq']; unfold k_dRide; simp (disch := omega) only [z_up_ne, z_up_eq]
  generalize eJ : (z_u (z_u (z_u (z_u (z_u (z_u J 5 (D 1) a) 6 (D 1) b) 7 (D 1) c) 8 (D 1) e) 9 (D 1) f) 4 11 (D 1 + 1)) = J'
  have N : ∀ b j, ((b ≠ 5 ∨ j ≠ D 1) ∧ (b ≠ 6 ∨ j ≠ D 1) ∧ (b ≠ 7 ∨ j ≠ D 1) ∧ (b ≠ 8 ∨ j ≠ D 1) ∧ (b ≠ 9 ∨ j ≠ D 1)) → (b ≠ 4 ∨ j ≠ 11) → J' b j = J b j := fun b j h1 h2 => by rw [← eJ, z_u_nb h2, z_u_nb (by omega), z_u_nb (by omega), z_u_nb (by omega), z_u_nb (by omega), z_u_nb (by omega)]
  have vc : J' 4 11 = D 1 + 1 := by rw [← eJ, z_u_at rfl]
  have u0 : J' 5 (D 1) = a := by rw [← eJ]; rw [z_u_nb (by omega), z_u_nb (by omega), z_u_nb (by omega), z_u_nb (by omega), z_u_nb (by omega), z_u_at rfl]
  have u1 : J' 6 (D 1) = b := by rw [← eJ]; rw [z_u_nb (by omega), z_u_nb (by omega), z_u_nb (by omega), z_u_nb (by omega), z_u_at rfl]
  have u2 : J' 7 (D 1) = c := by rw [← eJ]; rw [z_u_nb (by omega), z_u_nb (by omega), z_u_nb (by omega), z_u_at rfl]
  have u3 : J' 8 (D 1) = e := by rw [← eJ]; rw [z_u_nb (by omega), z_u_nb (by omega), z_u_at rfl]
  have u4 : J' 9 (D 1) = f := by rw [← eJ]; rw [z_u_nb (by omega), z_u_at rfl]
  obtain ⟨g0, g1, g2, g3, G1, G2, G3⟩ := h
  refine ⟨by rw [N 3 2 (by omega) (by omega), O 4 (by omega) (by omega)]; assumption, by rw [vc, v1], by rw [N 16 4 (by omega) (by omega), O 2 (by omega) (by omega)]; assumption, by rw [N 16 8 (by omega) (by omega), O 3 (by omega) (by omega)]; assumption, fun r a1 a2 => ?_, fun i a1 a2 => ?_, fun i a1 a2 => ?_⟩
  · by_cases z : r = D 1
    · subst z; exact ⟨by rw [u0, w0], by rw [u1, w1], by rw [u2, w2], by rw [u3, w3], by rw [u4, w4]⟩
    · rw [N 5 r (by omega) (by omega), N 6 r (by omega) (by omega), N 7 r (by omega) (by omega), N 8 r (by omega) (by omega), N 9 r (by omega) (by omega), O (10 + 14 * r + 0) (by omega) (by omega), O (10 + 14 * r + 1) (by omega) (by omega), O (10 + 14 * r + 2) (by omega) (by omega), O (10 + 14 * r + 3) (by omega) (by omega), O (10 + 14 * r + 4) (by omega) (by omega)]; exact G1 r a1 (by omega)
  · rw [O 2 (by omega) (by omega)] at a2
    rw [N 17 i (by omega) (by omega), N 18 i (by omega) (by omega), N 19 i (by omega) (by omega), N 20 i (by omega) (by omega), O (122 + 4 * i + 0) (by omega) (by omega), O (122 + 4 * i + 1) (by omega) (by omega), O (122 + 4 * i + 2) (by omega) (by omega), O (122 + 4 * i + 3) (by omega) (by omega)]; exact G2 i a1 a2
  · rw [O 3 (by omega) (by omega)] at a2
    rw [N 21 i (by omega) (by omega), N 22 i (by omega) (by omega), N 23 i (by omega) (by omega), O (138 + 3 * i + 0) (by omega) (by omega), O (138 + 3 * i + 1) (by omega) (by omega), O (138 + 3 * i + 2) (by omega) (by omega)]; exact G3 i a1 a2
theorem x_D_tier {D : Int → Int} {J : z_J} {a b c e : Int} (hb : y_Db D) (h8 : D 2 ≠ 4) (h : x_D D J) : x_D (k_dTier D a b c e) (z_u (z_u (z_u (z_u (z_u J 17 (D 2) a) 18 (D 2) b) 19 (D 2) c) 20 (D 2) e) 16 4 (D 2 + 1)) := by
  obtain ⟨d0, d1, d2, d3, d4, d5, -⟩ := hb
  generalize eq' : k_dTier D a b c e = D'
  have O : ∀ j, j ≠ 2 → (j < 122 + 4 * D 2 ∨ 122 + 4 * D 2 + 3 < j) → D' j = D j := fun j h1 h2 => by rw [← eq']; unfold k_dTier; simp (disch := omega) only [z_up_ne]
  have v1 : D' 2 = D 2 + 1 := by rw [← eq']; unfold k_dTier; rw [z_up_eq rfl]
  have w0 : D' (122 + 4 * D 2 + 0) = a := by rw [← eq']; unfold k_dTier; simp (disch := omega) only [z_up_ne, z_up_eq]
  have w1 : D' (122 + 4 * D 2 + 1) = b := by rw [← eq']; unfold k_dTier; simp (disch := omega) only [z_up_ne, z_up_eq]
  have w2 : D' (122 + 4 * D 2 + 2) = c := by rw [← eq']; unfold k_dTier; simp (disch := omega) only [z_up_ne, z_up_eq]
  have w3 : D' (122 + 4 * D 2 + 3) = e := by rw [← eq']; unfold k_dTier; simp (disch := omega) only [z_up_ne, z_up_eq]
  generalize eJ : (z_u (z_u (z_u (z_u (z_u J 17 (D 2) a) 18 (D 2) b) 19 (D 2) c) 20 (D 2) e) 16 4 (D 2 + 1)) = J'
  have N : ∀ b j, ((b ≠ 17 ∨ j ≠ D 2) ∧ (b ≠ 18 ∨ j ≠ D 2) ∧ (b ≠ 19 ∨ j ≠ D 2) ∧ (b ≠ 20 ∨ j ≠ D 2)) → (b ≠ 16 ∨ j ≠ 4) → J' b j = J b j := fun b j h1 h2 => by rw [← eJ, z_u_nb h2, z_u_nb (by omega), z_u_nb (by omega), z_u_nb (by omega), z_u_nb (by omega)]
  have vc : J' 16 4 = D 2 + 1 := by rw [← eJ, z_u_at rfl]
  have u0 : J' 17 (D 2) = a := by rw [← eJ]; rw [z_u_nb (by omega), z_u_nb (by omega), z_u_nb (by omega), z_u_nb (by omega), z_u_at rfl]
  have u1 : J' 18 (D 2) = b := by rw [← eJ]; rw [z_u_nb (by omega), z_u_nb (by omega), z_u_nb (by omega), z_u_at rfl]
  have u2 : J' 19 (D 2) = c := by rw [← eJ]; rw [z_u_nb (by omega), z_u_nb (by omega), z_u_at rfl]
  have u3 : J' 20 (D 2) = e := by rw [← eJ]; rw [z_u_nb (by omega), z_u_at rfl]
  obtain ⟨g0, g1, g2, g3, G1, G2, G3⟩ := h
  refine ⟨by rw [N 3 2 (by omega) (by omega), O 4 (by omega) (by omega)]; assumption, by rw [N 4 11 (by omega) (by omega), O 1 (by omega) (by omega)]; assumption, by rw [vc, v1], by rw [N 16 8 (by omega) (by omega), O 3 (by omega) (by omega)]; assumption, fun r a1 a2 => ?_, fun i a1 a2 => ?_, fun i a1 a2 => ?_⟩
  · rw [O 1 (by omega) (by omega)] at a2
    rw [N 5 r (by omega) (by omega), N 6 r (by omega) (by omega), N 7 r (by omega) (by omega), N 8 r (by omega) (by omega), N 9 r (by omega) (by omega), O (10 + 14 * r + 0) (by omega) (by omega), O (10 + 14 * r + 1) (by omega) (by omega), O (10 + 14 * r + 2) (by omega) (by omega), O (10 + 14 * r + 3) (by omega) (by omega), O (10 + 14 * r + 4) (by omega) (by omega)]; exact G1 r a1 a2
  · by_cases z : i = D 2
    · subst z; exact ⟨by rw [u0, w0], by rw [u1, w1], by rw [u2, w2], by rw [u3, w3]⟩
    · rw [N 17 i (by omega) (by omega), N 18 i (by omega) (by omega), N 19 i (by omega) (by omega), N 20 i (by omega) (by omega), O (122 + 4 * i + 0) (by omega) (by omega), O (122 + 4 * i + 1) (by omega) (by omega), O (122 + 4 * i + 2) (by omega) (by omega), O (122 + 4 * i + 3) (by omega) (by omega)]; exact G2 i a1 (by omega)
  · rw [O 3 (by omega) (by omega)] at a2
    rw [N 21 i (by omega) (by omega), N 22 i (by omega) (by omega), N 23 i (by omega) (by omega), O (138 + 3 * i + 0) (by omega) (by omega), O (138 + 3 * i + 1) (by omega) (by omega), O (138 + 3 * i + 2) (by omega) (by omega)]; exact G3 i a1 a2
theorem x_D_party {D : Int → Int} {J : z_J} {a b : Int} (hb : y_Db D) (h8 : D 3 ≠ 50) (h : x_D D J) : x_D (k_dParty D a b) (z_u (z_u (z_u (z_u J 21 (D 3) a) 22 (D 3) b) 23 (D 3) (-1)) 16 8 (D 3 + 1)) := by
  obtain ⟨d0, d1, d2, d3, d4, d5, -⟩ := hb
  generalize eq' : k_dParty D a b = D'
  have O : ∀ j, j ≠ 3 → (j < 138 + 3 * D 3 ∨ 138 + 3 * D 3 + 2 < j) → D' j = D j := fun j h1 h2 => by rw [← eq']; unfold k_dParty; simp (disch := omega) only [z_up_ne]
  have v1 : D' 3 = D 3 + 1 := by rw [← eq']; unfold k_dParty; rw [z_up_eq rfl]
  have w0 : D' (138 + 3 * D 3 + 0) = a := by rw [← eq']; unfold k_dParty; simp (disch := omega) only [z_up_ne, z_up_eq]
  have w1 : D' (138 + 3 * D 3 + 1) = b := by rw [← eq']; unfold k_dParty; simp (disch := omega) only [z_up_ne, z_up_eq]
  have w2 : D' (138 + 3 * D 3 + 2) = -1 := by rw [← eq']; unfold k_dParty; simp (disch := omega) only [z_up_ne, z_up_eq]
  generalize eJ : (z_u (z_u (z_u (z_u J 21 (D 3) a) 22 (D 3) b) 23 (D 3) (-1)) 16 8 (D 3 + 1)) = J'
  have N : ∀ b j, ((b ≠ 21 ∨ j ≠ D 3) ∧ (b ≠ 22 ∨ j ≠ D 3) ∧ (b ≠ 23 ∨ j ≠ D 3)) → (b ≠ 16 ∨ j ≠ 8) → J' b j = J b j := fun b j h1 h2 => by rw [← eJ, z_u_nb h2, z_u_nb (by omega), z_u_nb (by omega), z_u_nb (by omega)]
  have vc : J' 16 8 = D 3 + 1 := by rw [← eJ, z_u_at rfl]
  have u0 : J' 21 (D 3) = a := by rw [← eJ]; rw [z_u_nb (by omega), z_u_nb (by omega), z_u_nb (by omega), z_u_at rfl]
  have u1 : J' 22 (D 3) = b := by rw [← eJ]; rw [z_u_nb (by omega), z_u_nb (by omega), z_u_at rfl]
  have u2 : J' 23 (D 3) = -1 := by rw [← eJ]; rw [z_u_nb (by omega), z_u_at rfl]
  obtain ⟨g0, g1, g2, g3, G1, G2, G3⟩ := h
  refine ⟨by rw [N 3 2 (by omega) (by omega), O 4 (by omega) (by omega)]; assumption, by rw [N 4 11 (by omega) (by omega), O 1 (by omega) (by omega)]; assumption, by rw [N 16 4 (by omega) (by omega), O 2 (by omega) (by omega)]; assumption, by rw [vc, v1], fun r a1 a2 => ?_, fun i a1 a2 => ?_, fun i a1 a2 => ?_⟩
  · rw [O 1 (by omega) (by omega)] at a2
    rw [N 5 r (by omega) (by omega), N 6 r (by omega) (by omega), N 7 r (by omega) (by omega), N 8 r (by omega) (by omega), N 9 r (by omega) (by omega), O (10 + 14 * r + 0) (by omega) (by omega), O (10 + 14 * r + 1) (by omega) (by omega), O (10 + 14 * r + 2) (by omega) (by omega), O (10 + 14 * r + 3) (by omega) (by omega), O (10 + 14 * r + 4) (by omega) (by omega)]; exact G1 r a1 a2
  · rw [O 2 (by omega) (by omega)] at a2
    rw [N 17 i (by omega) (by omega), N 18 i (by omega) (by omega), N 19 i (by omega) (by omega), N 20 i (by omega) (by omega), O (122 + 4 * i + 0) (by omega) (by omega), O (122 + 4 * i + 1) (by omega) (by omega), O (122 + 4 * i + 2) (by omega) (by omega), O (122 + 4 * i + 3) (by omega) (by omega)]; exact G2 i a1 a2
  · by_cases z : i = D 3
    · subst z; exact ⟨by rw [u0, w0], by rw [u1, w1], by rw [u2, w2]⟩
    · rw [N 21 i (by omega) (by omega), N 22 i (by omega) (by omega), N 23 i (by omega) (by omega), O (138 + 3 * i + 0) (by omega) (by omega), O (138 + 3 * i + 1) (by omega) (by omega), O (138 + 3 * i + 2) (by omega) (by omega)]; exact G3 i a1 (by omega)
theorem x_D_ext {D : Int → Int} {J : z_J} {v : Int} (h : x_D D J) (hb : y_Db D) : x_D (z_up D 4 v) (z_u J 3 2 v) := by
  obtain ⟨d0, d1, d2, d3, d4, d5, -⟩ := hb
  obtain ⟨g0, g1, g2, g3, G1, G2, G3⟩ := h
  have O : ∀ j, j ≠ 4 → z_up D 4 v j = D j := fun j h1 => z_up_ne h1
  refine ⟨by rw [z_u_at rfl, z_up_eq rfl], by rw [z_u_ne (by omega), O 1 (by omega)]; exact g1, by rw [z_u_ne (by omega), O 2 (by omega)]; exact g2, by rw [z_u_ne (by omega), O 3 (by omega)]; exact g3, fun r a1 a2 => ?_, fun i a1 a2 => ?_, fun i a1 a2 => ?_⟩
  · rw [O 1 (by omega)] at a2
    rw [z_u_ne (by omega), z_u_ne (by omega), z_u_ne (by omega), z_u_ne (by omega), z_u_ne (by omega), O _ (by omega), O _ (by omega), O _ (by omega), O _ (by omega), O _ (by omega)]; exact G1 r a1 a2
  · rw [O 2 (by omega)] at a2
    rw [z_u_ne (by omega), z_u_ne (by omega), z_u_ne (by omega), z_u_ne (by omega), O _ (by omega), O _ (by omega), O _ (by omega), O _ (by omega)]; exact G2 i a1 a2
  · rw [O 3 (by omega)] at a2
    rw [z_u_ne (by omega), z_u_ne (by omega), z_u_ne (by omega), O _ (by omega), O _ (by omega), O _ (by omega)]; exact G3 i a1 a2
section Q24
variable {l : Launch} {d : Nat} {g : List (Option Nat)} {T : m_E} {J : z_J} {X : z_X} {t : Int → Int} {n p : Int} {D : Int → Int}
theorem e_readRide (hT : y_T t n) (hp : 0 ≤ p ∧ p ≤ n) (hb : y_Db D) (hD : x_D D J) (h : x_R t n (y_e9 t n p) J) (hk : J 1 3 = y_s t n p) (hr : y_stm t n p D = (if D 1 = 8 then ((3, y_s t n p), p, D) else (y_ff t n (y_cRide t n (y_e9 t n p)) (y_e9 t n p), (y_e9 t n (y_e9 t n (y_e9 t n (y_e9 t n (y_e9 t n (y_e9 t n (y_e9 t n p))))))), k_dRide D (y_vv t n (y_e9 t n p)) (y_vv t n (y_e9 t n (y_e9 t n p))) (y_vv t n (y_e9 t n (y_e9 t n (y_e9 t n p)))) (y_vv t n (y_e9 t n (y_e9 t n (y_e9 t n (y_e9 t n p))))) (y_vv t n (y_e9 t n (y_e9 t n (y_e9 t n (y_e9 t n (y_e9 t n p))))))))) : z_Sem l (d + 4) M_ParkDraft_readRide [.inr (.inr (.ref 3)), .inr (.inr (.ref 1))] (m_Ex g T, J, X) 0 0 (z_vq (m_Ex g T) (fun J' X' => X' = X ∧ x_o9 t n J (y_stm t n p D) J')) := by
  have b0 := y_tok_b (t := t) (n := n) (p := p) (by omega)
  have b1 := y_tok_b (t := t) (n := n) (p := (y_e9 t n p)) (by omega)
  have b2 := y_tok_b (t := t) (n := n) (p := (y_e9 t n (y_e9 t n p))) (by omega)
  have b3 := y_tok_b (t := t) (n := n) (p := (y_e9 t n (y_e9 t n (y_e9 t n p)))) (by omega)
  have b4 := y_tok_b (t := t) (n := n) (p := (y_e9 t n (y_e9 t n (y_e9 t n (y_e9 t n p))))) (by omega)
  have b5 := y_tok_b (t := t) (n := n) (p := (y_e9 t n (y_e9 t n (y_e9 t n (y_e9 t n (y_e9 t n p)))))) (by omega)
  have b6 := y_tok_b (t := t) (n := n) (p := (y_e9 t n (y_e9 t n (y_e9 t n (y_e9 t n (y_e9 t n (y_e9 t n p))))))) (by omega)
  have db := hb
  obtain ⟨d0, d1, d2, d3, d4, d5, -⟩ := db
  have ec : J 4 11 = D 1 := hD.2.1
  rw [hr]
  refine z_sem_of z_m67 m_ok_67 (Nat.le_of_ble_eq_true rfl) (fun Wp hs hv hS => ?_)
  refine w_67_0 hs ?_
  rw [ec, h.2.2.1]
  refine ⟨fun c8 => ?_, fun c8 => ⟨fun z => absurd rfl z, fun _ => ?_⟩⟩
  rotate_left
  · rw [if_pos (show D 1 = 8 by omega), hk]
    have ex := x_er_u (J := J) (J1 := J) (c := 3) (p := y_s t n p) x_f6.rf
    have qd : (z_u (z_u J 1 6 3) 1 7 (y_s t n p)) 1 6 ≠ 0 := by rw [ex.1]; decide
    exact z_cI (e_readNumber0 qd) (z_cI (e_readNumber0 qd) (z_cI (e_readNumber0 qd) (z_cI (e_readNumber0 qd) (z_cI (e_readNumber0 qd) (z_cV (e_readSemicolon0 qd) ⟨fun z => absurd z qd, fun _ => ⟨_, _, rfl, rfl, rfl, x_o9_e x_fd.rf ex rfl (by decide)⟩⟩)))))
  rw [if_neg (show ¬ D 1 = 8 by omega)]
  have g0 : x_f4 J J := ⟨fun _ _ _ _ _ => rfl, fun _ _ => rfl⟩
  have r0 := h
  refine z_cIq (e_readNumber (J := J) hT (by omega) r0) ?_
  rintro v1 J1 X1 ⟨rfl, ⟨c1, rfl, r1, -, f1⟩ | ⟨c1, ex⟩⟩
  rotate_left
  · have qd : J1 1 6 ≠ 0 := by rw [ex.1]; exact c1
    exact z_cI (e_readNumber0 qd) (z_cI (e_readNumber0 qd) (z_cI (e_readNumber0 qd) (z_cI (e_readNumber0 qd) (z_cV (e_readSemicolon0 qd) ⟨fun z => absurd z qd, fun _ => ⟨_, _, rfl, rfl, rfl, x_o9_e g0.f6.fd ex (by show y_ff t n (y_cRide t n (y_e9 t n p)) (y_e9 t n p) = _; unfold y_cRide; simp only [y_ff]; rw [if_neg c1]) c1⟩⟩))))
  have g1 := g0.tr f1
  refine z_cIq (e_readNumber (J := J1) hT (by omega) r1) ?_
  rintro v2 J2 X2 ⟨rfl, ⟨c2, rfl, r2, -, f2⟩ | ⟨c2, ex⟩⟩
  rotate_left
  · have qd : J2 1 6 ≠ 0 := by rw [ex.1]; exact c2
    exact z_cI (e_readNumber0 qd) (z_cI (e_readNumber0 qd) (z_cI (e_readNumber0 qd) (z_cV (e_readSemicolon0 qd) ⟨fun z => absurd z qd, fun _ => ⟨_, _, rfl, rfl, rfl, x_o9_e g1.f6.fd ex (by show y_ff t n (y_cRide t n (y_e9 t n p)) (y_e9 t n p) = _; unfold y_cRide; simp only [y_ff]; rw [if_pos c1, if_neg c2]) c2⟩⟩)))
  have g2 := g1.tr f2
  refine z_cIq (e_readNumber (J := J2) hT (by omega) r2) ?_
  rintro v3 J3 X3 ⟨rfl, ⟨c3, rfl, r3, -, f3⟩ | ⟨c3, ex⟩⟩
  rotate_left
  · have qd : J3 1 6 ≠ 0 := by rw [ex.1]; exact c3
    exact z_cI (e_readNumber0 qd) (z_cI (e_readNumber0 qd) (z_cV (e_readSemicolon0 qd) ⟨fun z => absurd z qd, fun _ => ⟨_, _, rfl, rfl, rfl, x_o9_e g2.f6.fd ex (by show y_ff t n (y_cRide t n (y_e9 t n p)) (y_e9 t n p) = _; unfold y_cRide; simp only [y_ff]; rw [if_pos c1, if_pos c2, if_neg c3]) c3⟩⟩))
  have g3 := g2.tr f3
  refine z_cIq (e_readNumber (J := J3) hT (by omega) r3) ?_
  rintro v4 J4 X4 ⟨rfl, ⟨c4, rfl, r4, -, f4⟩ | ⟨c4, ex⟩⟩
  rotate_left
  · have qd : J4 1 6 ≠ 0 := by rw [ex.1]; exact c4
    exact z_cI (e_readNumber0 qd) (z_cV (e_readSemicolon0 qd) ⟨fun z => absurd z qd, fun _ => ⟨_, _, rfl, rfl, rfl, x_o9_e g3.f6.fd ex (by show y_ff t n (y_cRide t n (y_e9 t n p)) (y_e9 t n p) = _; unfold y_cRide; simp only [y_ff]; rw [if_pos c1, if_pos c2, if_pos c3, if_neg c4]) c4⟩⟩)
  have g4 := g3.tr f4
  refine z_cIq (e_readNumber (J := J4) hT (by omega) r4) ?_
  rintro v5 J5 X5 ⟨rfl, ⟨c5, rfl, r5, -, f5⟩ | ⟨c5, ex⟩⟩
  rotate_left
  · have qd : J5 1 6 ≠ 0 := by rw [ex.1]; exact c5
    exact z_cV (e_readSemicolon0 qd) ⟨fun z => absurd z qd, fun _ => ⟨_, _, rfl, rfl, rfl, x_o9_e g4.f6.fd ex (by show y_ff t n (y_cRide t n (y_e9 t n p)) (y_e9 t n p) = _; unfold y_cRide; simp only [y_ff]; rw [if_pos c1, if_pos c2, if_pos c3, if_pos c4, if_neg c5]) c5⟩⟩
  have g5 := g4.tr f5
  refine z_cVq (e_readSemicolon hT (by omega) r5) ?_
  rintro J9 X9 ⟨rfl, ⟨c9, r9, f9⟩ | ⟨c9, ex⟩⟩
  rotate_left
  · have qd : J9 1 6 ≠ 0 := by rw [ex.1]; exact c9
    exact ⟨fun z => absurd z qd, fun _ => ⟨_, _, rfl, rfl, rfl, x_o9_e g5.f6.fd ex (by show y_ff t n (y_cRide t n (y_e9 t n p)) (y_e9 t n p) = _; unfold y_cRide; simp only [y_ff]; rw [if_pos c1, if_pos c2, if_pos c3, if_pos c4, if_pos c5, if_neg c9]) c9⟩⟩
  have g9 := g5.tr f9
  have e9 : J9 4 11 = D 1 := by rw [g9.2 4 (by omega)]; exact ec
  rw [e9, r9.2.2.1]
  refine ⟨fun _ => ⟨fun _ => ⟨by omega, ?_⟩, fun z => by omega⟩, fun z => absurd rfl z⟩
  refine ⟨_, _, rfl, rfl, rfl, ((((((g9.f6.fd.u (by unfold x_fb; omega)).u (by unfold x_fb; omega)).u (by unfold x_fb; omega)).u (by unfold x_fb; omega)).u (by unfold x_fb; omega)).u (by unfold x_fb; omega)), Or.inl ⟨?_, ((((((r9.u (by omega)).u (by omega)).u (by omega)).u (by omega)).u (by omega)).u (by omega)), ?_, ?_⟩⟩
  · show (y_ff t n (y_cRide t n (y_e9 t n p)) (y_e9 t n p)).1 = 0
    unfold y_cRide; simp only [y_ff]; rw [if_pos c1, if_pos c2, if_pos c3, if_pos c4, if_pos c5, if_pos c9]
  · rw [z_u_ne (by omega), z_u_ne (by omega), z_u_ne (by omega), z_u_ne (by omega), z_u_ne (by omega), z_u_ne (by omega), g9.1 7 (by omega) (by omega) (by omega) (by omega)]
  · exact x_D_ride hb (by omega) (hD.fr g9.2)
theorem e_readTier (hT : y_T t n) (hp : 0 ≤ p ∧ p ≤ n) (hb : y_Db D) (hD : x_D D J) (h : x_R t n (y_e9 t n p) J) (hk : J 1 3 = y_s t n p) (hr : y_stm t n p D = (if D 2 = 4 then ((3, y_s t n p), p, D) else (y_ff t n (y_cTier t n (y_e9 t n p)) (y_e9 t n p), (y_e9 t n (y_e9 t n (y_e9 t n (y_e9 t n (y_e9 t n (y_e9 t n p)))))), k_dTier D (y_vv t n (y_e9 t n p)) (y_vv t n (y_e9 t n (y_e9 t n p))) (y_vv t n (y_e9 t n (y_e9 t n (y_e9 t n p)))) (y_vv t n (y_e9 t n (y_e9 t n (y_e9 t n (y_e9 t n p)))))))) : z_Sem l (d + 4) M_ParkDraft_readTier [.inr (.inr (.ref 3)), .inr (.inr (.ref 1))] (m_Ex g T, J, X) 0 0 (z_vq (m_Ex g T) (fun J' X' => X' = X ∧ x_o9 t n J (y_stm t n p D) J')) := by
  have b0 := y_tok_b (t := t) (n := n) (p := p) (by omega)
  have b1 := y_tok_b (t := t) (n := n) (p := (y_e9 t n p)) (by omega)
  have b2 := y_tok_b (t := t) (n := n) (p := (y_e9 t n (y_e9 t n p))) (by omega)
  have b3 := y_tok_b (t := t) (n := n) (p := (y_e9 t n (y_e9 t n (y_e9 t n p)))) (by omega)
  have b4 := y_tok_b (t := t) (n := n) (p := (y_e9 t n (y_e9 t n (y_e9 t n (y_e9 t n p))))) (by omega)
  have b5 := y_tok_b (t := t) (n := n) (p := (y_e9 t n (y_e9 t n (y_e9 t n (y_e9 t n (y_e9 t n p)))))) (by omega)
  have db := hb
  obtain ⟨d0, d1, d2, d3, d4, d5, -⟩ := db
  have ec : J 16 4 = D 2 := hD.2.2.1
  rw [hr]
  refine z_sem_of z_m68 m_ok_68 (Nat.le_of_ble_eq_true rfl) (fun Wp hs hv hS => ?_)
  refine w_68_0 hs ?_
  rw [ec, h.2.2.1]
  refine ⟨fun c8 => ?_, fun c8 => ⟨fun z => absurd rfl z, fun _ => ?_⟩⟩
  rotate_left
  · rw [if_pos (show D 2 = 4 by omega), hk]
    have ex := x_er_u (J := J) (J1 := J) (c := 3) (p := y_s t n p) x_f6.rf
    have qd : (z_u (z_u J 1 6 3) 1 7 (y_s t n p)) 1 6 ≠ 0 := by rw [ex.1]; decide
    exact z_cI (e_readNumber0 qd) (z_cI (e_readNumber0 qd) (z_cI (e_readNumber0 qd) (z_cI (e_readNumber0 qd) (z_cV (e_readSemicolon0 qd) ⟨fun z => absurd z qd, fun _ => ⟨_, _, rfl, rfl, rfl, x_o9_e x_fd.rf ex rfl (by decide)⟩⟩))))
  rw [if_neg (show ¬ D 2 = 4 by omega)]
  have g0 : x_f4 J J := ⟨fun _ _ _ _ _ => rfl, fun _ _ => rfl⟩
  have r0 := h
  refine z_cIq (e_readNumber (J := J) hT (by omega) r0) ?_
  rintro v1 J1 X1 ⟨rfl, ⟨c1, rfl, r1, -, f1⟩ | ⟨c1, ex⟩⟩
  rotate_left
  · have qd : J1 1 6 ≠ 0 := by rw [ex.1]; exact c1
    exact z_cI (e_readNumber0 qd) (z_cI (e_readNumber0 qd) (z_cI (e_readNumber0 qd) (z_cV (e_readSemicolon0 qd) ⟨fun z => absurd z qd, fun _ => ⟨_, _, rfl, rfl, rfl, x_o9_e g0.f6.fd ex (by show y_ff t n (y_cTier t n (y_e9 t n p)) (y_e9 t n p) = _; unfold y_cTier; simp only [y_ff]; rw [if_neg c1]) c1⟩⟩)))
  have g1 := g0.tr f1
  refine z_cIq (e_readNumber (J := J1) hT (by omega) r1) ?_
  rintro v2 J2 X2 ⟨rfl, ⟨c2, rfl, r2, -, f2⟩ | ⟨c2, ex⟩⟩
  rotate_left
  · have qd : J2 1 6 ≠ 0 := by rw [ex.1]; exact c2
    exact z_cI (e_readNumber0 qd) (z_cI (e_readNumber0 qd) (z_cV (e_readSemicolon0 qd) ⟨fun z => absurd z qd, fun _ => ⟨_, _, rfl, rfl, rfl, x_o9_e g1.f6.fd ex (by show y_ff t n (y_cTier t n (y_e9 t n p)) (y_e9 t n p) = _; unfold y_cTier; simp only [y_ff]; rw [if_pos c1, if_neg c2]) c2⟩⟩))
  have g2 := g1.tr f2
  refine z_cIq (e_readNumber (J := J2) hT (by omega) r2) ?_
  rintro v3 J3 X3 ⟨rfl, ⟨c3, rfl, r3, -, f3⟩ | ⟨c3, ex⟩⟩
  rotate_left
  · have qd : J3 1 6 ≠ 0 := by rw [ex.1]; exact c3
    exact z_cI (e_readNumber0 qd) (z_cV (e_readSemicolon0 qd) ⟨fun z => absurd z qd, fun _ => ⟨_, _, rfl, rfl, rfl, x_o9_e g2.f6.fd ex (by show y_ff t n (y_cTier t n (y_e9 t n p)) (y_e9 t n p) = _; unfold y_cTier; simp only [y_ff]; rw [if_pos c1, if_pos c2, if_neg c3]) c3⟩⟩)
  have g3 := g2.tr f3
  refine z_cIq (e_readNumber (J := J3) hT (by omega) r3) ?_
  rintro v4 J4 X4 ⟨rfl, ⟨c4, rfl, r4, -, f4⟩ | ⟨c4, ex⟩⟩
  rotate_left
  · have qd : J4 1 6 ≠ 0 := by rw [ex.1]; exact c4
    exact z_cV (e_readSemicolon0 qd) ⟨fun z => absurd z qd, fun _ => ⟨_, _, rfl, rfl, rfl, x_o9_e g3.f6.fd ex (by show y_ff t n (y_cTier t n (y_e9 t n p)) (y_e9 t n p) = _; unfold y_cTier; simp only [y_ff]; rw [if_pos c1, if_pos c2, if_pos c3, if_neg c4]) c4⟩⟩
  have g4 := g3.tr f4
  refine z_cVq (e_readSemicolon hT (by omega) r4) ?_
  rintro J9 X9 ⟨rfl, ⟨c9, r9, f9⟩ | ⟨c9, ex⟩⟩
  rotate_left
  · have qd : J9 1 6 ≠ 0 := by rw [ex.1]; exact c9
    exact ⟨fun z => absurd z qd, fun _ => ⟨_, _, rfl, rfl, rfl, x_o9_e g4.f6.fd ex (by show y_ff t n (y_cTier t n (y_e9 t n p)) (y_e9 t n p) = _; unfold y_cTier; simp only [y_ff]; rw [if_pos c1, if_pos c2, if_pos c3, if_pos c4, if_neg c9]) c9⟩⟩
  have g9 := g4.tr f9
  have e9 : J9 16 4 = D 2 := by rw [g9.2 16 (by omega)]; exact ec
  rw [e9, r9.2.2.1]
  refine ⟨fun _ => ⟨fun _ => ⟨by omega, ?_⟩, fun z => by omega⟩, fun z => absurd rfl z⟩
  refine ⟨_, _, rfl, rfl, rfl, (((((g9.f6.fd.u (by unfold x_fb; omega)).u (by unfold x_fb; omega)).u (by unfold x_fb; omega)).u (by unfold x_fb; omega)).u (by unfold x_fb; omega)), Or.inl ⟨?_, (((((r9.u (by omega)).u (by omega)).u (by omega)).u (by omega)).u (by omega)), ?_, ?_⟩⟩
  · show (y_ff t n (y_cTier t n (y_e9 t n p)) (y_e9 t n p)).1 = 0
    unfold y_cTier; simp only [y_ff]; rw [if_pos c1, if_pos c2, if_pos c3, if_pos c4, if_pos c9]
  · rw [z_u_ne (by omega), z_u_ne (by omega), z_u_ne (by omega), z_u_ne (by omega), z_u_ne (by omega), g9.1 7 (by omega) (by omega) (by omega) (by omega)]
  · exact x_D_tier hb (by omega) (hD.fr g9.2)
theorem e_readParty (hT : y_T t n) (hp : 0 ≤ p ∧ p ≤ n) (hb : y_Db D) (hD : x_D D J) (h : x_R t n (y_e9 t n p) J) (hk : J 1 3 = y_s t n p) (hr : y_stm t n p D = (if D 3 = 50 then ((3, y_s t n p), p, D) else (y_ff t n (y_cParty t n (y_e9 t n p) (D 2)) (y_e9 t n p), (y_e9 t n (y_e9 t n (y_e9 t n (y_e9 t n p)))), k_dParty D (y_vv t n (y_e9 t n p)) (y_vv t n (y_e9 t n (y_e9 t n p)))))) : z_Sem l (d + 4) M_ParkDraft_readParty [.inr (.inr (.ref 3)), .inr (.inr (.ref 1))] (m_Ex g T, J, X) 0 0 (z_vq (m_Ex g T) (fun J' X' => X' = X ∧ x_o9 t n J (y_stm t n p D) J')) := by
  have b0 := y_tok_b (t := t) (n := n) (p := p) (by omega)
  have b1 := y_tok_b (t := t) (n := n) (p := (y_e9 t n p)) (by omega)
  have b2 := y_tok_b (t := t) (n := n) (p := (y_e9 t n (y_e9 t n p))) (by omega)
  have b3 := y_tok_b (t := t) (n := n) (p := (y_e9 t n (y_e9 t n (y_e9 t n p)))) (by omega)
  have db := hb
  obtain ⟨d0, d1, d2, d3, d4, d5, -⟩ := db
  have ec : J 16 8 = D 3 := hD.2.2.2.1
  have et : J 16 4 = D 2 := hD.2.2.1
  rw [hr]
  refine z_sem_of z_m69 m_ok_69 (Nat.le_of_ble_eq_true rfl) (fun Wp hs hv hS => ?_)
  refine w_69_0 hs ?_
  rw [ec, h.2.2.1, et]
  refine ⟨fun c8 => ?_, fun c8 => ⟨fun z => absurd rfl z, fun _ => ?_⟩⟩
  rotate_left
  · rw [if_pos (show D 3 = 50 by omega), hk]
    have ex := x_er_u (J := J) (J1 := J) (c := 3) (p := y_s t n p) x_f6.rf
    have qd : (z_u (z_u J 1 6 3) 1 7 (y_s t n p)) 1 6 ≠ 0 := by rw [ex.1]; decide
    exact ⟨by omega, z_cI (e_readNumber0 qd) (z_cI (e_readNumber0 qd) (z_cV (e_readSemicolon0 qd) ⟨fun z => absurd z qd, fun _ => ⟨_, _, rfl, rfl, rfl, x_o9_e x_fd.rf ex rfl (by decide)⟩⟩))⟩
  rw [if_neg (show ¬ D 3 = 50 by omega)]
  refine ⟨by omega, ?_⟩
  have g0 : x_f4 J J := ⟨fun _ _ _ _ _ => rfl, fun _ _ => rfl⟩
  have r0 := h
  refine z_cIq (e_readNumber (J := J) hT (by omega) r0) ?_
  rintro v1 J1 X1 ⟨rfl, ⟨c1, rfl, r1, -, f1⟩ | ⟨c1, ex⟩⟩
  rotate_left
  · have qd : J1 1 6 ≠ 0 := by rw [ex.1]; exact c1
    exact z_cI (e_readNumber0 qd) (z_cV (e_readSemicolon0 qd) ⟨fun z => absurd z qd, fun _ => ⟨_, _, rfl, rfl, rfl, x_o9_e g0.f6.fd ex (by show y_ff t n (y_cParty t n (y_e9 t n p) (D 2)) (y_e9 t n p) = _; unfold y_cParty; simp only [y_ff]; rw [if_neg c1]) c1⟩⟩)
  have g1 := g0.tr f1
  refine z_cIq (e_readNumber (J := J1) hT (by omega) r1) ?_
  rintro v2 J2 X2 ⟨rfl, ⟨c2, rfl, r2, -, f2⟩ | ⟨c2, ex⟩⟩
  rotate_left
  · have qd : J2 1 6 ≠ 0 := by rw [ex.1]; exact c2
    exact z_cV (e_readSemicolon0 qd) ⟨fun z => absurd z qd, fun _ => ⟨_, _, rfl, rfl, rfl, x_o9_e g1.f6.fd ex (by show y_ff t n (y_cParty t n (y_e9 t n p) (D 2)) (y_e9 t n p) = _; unfold y_cParty; simp only [y_ff]; rw [if_pos c1, if_neg c2]) c2⟩⟩
  have g2 := g1.tr f2
  refine z_cVq (e_readSemicolon hT (by omega) r2) ?_
  rintro J9 X9 ⟨rfl, ⟨c9, r9, f9⟩ | ⟨c9, ex⟩⟩
  rotate_left
  · have qd : J9 1 6 ≠ 0 := by rw [ex.1]; exact c9
    exact ⟨fun z => absurd z qd, fun _ => ⟨_, _, rfl, rfl, rfl, x_o9_e g2.f6.fd ex (by show y_ff t n (y_cParty t n (y_e9 t n p) (D 2)) (y_e9 t n p) = _; unfold y_cParty; simp only [y_ff]; rw [if_pos c1, if_pos c2, if_neg c9]) c9⟩⟩
  have g9 := g2.tr f9
  have e9 : J9 16 8 = D 3 := by rw [g9.2 16 (by omega)]; exact ec
  rw [e9, r9.2.2.1]
  refine ⟨fun _ => ⟨fun _ => ⟨by omega, ?_⟩, fun z => by omega⟩, fun z => absurd rfl z⟩
  refine ⟨_, _, rfl, rfl, rfl, ((((g9.f6.fd.u (by unfold x_fb; omega)).u (by unfold x_fb; omega)).u (by unfold x_fb; omega)).u (by unfold x_fb; omega)), Or.inl ⟨?_, ((((r9.u (by omega)).u (by omega)).u (by omega)).u (by omega)), ?_, ?_⟩⟩
  · show (y_ff t n (y_cParty t n (y_e9 t n p) (D 2)) (y_e9 t n p)).1 = 0
    unfold y_cParty; simp only [y_ff]; rw [if_pos c1, if_pos c2, if_pos c9]
  · rw [z_u_ne (by omega), z_u_ne (by omega), z_u_ne (by omega), z_u_ne (by omega), g9.1 7 (by omega) (by omega) (by omega) (by omega)]
  · exact x_D_party hb (by omega) (hD.fr g9.2)
theorem e_readStatement (hT : y_T t n) (hp : 0 ≤ p ∧ p ≤ n) (hb : y_Db D) (hD : x_D D J) (h : x_R t n (y_e9 t n p) J) (k1 : x_tok t n p J) : z_Sem l (d + 5) M_ParkDraft_readStatement [.inr (.inr (.ref 3)), .inr (.inr (.ref 1))] (m_Ex g T, J, X) 0 0 (z_vq (m_Ex g T) (fun J' X' => X' = X ∧ x_o9 t n J (y_stm t n p D) J')) := by
  have b0 := y_tok_b (t := t) (n := n) hp.2
  have b1 := y_tok_b (t := t) (n := n) (p := (y_e9 t n p)) (by omega)
  have b2 := y_tok_b (t := t) (n := n) (p := (y_e9 t n (y_e9 t n p))) (by omega)
  have hk := k1.1
  have tb : ∀ W : Bool, (y_b W ≠ 0 → W = true) ∧ (y_b W = 0 → ¬ W = true) := by
    intro W; cases W <;> exact ⟨fun z => by first | rfl | exact absurd rfl z, fun z => by first | decide | exact absurd z (by decide)⟩
  refine z_sem_of z_m66 m_ok_66 (Nat.le_of_ble_eq_true rfl) (fun Wp hs hv hS => ?_)
  refine w_66_0 hs ?_
  refine z_cI (e_isWord0 hT hp h.1 k1) ⟨fun w0 => ?_, fun w0 => ?_⟩
  rotate_left
  · refine z_cVq (e_readRide hT hp hb hD h hk (by unfold y_stm; rw [if_pos ((tb _).1 w0)])) ?_
    rintro J' X' ⟨rfl, ho⟩
    exact ⟨_, _, rfl, rfl, rfl, ho⟩
  refine z_cI (e_isWord1 hT hp h.1 k1) ⟨fun w1 => ?_, fun w1 => ?_⟩
  rotate_left
  · refine z_cVq (e_readTier hT hp hb hD h hk (by unfold y_stm; rw [if_neg ((tb _).2 w0), if_pos ((tb _).1 w1)])) ?_
    rintro J' X' ⟨rfl, ho⟩
    exact ⟨_, _, rfl, rfl, rfl, ho⟩
  refine z_cI (e_isWord2 hT hp h.1 k1) ⟨fun w2 => ?_, fun w2 => ?_⟩
  rotate_left
  · refine z_cVq (e_readParty hT hp hb hD h hk (by unfold y_stm; rw [if_neg ((tb _).2 w0), if_neg ((tb _).2 w1), if_pos ((tb _).1 w2)])) ?_
    rintro J' X' ⟨rfl, ho⟩
    exact ⟨_, _, rfl, rfl, rfl, ho⟩
  refine z_cI (e_isWord3 hT hp h.1 k1) ⟨fun w3 => ?_, fun w3 => ?_⟩
  · have er : y_stm t n p D = ((1, y_s t n p), p, D) := by unfold y_stm; rw [if_neg ((tb _).2 w0), if_neg ((tb _).2 w1), if_neg ((tb _).2 w2), if_neg ((tb _).2 w3)]
    rw [er, h.2.2.1, hk]
    exact ⟨fun z => absurd rfl z, fun _ => ⟨_, _, rfl, rfl, rfl, x_o9_e x_fd.rf (x_er_u x_f6.rf) rfl (by decide)⟩⟩
  have er : y_stm t n p D = (y_ff t n (y_cExt t n (y_e9 t n p)) (y_e9 t n p), (y_e9 t n (y_e9 t n (y_e9 t n p))), z_up D 4 (y_vv t n (y_e9 t n p))) := by unfold y_stm; rw [if_neg ((tb _).2 w0), if_neg ((tb _).2 w1), if_neg ((tb _).2 w2), if_pos ((tb _).1 w3)]
  rw [er]
  refine z_cIq (e_readNumber hT (by omega) h) ?_
  rintro v1 J1 X1 ⟨rfl, ⟨c1, rfl, r1, -, f1⟩ | ⟨c1, ex⟩⟩
  rotate_left
  · have qd : (z_u J1 3 2 v1) 1 6 ≠ 0 := by rw [z_u_ne (by omega), ex.1]; exact c1
    refine z_cV (e_readSemicolon0 qd) ⟨_, _, rfl, rfl, rfl, ex.2.2.fd.u (by unfold x_fb; omega), Or.inr ?_⟩
    have e1 : (y_ff t n (y_cExt t n (y_e9 t n p)) (y_e9 t n p)) = (y_nc t n (y_e9 t n p) 0 48, y_s t n (y_e9 t n p)) := by unfold y_cExt; simp only [y_ff]; rw [if_neg c1]
    rw [e1, z_u_ne (by omega)]
    exact ⟨c1, ex.1, ex.2.1⟩
  refine z_cVq (e_readSemicolon hT (by omega) (r1.u (by omega))) ?_
  rintro J9 X9 ⟨rfl, ⟨c9, r9, f9⟩ | ⟨c9, ex⟩⟩
  · refine ⟨_, _, rfl, rfl, rfl, (f1.f6.fd.u (by unfold x_fb; omega)).tr f9.f6.fd, Or.inl ⟨?_, r9, ?_, (x_D_ext (hD.fr f1.2) hb).fr f9.2⟩⟩
    · show (y_ff t n (y_cExt t n (y_e9 t n p)) (y_e9 t n p)).1 = 0
      unfold y_cExt; simp only [y_ff]; rw [if_pos c1, if_pos c9]
    · rw [f9.1 7 (by omega) (by omega) (by omega) (by omega), z_u_ne (by omega), f1.1 7 (by omega) (by omega) (by omega) (by omega)]
  · refine ⟨_, _, rfl, rfl, rfl, x_o9_e (f1.f6.fd.u (by unfold x_fb; omega)) ex ?_ c9⟩
    show y_ff t n (y_cExt t n (y_e9 t n p)) (y_e9 t n p) = _
    unfold y_cExt; simp only [y_ff]; rw [if_pos c1, if_neg c9]
end Q24
