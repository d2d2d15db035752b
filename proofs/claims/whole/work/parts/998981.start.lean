/-! the law's start: two objects, two arrays -/
section L5
variable {l : Launch} {L : Nat} {xs : Nat → Int32} {Wp : Nat → z_C}
abbrev z_lc (a b c d e : Option z_W) : z_L := [some (.inr (.inr (.ref 2000000))), a, b, c, d, e, none, none, none]
theorem c_s4 (A : z_LC l L xs Wp) (hL : L ≤ 3072) {E : m_E} {J : z_J} {X : z_X} {bc bs : Nat} (hE : E.length = 162) (hE2 : E ++ [(.inr (.double, 1), [])] = m_Ex [none, none] []) (h : ∀ a, a < 148 → J a = x_fQue a) (h2 : ∀ k, k < 13 → J (148 + k) = x_fRef k) (hb : 3000 ≤ bc) (hb2 : 80000 ≤ bs) :
    Wp 20 (z_lc (some (.inr (.inr (.ref 0)))) (some (.inr (.inr (.ref 148)))) (some (.inr (.inr (.ref 161)))) none none) [] (E, J, X) bc bs := by
  obtain ⟨hs, hw, hsc, he⟩ := id A
  refine hs m_lw_0 m_sl_0 400 [(23, 4)] [] 20 _ _ _ _ _ (⟨rfl, ⟨⟨by omega, by omega, (show E.length < 1000 by omega), by omega, by omega⟩, ?_⟩⟩)
  show Wp 23 (z_lc (some (.inr (.inr (.ref 0)))) (some (.inr (.inr (.ref 148)))) (some (.inr (.inr (.ref 161)))) none none) [.inr (.inr (.ref E.length))] (E ++ [(.inr (.double, 1), [])], z_row J E.length (fun _ => 0), z_row X.1 E.length (fun _ => 0), m_rowX X.2 E.length (fun _ => 0)) (bc - 1) (bs - 1)
  rw [hE2, hE]
  refine hs m_lw_0 m_sl_0 400 [(28, 6)] [] 23 _ _ _ _ _ (⟨rfl, ?_⟩)
  have hI : x_I [none, none] [] (z_row J 162 (fun _ => 0)) := x_I_0 (fun a ha => by rw [z_row_ne (by omega)]; exact h a ha) (fun k hk => by rw [z_row_ne (by omega)]; exact h2 k hk)
  have hn : x_nn [none, none] = 2 := rfl
  exact c_loop A hL 512 0 [none, none] [] _ _ _ _ (by omega) (by omega) (by omega) hI (by omega) (by omega)
theorem c_s3 (A : z_LC l L xs Wp) (hL : L ≤ 3072) {E : m_E} {J : z_J} {X : z_X} {bc bs : Nat} (hE : E.length = 161) (hE2 : (E ++ [(.inr (.long, 1), [])]) ++ [(.inr (.double, 1), [])] = m_Ex [none, none] []) (h : ∀ a, a < 148 → J a = x_fQue a) (h2 : ∀ k, k < 13 → J (148 + k) = x_fRef k) (hb : 3001 ≤ bc) (hb2 : 80001 ≤ bs) :
    Wp 15 (z_lc (some (.inr (.inr (.ref 0)))) none none none none) [.inr (.inr (.ref 148))] (E, J, X) bc bs := by
  obtain ⟨hs, hw, hsc, he⟩ := id A
  refine hs m_lw_0 m_sl_0 400 [(19, 3)] [] 15 _ _ _ _ _ (⟨rfl, ⟨⟨by omega, by omega, (show E.length < 1000 by omega), by omega, by omega⟩, ?_⟩⟩)
  show Wp 19 (z_lc (some (.inr (.inr (.ref 0)))) (some (.inr (.inr (.ref 148)))) none none none) [.inr (.inr (.ref E.length))] (E ++ [(.inr (.long, 1), [])], z_row J E.length (fun _ => 0), z_row X.1 E.length (fun _ => 0), m_rowX X.2 E.length (fun _ => 0)) (bc - 1) (bs - 1)
  rw [hE]
  refine hs m_lw_0 m_sl_0 400 [(20, 4)] [] 19 _ _ _ _ _ ?_
  exact c_s4 A hL (by rw [List.length_append, hE]; rfl) hE2 (fun a ha => by rw [z_row_ne (by omega)]; exact h a ha) (fun k hk => by rw [z_row_ne (by omega)]; exact h2 k hk) (by omega) (by omega)
theorem c_s2 (A : z_LC l L xs Wp) (hL : L ≤ 3072) {E : m_E} {J : z_J} {X : z_X} {bc bs : Nat} (hE : E.length = 148) (hE2 : ((E ++ x_cRef14 148) ++ [(.inr (.long, 1), [])]) ++ [(.inr (.double, 1), [])] = m_Ex [none, none] []) (h : ∀ a, a < 148 → J a = x_fQue a) (hb : 3100 ≤ bc) (hb2 : 109000 ≤ bs) :
    Wp 7 (z_lc none none none none none) [.inr (.inr (.ref 0))] (E, J, X) bc bs := by
  obtain ⟨hs, hw, hsc, he⟩ := id A
  refine hs m_lw_0 m_sl_0 400 [(15, 2)] [] 7 _ _ _ _ _ (⟨⟨(show E.length < 1000 by omega), by omega, (show 26 ≤ bs by omega)⟩, ⟨_, rfl, rfl, rfl, z_mkO (E0 := E) (J := J) (n := E.length) (e_newRef (d := 11) (bc := 12) (bs := 28852) rfl (show E.length + 25 < 1000 by omega) (Nat.le_refl _) (Nat.le_refl _)) (by omega) (show 28852 ≤ bs - 26 by omega) (fun J2 X2 hJ2 => ?_)⟩⟩)
  show Wp 15 (z_lc (some (.inr (.inr (.ref 0)))) none none none none) [.inr (.inr (.ref E.length))] (E ++ x_cRef14 E.length, J2, X2) (bc - 1 - 12) (bs - 26 - 28852)
  rw [hE] at hJ2 ⊢
  exact c_s3 A hL (by rw [List.length_append, hE]; rfl) hE2 (fun a ha => by rw [hJ2.1 a (by omega)]; exact h a ha) hJ2.2 (by omega) (by omega)
set_option maxRecDepth 100000 in
theorem c_E0 : (([] ++ x_cQue10 0 ++ x_cRef14 148) ++ [(.inr (.long, 1), [])]) ++ [(.inr (.double, 1), [])] = m_Ex [none, none] [] := rfl
theorem c_start (A : z_LC l L xs Wp) (hL : L ≤ 3072) {J : z_J} {X : z_X} {bc bs : Nat} (hb : 4000 ≤ bc) (hb2 : 120000 ≤ bs) : Wp 0 (z_lc none none none none none) [] ([], J, X) bc bs := by
  obtain ⟨hs, hw, hsc, he⟩ := id A
  refine hs m_lw_0 m_sl_0 400 [(7, 1)] [] 0 _ _ _ _ _ (⟨⟨(show (0 : Nat) < 1000 by omega), by omega, (show 11 ≤ bs by omega)⟩, ⟨_, rfl, rfl, rfl, z_mkO (E0 := []) (J := J) (n := 0) (e_newQue (d := 9) (X := X) (bc := 147) (bs := 9701) rfl (show 0 + 160 < 1000 by omega) (Nat.le_refl _) (Nat.le_refl _)) (by omega) (show 9701 ≤ bs - 11 by omega) (fun J2 X2 hJ2 => ?_)⟩⟩)
  exact c_s2 (E := [] ++ x_cQue10 0) A hL rfl c_E0 (fun a ha => by have := hJ2.2 a ha; rw [Nat.zero_add] at this; exact this) (show 3100 ≤ bc - 1 - 147 by omega) (show 109000 ≤ bs - 11 - 9701 by omega)
end L5
