/-! a park's text: parties, statements, the whole of it, of the reference -/
section R25
variable {l : Launch} {d : Nat} {g : List (Option Nat)} {T : m_E} {J : z_J} {X : z_X} {t : Int → Int} {n p : Int} {D : Int → Int}
theorem c_readParty (hT : y_T t n) (hp : 0 ≤ p ∧ p ≤ n) (hb : y_Db D) (hD : y_D D J) (h : y_R t n p J X) (hr : y_stm t n p D = (if D 3 = 50 then ((3, y_s t n p), p, D) else (y_ff t n (y_cParty t n (y_e9 t n p) (D 2)) (y_e9 t n p), (y_e9 t n (y_e9 t n (y_e9 t n (y_e9 t n p)))), k_dParty D (y_vv t n (y_e9 t n p)) (y_vv t n (y_e9 t n (y_e9 t n p)))))) : z_Sem l (d + 5) M_R_readParty [.inr (.inr (.ref 148))] (m_Ex g T, J, X) 0 0 (z_rq (m_Ex g T) (fun v J' X' => y_out t n J X (y_stm t n p D) v J' X')) := by
  have b0 := y_tok_b (t := t) (n := n) hp.2
  have b1 := y_tok_b (t := t) (n := n) (p := (y_e9 t n p)) (by omega)
  have b2 := y_tok_b (t := t) (n := n) (p := (y_e9 t n (y_e9 t n p))) (by omega)
  have b3 := y_tok_b (t := t) (n := n) (p := (y_e9 t n (y_e9 t n (y_e9 t n p)))) (by omega)
  have db := hb
  obtain ⟨d0, d1, d2, d3, d4, d5, -⟩ := db
  have ec : J 149 19859 = D 3 := hD 3 (by omega) (by omega)
  have et : J 149 19858 = D 2 := hD 2 (by omega) (by omega)
  rw [hr]
  refine z_sem_of z_m329 m_ok_329 (Nat.le_of_ble_eq_true rfl) (fun Wp hs hv hS => ?_)
  refine w_329_0 hs ?_
  rw [ec, h.2.2.2.1]
  refine ⟨fun c8 => ?_, fun c8 => ?_⟩
  · rw [if_neg c8]
    refine c_next hT hp h (fun J1 X1 r1 f1 x1 => ?_)
    have g1 := f1.f6.fd
    have q1 : J1 149 = J 149 := f1.2 149 (by omega)
    have e1 : J1 149 19858 = D 2 := by rw [q1]; exact et
    rw [e1]
    refine ⟨by omega, z_cIq (c_readNumber hT (by omega) r1) ?_⟩
    rintro v2 J2 X2 ⟨x2, ⟨c1, rfl, r2, p2, s2⟩ | ⟨c1, rfl, z2⟩⟩
    rotate_left
    · exact ⟨fun c => absurd rfl c, fun _ => ⟨_, _, _, rfl, rfl, y_out_e x1 g1 x2 z2 (by show y_ff t n (y_cParty t n (y_e9 t n p) (D 2)) (y_e9 t n p) = _; unfold y_cParty; simp only [y_ff]; rw [if_neg c1]) c1⟩⟩
    refine ⟨fun _ => ?_, fun c => absurd c (by decide)⟩
    have xa2 := x1.tr x2
    have g2 := g1.tr s2.fd
    have q2 : J2 149 = J 149 := by rw [s2.2 149 (by omega), q1]
    refine z_cIq (c_readNumber hT (by omega) r2) ?_
    rintro v3 J3 X3 ⟨x3, ⟨c2, rfl, r3, p3, s3⟩ | ⟨c2, rfl, z3⟩⟩
    rotate_left
    · exact ⟨fun c => absurd rfl c, fun _ => ⟨_, _, _, rfl, rfl, y_out_e xa2 g2 x3 z3 (by show y_ff t n (y_cParty t n (y_e9 t n p) (D 2)) (y_e9 t n p) = _; unfold y_cParty; simp only [y_ff]; rw [if_pos c1, if_neg c2]) c2⟩⟩
    refine ⟨fun _ => ?_, fun c => absurd c (by decide)⟩
    have xa3 := xa2.tr x3
    have g3 := g2.tr s3.fd
    have q3 : J3 149 = J 149 := by rw [s3.2 149 (by omega), q2]
    have e3 : J3 149 19859 = D 3 := by rw [q3]; exact ec
    rw [e3, p2, p3]
    have en : z_up (z_up (z_up (J3 149) ((19994 + 3 * D 3) + 0) (y_vv t n (y_e9 t n p))) ((19994 + 3 * D 3) + 1) (y_vv t n (y_e9 t n (y_e9 t n p)))) ((19994 + 3 * D 3) + 2) (-1) 19859 = D 3 := by
      simp (disch := omega) only [z_up_ne]; exact e3
    rw [en]
    refine ⟨by omega, z_cIq (c_readEnd hT (by omega) (y_R_u (y_R_u (y_R_u (y_R_u r3))))) ?_⟩
    have g4 := (((g3.u (k := (19994 + 3 * D 3) + 0) (v := y_vv t n (y_e9 t n p)) (by omega)).u (k := (19994 + 3 * D 3) + 1) (v := y_vv t n (y_e9 t n (y_e9 t n p))) (by omega)).u (k := (19994 + 3 * D 3) + 2) (v := -1) (by omega)).u (k := 19859) (v := D 3 + 1) (by omega)
    rintro v9 J9 X9 ⟨x9, ⟨c9, rfl, r9, s9⟩ | ⟨c9, rfl, z9⟩⟩
    · refine ⟨Or.inr rfl, _, _, _, rfl, rfl, xa3.tr x9, g4.tr s9.fd, Or.inl ⟨?_, rfl, r9, fun j a1 a2 => ?_⟩⟩
      · show (y_ff t n (y_cParty t n (y_e9 t n p) (D 2)) (y_e9 t n p)).1 = 0
        unfold y_cParty; simp only [y_ff]; rw [if_pos c1, if_pos c2, if_pos c9]
      · rw [s9.2 149 (by omega), z_u_row, z_u_row, z_u_row, z_u_row, q3]
        show _ = (k_dParty D (y_vv t n (y_e9 t n p)) (y_vv t n (y_e9 t n (y_e9 t n p)))) j
        unfold k_dParty
        by_cases h1 : j = 3
        · rw [z_up_eq (by omega), z_up_eq h1]
        · rw [z_up_ne (by omega), z_up_ne h1]
          by_cases o2 : j = 138 + 3 * D 3 + 2
          · rw [z_up_eq (by omega), z_up_eq o2]
          · rw [z_up_ne (by omega), z_up_ne o2]
            by_cases o1 : j = 138 + 3 * D 3 + 1
            · rw [z_up_eq (by omega), z_up_eq o1]
            · rw [z_up_ne (by omega), z_up_ne o1]
              by_cases o0 : j = 138 + 3 * D 3 + 0
              · rw [z_up_eq (by omega), z_up_eq o0]
              · rw [z_up_ne (by omega), z_up_ne o0]
                exact hD j a1 a2
    · refine ⟨Or.inl rfl, _, _, _, rfl, rfl, y_out_e xa3 g4 x9 z9 ?_ c9⟩
      show y_ff t n (y_cParty t n (y_e9 t n p) (D 2)) (y_e9 t n p) = _
      unfold y_cParty; simp only [y_ff]; rw [if_pos c1, if_pos c2, if_neg c9]
  · rw [if_pos c8]
    exact ⟨_, _, _, rfl, rfl, y_out_e y_fX.rf y_fd.rf y_fX.rf y_er_u rfl (by decide)⟩
theorem y_out_v {t : Int → Int} {n : Int} {J J' : z_J} {X X' : z_X} {r : (Int × Int) × Int × (Int → Int)} {v : Int} (h : y_out t n J X r v J' X') : v = 0 ∨ v = 1 := by
  rcases h.2.2 with ⟨-, z, -⟩ | ⟨-, z, -⟩
  · exact Or.inr z
  · exact Or.inl z
theorem c_readStatement (hT : y_T t n) (hp : 0 ≤ p ∧ p ≤ n) (hb : y_Db D) (hD : y_D D J) (h : y_R t n p J X) : z_Sem l (d + 7) M_R_readStatement [.inr (.inr (.ref 148))] (m_Ex g T, J, X) 0 0 (z_rq (m_Ex g T) (fun v J' X' => y_out t n J X (y_stm t n p D) v J' X')) := by
  have b0 := y_tok_b (t := t) (n := n) hp.2
  have b1 := y_tok_b (t := t) (n := n) (p := (y_e9 t n p)) (by omega)
  have b2 := y_tok_b (t := t) (n := n) (p := (y_e9 t n (y_e9 t n p))) (by omega)
  have ht := h.2.2.2
  have tb : ∀ W : Bool, (y_b W ≠ 0 → W = true) ∧ (y_b W = 0 → ¬ W = true) := by
    intro W; cases W <;> exact ⟨fun z => by first | rfl | exact absurd rfl z, fun z => by first | decide | exact absurd z (by decide)⟩
  refine z_sem_of z_m320 m_ok_320 (Nat.le_of_ble_eq_true rfl) (fun Wp hs hv hS => ?_)
  refine w_320_0 hs ?_
  refine z_cI (c_isWord (V := 599173) (W := y_w0 t n p) (by omega) (by omega) (by omega) (by omega) (by omega) (by omega) (by decide) y_w0_v ht) ⟨fun w0 => ?_, fun w0 => ?_⟩
  rotate_left
  · refine z_cIq (c_readRide hT hp hb hD h (by unfold y_stm; rw [if_pos ((tb _).1 w0)])) ?_
    intro v J' X' ho
    exact ⟨y_out_v ho, _, _, _, rfl, rfl, ho⟩
  refine z_cI (c_isWord (W := y_w1 t n p) (by omega) (by omega) (by omega) (by omega) (by omega) (by omega) (by decide) y_w1_v ht) ⟨fun w1 => ?_, fun w1 => ?_⟩
  rotate_left
  · refine z_cIq (c_readTier hT hp hb hD h (by unfold y_stm; rw [if_neg ((tb _).2 w0), if_pos ((tb _).1 w1)])) ?_
    intro v J' X' ho
    exact ⟨y_out_v ho, _, _, _, rfl, rfl, ho⟩
  refine z_cI (c_isWord (W := y_w2 t n p) (by omega) (by omega) (by omega) (by omega) (by omega) (by omega) (by decide) y_w2_v ht) ⟨fun w2 => ?_, fun w2 => ?_⟩
  rotate_left
  · refine z_cIq (c_readParty hT hp hb hD h (by unfold y_stm; rw [if_neg ((tb _).2 w0), if_neg ((tb _).2 w1), if_pos ((tb _).1 w2)])) ?_
    intro v J' X' ho
    exact ⟨y_out_v ho, _, _, _, rfl, rfl, ho⟩
  refine z_cL (c_pack (by omega) (by omega) (by omega) (by omega) (by omega) (by omega)) (z_cL (c_pack (by omega) (by omega) (by omega) (by omega) (by omega) (by omega)) ?_)
  refine z_cI (c_isLong (W := y_w3 t n p) (V := 6343849780718) (by omega) (by decide +kernel) (by omega) y_w3_v ht) ⟨fun w3 => ?_, fun w3 => ?_⟩
  · have er : y_stm t n p D = (y_ff t n (y_cExt t n (y_e9 t n p)) (y_e9 t n p), (y_e9 t n (y_e9 t n (y_e9 t n p))), z_up D 4 (y_vv t n (y_e9 t n p))) := by unfold y_stm; rw [if_neg ((tb _).2 w0), if_neg ((tb _).2 w1), if_neg ((tb _).2 w2), if_pos ((tb _).1 w3)]
    rw [er]
    refine c_next hT hp h (fun J1 X1 r1 f1 x1 => ?_)
    have g1 := f1.f6.fd
    have q1 : J1 149 = J 149 := f1.2 149 (by omega)
    refine z_cIq (c_readInto (by omega) hT (by omega) r1) ?_
    rintro v2 J2 X2 ⟨x2, ⟨c1, rfl, r2, p2, s2⟩ | ⟨c1, rfl, z2⟩⟩
    rotate_left
    · exact ⟨fun _ => ⟨_, _, _, rfl, rfl, y_out_e x1 g1 x2 z2 (by show y_ff t n (y_cExt t n (y_e9 t n p)) (y_e9 t n p) = _; unfold y_cExt; simp only [y_ff]; rw [if_neg c1]) c1⟩, fun c => absurd rfl c⟩
    refine ⟨fun c => absurd c (by decide), fun _ => ?_⟩
    refine z_cIq (c_readEnd hT (by omega) r2) ?_
    rintro v9 J9 X9 ⟨x9, ⟨c9, rfl, r9, s9⟩ | ⟨c9, rfl, z9⟩⟩
    · refine ⟨fun c => absurd c (by decide), fun _ => ⟨_, _, _, rfl, rfl, (x1.tr x2).tr x9, (g1.tr s2).tr s9.fd, Or.inl ⟨?_, rfl, r9, fun j a1 a2 => ?_⟩⟩⟩
      · show (y_ff t n (y_cExt t n (y_e9 t n p)) (y_e9 t n p)).1 = 0
        unfold y_cExt; simp only [y_ff]; rw [if_pos c1, if_pos c9]
      · rw [s9.2 149 (by omega), p2, q1]
        show _ = z_up D 4 _ j
        by_cases h1 : j = 4
        · rw [z_up_eq (by omega), z_up_eq h1]
        · rw [z_up_ne (by omega), z_up_ne h1]
          exact hD j a1 a2
    · refine ⟨fun _ => ⟨_, _, _, rfl, rfl, y_out_e (x1.tr x2) (g1.tr s2) x9 z9 ?_ c9⟩, fun c => absurd rfl c⟩
      show y_ff t n (y_cExt t n (y_e9 t n p)) (y_e9 t n p) = _
      unfold y_cExt; simp only [y_ff]; rw [if_pos c1, if_neg c9]
  · have er : y_stm t n p D = ((1, y_s t n p), p, D) := by unfold y_stm; rw [if_neg ((tb _).2 w0), if_neg ((tb _).2 w1), if_neg ((tb _).2 w2), if_neg ((tb _).2 w3)]
    rw [er, ht.1]
    exact ⟨_, _, _, rfl, rfl, y_out_e y_fX.rf y_fd.rf y_fX.rf y_er_u rfl (by decide)⟩
end R25
