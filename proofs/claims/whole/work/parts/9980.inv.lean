/-! what holds between any two calls -/
def y_part (q : Int → Int) (b : Int) : Int → Int := fun j => q (4964 * b + j)
/-- the blocks of the snapshots are as they were -/
def y_far (q q' : Int → Int) : Prop := ∀ j, 4964 ≤ j → j < 14892 → q' j = q j
theorem y_far.rf {q : Int → Int} : y_far q q := fun _ _ _ => rfl
theorem y_far.tr {q q1 q2 : Int → Int} (h : y_far q q1) (h2 : y_far q1 q2) : y_far q q2 := fun j a b => (h2 j a b).trans (h j a b)
theorem y_far.up {q q1 : Int → Int} {k x : Int} (h : y_far q q1) (hk : k < 4964) : y_far q (z_up q1 k x) := fun j a b => by rw [z_up_ne (by omega)]; exact h j a b
def x_nn (g : List (Option Nat)) : Nat := (if g.getD 0 none = none then 1 else 0) + (if g.getD 1 none = none then 1 else 0)
def x_snap (g : List (Option Nat)) (T : m_E) (J : z_J) : Prop := g.length = 2 ∧ T.length + 89 * x_nn g = 178 ∧ (∀ s s', g.getD 0 none = some s → g.getD 1 none = some s' → s + 89 ≤ s' ∨ s' + 89 ≤ s) ∧
  ∀ x : Int, (x = 0 ∨ x = 1) → J 146 x = J 150 x ∧ (J 150 x ≠ 0 → ∃ s9, g.getD x.toNat none = some s9) ∧ ∀ s9, g.getD x.toNat none = some s9 → (x_at (m_Ex g T) s9 ∧ 163 ≤ s9 ∧ s9 + 89 ≤ 163 + T.length) ∧ (J 150 x ≠ 0 → y_base (y_part (J 149) (1 + x)) ∧ x_day s9 (y_part (J 149) (1 + x)) J)
def x_txt (J : z_J) : Prop := J 2 = J 158 ∧ J 1 1 = J 148 13 ∧ y_T (J 158) (J 148 13)
def x_err (J : z_J) : Prop := J 1 6 = J 148 15 ∧ J 1 7 = J 148 16
def x_fmt (J : z_J) : Prop := y_same (J 147, J 0 10) (J 157, J 148 11) ∧ (0 ≤ J 148 11 ∧ J 148 11 ≤ 64)
def x_scr (J : z_J) : Prop := ∃ (B : Int → Int) (c : Int), y_S B c J ∧ x_S B c J ∧ y_Sb B c ∧ J 148 23 = c ∧ J 30 5 = c ∧ J 30 6 = J 148 24 ∧ (0 ≤ J 148 24 ∧ J 148 24 ≤ c)
def x_I (g : List (Option Nat)) (T : m_E) (J : z_J) : Prop := (y_base (J 149) ∧ x_day 36 (J 149) J) ∧ x_txt J ∧ x_err J ∧ x_fmt J ∧ x_scr J ∧ x_D0 J ∧ x_snap g T J
section V1
variable {g : List (Option Nat)} {T : m_E} {J J1 J2 : z_J}
theorem x_snap.go (h : x_snap g T J) (h146 : J2 146 = J 146) (h150 : J2 150 = J 150) (hf : y_far (J 149) (J2 149)) (hc : ∀ b, 163 ≤ b → J2 b = J b) : x_snap g T J2 := by
  obtain ⟨h1, h2, h3, h4⟩ := h
  refine ⟨h1, h2, h3, fun x hx => ?_⟩
  obtain ⟨a, b, c⟩ := h4 x hx
  rw [h146, h150]
  refine ⟨a, b, fun s9 hs => ⟨(c s9 hs).1, fun h0 => ?_⟩⟩
  obtain ⟨p, q⟩ := (c s9 hs).2 h0
  have e : ∀ j, 0 ≤ j → j < 4964 → y_part (J2 149) (1 + x) j = y_part (J 149) (1 + x) j := fun j j0 j1 => hf _ (by omega) (by omega)
  have s0 := (c s9 hs).1.2.1
  exact ⟨y_base_cg e p, x_day_mv (y_cb_b p) e (fun k _ => hc _ (by omega)) q⟩
theorem x_fmt.go (h : x_fmt J) (h147 : J2 147 = J 147) (h157 : J2 157 = J 157) (h0 : J2 0 10 = J 0 10) (h11 : J2 148 11 = J 148 11) : x_fmt J2 := by
  unfold x_fmt; rw [h147, h157, h0, h11]; exact h
theorem x_scr.go (h : x_scr J) (h30 : ∀ b, 30 ≤ b → b ≤ 35 → J2 b = J b) (h159 : J2 159 = J 159) (h23 : J2 148 23 = J 148 23) (h24 : J2 148 24 = J 148 24) : x_scr J2 := by
  obtain ⟨B, c, a1, a2, a3, a4, a5, a6, a7⟩ := h
  refine ⟨B, c, fun e f x1 x2 x3 x4 => by rw [h159]; exact a1 e f x1 x2 x3 x4, fun e x1 x2 => ?_, a3, by rw [h23]; exact a4, by rw [h30 30 (by omega) (by omega)]; exact a5, by rw [h30 30 (by omega) (by omega), h24]; exact a6, by rw [h24]; exact a7⟩
  rw [h30 31 (by omega) (by omega), h30 32 (by omega) (by omega), h30 33 (by omega) (by omega), h30 34 (by omega) (by omega), h30 35 (by omega) (by omega)]
  exact a2 e x1 x2
theorem x_D0.go (h : x_D0 J) (hc : ∀ b, 10 ≤ b → b ≤ 15 → J2 b = J b) : x_D0 J2 := by
  intro r a b
  rw [hc 10 (by omega) (by omega), hc 11 (by omega) (by omega), hc 12 (by omega) (by omega), hc 13 (by omega) (by omega), hc 14 (by omega) (by omega), hc 15 (by omega) (by omega)]
  exact h r a b
/-- one day's call, on both sides -/
theorem x_I.step {q' : Int → Int} {t : Int} (hI : x_I g T J) (h1 : x_day 36 q' J1) (hfr : x_fr J J1) (hb : y_base q') (hf : y_far (J 149) q') (h2 : y_tp J1 q' t J2) : x_I g T J2 := by
  obtain ⟨-, ht, he, hm, hs, hz, hn⟩ := hI
  obtain ⟨t1, t2, t3, t4⟩ := h2
  have o : ∀ b, (b < 36 ∨ 144 < b) → b ≠ 148 → b ≠ 149 → (b < 151 ∨ 156 < b) → J2 b = J b := fun b x1 x2 x3 x4 => (t4 b x2 x3 x4).trans (hfr b x1)
  have o8 : ∀ k, k ≠ 2 → k ≠ 9 → J2 148 k = J 148 k := fun k x1 x2 => (t3 k x1 x2).trans (by rw [hfr 148 (by omega)])
  refine ⟨⟨by rw [t1]; exact hb, by rw [t1]; exact x_day_mv (y_cb_b hb) (fun _ _ _ => rfl) (fun k hk => t4 _ (by omega) (by omega) (by omega)) h1⟩, ?_, ?_, ?_, ?_, ?_, ?_⟩
  · unfold x_txt; rw [o 2 (by omega) (by omega) (by omega) (by omega), o 1 (by omega) (by omega) (by omega) (by omega), o 158 (by omega) (by omega) (by omega) (by omega), o8 13 (by omega) (by omega)]; exact ht
  · unfold x_err; rw [o 1 (by omega) (by omega) (by omega) (by omega), o8 15 (by omega) (by omega), o8 16 (by omega) (by omega)]; exact he
  · exact hm.go (o 147 (by omega) (by omega) (by omega) (by omega)) (o 157 (by omega) (by omega) (by omega) (by omega)) (by rw [o 0 (by omega) (by omega) (by omega) (by omega)]) (o8 11 (by omega) (by omega))
  · exact hs.go (fun b x1 x2 => o b (by omega) (by omega) (by omega) (by omega)) (o 159 (by omega) (by omega) (by omega) (by omega)) (o8 23 (by omega) (by omega)) (o8 24 (by omega) (by omega))
  · exact hz.go (fun b x1 x2 => o b (by omega) (by omega) (by omega) (by omega))
  · exact hn.go (o 146 (by omega) (by omega) (by omega) (by omega)) (o 150 (by omega) (by omega) (by omega) (by omega)) (by rw [t1]; exact hf) (fun b x1 => o b (by omega) (by omega) (by omega) (by omega))
theorem y_tp_u {t : Int} : y_tp J (J 149) t (z_u J 148 2 t) := ⟨z_u_ne (by omega), z_u_at rfl, fun k h1 _ => z_u_off h1, fun b h1 _ _ => z_u_ne h1⟩
theorem x_day_sc {q : Int → Int} (hb : y_base q) (h : x_day 36 q J) (hs : x_sc J J1) : x_day 36 q J1 := x_day_mv (y_cb_b hb) (fun _ _ _ => rfl) (fun k hk => hs _ (by omega)) h
end V1
/-- a call that may throw, on both sides (an int) -/
def x_prI (l : Launch) (d aQ aR : Nat) (ws : z_V) (e1 e2 : String) (N : Int → Prop) (g : List (Option Nat)) (T : m_E) (J : z_J) : Prop := ∀ X : z_X, ∃ Q1 : z_O → z_S → Prop, z_Sem l (d + 12) aQ (.inr (.inr (.ref 0)) :: ws) (m_Ex g T, J, X) 4 24 Q1 ∧ ∀ o S1, Q1 o S1 → ∃ (J1 : z_J) (X1 : z_X) (t v : Int), S1 = (m_Ex g T, J1, X1) ∧ ((t = 0 ∧ o = .inl (some (.inl v))) ∨ (t = 1 ∧ o = .inr e1) ∨ (t = 2 ∧ o = .inr e2)) ∧ N t ∧
  ∀ X2 : z_X, ∃ Q2 : z_O → z_S → Prop, z_Sem l (d + 12) aR (.inr (.inr (.ref 148)) :: ws) (m_Ex g T, J1, X2) 0 0 Q2 ∧ ∀ o2 S2, Q2 o2 S2 → ∃ J2 : z_J, S2 = (m_Ex g T, J2, X2) ∧ o2 = .inl (some (.inl v)) ∧ J2 148 2 = t ∧ x_I g T J2
/-- the same of a double -/
def x_prD (l : Launch) (d aQ aR : Nat) (ws : z_V) (e1 e2 : String) (g : List (Option Nat)) (T : m_E) (J : z_J) : Prop := ∀ X : z_X, ∃ Q1 : z_O → z_S → Prop, z_Sem l (d + 12) aQ (.inr (.inr (.ref 0)) :: ws) (m_Ex g T, J, X) 4 24 Q1 ∧ ∀ o S1, Q1 o S1 → ∃ (J1 : z_J) (X1 : z_X) (t : Int) (v : UInt64), S1 = (m_Ex g T, J1, X1) ∧ ((t = 0 ∧ o = .inl (some (.inr (.inr (.double v))))) ∨ (t = 1 ∧ o = .inr e1) ∨ (t = 2 ∧ o = .inr e2)) ∧
  ∀ X2 : z_X, ∃ Q2 : z_O → z_S → Prop, z_Sem l (d + 12) aR (.inr (.inr (.ref 148)) :: ws) (m_Ex g T, J1, X2) 0 0 Q2 ∧ ∀ o2 S2, Q2 o2 S2 → ∃ J2 : z_J, S2 = (m_Ex g T, J2, X2) ∧ o2 = .inl (some (.inr (.inr (.double v)))) ∧ J2 148 2 = t ∧ x_I g T J2
/-- a call that never throws, on both sides; mc, ms: its room -/
def x_prU (l : Launch) (d aQ aR : Nat) (ws : z_V) (mc ms : Nat) (g : List (Option Nat)) (T : m_E) (J : z_J) : Prop := ∀ X : z_X, ∃ Q1 : z_O → z_S → Prop, z_Sem l (d + 12) aQ (.inr (.inr (.ref 0)) :: ws) (m_Ex g T, J, X) mc ms Q1 ∧ ∀ o S1, Q1 o S1 → ∃ (g' : List (Option Nat)) (T' : m_E) (J1 : z_J) (X1 : z_X) (v : Int), S1 = (m_Ex g' T', J1, X1) ∧ o = .inl (some (.inl v)) ∧ (mc + 300 * x_nn g' ≤ 4 + 300 * x_nn g ∧ ms + 30000 * x_nn g' ≤ 24 + 30000 * x_nn g) ∧
  ∃ Q2 : z_O → z_S → Prop, z_Sem l (d + 12) aR (.inr (.inr (.ref 148)) :: ws) (m_Ex g' T', J1, X1) 0 0 Q2 ∧ ∀ o2 S2, Q2 o2 S2 → ∃ (J2 : z_J) (X2 : z_X), S2 = (m_Ex g' T', J2, X2) ∧ o2 = .inl (some (.inl v)) ∧ x_I g' T' J2
theorem y_ne2 {c : Prop} [Decidable c] {v : Int} : (y_need c 1 (0, v)).1 ≠ 2 := by
  unfold y_need
  split
  · show (0 : Int) ≠ 2; decide
  · show (1 : Int) ≠ 2; decide
section V2
variable {l : Launch} {d aQ aR : Nat} {ws : z_V} {e1 e2 : String} {g : List (Option Nat)} {T : m_E} {J : z_J}
theorem x_pr_mk {oo : (Int → Int) → Int × Int} {kk : (Int → Int) → Int → Int} {P : z_X → z_J → z_X → Prop} (hI : x_I g T J)
    (hq : ∀ X : z_X, z_Sem l (d + 12) aQ (.inr (.inr (.ref 0)) :: ws) (m_Ex g T, J, X) 4 24 (x_out e1 e2 (oo (J 149)) (m_Ex g T) (P X)))
    (hP : ∀ X J' X', P X J' X' → x_day 36 (kk (J 149)) J' ∧ x_fr J J')
    (hp : ∀ (J1 : z_J) (X : z_X), y_base (J1 149) → ∃ Q2 : z_O → z_S → Prop, z_Sem l (d + 12) aR (.inr (.inr (.ref 148)) :: ws) (m_Ex g T, J1, X) 0 0 Q2 ∧ ∀ o2 S2, Q2 o2 S2 → ∃ J2 : z_J, S2 = (m_Ex g T, J2, X) ∧ o2 = .inl (some (.inl (oo (J1 149)).2)) ∧ y_tp J1 (kk (J1 149)) (oo (J1 149)).1 J2)
    (hb : y_base (kk (J 149))) (hf : y_far (J 149) (kk (J 149))) {N : Int → Prop} (hN : N (oo (J 149)).1) : x_prI l d aQ aR ws e1 e2 N g T J := by
  intro X
  refine ⟨_, hq X, fun o S1 hS => ?_⟩
  obtain ⟨J1, X1, rfl, h1, h2⟩ := hS
  obtain ⟨h3, h4⟩ := hP _ _ _ h1
  have e : J1 149 = J 149 := h4 149 (by omega)
  refine ⟨J1, X1, _, _, rfl, h2, hN, fun X2 => ?_⟩
  obtain ⟨Q2, p1, p2⟩ := hp J1 X2 (by rw [e]; exact hI.1.1)
  refine ⟨Q2, p1, fun o2 S2 hS2 => ?_⟩
  obtain ⟨J2, rfl, p3, p4⟩ := p2 o2 S2 hS2
  rw [e] at p3 p4
  exact ⟨J2, rfl, p3, p4.2.1, x_I.step hI h3 h4 hb hf p4⟩
theorem x_pr_mkD {oo : (Int → Int) → Int × UInt64} {P : z_X → z_J → z_X → Prop} (hI : x_I g T J)
    (hq : ∀ X : z_X, z_Sem l (d + 12) aQ (.inr (.inr (.ref 0)) :: ws) (m_Ex g T, J, X) 4 24 (x_outD e1 e2 (oo (J 149)) (m_Ex g T) (P X)))
    (hP : ∀ X J' X', P X J' X' → J' = J)
    (hp : ∀ (J1 : z_J) (X : z_X), y_base (J1 149) → z_Sem l (d + 12) aR (.inr (.inr (.ref 148)) :: ws) (m_Ex g T, J1, X) 0 0 (z_ret (.inr (.inr (.double (oo (J1 149)).2))) (m_Ex g T, z_u J1 148 2 (oo (J1 149)).1, X))) : x_prD l d aQ aR ws e1 e2 g T J := by
  intro X
  refine ⟨_, hq X, fun o S1 hS => ?_⟩
  obtain ⟨J1, X1, rfl, h1, h2⟩ := hS
  obtain rfl := hP _ _ _ h1
  refine ⟨J1, X1, _, _, rfl, h2, fun X2 => ⟨_, hp J1 X2 hI.1.1, fun o2 S2 hS2 => ?_⟩⟩
  obtain ⟨rfl, rfl⟩ := hS2
  exact ⟨_, rfl, rfl, z_u_at rfl, x_I.step hI hI.1.2 x_fr.rf hI.1.1 y_far.rf y_tp_u⟩
/-- a call that never throws out of one that might -/
theorem x_pr_mkU {oo : (Int → Int) → Int × Int} {kk : (Int → Int) → Int → Int} {P : z_X → z_J → z_X → Prop} (hI : x_I g T J) (h0 : (oo (J 149)).1 = 0)
    (hq : ∀ X : z_X, z_Sem l (d + 12) aQ (.inr (.inr (.ref 0)) :: ws) (m_Ex g T, J, X) 4 24 (x_out e1 e2 (oo (J 149)) (m_Ex g T) (P X)))
    (hP : ∀ X J' X', P X J' X' → x_day 36 (kk (J 149)) J' ∧ x_fr J J')
    (hp : ∀ (J1 : z_J) (X : z_X), y_base (J1 149) → ∃ Q2 : z_O → z_S → Prop, z_Sem l (d + 12) aR (.inr (.inr (.ref 148)) :: ws) (m_Ex g T, J1, X) 0 0 Q2 ∧ ∀ o2 S2, Q2 o2 S2 → ∃ J2 : z_J, S2 = (m_Ex g T, J2, X) ∧ o2 = .inl (some (.inl (oo (J1 149)).2)) ∧ y_tp J1 (kk (J1 149)) (oo (J1 149)).1 J2)
    (hb : y_base (kk (J 149))) (hf : y_far (J 149) (kk (J 149))) : x_prU l d aQ aR ws 4 24 g T J := by
  intro X
  obtain ⟨Q1, a1, a2⟩ : ∃ Q1 : z_O → z_S → Prop, z_Sem l (d + 12) aQ (.inr (.inr (.ref 0)) :: ws) (m_Ex g T, J, X) 4 24 Q1 ∧ Q1 = x_out e1 e2 (oo (J 149)) (m_Ex g T) (P X) := ⟨_, hq X, rfl⟩
  refine ⟨Q1, a1, fun o S1 hS => ?_⟩
  rw [a2] at hS
  obtain ⟨J1, X1, rfl, h1, h2⟩ := hS
  obtain ⟨h3, h4⟩ := hP _ _ _ h1
  have e : J1 149 = J 149 := h4 149 (by omega)
  have ho : o = .inl (some (.inl (oo (J 149)).2)) := by
    rcases h2 with h2 | h2 | h2
    · exact h2.2
    · omega
    · omega
  refine ⟨g, T, J1, X1, _, rfl, ho, by omega, ?_⟩
  obtain ⟨Q2, p1, p2⟩ := hp J1 X1 (by rw [e]; exact hI.1.1)
  refine ⟨Q2, p1, fun o2 S2 hS2 => ?_⟩
  obtain ⟨J2, rfl, p3, p4⟩ := p2 o2 S2 hS2
  rw [e] at p3 p4
  exact ⟨J2, X1, rfl, p3, x_I.step hI h3 h4 hb hf p4⟩
end V2
