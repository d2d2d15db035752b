/-! arrays -/
section S4
variable {G : m_G} {own : String} {cc : ByteArray} {d : Nat} {pc : Nat} {l : m_L} {st : m_V} {S : m_S} {bc bs : Nat}
theorem m_Fix.X (F : m_Fix G own cc d) : va_X (G.2.2.2 2000000) (g_L G) (g_xs G) (g_s G) (g_s G).heap ∧ G.2.2.2 2000000 < (g_s G).heap.size ∧ ¬ m_A G (G.2.2.2 2000000) := by
  obtain ⟨-, -, -, -, -, C, hW, hle, hold, -⟩ := F
  obtain ⟨hX, hlt⟩ := C.2.2.2.2.1
  exact ⟨(hX.moved hW.alike).kept (hold _ hlt), Nat.lt_of_lt_of_le hlt hle, Nat.not_le.mpr hlt⟩
theorem m_at_arr {D : va_G} {dA : FieldType → ClassId} {base : Nat} {xs : Nat → Int32} {L : Nat} {ad : Nat → Nat} {H : Heap} (hH : m_H D dA base xs L ad S H) {a n : Nat} {ty : FieldType} {rs : List (Option Nat)} (ha : S.1[a]? = some (.inr (ty, n), rs)) : (m_ws S ad dA)[a]? = some (ad a, .inl (dA ty, n, m_av S ad a ty rs)) ∧ ∃ k : Nat, (m_tys dA)[k]? = some (dA ty, ty) :=
  ⟨m_ws_at ha, m_tys_at dA (hH.2.2.1 a _ ha).2.1⟩
theorem m_i_iald (F : m_Fix G own cc d) {i : Int32} {a n : Nat} {r : m_V} {rs : List (Option Nat)} (hst0 : st = .int i :: .ref a :: r) (ha : S.1[a]? = some (.inr (.int, n), rs)) (hin : vp_in i n) (hd : decode cc pc = .ok (.iaload, 1)) (h : m_Wp G (pc + 1) l (.int (S.2.1 a i.toNatClampNeg) :: r) S bc bs) : m_Wp G pc l st S bc bs := by
  intro ad H ls cst locs cells slots hext hH hS hlr hst hc hs
  subst hst0
  obtain ⟨c, cst', rfl, rfl, c2, cst2, rfl, ⟨-, rfl⟩, h2⟩ := hst
  obtain ⟨h3, t0, h4⟩ := m_at_arr hH ha
  exact va_iald F.1 F.2.1 F.K hH.1 a t0 h3 h4 hin hd (h ad H ls _ locs cells slots hext hH hS hlr ⟨_, _, rfl, rfl, h2⟩ hc hs)
theorem m_i_scr (F : m_Fix G own cc d) {i : Int32} {r : m_V} (hst0 : st = .int i :: .ref 2000000 :: r) (hin : vp_in i (S.2.1 2000001 0).toNatClampNeg) (hd : decode cc pc = .ok (.iaload, 1)) (h : m_Wp G (pc + 1) l (.int (S.2.1 2000000 i.toNatClampNeg) :: r) S bc bs) : m_Wp G pc l st S bc bs := by
  intro ad H ls cst locs cells slots hext hH hS hlr hst hc hs
  subst hst0
  obtain ⟨c, cst', rfl, rfl, c2, cst2, rfl, ⟨-, rfl⟩, h2⟩ := hst
  obtain ⟨hX, hlt, hA⟩ := F.X
  rw [hext.2 2000000 (Or.inr (by omega))]
  rw [hH.2.2.2.2.2] at hin
  refine va_sld F.1 F.2.1 hX hlt hA hS hin hd ?_
  have := h ad H ls _ locs cells slots hext hH hS hlr ⟨_, _, rfl, rfl, h2⟩ hc hs
  rw [hH.2.2.2.2.1] at this
  exact this
theorem m_i_bald (F : m_Fix G own cc d) {i : Int32} {a n : Nat} {ty : FieldType} {r : m_V} {rs : List (Option Nat)} (hst0 : st = .int i :: .ref a :: r) (ha : S.1[a]? = some (.inr (ty, n), rs)) (hty : m_isByte ty = true) (hin : vp_in i n) (hd : decode cc pc = .ok (.baload, 1)) (h : m_Wp G (pc + 1) l (.int (S.2.1 a i.toNatClampNeg) :: r) S bc bs) : m_Wp G pc l st S bc bs := by
  intro ad H ls cst locs cells slots hext hH hS hlr hst hc hs
  subst hst0
  obtain ⟨c, cst', rfl, rfl, c2, cst2, rfl, ⟨-, rfl⟩, h2⟩ := hst
  obtain ⟨h3, t0, h4⟩ := m_at_arr hH ha
  unfold m_isByte at hty
  split at hty
  · exact va_zald F.1 F.2.1 F.K hH.1 a t0 h3 h4 hin hd (h ad H ls _ locs cells slots hext hH hS hlr ⟨_, _, rfl, rfl, h2⟩ hc hs)
  · exact va_bald F.1 F.2.1 F.K hH.1 a t0 h3 h4 hin hd (h ad H ls _ locs cells slots hext hH hS hlr ⟨_, _, rfl, rfl, h2⟩ hc hs)
  · cases hty
theorem m_row_at (I : m_I) (a : Nat) (f : Nat → Int32) : m_row I a f a = f := by simp [m_row]
theorem m_row_ne (I : m_I) {a b : Nat} (f : Nat → Int32) (h : b ≠ a) : m_row I a f b = I b := by simp [m_row, h]
theorem m_rowX_at {α : Type} (I : Nat → Nat → α) (a : Nat) (f : Nat → α) : m_rowX I a f a = f := by simp [m_rowX]
theorem m_rowX_ne {α : Type} (I : Nat → Nat → α) {a b : Nat} (f : Nat → α) (h : b ≠ a) : m_rowX I a f b = I b := by simp [m_rowX, h]
/-- one array of ints gets new contents -/
theorem m_H_row {D : va_G} {dA : FieldType → ClassId} {base : Nat} {xs : Nat → Int32} {L : Nat} {ad : Nat → Nat} {H H1 : Heap} (hH : m_H D dA base xs L ad S H) {a n : Nat} {ty : FieldType} {rs : List (Option Nat)} {f : Nat → Int32} (ha : S.1[a]? = some (.inr (ty, n), rs)) (hty : m_small ty = true)
    (hP1 : va_P D m_cl ((m_ws S ad dA).set a (ad a, .inl (dA ty, n, .inl f))) H1) (hD1 : va_D (fun q => base ≤ q) ((m_ws S ad dA).set a (ad a, .inl (dA ty, n, .inl f)))) : m_H D dA base xs L ad (S.1, m_row S.2.1 a f, S.2.2) H1 := by
  have e : m_ce (S.1, m_row S.2.1 a f, S.2.2) ad dA a (.inr (ty, n), rs) = .inl (dA ty, n, .inl f) := by
    unfold m_small at hty
    split at hty
    · simp [m_ce, m_av, m_row_at]
    · simp [m_ce, m_av, m_row_at]
    · simp [m_ce, m_av, m_row_at]
    · cases hty
  have hw := hH.2.2.1 a _ ha
  refine m_H_set (c' := (.inr (ty, n), rs)) hH ha (m_set_self ha).symm (fun k hk => m_row_ne _ _ hk) (fun _ _ => rfl) (fun _ _ => rfl) hw ?_ ?_
  · rw [e]; exact hP1
  · rw [e]; exact hD1
theorem m_i_iast (F : m_Fix G own cc d) {i x : Int32} {a n : Nat} {r : m_V} {rs : List (Option Nat)} (hst0 : st = .int x :: .int i :: .ref a :: r) (ha : S.1[a]? = some (.inr (.int, n), rs)) (hin : vp_in i n) (hd : decode cc pc = .ok (.iastore, 1)) (h : m_Wp G (pc + 1) l r (S.1, m_u S.2.1 a i.toNatClampNeg x, S.2.2) bc bs) : m_Wp G pc l st S bc bs := by
  intro ad H ls cst locs cells slots hext hH hS hlr hst hc hs
  subst hst0
  obtain ⟨c0, cst0, rfl, rfl, c, cst', rfl, rfl, c2, cst2, rfl, ⟨-, rfl⟩, h2⟩ := hst
  obtain ⟨h3, t0, h4⟩ := m_at_arr hH ha
  exact va_iast F.1 F.2.1 F.K hH.1 hH.2.1 hS a t0 h3 h4 hin hd (fun H1 locs1 hP1 hD1 hS1 => h ad H1 ls _ locs1 cells slots hext (m_H_row hH ha rfl hP1 hD1) hS1 hlr h2 hc hs)
theorem m_i_bast (F : m_Fix G own cc d) {i x : Int32} {a n : Nat} {ty : FieldType} {r : m_V} {rs : List (Option Nat)} (hst0 : st = .int x :: .int i :: .ref a :: r) (ha : S.1[a]? = some (.inr (ty, n), rs)) (hty : m_isByte ty = true) (hin : vp_in i n) (hd : decode cc pc = .ok (.bastore, 1)) (h : m_Wp G (pc + 1) l r (S.1, m_u S.2.1 a i.toNatClampNeg (m_nar ty x), S.2.2) bc bs) : m_Wp G pc l st S bc bs := by
  intro ad H ls cst locs cells slots hext hH hS hlr hst hc hs
  subst hst0
  obtain ⟨c0, cst0, rfl, rfl, c, cst', rfl, rfl, c2, cst2, rfl, ⟨-, rfl⟩, h2⟩ := hst
  obtain ⟨h3, t0, h4⟩ := m_at_arr hH ha
  unfold m_isByte at hty
  split at hty
  · exact va_zast F.1 F.2.1 F.K hH.1 hH.2.1 hS a t0 h3 h4 hin hd (fun H1 locs1 hP1 hD1 hS1 => h ad H1 ls _ locs1 cells slots hext (m_H_row hH ha rfl hP1 hD1) hS1 hlr h2 hc hs)
  · exact va_bast F.1 F.2.1 F.K hH.1 hH.2.1 hS a t0 h3 h4 hin hd (fun H1 locs1 hP1 hD1 hS1 => h ad H1 ls _ locs1 cells slots hext (m_H_row hH ha rfl hP1 hD1) hS1 hlr h2 hc hs)
  · cases hty
theorem m_i_lald (F : m_Fix G own cc d) {i : Int32} {a n : Nat} {r : m_V} {rs : List (Option Nat)} (hst0 : st = .int i :: .ref a :: r) (ha : S.1[a]? = some (.inr (.long, n), rs)) (hin : vp_in i n) (hd : decode cc pc = .ok (.laload, 1)) (h : m_Wp G (pc + 1) l (.long (S.2.2.1 a i.toNatClampNeg) :: r) S bc bs) : m_Wp G pc l st S bc bs := by
  intro ad H ls cst locs cells slots hext hH hS hlr hst hc hs
  subst hst0
  obtain ⟨c, cst', rfl, rfl, c2, cst2, rfl, ⟨-, rfl⟩, h2⟩ := hst
  obtain ⟨h3, t0, h4⟩ := m_at_arr hH ha
  exact va_lald F.1 F.2.1 F.K hH.1 a t0 h3 h4 hin hd (h ad H ls _ locs cells slots hext hH hS hlr ⟨_, _, rfl, rfl, h2⟩ hc hs)
theorem m_i_dald (F : m_Fix G own cc d) {i : Int32} {a n : Nat} {r : m_V} {rs : List (Option Nat)} (hst0 : st = .int i :: .ref a :: r) (ha : S.1[a]? = some (.inr (.double, n), rs)) (hin : vp_in i n) (hd : decode cc pc = .ok (.daload, 1)) (h : m_Wp G (pc + 1) l (.double (S.2.2.2 a i.toNatClampNeg) :: r) S bc bs) : m_Wp G pc l st S bc bs := by
  intro ad H ls cst locs cells slots hext hH hS hlr hst hc hs
  subst hst0
  obtain ⟨c, cst', rfl, rfl, c2, cst2, rfl, ⟨-, rfl⟩, h2⟩ := hst
  obtain ⟨h3, t0, h4⟩ := m_at_arr hH ha
  exact va_dald F.1 F.2.1 F.K hH.1 a t0 h3 h4 hin hd (h ad H ls _ locs cells slots hext hH hS hlr ⟨_, _, rfl, rfl, h2⟩ hc hs)
theorem m_i_last (F : m_Fix G own cc d) {i : Int32} {x : Int64} {a n : Nat} {r : m_V} {rs : List (Option Nat)} (hst0 : st = .long x :: .int i :: .ref a :: r) (ha : S.1[a]? = some (.inr (.long, n), rs)) (hin : vp_in i n) (hd : decode cc pc = .ok (.lastore, 1)) (h : m_Wp G (pc + 1) l r (S.1, S.2.1, m_rowX S.2.2.1 a (vf_upd (S.2.2.1 a) i.toNatClampNeg x), S.2.2.2) bc bs) : m_Wp G pc l st S bc bs := by
  intro ad H ls cst locs cells slots hext hH hS hlr hst hc hs
  subst hst0
  obtain ⟨c0, cst0, rfl, rfl, c, cst', rfl, rfl, c2, cst2, rfl, ⟨-, rfl⟩, h2⟩ := hst
  obtain ⟨h3, t0, h4⟩ := m_at_arr hH ha
  have e : m_ce (S.1, S.2.1, m_rowX S.2.2.1 a (vf_upd (S.2.2.1 a) i.toNatClampNeg x), S.2.2.2) ad (g_dA G) a (.inr (.long, n), rs) = .inl (g_dA G .long, n, .inr (.inl (vp_updL (S.2.2.1 a) i.toNatClampNeg x))) := by
    simp only [m_ce, m_av, m_rowX_at]; rfl
  refine va_last F.1 F.2.1 F.K hH.1 hH.2.1 hS a t0 h3 h4 hin hd (fun H1 locs1 hP1 hD1 hS1 => h ad H1 ls _ locs1 cells slots hext ?_ hS1 hlr h2 hc hs)
  refine m_H_set (c' := (.inr (.long, n), rs)) hH ha (m_set_self ha).symm (fun _ _ => rfl) (fun k hk => m_rowX_ne _ _ hk) (fun _ _ => rfl) (hH.2.2.1 a _ ha) ?_ ?_
  · rw [e]; exact hP1
  · rw [e]; exact hD1
theorem m_i_dast (F : m_Fix G own cc d) {i : Int32} {x : UInt64} {a n : Nat} {r : m_V} {rs : List (Option Nat)} (hst0 : st = .double x :: .int i :: .ref a :: r) (ha : S.1[a]? = some (.inr (.double, n), rs)) (hin : vp_in i n) (hd : decode cc pc = .ok (.dastore, 1)) (h : m_Wp G (pc + 1) l r (S.1, S.2.1, S.2.2.1, m_rowX S.2.2.2 a (vf_upd (S.2.2.2 a) i.toNatClampNeg x)) bc bs) : m_Wp G pc l st S bc bs := by
  intro ad H ls cst locs cells slots hext hH hS hlr hst hc hs
  subst hst0
  obtain ⟨c0, cst0, rfl, rfl, c, cst', rfl, rfl, c2, cst2, rfl, ⟨-, rfl⟩, h2⟩ := hst
  obtain ⟨h3, t0, h4⟩ := m_at_arr hH ha
  have e : m_ce (S.1, S.2.1, S.2.2.1, m_rowX S.2.2.2 a (vf_upd (S.2.2.2 a) i.toNatClampNeg x)) ad (g_dA G) a (.inr (.double, n), rs) = .inl (g_dA G .double, n, .inr (.inr (.inr (.inl (vf_upd (S.2.2.2 a) i.toNatClampNeg x))))) := by
    simp only [m_ce, m_av, m_rowX_at]
  refine va_dast F.1 F.2.1 F.K hH.1 hH.2.1 hS a t0 h3 h4 hin hd (fun H1 locs1 hP1 hD1 hS1 => h ad H1 ls _ locs1 cells slots hext ?_ hS1 hlr h2 hc hs)
  refine m_H_set (c' := (.inr (.double, n), rs)) hH ha (m_set_self ha).symm (fun _ _ => rfl) (fun _ _ => rfl) (fun k hk => m_rowX_ne _ _ hk) (hH.2.2.1 a _ ha) ?_ ?_
  · rw [e]; exact hP1
  · rw [e]; exact hD1
theorem m_i_alen (F : m_Fix G own cc d) {a n : Nat} {ty : FieldType} {r : m_V} {rs : List (Option Nat)} (hst0 : st = .ref a :: r) (ha : S.1[a]? = some (.inr (ty, n), rs)) (hd : decode cc pc = .ok (.arraylength, 1)) (h : m_Wp G (pc + 1) l (.int (Int32.ofNat n) :: r) S bc bs) : m_Wp G pc l st S bc bs := by
  intro ad H ls cst locs cells slots hext hH hS hlr hst hc hs
  subst hst0
  obtain ⟨c2, cst2, rfl, ⟨-, rfl⟩, h2⟩ := hst
  obtain ⟨h3, t0, h4⟩ := m_at_arr hH ha
  exact va_alen F.1 F.2.1 F.K hH.1 a t0 h3 h4 rfl hd (h ad H ls _ locs cells slots hext hH hS hlr ⟨_, _, rfl, rfl, h2⟩ hc hs)
theorem m_i_slen (F : m_Fix G own cc d) {r : m_V} (hst0 : st = .ref 2000000 :: r) (hd : decode cc pc = .ok (.arraylength, 1)) (h : m_Wp G (pc + 1) l (.int (Int32.ofNat (S.2.1 2000001 0).toNatClampNeg) :: r) S bc bs) : m_Wp G pc l st S bc bs := by
  intro ad H ls cst locs cells slots hext hH hS hlr hst hc hs
  subst hst0
  obtain ⟨c2, cst2, rfl, ⟨-, rfl⟩, h2⟩ := hst
  obtain ⟨hX, hlt, hA⟩ := F.X
  rw [hext.2 2000000 (Or.inr (by omega))]
  refine va_slen F.1 F.2.1 hX hlt hA hS hd ?_
  have := h ad H ls _ locs cells slots hext hH hS hlr ⟨_, _, rfl, rfl, h2⟩ hc hs
  rw [hH.2.2.2.2.2] at this
  exact this
theorem m_i_aald (F : m_Fix G own cc d) {i : Int32} {a n : Nat} {ty : FieldType} {r : m_V} {rs : List (Option Nat)} (hst0 : st = .int i :: .ref a :: r) (ha : S.1[a]? = some (.inr (ty, n), rs)) (hty : m_isRef ty = true) (hin : vp_in i n) (hd : decode cc pc = .ok (.aaload, 1)) (h : m_Wp G (pc + 1) l (m_rv (rs.getD i.toNatClampNeg none) :: r) S bc bs) : m_Wp G pc l st S bc bs := by
  intro ad H ls cst locs cells slots hext hH hS hlr hst hc hs
  subst hst0
  obtain ⟨c, cst', rfl, rfl, c2, cst2, rfl, ⟨-, rfl⟩, h2⟩ := hst
  obtain ⟨h3, t0, h4⟩ := m_at_arr hH ha
  have hr : m_vr ad S.1.length (m_rv (rs.getD i.toNatClampNeg none)) (va_rf ((rs.getD i.toNatClampNeg none).map ad)) := by
    rw [List.getD_eq_getElem?_getD]
    cases hk : rs[i.toNatClampNeg]? with
    | none => rfl
    | some o =>
      cases o with
      | none => rfl
      | some r => exact ⟨Or.inl ((hH.2.2.1 a _ ha).1 _ r hk), rfl⟩
  have kk := h ad H ls _ locs cells slots hext hH hS hlr ⟨_, _, rfl, hr, h2⟩ hc hs
  have hlt : i.toNatClampNeg < n := Nat.not_le.mp fun q => hin (Or.inr q)
  unfold m_isRef at hty
  split at hty
  · exact va_aldq F.1 F.2.1 F.K hH.1 a t0 h3 h4 hin hd kk
  · exact W.aald (v := va_rf ((rs.getD i.toNatClampNeg none).map ad)) (ty := .array .int) F.1 F.2.1 (hH.1 a _ h3) ((F.K.2 t0 _ h4).1 n (fun j => va_rf ((rs.getD j none).map ad))) rfl (fun q => by cases q) (by show ¬ (i < 0 ∨ (arrV _ _ _).slots.size ≤ _); rw [arrV_size]; exact hin) (by show (arrV _ _ _).slots[_]? = _; rw [arrV_read _ _ hlt]) rfl rfl hd kk
  · cases hty
end S4
