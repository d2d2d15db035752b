/-! references into arrays, arrays of arrays, copies, the library's small methods -/
theorem m_w_ac1 : m_at 735 (.native arraycopyName) = true := by decide +kernel
theorem m_w_ac2 : m_at 734 (.static arraycopyName) = true := by decide +kernel
theorem m_w_ac3 : m_at 135 (.initialized "java/lang/System") = true := by decide +kernel
theorem m_w_mx1 : m_at 440 (.static Lib.Math.max.name) = true := by decide +kernel
theorem m_w_mx2 : m_at 127 (.initialized "java/lang/Math") = true := by decide +kernel
theorem m_w_mx3 : m_at 441 (.code Lib.Math.max.name Lib.Math.max.code 2 (some .int)) = true := by decide +kernel
theorem m_w_mn1 : m_at 1090 (.static Lib.Math.min.name) = true := by decide +kernel
theorem m_w_mn3 : m_at 1091 (.code Lib.Math.min.name Lib.Math.min.code 2 (some .int)) = true := by decide +kernel
theorem m_w_ob1 : m_at 151 (.instanceMethod Lib.objectInit) = true := by decide +kernel
theorem m_w_ob2 : m_at 152 (.code Lib.objectInit ⟨#[0xb1]⟩ 1 none) = true := by decide +kernel
section S6
variable {G : m_G} {own : String} {cc : ByteArray} {d : Nat} {pc : Nat} {l : m_L} {st : m_V} {S : m_S} {bc bs : Nat}
theorem m_i_aast (F : m_Fix G own cc d) {i : Int32} {x a n ci : Nat} {ty : FieldType} {r : m_V} {rs rx : List (Option Nat)} (hst0 : st = .ref x :: .int i :: .ref a :: r) (ha : S.1[a]? = some (.inr (ty, n), rs)) (hx : S.1[x]? = some (.inl ci, rx)) (hty : m_isObj ty (m_cnames.getD ci "") = true) (hin : vp_in i n) (hd : decode cc pc = .ok (.aastore, 1))
    (h : m_Wp G (pc + 1) l r (S.1.set a (.inr (ty, n), rs.set i.toNatClampNeg (some x)), S.2) bc bs) : m_Wp G pc l st S bc bs := by
  intro ad H ls cst locs cells slots hext hH hS hlr hst hc hs
  subst hst0
  obtain ⟨c0, cst0, rfl, ⟨-, rfl⟩, c, cst', rfl, rfl, c2, cst2, rfl, ⟨-, rfl⟩, h2⟩ := hst
  have hte : ty = .object (m_cnames.getD ci "") := by
    unfold m_isObj at hty
    split at hty
    · rw [of_decide_eq_true hty]
    · cases hty
  subst hte
  obtain ⟨h3, t0, h4⟩ := m_at_arr hH ha
  have hwx := (hH.2.2.1 x _ hx).2.1
  have hwa := hH.2.2.1 a _ ha
  have hlen : rs.length = n := hwa.2.2 rfl
  have hlt : i.toNatClampNeg < n := Nat.not_le.mp fun q => hin (Or.inr q)
  have hxl : x < S.1.length := (List.getElem?_eq_some_iff.mp hx).1
  refine va_astq F.1 F.2.1 F.K hH.1 hH.2.1 hS a t0 x ci h3 h4 (m_ws_at hx) (m_cl_at hwx) hin hd (fun H1 locs1 hP1 hD1 hS1 => ?_)
  have e : m_ce (S.1.set a (.inr (.object (m_cnames.getD ci ""), n), rs.set i.toNatClampNeg (some x)), S.2) ad (g_dA G) a (.inr (.object (m_cnames.getD ci ""), n), rs.set i.toNatClampNeg (some x)) = .inl (g_dA G (.object (m_cnames.getD ci "")), n, .inr (.inr (.inr (.inr (va_up (fun j => (rs.getD j none).map ad) i.toNatClampNeg (some (ad x))))))) := by
    simp only [m_ce, m_av]
    congr 7
    funext j
    rw [List.getD_eq_getElem?_getD, List.getElem?_set]
    by_cases e : i.toNatClampNeg = j
    · subst e
      simp [va_up, hlen, hlt]
    · have e' : ¬ j = i.toNatClampNeg := fun q => e q.symm
      simp [va_up, e, e', List.getD_eq_getElem?_getD]
  have hH1 : m_H (g_D G) (g_dA G) (g_s0 G).heap.size (g_xs G) (g_L G) ad (S.1.set a (.inr (.object (m_cnames.getD ci ""), n), rs.set i.toNatClampNeg (some x)), S.2) H1 := by
    refine m_H_set hH ha rfl (fun _ _ => rfl) (fun _ _ => rfl) (fun _ _ => rfl) ⟨fun j q hj => ?_, hwa.2.1, fun z => by rw [List.length_set]; exact hwa.2.2 z⟩ ?_ ?_
    · simp only [List.getElem?_set] at hj
      split at hj
      · split at hj
        · cases hj; exact hxl
        · cases hj
      · exact hwa.1 j q hj
    · rw [e]; exact hP1
    · rw [e]; exact hD1
  have hl' : (S.1.set a (.inr (.object (m_cnames.getD ci ""), n), rs.set i.toNatClampNeg (some x))).length = S.1.length := List.length_set
  exact h ad H1 ls _ locs1 cells slots (by rw [hl']; exact hext) hH1 hS1 (by rw [hl']; exact hlr) (by rw [hl']; exact h2) hc hs
theorem m_rest_le {n : Nat} {ad : Nat → Nat} {k : Nat} {cst : List Value} (h : m_rest n st = true) (hst : m_vrs ad k st cst) : ((cst.drop n).map fun v => v.category).sum ≤ 8 := by
  rw [((hst.split n).2).cats]
  exact Nat.le_of_ble_eq_true h
theorem m_i_mmax (F : m_Fix G own cc d) {x y : Int32} {idx p : Nat} {r : m_V} (hst0 : st = .int y :: .int x :: r) (hr : m_rest 2 st = true) (hl : m_at p (.methodLink own idx Lib.Math.max.name) = true) (hd : decode cc pc = .ok (.invokestatic idx, 3)) (h : m_Wp G (pc + 3) l (.int (if x < y then y else x) :: r) S bc bs) : m_Wp G pc l st S bc bs := by
  intro ad H ls cst locs cells slots hext hH hS hlr hst hc hs
  have hcat := m_rest_le hr hst
  subst hst0
  obtain ⟨c0, cst0, rfl, rfl, c, cst', rfl, rfl, h2⟩ := hst
  have h8 : (cst'.map fun v => v.category).sum ≤ 8 := hcat
  have hRl := F.2.2.2.2.2.2.2.2.2.2
  have hRf := F.2.2.2.2.2.2.2.2.2.1
  exact va_mmax F.1 F.2.1 hlr.2.1.symm F.2.2.1 (F.w hl) (F.w m_w_mx1) (F.w m_w_mx2) (F.w m_w_mx3) (show 1 ≤ (g_R G).frames by omega) (show (cst'.map fun v => v.category).sum + 13 ≤ (g_R G).locals by omega) (show cells ≤ (g_R G).cells by omega) (show slots ≤ (g_R G).slots by omega) hd (h ad H ls _ locs cells slots hext hH hS hlr ⟨_, _, rfl, rfl, h2⟩ hc hs)
theorem m_i_mmin (F : m_Fix G own cc d) {x y : Int32} {idx p : Nat} {r : m_V} (hst0 : st = .int y :: .int x :: r) (hr : m_rest 2 st = true) (hl : m_at p (.methodLink own idx Lib.Math.min.name) = true) (hd : decode cc pc = .ok (.invokestatic idx, 3)) (h : m_Wp G (pc + 3) l (.int (if y < x then y else x) :: r) S bc bs) : m_Wp G pc l st S bc bs := by
  intro ad H ls cst locs cells slots hext hH hS hlr hst hc hs
  have hcat := m_rest_le hr hst
  subst hst0
  obtain ⟨c0, cst0, rfl, rfl, c, cst', rfl, rfl, h2⟩ := hst
  have h8 : (cst'.map fun v => v.category).sum ≤ 8 := hcat
  have hRl := F.2.2.2.2.2.2.2.2.2.2
  have hRf := F.2.2.2.2.2.2.2.2.2.1
  exact va_mmin F.1 F.2.1 hlr.2.1.symm F.2.2.1 (F.w hl) (F.w m_w_mn1) (F.w m_w_mx2) (F.w m_w_mn3) (show 1 ≤ (g_R G).frames by omega) (show (cst'.map fun v => v.category).sum + 13 ≤ (g_R G).locals by omega) (show cells ≤ (g_R G).cells by omega) (show slots ≤ (g_R G).slots by omega) hd (h ad H ls _ locs cells slots hext hH hS hlr ⟨_, _, rfl, rfl, h2⟩ hc hs)
theorem m_i_obj (F : m_Fix G own cc d) {o idx p : Nat} {r : m_V} (hst0 : st = .ref o :: r) (hr : m_rest 1 st = true) (hl : m_at p (.methodLink own idx Lib.objectInit) = true) (hd : decode cc pc = .ok (.invokespecial idx, 3)) (h : m_Wp G (pc + 3) l r S bc bs) : m_Wp G pc l st S bc bs := by
  intro ad H ls cst locs cells slots hext hH hS hlr hst hc hs
  have hcat := m_rest_le hr hst
  subst hst0
  obtain ⟨c0, cst0, rfl, ⟨-, rfl⟩, h2⟩ := hst
  have h8 : (cst0.map fun v => v.category).sum ≤ 8 := hcat
  have hRl := F.2.2.2.2.2.2.2.2.2.2
  have hRf := F.2.2.2.2.2.2.2.2.2.1
  refine W.objInit F.1 F.2.1 F.2.2.1 (F.w hl) (F.w m_w_ob1) (F.w m_w_ob2) (g := F0 (g_m G) pc ls (.ref (ad o) :: cst0)) rfl hlr.2.1 rfl hd (show 1 ≤ (g_R G).frames by omega) (show 2 * 0 + (cst0.map fun v => v.category).sum + 12 ≤ (g_R G).locals by omega) ?_
  exact h ad H ls _ locs cells slots hext hH hS hlr h2 hc hs
theorem m_copy_inv {k : m_I → m_V → Prop} (h : m_copy S st k) : ∃ n dp sp a a0 r ty n0 n1 rs0 rs, st = .int n :: .int dp :: .ref a :: .int sp :: .ref a0 :: r ∧ S.1[a0]? = some (.inr (ty, n0), rs0) ∧ S.1[a]? = some (.inr (ty, n1), rs) ∧ m_small ty = true ∧ ¬ sp < 0 ∧ ¬ dp < 0 ∧ ¬ n < 0 ∧ sp.toNatClampNeg + n.toNatClampNeg ≤ n0 ∧ dp.toNatClampNeg + n.toNatClampNeg ≤ n1 ∧ (∀ i, i < n.toNatClampNeg → fits ty (.int (S.2.1 a0 (sp.toNatClampNeg + i))) = true) ∧
    k (m_row S.2.1 a (va_cpy (S.2.1 a0) (S.2.1 a) sp.toNatClampNeg dp.toNatClampNeg n.toNatClampNeg)) r := by
  unfold m_copy at h
  split at h
  · obtain ⟨ty0, n0, rs0, h0, h⟩ := m_arr_inv h
    obtain ⟨ty, n1, rs, h1, h⟩ := m_arr_inv h
    split at h
    · rename_i e1 e2
      have := of_decide_eq_true e2
      subst this
      exact ⟨_, _, _, _, _, _, _, _, _, _, _, rfl, h0, h1, e1, h⟩
    · exact h.elim
  · exact h.elim
theorem m_i_copy (F : m_Fix G own cc d) {n dp sp : Int32} {a a0 n0 n1 idx p : Nat} {ty : FieldType} {r : m_V} {rs0 rs : List (Option Nat)} (hst0 : st = .int n :: .int dp :: .ref a :: .int sp :: .ref a0 :: r) (hr : m_rest 5 st = true) (h0 : S.1[a0]? = some (.inr (ty, n0), rs0)) (h1 : S.1[a]? = some (.inr (ty, n1), rs)) (hty : m_small ty = true) (c1 : ¬ sp < 0) (c2 : ¬ dp < 0) (c3 : ¬ n < 0) (c4 : sp.toNatClampNeg + n.toNatClampNeg ≤ n0) (c5 : dp.toNatClampNeg + n.toNatClampNeg ≤ n1) (c6 : ∀ i, i < n.toNatClampNeg → fits ty (.int (S.2.1 a0 (sp.toNatClampNeg + i))) = true)
    (hl : m_at p (.methodLink own idx arraycopyName) = true) (hd : decode cc pc = .ok (.invokestatic idx, 3)) (h : m_Wp G (pc + 3) l r (S.1, m_row S.2.1 a (va_cpy (S.2.1 a0) (S.2.1 a) sp.toNatClampNeg dp.toNatClampNeg n.toNatClampNeg), S.2.2) bc bs) : m_Wp G pc l st S bc bs := by
  intro ad H ls cst locs cells slots hext hH hS hlr hst hc hs
  have hcat := m_rest_le hr hst
  subst hst0
  obtain ⟨_, z0, rfl, rfl, _, z1, rfl, rfl, _, z2, rfl, ⟨-, rfl⟩, _, z3, rfl, rfl, _, z4, rfl, ⟨-, rfl⟩, h2⟩ := hst
  have h8 : (z4.map fun v => v.category).sum ≤ 8 := hcat
  have hRl := F.2.2.2.2.2.2.2.2.2.2
  have hRf := F.2.2.2.2.2.2.2.2.2.1
  obtain ⟨g0, t0, k0⟩ := m_at_arr hH h0
  obtain ⟨g1, t1, k1⟩ := m_at_arr hH h1
  have hav : ∀ (b : Nat) (rs : List (Option Nat)), m_av S ad b ty rs = .inl (S.2.1 b) := by
    intro b rs
    unfold m_small at hty
    split at hty <;> first | rfl | cases hty
  rw [hav] at g0 g1
  have hprim : refKind ty = false := by
    unfold m_small at hty
    split at hty <;> first | rfl | cases hty
  refine va_copyi F.1 F.2.1 hlr.2.1.symm F.2.2.1 (F.w hl) (F.w m_w_ac1) (F.w m_w_ac2) (F.w m_w_ac3) F.K hH.1 hH.2.1 hS a0 a t0 t1 g0 g1 k0 k1 hprim c1 c2 c3 c4 c5 c6 (show 1 ≤ (g_R G).frames by omega) (show (z4.map fun v => v.category).sum + (nativeFrameWords "java/lang/System" "arraycopy" 5 + 11) ≤ (g_R G).locals from ?_) hd (fun H1 locs1 hP1 hD1 hS1 => ?_)
  · have : nativeFrameWords "java/lang/System" "arraycopy" 5 = 7 := by decide +kernel
    omega
  · exact h ad H1 ls _ locs1 cells slots hext (m_H_row hH h1 hty hP1 hD1) hS1 hlr h2 hc hs
theorem m_i_str (F : m_Fix G own cc d) {idx j p : Nat} {tx : String} (htx : m_texts[j]? = some tx) (hl : lw_tbl[p]? = some (.stringRef own idx tx)) (hd : decode cc pc = .ok (.ldc idx, 2)) (h : m_Wp G (pc + 2) l (.ref (m_str j) :: st) S bc bs) : m_Wp G pc l st S bc bs := by
  intro ad H ls cst locs cells slots hext hH hS hlr hst hc hs
  obtain ⟨sa, h1, h2⟩ := F.2.2.2.2.2.1.2.2.2.2.2.2.1 own idx tx (List.mem_of_getElem? hl)
  have hR := h1.warm F.2.2.2.2.2.2.1
  have hin : m_in S.1.length (m_str j) := Or.inr (by unfold m_str; omega)
  refine va_ldcS F.1 F.2.1 F.2.2.1 hR hd (h ad H ls _ locs cells slots hext hH hS hlr ⟨.ref sa, _, rfl, ⟨hin, ?_⟩, hst⟩ hc hs)
  rw [hext.2 _ (Or.inr (by unfold m_str; omega)), h2 j htx]
end S6
