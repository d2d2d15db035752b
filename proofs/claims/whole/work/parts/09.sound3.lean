/-! fields and arrays -/
def m_layOk : Bool := (List.range 13).all (fun ci => (List.range (m_N ci)).all (fun k => m_at ((m_lays.getD ci []).getD k 0) (u_lay (m_cnames.getD ci "") (m_T ci) k)))
theorem m_layOk_t : m_layOk = true := by decide +kernel
theorem m_at_in {i : Nat} {w : Cond} (h : m_at i w = true) : w ∈ m_tbl := by
  simp only [m_at, Bool.and_eq_true, decide_eq_true_eq] at h
  exact m_tbl_in h.1 h.2
theorem m_lay {ci : Nat} (h : ci < 13) : ∀ w ∈ u_ws (m_cnames.getD ci "") (m_T ci) (m_N ci), w ∈ m_tbl := by
  intro w hw
  obtain ⟨k, hk, rfl⟩ := List.mem_map.mp hw
  have h1 := List.all_eq_true.mp m_layOk_t ci (List.mem_range.mpr h)
  exact m_at_in (List.all_eq_true.mp h1 k hk)
theorem m_nmOk : (List.range 13).all (fun ci => (List.range (m_N ci)).all (fun a => (List.range (m_N ci)).all (fun b => decide (a = b) || decide ((m_T ci a).2.1 ≠ (m_T ci b).2.1)))) = true := by decide +kernel
theorem m_nm {ci : Nat} (h : ci < 13) : ∀ a, a < m_N ci → ∀ b, b < m_N ci → a ≠ b → (m_T ci a).2.1 ≠ (m_T ci b).2.1 := by
  intro a ha b hb hab
  have h1 := List.all_eq_true.mp (List.all_eq_true.mp (List.all_eq_true.mp m_nmOk ci (List.mem_range.mpr h)) a (List.mem_range.mpr ha)) b (List.mem_range.mpr hb)
  simp only [Bool.or_eq_true, decide_eq_true_eq] at h1
  exact h1.resolve_left hab
theorem m_ftOk : (List.range 13).all (fun ci => (List.range (m_N ci)).all (fun a => decide (parseFieldDescriptor (m_T ci a).2.2.1 = some (m_ty ci a)))) = true := by decide +kernel
theorem m_ft {ci : Nat} (h : ci < 13) : ∀ k, k < m_N ci → parseFieldDescriptor (m_T ci k).2.2.1 = some (m_ty ci k) := by
  intro a ha
  have h1 := List.all_eq_true.mp (List.all_eq_true.mp m_ftOk ci (List.mem_range.mpr h)) a (List.mem_range.mpr ha)
  simpa using h1
def m_isRefF (ty : FieldType) : Bool := match ty with
  | .object _ => true
  | .array _ => true
  | _ => false
theorem m_range_set {N k : Nat} {f g : Nat → Value} (hk : k < N) (h : ∀ j, j ≠ k → g j = f j) : (List.range N).map g = ((List.range N).map f).set k (g k) := by
  apply List.ext_getElem?
  intro j
  rw [List.getElem?_set]
  by_cases e : k = j
  · subst e
    simp [hk]
  · rw [if_neg e]
    simp only [List.getElem?_map]
    by_cases hj : j < N
    · simp [List.getElem?_range hj, h j (fun q => e q.symm)]
    · simp [List.getElem?_eq_none_iff.mpr, Nat.not_lt.mp hj]
theorem m_set_self {α : Type} {l : List α} {a : Nat} {c : α} (h : l[a]? = some c) : l.set a c = l := by
  apply List.ext_getElem?
  intro j
  rw [List.getElem?_set]
  by_cases e : a = j
  · subst e
    rw [if_pos rfl, if_pos (List.getElem?_eq_some_iff.mp h).1, h]
  · rw [if_neg e]
section S3
variable {G : m_G} {own : String} {cc : ByteArray} {d : Nat} {pc : Nat} {l : m_L} {st : m_V} {S : m_S} {bc bs : Nat}
theorem m_Fix.K (F : m_Fix G own cc d) : va_K (g_D G) m_cl (m_tys (g_dA G)) (g_s G) := va_K.moved F.2.2.2.2.2.2.1.alike F.2.2.2.2.2.1.1
theorem m_Fix.w (F : m_Fix G own cc d) {i : Nat} {w : Cond} (h : m_at i w = true) : w.before (g_args G) (g_s G) = true := F.2.2.2.1 w (m_at_in h)
theorem m_fv_rel {ad : Nat → Nat} {o ci k t : Nat} {rs : List (Option Nat)} (hw : ∀ j r : Nat, rs[j]? = some (some r) → r < S.1.length) (ht : (match t with
    | 0 => decide (m_ty ci k = .int)
    | 1 => m_isRefF (m_ty ci k)
    | 2 => decide (m_ty ci k = .long)
    | _ => false) = true) : m_vr ad S.1.length (m_fget S o k t rs) (m_fv S ad o ci rs k) := by
  unfold m_fget m_fv
  split at ht
  · rw [of_decide_eq_true ht]; rfl
  · unfold m_isRefF at ht
    have hr : m_vr ad S.1.length (m_rv (rs.getD k none)) (va_rf ((rs.getD k none).map ad)) := by
      rw [List.getD_eq_getElem?_getD]
      cases hk : rs[k]? with
      | none => rfl
      | some o =>
        cases o with
        | none => rfl
        | some r => exact ⟨Or.inl (hw k r hk), rfl⟩
    split at ht
    · rename_i e; rw [e]; exact hr
    · rename_i e; rw [e]; exact hr
    · cases ht
  · rw [of_decide_eq_true ht]; rfl
  · cases ht
theorem m_i_get (F : m_Fix G own cc d) {idx ci k t o p : Nat} {r : m_V} {rs : List (Option Nat)} (hst0 : st = .ref o :: r) (ho : S.1[o]? = some (.inl ci, rs)) (hci : ci < 13) (hk : k < m_N ci) (hl : m_at p (.fieldLink own idx (m_T ci k).1 (m_T ci k).2.1 (m_T ci k).2.2.1) = true)
    (ht : (match t with
    | 0 => decide (m_ty ci k = .int)
    | 1 => m_isRefF (m_ty ci k)
    | 2 => decide (m_ty ci k = .long)
    | _ => false) = true) (hd : decode cc pc = .ok (.getfield idx, 3)) (h : m_Wp G (pc + 3) l (m_fget S o k t rs :: r) S bc bs) : m_Wp G pc l st S bc bs := by
  intro ad H ls cst locs cells slots hext hH hS hlr hst hc hs
  subst hst0
  obtain ⟨c, cst', rfl, ⟨-, rfl⟩, h2⟩ := hst
  refine va_get (D := g_D G) (cl := m_cl) (tys := m_tys (g_dA G)) (ws := m_ws S ad (g_dA G)) (ci := ci) (C := m_cnames.getD ci "") (T := m_T ci) (N := m_N ci) (v := m_fv S ad o ci rs k) F.1 F.2.1 F.2.2.2.1 (m_lay hci) F.2.2.1 F.K hH.1 o (m_ws_at ho) (m_cl_at hci) k hk (F.w hl) (fun _ h9 => h9) (by simp [List.getElem?_range hk]) hd ?_
  exact h ad H ls _ locs cells slots hext hH hS hlr ⟨_, _, rfl, m_fv_rel (hH.2.2.1 o _ ho).1 ht, h2⟩ hc hs
/-- writing a field -/
theorem m_i_put (F : m_Fix G own cc d) {idx ci k o p : Nat} {v : Value} {r : m_V} {rs rs' : List (Option Nat)} {S' : m_S} {ty : FieldType} (hst0 : st = v :: .ref o :: r) (ho : S.1[o]? = some (.inl ci, rs)) (hci : ci < 13) (hk : k < m_N ci) (hl : m_at p (.fieldLink own idx (m_T ci k).1 (m_T ci k).2.1 (m_T ci k).2.2.1) = true)
    (hfin : (m_T ci k).2.2.2 = false ∨ ((g_meth G).name = "<init>" ∧ (m_T ci k).1 = own)) (hty : m_ty ci k = ty) (hfit : ∀ ad c, m_vr ad S.1.length v c → narrow ty c = c ∧ fits ty c = true)
    (hE : S'.1 = S.1.set o (.inl ci, rs')) (hI : ∀ a, a ≠ o → S'.2.1 a = S.2.1 a) (hL : ∀ a, a ≠ o → S'.2.2.1 a = S.2.2.1 a) (hD : ∀ a, a ≠ o → S'.2.2.2 a = S.2.2.2 a)
    (hw' : (∀ j r : Nat, rs[j]? = some (some r) → r < S.1.length) → (∀ ad c, m_vr ad S.1.length v c → ∀ j q : Nat, rs'[j]? = some (some q) → q < S.1.length ∨ (v = .ref q))) (hlen : rs'.length = rs.length)
    (hfo : ∀ ad j, j ≠ k → m_fv S' ad o ci rs' j = m_fv S ad o ci rs j) (hfk : ∀ ad c, m_vr ad S.1.length v c → rs.length = m_N ci → m_fv S' ad o ci rs' k = c) (hin : ∀ q, v = .ref q → q < S.1.length)
    (hd : decode cc pc = .ok (.putfield idx, 3)) (h : m_Wp G (pc + 3) l r S' bc bs) : m_Wp G pc l st S bc bs := by
  intro ad H ls cst locs cells slots hext hH hS hlr hst hc hs
  subst hst0
  obtain ⟨c, cst', rfl, hv, c2, cst2, rfl, ⟨-, rfl⟩, h2⟩ := hst
  obtain ⟨hP, hD0, hwf, hl0, hx0, hlx⟩ := id hH
  have hwo := hwf o _ ho
  have hrl : rs.length = m_N ci := hwo.2.2
  have e1 : (List.range (m_N ci)).map (m_fv S' ad o ci rs') = ((List.range (m_N ci)).map (m_fv S ad o ci rs)).set k c := by
    rw [← hfk ad c hv hrl]
    exact m_range_set hk (hfo ad)
  have hpd : parseFieldDescriptor (m_T ci k).2.2.1 = some ty := by rw [← hty]; exact m_ft hci k hk
  have goon : ∀ (H1 : Heap) (locs1 : List Loc), va_P (g_D G) m_cl ((m_ws S ad (g_dA G)).set o (ad o, .inr (ci, ((List.range (m_N ci)).map (m_fv S ad o ci rs)).set k c))) H1 → va_D (m_A G) ((m_ws S ad (g_dA G)).set o (ad o, .inr (ci, ((List.range (m_N ci)).map (m_fv S ad o ci rs)).set k c))) → va_S (m_A G) (g_s G).heap H1 locs1 → m_WW G H1 locs1 cells slots (F0 (g_m G) (pc + 3) ls cst2) := by
    intro H1 locs1 hP1 hD1 hS1
    have hlS : S'.1.length = S.1.length := by rw [hE]; simp
    have hH1 : m_H (g_D G) (g_dA G) (g_s0 G).heap.size (g_xs G) (g_L G) ad S' H1 := by
      refine m_H_set hH ho hE hI hL hD ⟨fun j q hj => ?_, ⟨hci, by rw [hlen]; exact hrl⟩⟩ ?_ ?_
      · rcases hw' hwo.1 ad c hv j q hj with q1 | q1
        · exact q1
        · exact hin q q1
      · show va_P (g_D G) m_cl ((m_ws S ad (g_dA G)).set o (ad o, .inr (ci, (List.range (m_N ci)).map (m_fv S' ad o ci rs')))) H1
        rw [e1]; exact hP1
      · show va_D _ ((m_ws S ad (g_dA G)).set o (ad o, .inr (ci, (List.range (m_N ci)).map (m_fv S' ad o ci rs'))))
        rw [e1]; exact hD1
    exact h ad H1 ls _ locs1 cells slots (by rw [hlS]; exact hext) hH1 hS1 (by rw [hlS]; exact hlr) (by rw [hlS]; exact h2) hc hs
  rcases hfin with hfin | ⟨hn, hdec⟩
  · exact va_put (D := g_D G) (cl := m_cl) (tys := m_tys (g_dA G)) (ws := m_ws S ad (g_dA G)) (ci := ci) (C := m_cnames.getD ci "") (T := m_T ci) (N := m_N ci) (v := c) (ty := ty) F.1 F.2.1 F.2.2.2.1 (m_lay hci) (m_ty ci) (m_ft hci) (m_nm hci) F.2.2.1 F.K hP hD0 hS o (m_ws_at ho) (m_cl_at hci) k hk (F.w hl) (fun _ h9 => h9) hfin hpd (hfit ad c hv).1 (hfit ad c hv).2 (by simp [hk]) hd goon
  · by_cases hf : (m_T ci k).2.2.2 = true
    · exact va_putF (D := g_D G) (cl := m_cl) (tys := m_tys (g_dA G)) (ws := m_ws S ad (g_dA G)) (ci := ci) (C := m_cnames.getD ci "") (T := m_T ci) (N := m_N ci) (v := c) (ty := ty) F.1 F.2.1 F.2.2.2.1 (m_lay hci) (m_ty ci) (m_ft hci) (m_nm hci) F.2.2.1 F.K hP hD0 hS o (m_ws_at ho) (m_cl_at hci) k hk (F.w hl) (fun _ h9 => h9) hf hn hdec hpd (hfit ad c hv).1 (hfit ad c hv).2 (by simp [hk]) hd goon
    · exact va_put (D := g_D G) (cl := m_cl) (tys := m_tys (g_dA G)) (ws := m_ws S ad (g_dA G)) (ci := ci) (C := m_cnames.getD ci "") (T := m_T ci) (N := m_N ci) (v := c) (ty := ty) F.1 F.2.1 F.2.2.2.1 (m_lay hci) (m_ty ci) (m_ft hci) (m_nm hci) F.2.2.1 F.K hP hD0 hS o (m_ws_at ho) (m_cl_at hci) k hk (F.w hl) (fun _ h9 => h9) (by simpa using hf) hpd (hfit ad c hv).1 (hfit ad c hv).2 (by simp [hk]) hd goon
end S3
