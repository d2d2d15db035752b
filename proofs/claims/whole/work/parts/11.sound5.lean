/-! what is made, what is copied -/
def m_cwOk : Bool := (List.range 13).all (fun ci => m_at (m_cwords.getD ci (0, 0)).1 (.instantiable (m_cnames.getD ci "") (m_N ci)) && m_at (m_cwords.getD ci (0, 0)).2 (.initialized (m_cnames.getD ci "")))
theorem m_cwOk_t : m_cwOk = true := by decide +kernel
theorem m_cw {ci : Nat} (h : ci < 13) : Cond.instantiable (m_cnames.getD ci "") (m_N ci) ∈ m_tbl ∧ Cond.initialized (m_cnames.getD ci "") ∈ m_tbl := by
  have h1 := List.all_eq_true.mp m_cwOk_t ci (List.mem_range.mpr h)
  simp only [Bool.and_eq_true] at h1
  exact ⟨m_at_in h1.1, m_at_in h1.2⟩
def m_fine (ty : FieldType) : Bool := match ty with
  | .int => true
  | .long => true
  | .object _ => true
  | .array _ => true
  | _ => false
theorem m_fineOk : (List.range 13).all (fun ci => (List.range (m_N ci)).all (fun k => m_fine (m_ty ci k))) = true := by decide +kernel
section S5
variable {G : m_G} {own : String} {cc : ByteArray} {d : Nat} {pc : Nat} {l : m_L} {st : m_V} {S : m_S} {bc bs : Nat}
theorem m_zero_at (a : Nat) : (m_zero S a).1 a = (fun _ => 0) ∧ (m_zero S a).2.1 a = (fun _ => 0) ∧ (m_zero S a).2.2 a = (fun _ => 0) := ⟨by simp [m_zero, m_row], by simp [m_zero, m_rowX], by simp [m_zero, m_rowX]⟩
theorem m_zero_ne {a k : Nat} (h : k ≠ a) : (m_zero S a).1 k = S.2.1 k ∧ (m_zero S a).2.1 k = S.2.2.1 k ∧ (m_zero S a).2.2 k = S.2.2.2 k := ⟨by simp [m_zero, m_row, h], by simp [m_zero, m_rowX, h], by simp [m_zero, m_rowX, h]⟩
theorem m_fv_new {ad : Nat → Nat} {ci n : Nat} (E : m_E) {k : Nat} (hci : ci < 13) (hk : k < m_N ci) : m_fv (E, m_zero S n) ad n ci (List.replicate (m_N ci) none) k = defaultValue (m_ty ci k) := by
  have h1 := List.all_eq_true.mp (List.all_eq_true.mp m_fineOk ci (List.mem_range.mpr hci)) k (List.mem_range.mpr hk)
  unfold m_fv
  obtain ⟨z1, z2, -⟩ := m_zero_at (S := S) n
  simp only [z1, z2]
  unfold m_fine at h1
  split at h1
  · rename_i e; rw [e]; rfl
  · rename_i e; rw [e]; rfl
  · rename_i e; rw [e]; simp [List.getD_eq_getElem?_getD, List.getElem?_replicate, hk, va_rf, defaultValue]
  · rename_i e; rw [e]; simp [List.getD_eq_getElem?_getD, List.getElem?_replicate, hk, va_rf, defaultValue]
  · cases h1
theorem m_ad_new {n q : Nat} {ad : Nat → Nat} (hn : n ≤ 2000) : ∀ k, m_in n k → (fun k => if k = n then q else ad k) k = ad k := by
  intro k hk
  have : k ≠ n := by rcases hk with h | h <;> omega
  simp [this]
theorem m_Fix.A (F : m_Fix G own cc d) : ∀ q : Nat, (g_s G).heap.size ≤ q → m_A G q := fun q h => Nat.le_trans F.2.2.2.2.2.2.2.1 h
theorem m_i_new (F : m_Fix G own cc d) {idx ci p : Nat} (hci : ci < 13) (hl : m_at p (.classLink own idx (m_cnames.getD ci "")) = true) (hd : decode cc pc = .ok (.new idx, 3)) (hlen : S.1.length < 1000) (h1 : 1 ≤ bc) (h2 : m_N ci ≤ bs)
    (h : m_Wp G (pc + 3) l (.ref S.1.length :: st) (S.1 ++ [(.inl ci, List.replicate (m_N ci) none)], m_zero S S.1.length) (bc - 1) (bs - m_N ci)) : m_Wp G pc l st S bc bs := by
  intro ad H ls cst locs cells slots hext hH hS hlr hst hc hs
  refine va_new (D := g_D G) (cl := m_cl) (tys := m_tys (g_dA G)) (ws := m_ws S ad (g_dA G)) (ci := ci) (C := m_cnames.getD ci "") (T := m_T ci) (N := m_N ci) (fs := (List.range (m_N ci)).map (fun k => defaultValue (m_ty ci k))) F.1 F.2.1 F.2.2.2.1 (m_lay hci) (m_ty ci) (m_ft hci) F.2.2.1 (F.w hl) (F.2.2.2.1 _ (m_cw hci).1) (F.2.2.2.1 _ (m_cw hci).2) F.K hH.1 hH.2.1 hS F.A (m_cl_at hci) (fun j hj => by simp [vp_V, List.getD_eq_getElem?_getD, List.getElem?_range hj]) (show cells + 1 ≤ (g_R G).cells by omega) (show slots + m_N ci ≤ (g_R G).slots by omega) hd (fun q H1 hP1 hD1 hS1 => ?_)
  have e : ∀ ad' : Nat → Nat, m_ce (S.1 ++ [(.inl ci, List.replicate (m_N ci) none)], m_zero S S.1.length) ad' (g_dA G) S.1.length (.inl ci, List.replicate (m_N ci) none) = .inr (ci, (List.range (m_N ci)).map (fun k => defaultValue (m_ty ci k))) := by
    intro ad'
    simp only [m_ce]
    congr 2
    apply List.map_congr_left
    intro k hk
    exact m_fv_new _ hci (List.mem_range.mp hk)
  obtain ⟨hH1, hx1⟩ := m_H_app (r := [(.inl ci, List.replicate (m_N ci) none)]) (ad' := fun k => if k = S.1.length then q else ad k) (S' := (S.1 ++ [(.inl ci, List.replicate (m_N ci) none)], m_zero S S.1.length)) (H1 := H1) hH rfl (fun k hk => (m_zero_ne (by rcases hk with z | z <;> omega)).1) (fun k hk => (m_zero_ne (by omega)).2.1) (fun k hk => (m_zero_ne (by omega)).2.2) (m_ad_new (by omega)) (by simp; omega)
    (fun k c hk => by
      have h0 : k < 1 := (List.getElem?_eq_some_iff.mp hk).1
      have : k = 0 := by omega
      subst this
      cases hk
      refine ⟨fun j r hj => ?_, hci, by simp⟩
      have := List.mem_of_getElem? hj
      simp [List.mem_replicate] at this)
    (by simp only [List.mapIdx_cons, List.mapIdx_nil, Nat.add_zero, e, if_pos]; exact hP1) (by simp only [List.mapIdx_cons, List.mapIdx_nil, Nat.add_zero, e, if_pos]; exact hD1)
  exact h _ H1 ls _ locs _ _ (hext.tr hx1) hH1 hS1 (hlr.up hx1) ⟨_, cst, rfl, ⟨Or.inl (by simp), by simp⟩, hst.up hx1⟩ (by omega) (by omega)
/-- an array's class is the one of its type -/
theorem m_Kd {D : va_G} {cl : List vw_C} {dA : FieldType → ClassId} {s : State} {cA : ClassId} {ty : FieldType} (hK : va_K D cl (m_tys dA ++ [(cA, ty)]) s) (h : ty ∈ m_tl) : cA = dA ty := by
  obtain ⟨k, hk⟩ := m_tys_at dA h
  have hkl : k < (m_tys dA).length := (List.getElem?_eq_some_iff.mp hk).1
  have h1 := (hK.2 k (dA ty, ty) (by rw [List.getElem?_append_left hkl]; exact hk)).2
  have h2 := (hK.2 (m_tys dA).length (cA, ty) (by rw [List.getElem?_append_right (Nat.le_refl _)]; simp)).2
  cases ty with
  | object C =>
    obtain ⟨-, -, -, -, -, f1⟩ := h1
    obtain ⟨-, -, -, -, -, f2⟩ := h2
    exact Option.some.inj (f2.symm.trans f1)
  | _ => exact Option.some.inj ((show _ = some cA from h2).symm.trans h1)
theorem m_H_arr {D : va_G} {dA : FieldType → ClassId} {base : Nat} {xs : Nat → Int32} {L : Nat} {ad : Nat → Nat} {H H1 : Heap} {n q : Nat} {ty : FieldType} {rs : List (Option Nat)} {z : (Nat → Int32) ⊕ (Nat → Int64) ⊕ (Nat → UInt32) ⊕ (Nat → UInt64) ⊕ (Nat → Option Nat)} (hH : m_H D dA base xs L ad S H) (hlen : S.1.length < 1000) (hty : ty ∈ m_tl) (hrs : rs = [] ∨ rs = List.replicate n none) (hrl : m_isRef ty = true → rs.length = n)
    (hz : ∀ ad' : Nat → Nat, m_av (S.1 ++ [(.inr (ty, n), rs)], m_zero S S.1.length) ad' S.1.length ty rs = z)
    (hP1 : va_P D m_cl (m_ws S ad dA ++ [(q, .inl (dA ty, n, z))]) H1) (hD1 : va_D (fun q => base ≤ q) (m_ws S ad dA ++ [(q, .inl (dA ty, n, z))])) : m_H D dA base xs L (fun k => if k = S.1.length then q else ad k) (S.1 ++ [(.inr (ty, n), rs)], m_zero S S.1.length) H1 ∧ m_ext S.1.length (S.1 ++ [((.inr (ty, n) : m_Sh), rs)]).length ad (fun k => if k = S.1.length then q else ad k) := by
  have e : ∀ ad' : Nat → Nat, m_ce (S.1 ++ [(.inr (ty, n), rs)], m_zero S S.1.length) ad' dA S.1.length (.inr (ty, n), rs) = .inl (dA ty, n, z) := by
    intro ad'
    simp only [m_ce]
    rw [hz ad']
  refine m_H_app (r := [(.inr (ty, n), rs)]) (ad' := fun k => if k = S.1.length then q else ad k) (S' := (S.1 ++ [(.inr (ty, n), rs)], m_zero S S.1.length)) (H1 := H1) hH rfl (fun k hk => (m_zero_ne (by rcases hk with z | z <;> omega)).1) (fun k hk => (m_zero_ne (by omega)).2.1) (fun k hk => (m_zero_ne (by omega)).2.2) (m_ad_new (by omega)) (by simp; omega)
    (fun k c hk => by
      have h0 : k < 1 := (List.getElem?_eq_some_iff.mp hk).1
      have : k = 0 := by omega
      subst this
      cases hk
      refine ⟨fun j r hj => ?_, hty, hrl⟩
      rcases hrs with q | q
      · subst q; simp at hj
      · subst q
        have := List.mem_of_getElem? hj
        simp [List.mem_replicate] at this)
    (by simp only [List.mapIdx_cons, List.mapIdx_nil, Nat.add_zero, e, if_pos]; exact hP1) (by simp only [List.mapIdx_cons, List.mapIdx_nil, Nat.add_zero, e, if_pos]; exact hD1)
theorem m_i_newa (F : m_Fix G own cc d) {at_ : ArrayType} {p : Nat} {n : Int32} {r : m_V} (hst0 : st = .int n :: r) (hty : (match newarray.typeOf at_ with
    | .int => true
    | .boolean => true
    | .byte => true
    | .long => true
    | .double => true
    | _ => false) = true) (hl : Cond.arrayClass (newarray.typeOf at_) ∈ m_tbl) (hd : decode cc pc = .ok (.newarray at_, 2)) (hn : ¬ n < 0) (hn2 : n.toNatClampNeg ≤ 100000) (hlen : S.1.length < 1000) (h1 : 1 ≤ bc) (h2 : n.toNatClampNeg ≤ bs)
    (h : m_Wp G (pc + 2) l (.ref S.1.length :: r) (S.1 ++ [(.inr (newarray.typeOf at_, n.toNatClampNeg), [])], m_zero S S.1.length) (bc - 1) (bs - n.toNatClampNeg)) : m_Wp G pc l st S bc bs := by
  intro ad H ls cst locs cells slots hext hH hS hlr hst hc hs
  subst hst0
  obtain ⟨c, cst', rfl, rfl, h3⟩ := hst
  obtain ⟨z1, z2, z3⟩ := m_zero_at (S := S) S.1.length
  have key : ∀ (ty : FieldType) (z : (Nat → Int32) ⊕ (Nat → Int64) ⊕ (Nat → UInt32) ⊕ (Nat → UInt64) ⊕ (Nat → Option Nat)), newarray.typeOf at_ = ty → ty ∈ m_tl → m_isRef ty = false → (∀ cA : ClassId, vp_cell cA (n.toNatClampNeg, z) = arrV cA n.toNatClampNeg (fun _ => defaultValue ty)) → n.toNatClampNeg * componentBytes ty ≤ 536870912 →
      (∀ ad' : Nat → Nat, m_av (S.1 ++ [(.inr (ty, n.toNatClampNeg), [])], m_zero S S.1.length) ad' S.1.length ty [] = z) → m_WW G H locs cells slots (F0 (g_m G) pc ls (.int n :: cst')) := by
    intro ty z et hin hir ha hby hz
    refine va_newa (atype := at_) (a0 := (n.toNatClampNeg, z)) F.1 F.2.1 (F.2.2.2.1 _ hl) et F.K hH.1 hH.2.1 hS F.A ha hn rfl hby (show cells + 1 ≤ (g_R G).cells by omega) (show slots + n.toNatClampNeg ≤ (g_R G).slots by omega) hd (fun q cA H1 hK1 hP1 hD1 hS1 => ?_)
    have ec := m_Kd hK1 hin
    subst ec
    rw [et] at h
    obtain ⟨hH1, hx1⟩ := m_H_arr hH hlen hin (Or.inl rfl) (fun q => by rw [hir] at q; cases q) hz hP1 hD1
    exact h _ H1 ls _ locs _ _ (hext.tr hx1) hH1 hS1 (hlr.up hx1) ⟨_, cst', rfl, ⟨Or.inl (by simp), by simp⟩, h3.up hx1⟩ (by omega) (by omega)
  split at hty
  · rename_i et
    exact key .int (.inl (fun _ => 0)) et (by decide) rfl (fun _ => rfl) (by simp [componentBytes]; omega) (fun ad' => by simp only [m_av, z1])
  · rename_i et
    exact key .boolean (.inl (fun _ => 0)) et (by decide) rfl (fun _ => rfl) (by simp [componentBytes]; omega) (fun ad' => by simp only [m_av, z1])
  · rename_i et
    exact key .byte (.inl (fun _ => 0)) et (by decide) rfl (fun _ => rfl) (by simp [componentBytes]; omega) (fun ad' => by simp only [m_av, z1])
  · rename_i et
    exact key .long (.inr (.inl (fun _ => 0))) et (by decide) rfl (fun _ => rfl) (by simp [componentBytes]; omega) (fun ad' => by simp only [m_av, z2])
  · rename_i et
    exact key .double (.inr (.inr (.inr (.inl (fun _ => 0))))) et (by decide) rfl (fun _ => rfl) (by simp [componentBytes]; omega) (fun ad' => by simp only [m_av, z3])
  · cases hty
theorem m_i_newq (F : m_Fix G own cc d) {idx p : Nat} {C : String} {n : Int32} {r : m_V} (hst0 : st = .int n :: r) (hC : C = "VirtualQueue$Line" ∨ C = "VirtualQueue$Day") (hl : m_at p (.classLink own idx C) = true) (hd : decode cc pc = .ok (.anewarray idx, 3)) (hn : ¬ n < 0) (hn2 : n.toNatClampNeg ≤ 100000) (hlen : S.1.length < 1000) (h1 : 1 ≤ bc) (h2 : n.toNatClampNeg ≤ bs)
    (h : m_Wp G (pc + 3) l (.ref S.1.length :: r) (S.1 ++ [(.inr (.object C, n.toNatClampNeg), List.replicate n.toNatClampNeg none)], m_zero S S.1.length) (bc - 1) (bs - n.toNatClampNeg)) : m_Wp G pc l st S bc bs := by
  intro ad H ls cst locs cells slots hext hH hS hlr hst hc hs
  subst hst0
  obtain ⟨c, cst', rfl, rfl, h3⟩ := hst
  have hin : FieldType.object C ∈ m_tl := by rcases hC with q | q <;> subst q <;> decide
  have hAO : va_AO C (g_s G) := by
    obtain ⟨a1, a2, -⟩ := F.2.2.2.2.2.1.2.2.2.1
    rcases hC with q | q <;> subst q
    · exact a1.moved F.2.2.2.2.2.2.1.alike
    · exact a2.moved F.2.2.2.2.2.2.1.alike
  refine va_newq F.1 F.2.1 F.2.2.1 (F.w hl) hAO F.K hH.1 hH.2.1 hS F.A hn rfl (by omega) (show cells + 1 ≤ (g_R G).cells by omega) (show slots + n.toNatClampNeg ≤ (g_R G).slots by omega) hd (fun q cA H1 hK1 hP1 hD1 hS1 => ?_)
  have ec := m_Kd hK1 hin
  subst ec
  obtain ⟨hH1, hx1⟩ := m_H_arr (ty := .object C) (rs := List.replicate n.toNatClampNeg none) hH hlen hin (Or.inr rfl) (fun _ => by simp) (fun ad' => by
    simp only [m_av]
    congr 4
    funext j
    by_cases hj : j < n.toNatClampNeg <;> simp [List.getD_eq_getElem?_getD, List.getElem?_replicate, hj]) hP1 hD1
  exact h _ H1 ls _ locs _ _ (hext.tr hx1) hH1 hS1 (hlr.up hx1) ⟨_, cst', rfl, ⟨Or.inl (by simp), by simp⟩, h3.up hx1⟩ (by omega) (by omega)
end S5
