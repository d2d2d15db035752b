/-! the machine's cells as a world of the kit -/
def m_N (ci : Nat) : Nat := (m_fields.getD ci []).length
def m_T (ci : Nat) : u_T := fun k => (m_fields.getD ci []).getD k ("", "", "", false)
def m_ty (ci k : Nat) : FieldType := (m_ftys.getD ci []).getD k .int
def m_cl : List vw_C := (List.range 13).map (fun ci => (m_cnames.getD ci "", m_T ci, m_N ci))
def m_tl : List FieldType := [.int, .boolean, .byte, .long, .double, .array .int, .object "VirtualQueue$Line", .object "VirtualQueue$Day"]
def m_tys (dA : FieldType → ClassId) : List (ClassId × FieldType) := m_tl.map (fun t => (dA t, t))
theorem m_cl_at {ci : Nat} (h : ci < 13) : m_cl[ci]? = some (m_cnames.getD ci "", m_T ci, m_N ci) := by
  simp [m_cl, h]
theorem m_tys_at (dA : FieldType → ClassId) {t : FieldType} (h : t ∈ m_tl) : ∃ k : Nat, (m_tys dA)[k]? = some (dA t, t) := by
  obtain ⟨k, hk⟩ := List.getElem?_of_mem h
  exact ⟨k, by simp [m_tys, hk]⟩
def m_fv (S : m_S) (ad : Nat → Nat) (o ci : Nat) (rs : List (Option Nat)) (k : Nat) : Value := match m_ty ci k with
  | .int => .int (S.2.1 o k)
  | .long => .long (S.2.2.1 o k)
  | _ => va_rf ((rs.getD k none).map ad)
def m_av (S : m_S) (ad : Nat → Nat) (a : Nat) (ty : FieldType) (rs : List (Option Nat)) : (Nat → Int32) ⊕ (Nat → Int64) ⊕ (Nat → UInt32) ⊕ (Nat → UInt64) ⊕ (Nat → Option Nat) := match ty with
  | .long => .inr (.inl (S.2.2.1 a))
  | .double => .inr (.inr (.inr (.inl (S.2.2.2 a))))
  | .object _ => .inr (.inr (.inr (.inr (fun j => (rs.getD j none).map ad))))
  | .array _ => .inr (.inr (.inr (.inr (fun j => (rs.getD j none).map ad))))
  | _ => .inl (S.2.1 a)
def m_ce (S : m_S) (ad : Nat → Nat) (dA : FieldType → ClassId) (k : Nat) (c : m_Sh × List (Option Nat)) : va_E := match c with
  | (.inl ci, rs) => .inr (ci, (List.range (m_N ci)).map (m_fv S ad k ci rs))
  | (.inr q, rs) => .inl (dA q.1, q.2, m_av S ad k q.1 rs)
def m_ws (S : m_S) (ad : Nat → Nat) (dA : FieldType → ClassId) : va_W := S.1.mapIdx (fun k c => (ad k, m_ce S ad dA k c))
theorem m_ws_at {S : m_S} {ad : Nat → Nat} {dA : FieldType → ClassId} {k : Nat} {c : m_Sh × List (Option Nat)} (h : S.1[k]? = some c) : (m_ws S ad dA)[k]? = some (ad k, m_ce S ad dA k c) := by
  simp [m_ws, List.getElem?_mapIdx, h]
def m_wf (E : m_E) : Prop := ∀ (k : Nat) (c : m_Sh × List (Option Nat)), E[k]? = some c → (∀ (j r : Nat), c.2[j]? = some (some r) → r < E.length) ∧ (match c.1 with
  | .inl ci => ci < 13 ∧ c.2.length = m_N ci
  | .inr q => q.1 ∈ m_tl ∧ (m_isRef q.1 = true → c.2.length = q.2))
/-- which references mean something: cells that are there, and constants -/
def m_in (n k : Nat) : Prop := k < n ∨ 1000000 ≤ k
def m_vr (ad : Nat → Nat) (n : Nat) (v c : Value) : Prop := match v with
  | .ref k => m_in n k ∧ c = .ref (ad k)
  | _ => c = v
def m_vrs (ad : Nat → Nat) (n : Nat) : m_V → List Value → Prop
  | [], cs => cs = []
  | v :: vs, cs => ∃ c cs', cs = c :: cs' ∧ m_vr ad n v c ∧ m_vrs ad n vs cs'
def m_lr (ad : Nat → Nat) (n nL : Nat) (l : m_L) (ls : Array Slot) : Prop := l.length = nL ∧ ls.size = nL ∧ lv_wf ls ∧ ∀ (i : Nat) (v : Value), l[i]? = some (some v) → ∃ c : Value, m_vr ad n v c ∧ ls[i]? = some (Slot.val c)
def m_ext (n n' : Nat) (ad ad' : Nat → Nat) : Prop := n ≤ n' ∧ ∀ k, m_in n k → ad' k = ad k
def m_H (D : va_G) (dA : FieldType → ClassId) (base : Nat) (xs : Nat → Int32) (L : Nat) (ad : Nat → Nat) (S : m_S) (H : Heap) : Prop :=
  va_P D m_cl (m_ws S ad dA) H ∧ va_D (fun q => base ≤ q) (m_ws S ad dA) ∧ m_wf S.1 ∧ S.1.length ≤ 2000 ∧ S.2.1 2000000 = xs ∧ (S.2.1 2000001 0).toNatClampNeg = L
theorem m_ext.rf (n : Nat) (ad : Nat → Nat) : m_ext n n ad ad := ⟨Nat.le_refl n, fun _ _ => rfl⟩
theorem m_ext.tr {n n' n2 : Nat} {ad ad' ad2 : Nat → Nat} (h : m_ext n n' ad ad') (h2 : m_ext n' n2 ad' ad2) : m_ext n n2 ad ad2 :=
  ⟨Nat.le_trans h.1 h2.1, fun k hk => (h2.2 k (hk.elim (fun q => Or.inl (Nat.lt_of_lt_of_le q h.1)) Or.inr)).trans (h.2 k hk)⟩
theorem m_vr.up {n n' : Nat} {ad ad' : Nat → Nat} (h : m_ext n n' ad ad') {v c : Value} (hv : m_vr ad n v c) : m_vr ad' n' v c := by
  cases v with
  | ref k => exact ⟨hv.1.elim (fun q => Or.inl (Nat.lt_of_lt_of_le q h.1)) Or.inr, by rw [h.2 k hv.1]; exact hv.2⟩
  | _ => exact hv
theorem m_vrs.up {n n' : Nat} {ad ad' : Nat → Nat} (h : m_ext n n' ad ad') : ∀ {vs : m_V} {cs : List Value}, m_vrs ad n vs cs → m_vrs ad' n' vs cs
  | [], _, hv => hv
  | _ :: _, _, ⟨c, cs', e, h1, h2⟩ => ⟨c, cs', e, h1.up h, h2.up h⟩
theorem m_lr.up {n n' nL : Nat} {ad ad' : Nat → Nat} (h : m_ext n n' ad ad') {l : m_L} {ls : Array Slot} (hl : m_lr ad n nL l ls) : m_lr ad' n' nL l ls :=
  ⟨hl.1, hl.2.1, hl.2.2.1, fun i v hi => by
    obtain ⟨c, h1, h2⟩ := hl.2.2.2 i v hi
    exact ⟨c, h1.up h, h2⟩⟩
theorem m_vr.cat {n : Nat} {ad : Nat → Nat} {v c : Value} (h : m_vr ad n v c) : c.category = v.category := by
  cases v with
  | ref k => rw [h.2]; rfl
  | _ => rw [show c = _ from h]
theorem m_vrs.app {n : Nat} {ad : Nat → Nat} : ∀ {vs ws : m_V} {cs ds : List Value}, m_vrs ad n vs cs → m_vrs ad n ws ds → m_vrs ad n (vs ++ ws) (cs ++ ds)
  | [], _, _, _, h, h2 => by rw [show _ = _ from h]; exact h2
  | _ :: _, _, _, _, ⟨c, cs', e, h1, h3⟩, h2 => by subst e; exact ⟨c, _, rfl, h1, h3.app h2⟩
theorem m_vrs.split {n : Nat} {ad : Nat → Nat} : ∀ (k : Nat) {vs : m_V} {cs : List Value}, m_vrs ad n vs cs → m_vrs ad n (vs.take k) (cs.take k) ∧ m_vrs ad n (vs.drop k) (cs.drop k)
  | 0, vs, cs, h => ⟨by simp [m_vrs], by simpa using h⟩
  | k + 1, [], cs, h => by rw [show cs = [] from h]; exact ⟨by simp [m_vrs], by simp [m_vrs]⟩
  | k + 1, v :: vs, cs, h => by
    obtain ⟨c, cs', rfl, h1, h2⟩ := h
    obtain ⟨a, b⟩ := m_vrs.split k h2
    exact ⟨⟨c, _, rfl, h1, a⟩, b⟩
theorem m_vrs.rev {n : Nat} {ad : Nat → Nat} : ∀ {vs : m_V} {cs : List Value}, m_vrs ad n vs cs → m_vrs ad n vs.reverse cs.reverse
  | [], _, h => by rw [show _ = _ from h]; rfl
  | v :: vs, _, ⟨c, cs', e, h1, h2⟩ => by
    subst e
    rw [List.reverse_cons, List.reverse_cons]
    exact h2.rev.app ⟨c, [], rfl, h1, rfl⟩
theorem m_vrs.len {n : Nat} {ad : Nat → Nat} : ∀ {vs : m_V} {cs : List Value}, m_vrs ad n vs cs → cs.length = vs.length
  | [], _, h => by rw [show _ = _ from h]
  | _ :: _, _, ⟨_, _, e, _, h2⟩ => by subst e; simp [h2.len]
theorem m_vrs.cats {n : Nat} {ad : Nat → Nat} : ∀ {vs : m_V} {cs : List Value}, m_vrs ad n vs cs → (cs.map fun v => v.category).sum = (vs.map fun v => v.category).sum
  | [], _, h => by rw [show _ = _ from h]
  | _ :: _, _, ⟨_, _, e, h1, h2⟩ => by subst e; simp [h2.cats, h1.cat]
