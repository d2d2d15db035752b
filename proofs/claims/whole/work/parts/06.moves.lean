/-! how the world moves with the machine's cells -/
theorem m_ce_eq {S S' : m_S} {ad ad' : Nat → Nat} {dA : FieldType → ClassId} {k n : Nat} {c : m_Sh × List (Option Nat)} (hI : S'.2.1 k = S.2.1 k) (hL : S'.2.2.1 k = S.2.2.1 k) (hD : S'.2.2.2 k = S.2.2.2 k) (had : ∀ j, m_in n j → ad' j = ad j) (hw : ∀ j r : Nat, c.2[j]? = some (some r) → r < n) : m_ce S' ad' dA k c = m_ce S ad dA k c := by
  have hr : ∀ j : Nat, (c.2.getD j none).map ad' = (c.2.getD j none).map ad := by
    intro j
    rw [List.getD_eq_getElem?_getD]
    cases h : c.2[j]? with
    | none => rfl
    | some o =>
      cases o with
      | none => rfl
      | some r => simp [had r (Or.inl (hw j r h))]
  obtain ⟨sh, rs⟩ := c
  cases sh with
  | inl ci =>
    simp only [m_ce]
    congr 2
    apply List.map_congr_left
    intro j _
    unfold m_fv
    split
    · rw [hI]
    · rw [hL]
    · rw [show (rs.getD j none).map ad' = (rs.getD j none).map ad from hr j]
  | inr q =>
    simp only [m_ce]
    congr 3
    unfold m_av
    split
    · rw [hL]
    · rw [hD]
    · congr 4; funext j; exact hr j
    · congr 4; funext j; exact hr j
    · rw [hI]
theorem m_ws_set {S S' : m_S} {ad : Nat → Nat} {dA : FieldType → ClassId} {a : Nat} {c c' : m_Sh × List (Option Nat)} (h : S.1[a]? = some c) (hE : S'.1 = S.1.set a c') (hI : ∀ k, k ≠ a → S'.2.1 k = S.2.1 k) (hL : ∀ k, k ≠ a → S'.2.2.1 k = S.2.2.1 k) (hD : ∀ k, k ≠ a → S'.2.2.2 k = S.2.2.2 k) (hw : m_wf S.1) :
    m_ws S' ad dA = (m_ws S ad dA).set a (ad a, m_ce S' ad dA a c') := by
  have ha : a < S.1.length := (List.getElem?_eq_some_iff.mp h).1
  apply List.ext_getElem?
  intro k
  by_cases e : k = a
  · subst e
    simp [m_ws, List.getElem?_mapIdx, hE, List.getElem?_set, ha]
  · have e' : a ≠ k := fun q => e q.symm
    simp only [m_ws, List.getElem?_mapIdx, hE, List.getElem?_set_ne e']
    cases hk : S.1[k]? with
    | none => rfl
    | some q =>
      simp only [Option.map_some]
      rw [m_ce_eq (n := S.1.length) (hI k e) (hL k e) (hD k e) (fun _ _ => rfl) (hw k q hk).1]
theorem m_ws_same {S S' : m_S} {ad ad' : Nat → Nat} {dA : FieldType → ClassId} (hE : S'.1 = S.1) (hI : ∀ k, k < S.1.length → S'.2.1 k = S.2.1 k) (hL : ∀ k, k < S.1.length → S'.2.2.1 k = S.2.2.1 k) (hD : ∀ k, k < S.1.length → S'.2.2.2 k = S.2.2.2 k) (had : ∀ k, m_in S.1.length k → ad' k = ad k) (hw : m_wf S.1) : m_ws S' ad' dA = m_ws S ad dA := by
  apply List.ext_getElem?
  intro k
  simp only [m_ws, List.getElem?_mapIdx, hE]
  cases hk : S.1[k]? with
  | none => rfl
  | some q =>
    have hlt : k < S.1.length := (List.getElem?_eq_some_iff.mp hk).1
    simp only [Option.map_some]
    rw [m_ce_eq (n := S.1.length) (hI k hlt) (hL k hlt) (hD k hlt) had (hw k q hk).1, had k (Or.inl hlt)]
theorem m_mapIdx_app {α β : Type} (f : Nat → α → β) : ∀ (l r : List α), (l ++ r).mapIdx f = l.mapIdx f ++ r.mapIdx (fun k x => f (l.length + k) x) := by
  intro l r
  rw [List.mapIdx_append]
  congr 1
  apply List.ext_getElem?
  intro k
  simp [List.getElem?_mapIdx, Nat.add_comm]
theorem m_ws_app {S S' : m_S} {ad ad' : Nat → Nat} {dA : FieldType → ClassId} {r : m_E} (hE : S'.1 = S.1 ++ r) (hI : ∀ k, k < S.1.length → S'.2.1 k = S.2.1 k) (hL : ∀ k, k < S.1.length → S'.2.2.1 k = S.2.2.1 k) (hD : ∀ k, k < S.1.length → S'.2.2.2 k = S.2.2.2 k) (had : ∀ k, m_in S.1.length k → ad' k = ad k) (hw : m_wf S.1) :
    m_ws S' ad' dA = m_ws S ad dA ++ r.mapIdx (fun k c => (ad' (S.1.length + k), m_ce S' ad' dA (S.1.length + k) c)) := by
  have h1 : m_ws (S.1, S'.2) ad' dA = m_ws S ad dA := m_ws_same rfl hI hL hD had hw
  rw [← h1]
  show S'.1.mapIdx _ = _
  rw [hE, m_mapIdx_app]
  rfl
/-- one cell of numbers is written -/
theorem m_H_set {D : va_G} {dA : FieldType → ClassId} {base : Nat} {xs : Nat → Int32} {L : Nat} {ad : Nat → Nat} {S S' : m_S} {H H1 : Heap} {a : Nat} {c c' : m_Sh × List (Option Nat)} (hH : m_H D dA base xs L ad S H) (h : S.1[a]? = some c) (hE : S'.1 = S.1.set a c') (hI : ∀ k, k ≠ a → S'.2.1 k = S.2.1 k) (hL : ∀ k, k ≠ a → S'.2.2.1 k = S.2.2.1 k) (hD : ∀ k, k ≠ a → S'.2.2.2 k = S.2.2.2 k)
    (hc : (∀ (j r : Nat), c'.2[j]? = some (some r) → r < S.1.length) ∧ (match c'.1 with
      | .inl ci => ci < 13 ∧ c'.2.length = m_N ci
      | .inr q => q.1 ∈ m_tl ∧ (m_isRef q.1 = true → c'.2.length = q.2)))
    (hP1 : va_P D m_cl ((m_ws S ad dA).set a (ad a, m_ce S' ad dA a c')) H1) (hD1 : va_D (fun q => base ≤ q) ((m_ws S ad dA).set a (ad a, m_ce S' ad dA a c'))) : m_H D dA base xs L ad S' H1 := by
  obtain ⟨hP, hD0, hw, hlen, hx, hlx⟩ := hH
  have ha : a < S.1.length := (List.getElem?_eq_some_iff.mp h).1
  have e := m_ws_set (ad := ad) (dA := dA) h hE hI hL hD hw
  refine ⟨by rw [e]; exact hP1, by rw [e]; exact hD1, ?_, by rw [hE]; simpa using hlen, by rw [hI 2000000 (by omega)]; exact hx, by rw [hI 2000001 (by omega)]; exact hlx⟩
  intro k q hk
  rw [hE, List.getElem?_set] at hk
  have hl' : S'.1.length = S.1.length := by rw [hE]; simp
  rw [hl']
  by_cases e2 : a = k
  · rw [if_pos e2] at hk
    by_cases e3 : a < S.1.length
    · rw [if_pos e3] at hk
      cases hk
      exact hc
    · rw [if_neg e3] at hk
      cases hk
  · rw [if_neg e2] at hk
    exact hw k q hk
/-- new cells come behind -/
theorem m_H_app {D : va_G} {dA : FieldType → ClassId} {base : Nat} {xs : Nat → Int32} {L : Nat} {ad ad' : Nat → Nat} {S S' : m_S} {H H1 : Heap} {r : m_E} (hH : m_H D dA base xs L ad S H) (hE : S'.1 = S.1 ++ r) (hI : ∀ k, k < S.1.length ∨ 2000 < k → S'.2.1 k = S.2.1 k) (hL : ∀ k, k < S.1.length → S'.2.2.1 k = S.2.2.1 k) (hD : ∀ k, k < S.1.length → S'.2.2.2 k = S.2.2.2 k)
    (had : ∀ k, m_in S.1.length k → ad' k = ad k) (hlen : S.1.length + r.length ≤ 2000)
    (hc : ∀ (k : Nat) (c : m_Sh × List (Option Nat)), r[k]? = some c → (∀ (j q : Nat), c.2[j]? = some (some q) → q < S.1.length + r.length) ∧ (match c.1 with
      | .inl ci => ci < 13 ∧ c.2.length = m_N ci
      | .inr q => q.1 ∈ m_tl ∧ (m_isRef q.1 = true → c.2.length = q.2)))
    (hP1 : va_P D m_cl (m_ws S ad dA ++ r.mapIdx (fun k c => (ad' (S.1.length + k), m_ce S' ad' dA (S.1.length + k) c))) H1) (hD1 : va_D (fun q => base ≤ q) (m_ws S ad dA ++ r.mapIdx (fun k c => (ad' (S.1.length + k), m_ce S' ad' dA (S.1.length + k) c)))) : m_H D dA base xs L ad' S' H1 ∧ m_ext S.1.length S'.1.length ad ad' := by
  obtain ⟨hP, hD0, hw, hl0, hx, hlx⟩ := hH
  have e := m_ws_app (ad := ad) (ad' := ad') (dA := dA) hE (fun k hk => hI k (Or.inl hk)) hL hD had hw
  have hl' : S'.1.length = S.1.length + r.length := by rw [hE]; simp
  refine ⟨⟨by rw [e]; exact hP1, by rw [e]; exact hD1, ?_, by rw [hl']; exact hlen, by rw [hI 2000000 (Or.inr (by omega))]; exact hx, by rw [hI 2000001 (Or.inr (by omega))]; exact hlx⟩, by rw [hl']; omega, had⟩
  intro k q hk
  rw [hE, List.getElem?_append] at hk
  rw [hl']
  by_cases e2 : k < S.1.length
  · rw [if_pos e2] at hk
    obtain ⟨a, b⟩ := hw k q hk
    exact ⟨fun j r hj => Nat.lt_of_lt_of_le (a j r hj) (by omega), b⟩
  · rw [if_neg e2] at hk
    exact hc _ q hk
