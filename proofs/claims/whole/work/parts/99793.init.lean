/-! constructors of the class: a line -/
/-- new cells from n on hold zeros; the rest is as it was -/
def x_nw (n m : Nat) (S S' : z_S) : Prop := (∀ a, (a < n ∨ n + m ≤ a) → S'.2.1 a = S.2.1 a ∧ S'.2.2.1 a = S.2.2.1 a ∧ S'.2.2.2 a = S.2.2.2 a) ∧ ∀ a, n ≤ a → a < n + m → S'.2.1 a = (fun _ => 0)
section Q33
variable {l : Launch} {d : Nat} {E : m_E} {J : z_J} {X : z_X} {th bc bs : Nat}
theorem e_initLine {x : Int} (hE : E[th]? = some (.inl 4, [none, none, none])) (hx : 0 ≤ x ∧ x ≤ 100000) (hl : E.length + 1 < 1000) (hb : 2 ≤ bc) (hb2 : 2 * x ≤ (bs : Int)) : z_Sem l (d + 1) M_Line_init [.inr (.inr (.ref th)), .inl x] (E, J, X) bc bs (fun o S' => o = .inl none ∧ S'.1 = E.set th (.inl 4, [some E.length, some (E.length + 1), none]) ++ [(.inr (.int, x.toNat), []), (.inr (.int, x.toNat), [])] ∧ x_nw E.length 2 (E, J, X) S') := by
  have ht : th < E.length := (List.getElem?_eq_some_iff.mp hE).1
  refine z_sem_of z_m57 m_ok_57 (Nat.le_of_ble_eq_true rfl) (fun Wp hs hv hS => ?_)
  refine w_57i_0 hs ?_
  rw [Int.max_eq_left hx.1]
  refine w_57i_10 hE hs hx ⟨⟨by omega, by omega, by omega⟩, ?_⟩
  rw [z_apU ht]
  have hl2 : (E.set th ((.inl 4, ([none, none, none] : List (Option Nat)).set 0 (some E.length)) : (Nat ⊕ (FieldType × Nat)) × List (Option Nat)) ++ [((.inr (.int, x.toNat), []) : (Nat ⊕ (FieldType × Nat)) × List (Option Nat))]).length = E.length + 1 := by simp
  refine w_57i_17 (z_apG ht) hs hx ⟨⟨by omega, by omega, by omega⟩, ?_⟩
  refine w_57i_24 hs ⟨rfl, ?_, ?_, ?_⟩
  · rw [hl2]
    show ((E.set th _ ++ [_]) ++ [_]).set th _ = _
    rw [List.append_assoc, List.set_append_left _ _ (by simp; exact ht), List.set_set]
    rfl
  · intro a ha
    rw [hl2]
    exact ⟨by show z_row (z_row J _ _) _ _ a = J a; rw [z_row_ne (by omega), z_row_ne (by omega)], by show z_row (z_row X.1 _ _) _ _ a = X.1 a; rw [z_row_ne (by omega), z_row_ne (by omega)], by show m_rowX (m_rowX X.2 _ _) _ _ a = X.2 a; unfold m_rowX; rw [if_neg (by omega), if_neg (by omega)]⟩
  · intro a h1 h2
    rw [hl2]
    show z_row (z_row J _ _) _ _ a = _
    by_cases e : a = E.length + 1
    · rw [e, z_row_eq]
    · rw [z_row_ne e, show a = E.length by omega, z_row_eq]
end Q33
