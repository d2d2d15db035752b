/-! the constructor of waitlists -/
section Q35
variable {l : Launch} {d : Nat} {E : m_E} {J : z_J} {X : z_X} {th bc bs : Nat}
theorem e_initWaitlists (hE : E[th]? = some (.inl 10, [none, none])) (hl : E.length + 10 < 1000) (hb : 10 ≤ bc) (hb2 : 416 ≤ bs) : z_Sem l (d + 1) M_Waitlists_init [.inr (.inr (.ref th))] (E, J, X) bc bs (fun o S' => o = .inl none ∧ S'.1 = E.set th (.inl 10, [some E.length, some (E.length + 9)]) ++ ((.inr (.array .int, 8), (List.range 8).map (fun i => some (E.length + 1 + i))) :: List.replicate 8 (.inr (.int, 50), []) ++ [(.inr (.int, 8), [])] : m_E) ∧ x_nw E.length 10 (E, J, X) S') := by
  have ht : th < E.length := (List.getElem?_eq_some_iff.mp hE).1
  refine z_sem_of z_m106 m_ok_106 (Nat.le_of_ble_eq_true rfl) (fun Wp hs hv hS => ?_)
  refine w_106i_0 hs ?_
  refine w_106i_4 hE hs ⟨⟨by omega, by omega, by omega⟩, ?_⟩
  rw [List.set_append_left _ _ ht]
  have ln : (E.set th ((.inl 10, ([none, none] : List (Option Nat)).set 0 (some E.length)) : (Nat ⊕ (FieldType × Nat)) × List (Option Nat)) ++ (.inr (.array .int, 8), (List.range 8).map (fun i => some (E.length + 1 + i))) :: List.replicate 8 (.inr (.int, 50), []) : m_E).length = E.length + 9 := by simp
  refine w_106i_16 (z_apG ht) hs ⟨⟨by omega, by omega, by omega⟩, ?_⟩
  refine w_106i_24 hs ⟨rfl, ?_, ?_, ?_⟩
  · show (_ : m_E) = _
    rw [z_apV ht, ln]
    rfl
  · intro a ha
    rw [ln]
    refine ⟨?_, ?_, ?_⟩
    · show z_row (z_zeros J E.length 9) (E.length + 9) _ a = J a
      rw [z_row_ne (by omega)]; unfold z_zeros; rw [if_neg (by omega)]
    · show z_row (z_zeros X.1 E.length 9) (E.length + 9) _ a = X.1 a
      rw [z_row_ne (by omega)]; unfold z_zeros; rw [if_neg (by omega)]
    · show m_rowX (fun b => if E.length ≤ b ∧ b < E.length + 9 then (fun _ => 0) else X.2 b) (E.length + 9) _ a = X.2 a
      unfold m_rowX; rw [if_neg (by omega)]; show (if E.length ≤ a ∧ a < E.length + 9 then (fun _ => 0) else X.2 a) = X.2 a; rw [if_neg (by omega)]
  · intro a h1 h2
    rw [ln]
    show z_row (z_zeros J E.length 9) (E.length + 9) _ a = _
    by_cases e : a = E.length + 9
    · rw [e, z_row_eq]
    · rw [z_row_ne e]; unfold z_zeros; rw [if_pos (by omega)]
end Q35
