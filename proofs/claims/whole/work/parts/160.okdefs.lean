/-! what is checked of a method -/
def m_ics : List Nat := [129, 173, 301]
/-- a throw's instructions behind the 'new' -/
def m_okTh (M : m_Meth) (e : m_Ent) : Bool := match e.2.1 with
  | .new _ => (match e.2.2.2.2.2.2 with
    | 0 => true
    | 50 => (match m_SL[e.2.2.2.2.1]? with
      | some q => Nat.beq (k_on M) 11 && Nat.beq q.1 11 && decide (decode M.2.1 (e.1.1 + 3) = .ok (.dup, 1)) && decide (decode M.2.1 (e.1.1 + 4) = .ok (.ldc q.2.1, 2)) && decide (decode M.2.1 (e.1.1 + 6) = .ok (.invokespecial (m_ics.getD e.2.2.2.1 0), 3)) && decide (decode M.2.1 (e.1.1 + 9) = .ok (.athrow, 1))
      | none => false)
    | 51 => (match m_SL[e.2.2.2.2.1]? with
      | some q => Nat.beq (k_on M) 11 && Nat.beq q.1 11 && decide (decode M.2.1 (e.1.1 + 3) = .ok (.dup, 1)) && decide (decode M.2.1 (e.1.1 + 4) = .ok (.ldc_w q.2.1, 3)) && decide (decode M.2.1 (e.1.1 + 7) = .ok (.invokespecial (m_ics.getD e.2.2.2.1 0), 3)) && decide (decode M.2.1 (e.1.1 + 10) = .ok (.athrow, 1))
      | none => false)
    | _ => false)
  | _ => true
def m_okM (M : m_Meth) : Prop := m_okC M ∧ m_okT M = true ∧ M.2.2.2.2.1.all (m_okTh M) = true
