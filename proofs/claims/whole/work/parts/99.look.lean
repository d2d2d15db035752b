/-- a try: Tickets.hasActive -/
theorem look_1 (call : Nat → m_V → m_S → Nat → Nat → (m_O → m_S → Nat → Nat → Prop) → Prop) (Q : m_O → m_S → Prop) (Wp : Nat → m_C) (I : m_I) (X : m_X) (a b : Int32)
   (h : m_run call (some .boolean) Q (fun _ X _ S _ _ => Q (.inr X) S) Wp [(2, 4)] m_me_5.2.2.2.2.1 100 m_me_5.2.2.2.2.1 [some (.ref 0), some (.int a), some (.int b), none] [] ([(.inl 9, [some 1, some 2, some 3, some 4, some 5, some 6, none]), (.inr (.int, 150), [])], I, X) 0 0) : False := by
  unfold m_me_5 at h
  simp only [m_run, m_step] at h
  sorry
