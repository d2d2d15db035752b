/-! the same over whole numbers -/
def z_SemW (l : Launch) (d : Nat) (M : m_Meth) (ws : z_V) (S : z_S) (mc ms : Nat) (Q : z_O → z_S → Prop) : Prop := z_okV ws → z_okS S → m_SemW l d M (z_mV ws) (z_st S) mc ms (fun o S' => ∃ (zo : z_O) (zS : z_S), o = z_out zo ∧ S' = z_st zS ∧ z_okO zo ∧ z_okS zS ∧ Q zo zS)
def z_ClW (l : Launch) (d : Nat) (M : m_Meth) (Q : z_O → z_S → Prop) (Wp : Nat → z_C) : Prop := ∀ (n : Nat) (stops : List (Nat × Nat)) (ws : List Nat) (pc : Nat) (lc : z_L) (st : z_V) (S : z_S) (bc bs : Nat), z_run (z_Call l d) M.2.2.2.1 Q (fun pc X _ S _ _ => ∃ v : Int32, m_htag (m_hh M) pc X = some v ∧ Q (.inl (some (.inl v.toInt))) S) Wp stops ws M.2.2.2.2.1 n (m_from M.2.2.2.2.1 pc) lc st S bc bs → Wp pc lc st S bc bs
theorem z_semW_of {l : Launch} {d mc ms : Nat} {vs : z_V} {S : z_S} {Q : z_O → z_S → Prop} {M : m_Meth} (hok : m_okW M) (hlen : (z_args0 vs).length ≤ M.2.2.1)
    (h : ∀ Wp : Nat → z_C, z_ClW l d M Q Wp → z_okV vs → z_okS S → Wp 0 (z_args M.2.2.1 vs) [] S mc ms) : z_SemW l (d + 1) M vs S mc ms Q := by
  intro hv hS
  refine m_semW_of m_okall hok (by rw [z_args0_m, z_mL_len]; exact hlen) (fun Wp hs => ?_)
  have h1 := h (fun pc zl zst zS bc bs => z_okL zl → z_okV zst → z_okS zS → Wp pc (z_mL zl) (z_mV zst) (z_st zS) bc bs) (fun n stops ws pc lc st S' bc bs hr hl' hv' hS' => hs n stops pc _ _ _ _ _ (z_run_sound (zQ := Q) (ws := ws) (fun o S9 h9 ho hS9 => ⟨o, S9, rfl, rfl, ho, hS9, h9⟩) (fun pc X l9 S9 bc9 bs9 h9 _ hS9 => by
    obtain ⟨v, e1, e2⟩ := h9
    refine ⟨v, e1, .inl (some (.inl v.toInt)), S9, ?_, rfl, ?_, hS9, e2⟩
    · show (Sum.inl (some (Value.int v)) : m_O) = Sum.inl (some (Value.int (Int32.ofInt v.toInt)))
      rw [Int32.ofInt_toInt]
    · exact ⟨Int32.le_toInt v, Int32.toInt_le v⟩) (fun pc l9 st9 S9 bc9 bs9 h9 => h9) n _ lc st S' bc bs hr hl' hv' hS')) hv hS (z_args_ok hv) True.intro hS
  rw [← z_args_m] at h1
  exact h1
