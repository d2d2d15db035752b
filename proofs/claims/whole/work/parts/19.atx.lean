/-! how a body ends -/
def m_chain : List String := ["java/lang/RuntimeException", "java/lang/Exception"]
def m_kindOk (w : Cond) : Bool := match w with
  | .castable _ _ => true
  | .declares _ => true
  | w => goodWord w
def m_atX (k : Nat) : List Cond := vx_atS "VirtualQueue" (m_ics.getD k 0) (m_excs.getD k "") m_chain
theorem m_atX_in0 : (m_atX 0).all (fun w => decide (w ∈ lw_tbl) && m_kindOk w && vx_ot w) = true := by decide +kernel
theorem m_atX_in1 : (m_atX 1).all (fun w => decide (w ∈ lw_tbl) && m_kindOk w && vx_ot w) = true := by decide +kernel
theorem m_atX_in2 : (m_atX 2).all (fun w => decide (w ∈ lw_tbl) && m_kindOk w && vx_ot w) = true := by decide +kernel
theorem m_atX_in {k : Nat} (h : k < 3) : ∀ w ∈ m_atX k, w ∈ lw_tbl ∧ m_kindOk w = true ∧ vx_ot w = true := by
  intro w hw
  have key : (m_atX k).all (fun w => decide (w ∈ lw_tbl) && m_kindOk w && vx_ot w) = true := by
    rcases (show k = 0 ∨ k = 1 ∨ k = 2 by omega) with rfl | rfl | rfl
    · exact m_atX_in0
    · exact m_atX_in1
    · exact m_atX_in2
  have h1 := List.all_eq_true.mp key w hw
  simp only [Bool.and_eq_true, decide_eq_true_eq] at h1
  exact ⟨h1.1.1, h1.1.2, h1.2⟩
theorem m_iniX : (List.range 3).all (fun k => (List.range 30).any (fun i => m_at (116 + i) (.initialized (m_excs.getD k "")))) = true := by decide +kernel
theorem m_iniX_in {k : Nat} (h : k < 3) : Cond.initialized (m_excs.getD k "") ∈ m_tbl := by
  have h1 := List.all_eq_true.mp m_iniX k (List.mem_range.mpr h)
  obtain ⟨i, -, hi⟩ := List.any_eq_true.mp h1
  exact m_at_in hi
theorem m_fitX : (List.range 3).all (fun k => Bundle.fit (m_excs.getD k "")) = true ∧ m_chain.all Bundle.fit = true := by decide +kernel
