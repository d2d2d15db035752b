/-! every method's code is in the tables -/
def m_codeInfo (w : Cond) : Option (MethodName × ByteArray × Nat × Option FieldType) := match w with
  | .code y b n r => some (y, b, n, r)
  | _ => none
set_option maxRecDepth 100000 in
theorem m_codes_ok_1 : tables_1_1.filterMap m_codeInfo = m_codes_1 := rfl
set_option maxRecDepth 100000 in
theorem m_codes_ok_2 : tables_1_2.filterMap m_codeInfo = m_codes_2 := rfl
set_option maxRecDepth 100000 in
theorem m_codes_ok_3 : tables_1_3.filterMap m_codeInfo = m_codes_3 := rfl
set_option maxRecDepth 100000 in
theorem m_codes_ok_4 : tables_1_4.filterMap m_codeInfo = m_codes_4 := rfl
set_option maxRecDepth 100000 in
theorem m_codes_ok_5 : tables_1_5.filterMap m_codeInfo = m_codes_5 := rfl
set_option maxRecDepth 100000 in
theorem m_codes_ok_6 : tables_1_6.filterMap m_codeInfo = m_codes_6 := rfl
set_option maxRecDepth 100000 in
theorem m_codes_ok_7 : tables_1_7.filterMap m_codeInfo = m_codes_7 := rfl
set_option maxRecDepth 100000 in
theorem m_codes_ok_8 : tables_1_8.filterMap m_codeInfo = m_codes_8 := rfl
set_option maxRecDepth 100000 in
theorem m_codes_ok_9 : tables_1_9.filterMap m_codeInfo = m_codes_9 := rfl
set_option maxRecDepth 100000 in
theorem m_codes_ok_10 : tables_1_10.filterMap m_codeInfo = m_codes_10 := rfl
theorem m_codes_ok : tables_1.filterMap m_codeInfo = m_codes := by
  unfold tables_1 m_codes
  simp only [List.filterMap_append, m_codes_ok_1, m_codes_ok_2, m_codes_ok_3, m_codes_ok_4, m_codes_ok_5, m_codes_ok_6, m_codes_ok_7, m_codes_ok_8, m_codes_ok_9, m_codes_ok_10]
theorem m_code_in {y : MethodName} {b : ByteArray} {n i : Nat} {r : Option FieldType} (h : m_codes[i]? = some (y, b, n, r)) : Cond.code y b n r ∈ m_tbl := by
  have h1 := List.mem_of_getElem? h
  rw [← m_codes_ok] at h1
  obtain ⟨w, hw, he⟩ := List.mem_filterMap.mp h1
  unfold m_codeInfo at he
  split at he
  · cases he
    exact List.mem_filter.mpr ⟨List.mem_append_right _ hw, rfl⟩
  · cases he
