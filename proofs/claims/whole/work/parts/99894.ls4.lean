/-! checks of the law's slices -/
theorem m_sl_36 : m_okSl m_lw_36 := ⟨by decide +kernel, by decide +kernel⟩
theorem m_sl_37 : m_okSl m_lw_37 := ⟨by decide +kernel, by decide +kernel⟩
theorem m_sl_38 : m_okSl m_lw_38 := ⟨by decide +kernel, by decide +kernel⟩
theorem m_sl_39 : m_okSl m_lw_39 := ⟨by decide +kernel, by decide +kernel⟩
theorem m_sl_40 : m_okSl m_lw_40 := ⟨by decide +kernel, by decide +kernel⟩
theorem m_sl_41 : m_okSl m_lw_41 := ⟨by decide +kernel, by decide +kernel⟩
theorem m_sl_42 : m_okSl m_lw_42 := ⟨by decide +kernel, by decide +kernel⟩
theorem m_sl_43 : m_okSl m_lw_43 := ⟨by decide +kernel, by decide +kernel⟩
theorem m_sl_44 : m_okSl m_lw_44 := ⟨by decide +kernel, by decide +kernel⟩
