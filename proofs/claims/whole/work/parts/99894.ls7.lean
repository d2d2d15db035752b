/-! checks of the law's slices -/
theorem m_sl_63 : m_okSl m_lw_63 := ⟨by decide +kernel, by decide +kernel⟩
theorem m_sl_64 : m_okSl m_lw_64 := ⟨by decide +kernel, by decide +kernel⟩
theorem m_sl_65 : m_okSl m_lw_65 := ⟨by decide +kernel, by decide +kernel⟩
