/-! checks of the law's slices -/
theorem m_sl_0 : m_okSl m_lw_0 := ⟨by decide +kernel, by decide +kernel⟩
theorem m_sl_1 : m_okSl m_lw_1 := ⟨by decide +kernel, by decide +kernel⟩
theorem m_sl_2 : m_okSl m_lw_2 := ⟨by decide +kernel, by decide +kernel⟩
theorem m_sl_3 : m_okSl m_lw_3 := ⟨by decide +kernel, by decide +kernel⟩
theorem m_sl_4 : m_okSl m_lw_4 := ⟨by decide +kernel, by decide +kernel⟩
theorem m_sl_5 : m_okSl m_lw_5 := ⟨by decide +kernel, by decide +kernel⟩
theorem m_sl_6 : m_okSl m_lw_6 := ⟨by decide +kernel, by decide +kernel⟩
theorem m_sl_7 : m_okSl m_lw_7 := ⟨by decide +kernel, by decide +kernel⟩
theorem m_sl_8 : m_okSl m_lw_8 := ⟨by decide +kernel, by decide +kernel⟩
