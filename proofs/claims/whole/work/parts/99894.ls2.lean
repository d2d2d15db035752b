/-! checks of the law's slices -/
theorem m_sl_18 : m_okSl m_lw_18 := ⟨by decide +kernel, by decide +kernel⟩
theorem m_sl_19 : m_okSl m_lw_19 := ⟨by decide +kernel, by decide +kernel⟩
theorem m_sl_20 : m_okSl m_lw_20 := ⟨by decide +kernel, by decide +kernel⟩
theorem m_sl_21 : m_okSl m_lw_21 := ⟨by decide +kernel, by decide +kernel⟩
theorem m_sl_22 : m_okSl m_lw_22 := ⟨by decide +kernel, by decide +kernel⟩
theorem m_sl_23 : m_okSl m_lw_23 := ⟨by decide +kernel, by decide +kernel⟩
theorem m_sl_24 : m_okSl m_lw_24 := ⟨by decide +kernel, by decide +kernel⟩
theorem m_sl_25 : m_okSl m_lw_25 := ⟨by decide +kernel, by decide +kernel⟩
theorem m_sl_26 : m_okSl m_lw_26 := ⟨by decide +kernel, by decide +kernel⟩
