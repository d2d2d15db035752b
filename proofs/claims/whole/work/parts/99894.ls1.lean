/-! checks of the law's slices -/
theorem m_sl_9 : m_okSl m_lw_9 := ⟨by decide +kernel, by decide +kernel⟩
theorem m_sl_10 : m_okSl m_lw_10 := ⟨by decide +kernel, by decide +kernel⟩
theorem m_sl_11 : m_okSl m_lw_11 := ⟨by decide +kernel, by decide +kernel⟩
theorem m_sl_12 : m_okSl m_lw_12 := ⟨by decide +kernel, by decide +kernel⟩
theorem m_sl_13 : m_okSl m_lw_13 := ⟨by decide +kernel, by decide +kernel⟩
theorem m_sl_14 : m_okSl m_lw_14 := ⟨by decide +kernel, by decide +kernel⟩
theorem m_sl_15 : m_okSl m_lw_15 := ⟨by decide +kernel, by decide +kernel⟩
theorem m_sl_16 : m_okSl m_lw_16 := ⟨by decide +kernel, by decide +kernel⟩
theorem m_sl_17 : m_okSl m_lw_17 := ⟨by decide +kernel, by decide +kernel⟩
