/-! checks of the law's slices -/
theorem m_sl_27 : m_okSl m_lw_27 := ⟨by decide +kernel, by decide +kernel⟩
theorem m_sl_28 : m_okSl m_lw_28 := ⟨by decide +kernel, by decide +kernel⟩
theorem m_sl_29 : m_okSl m_lw_29 := ⟨by decide +kernel, by decide +kernel⟩
theorem m_sl_30 : m_okSl m_lw_30 := ⟨by decide +kernel, by decide +kernel⟩
theorem m_sl_31 : m_okSl m_lw_31 := ⟨by decide +kernel, by decide +kernel⟩
theorem m_sl_32 : m_okSl m_lw_32 := ⟨by decide +kernel, by decide +kernel⟩
theorem m_sl_33 : m_okSl m_lw_33 := ⟨by decide +kernel, by decide +kernel⟩
theorem m_sl_34 : m_okSl m_lw_34 := ⟨by decide +kernel, by decide +kernel⟩
theorem m_sl_35 : m_okSl m_lw_35 := ⟨by decide +kernel, by decide +kernel⟩
