/-! checks of the law's slices -/
theorem m_sl_45 : m_okSl m_lw_45 := ⟨by decide +kernel, by decide +kernel⟩
theorem m_sl_46 : m_okSl m_lw_46 := ⟨by decide +kernel, by decide +kernel⟩
theorem m_sl_47 : m_okSl m_lw_47 := ⟨by decide +kernel, by decide +kernel⟩
theorem m_sl_48 : m_okSl m_lw_48 := ⟨by decide +kernel, by decide +kernel⟩
theorem m_sl_49 : m_okSl m_lw_49 := ⟨by decide +kernel, by decide +kernel⟩
theorem m_sl_50 : m_okSl m_lw_50 := ⟨by decide +kernel, by decide +kernel⟩
theorem m_sl_51 : m_okSl m_lw_51 := ⟨by decide +kernel, by decide +kernel⟩
theorem m_sl_52 : m_okSl m_lw_52 := ⟨by decide +kernel, by decide +kernel⟩
theorem m_sl_53 : m_okSl m_lw_53 := ⟨by decide +kernel, by decide +kernel⟩
