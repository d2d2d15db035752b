/-! checks of the law's slices -/
theorem m_sl_54 : m_okSl m_lw_54 := ⟨by decide +kernel, by decide +kernel⟩
theorem m_sl_55 : m_okSl m_lw_55 := ⟨by decide +kernel, by decide +kernel⟩
theorem m_sl_56 : m_okSl m_lw_56 := ⟨by decide +kernel, by decide +kernel⟩
theorem m_sl_57 : m_okSl m_lw_57 := ⟨by decide +kernel, by decide +kernel⟩
theorem m_sl_58 : m_okSl m_lw_58 := ⟨by decide +kernel, by decide +kernel⟩
theorem m_sl_59 : m_okSl m_lw_59 := ⟨by decide +kernel, by decide +kernel⟩
theorem m_sl_60 : m_okSl m_lw_60 := ⟨by decide +kernel, by decide +kernel⟩
theorem m_sl_61 : m_okSl m_lw_61 := ⟨by decide +kernel, by decide +kernel⟩
theorem m_sl_62 : m_okSl m_lw_62 := ⟨by decide +kernel, by decide +kernel⟩
