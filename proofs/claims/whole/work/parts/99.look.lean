theorem look_ok0 : m_okC m_me_0 = true := by decide +kernel
theorem look_ok1 : m_okT m_me_0 = true := by decide +kernel
theorem look_ok2 : m_okT m_me_98 = true := by decide +kernel
