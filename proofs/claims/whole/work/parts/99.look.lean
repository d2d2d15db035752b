theorem look_ok1 : m_okT m_me_289 = true := by decide +kernel
