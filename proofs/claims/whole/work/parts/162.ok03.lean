/-! checks of methods -/
set_option maxRecDepth 100000 in
theorem m_cd_105 : m_codes[182]? = some (m_me_105.1, m_me_105.2.1, m_me_105.2.2.1, m_me_105.2.2.2.1) := rfl
theorem m_kb_105 : m_okB m_me_105 = true := by decide +kernel
theorem m_kt_105 : m_okT m_me_105 = true := by decide +kernel
theorem m_kh_105 : m_me_105.2.2.2.2.1.all (m_okTh m_me_105) = true := by decide +kernel
theorem m_ok_105 : m_okM m_me_105 := ⟨⟨m_code_in m_cd_105, m_kb_105⟩, m_kt_105, m_kh_105⟩
set_option maxRecDepth 100000 in
theorem m_cd_106 : m_codes[9]? = some (m_me_106.1, m_me_106.2.1, m_me_106.2.2.1, m_me_106.2.2.2.1) := rfl
theorem m_kb_106 : m_okB m_me_106 = true := by decide +kernel
theorem m_kt_106 : m_okT m_me_106 = true := by decide +kernel
theorem m_kh_106 : m_me_106.2.2.2.2.1.all (m_okTh m_me_106) = true := by decide +kernel
theorem m_ok_106 : m_okM m_me_106 := ⟨⟨m_code_in m_cd_106, m_kb_106⟩, m_kt_106, m_kh_106⟩
set_option maxRecDepth 100000 in
theorem m_cd_107 : m_codes[50]? = some (m_me_107.1, m_me_107.2.1, m_me_107.2.2.1, m_me_107.2.2.2.1) := rfl
theorem m_kb_107 : m_okB m_me_107 = true := by decide +kernel
theorem m_kt_107 : m_okT m_me_107 = true := by decide +kernel
theorem m_kh_107 : m_me_107.2.2.2.2.1.all (m_okTh m_me_107) = true := by decide +kernel
theorem m_ok_107 : m_okM m_me_107 := ⟨⟨m_code_in m_cd_107, m_kb_107⟩, m_kt_107, m_kh_107⟩
set_option maxRecDepth 100000 in
theorem m_cd_108 : m_codes[72]? = some (m_me_108.1, m_me_108.2.1, m_me_108.2.2.1, m_me_108.2.2.2.1) := rfl
theorem m_kb_108 : m_okB m_me_108 = true := by decide +kernel
theorem m_kt_108 : m_okT m_me_108 = true := by decide +kernel
theorem m_kh_108 : m_me_108.2.2.2.2.1.all (m_okTh m_me_108) = true := by decide +kernel
theorem m_ok_108 : m_okM m_me_108 := ⟨⟨m_code_in m_cd_108, m_kb_108⟩, m_kt_108, m_kh_108⟩
set_option maxRecDepth 100000 in
theorem m_cd_109 : m_codes[112]? = some (m_me_109.1, m_me_109.2.1, m_me_109.2.2.1, m_me_109.2.2.2.1) := rfl
theorem m_kb_109 : m_okB m_me_109 = true := by decide +kernel
theorem m_kt_109 : m_okT m_me_109 = true := by decide +kernel
theorem m_kh_109 : m_me_109.2.2.2.2.1.all (m_okTh m_me_109) = true := by decide +kernel
theorem m_ok_109 : m_okM m_me_109 := ⟨⟨m_code_in m_cd_109, m_kb_109⟩, m_kt_109, m_kh_109⟩
set_option maxRecDepth 100000 in
theorem m_cd_110 : m_codes[113]? = some (m_me_110.1, m_me_110.2.1, m_me_110.2.2.1, m_me_110.2.2.2.1) := rfl
theorem m_kb_110 : m_okB m_me_110 = true := by decide +kernel
theorem m_kt_110 : m_okT m_me_110 = true := by decide +kernel
theorem m_kh_110 : m_me_110.2.2.2.2.1.all (m_okTh m_me_110) = true := by decide +kernel
theorem m_ok_110 : m_okM m_me_110 := ⟨⟨m_code_in m_cd_110, m_kb_110⟩, m_kt_110, m_kh_110⟩
set_option maxRecDepth 100000 in
theorem m_cd_111 : m_codes[146]? = some (m_me_111.1, m_me_111.2.1, m_me_111.2.2.1, m_me_111.2.2.2.1) := rfl
theorem m_kb_111 : m_okB m_me_111 = true := by decide +kernel
theorem m_kt_111 : m_okT m_me_111 = true := by decide +kernel
theorem m_kh_111 : m_me_111.2.2.2.2.1.all (m_okTh m_me_111) = true := by decide +kernel
theorem m_ok_111 : m_okM m_me_111 := ⟨⟨m_code_in m_cd_111, m_kb_111⟩, m_kt_111, m_kh_111⟩
set_option maxRecDepth 100000 in
theorem m_cd_112 : m_codes[0]? = some (m_me_112.1, m_me_112.2.1, m_me_112.2.2.1, m_me_112.2.2.2.1) := rfl
theorem m_kb_112 : m_okB m_me_112 = true := by decide +kernel
theorem m_kt_112 : m_okT m_me_112 = true := by decide +kernel
theorem m_kh_112 : m_me_112.2.2.2.2.1.all (m_okTh m_me_112) = true := by decide +kernel
theorem m_ok_112 : m_okM m_me_112 := ⟨⟨m_code_in m_cd_112, m_kb_112⟩, m_kt_112, m_kh_112⟩
set_option maxRecDepth 100000 in
theorem m_cd_113 : m_codes[14]? = some (m_me_113.1, m_me_113.2.1, m_me_113.2.2.1, m_me_113.2.2.2.1) := rfl
theorem m_kb_113 : m_okB m_me_113 = true := by decide +kernel
theorem m_kt_113 : m_okT m_me_113 = true := by decide +kernel
theorem m_kh_113 : m_me_113.2.2.2.2.1.all (m_okTh m_me_113) = true := by decide +kernel
theorem m_ok_113 : m_okM m_me_113 := ⟨⟨m_code_in m_cd_113, m_kb_113⟩, m_kt_113, m_kh_113⟩
set_option maxRecDepth 100000 in
theorem m_cd_114 : m_codes[16]? = some (m_me_114.1, m_me_114.2.1, m_me_114.2.2.1, m_me_114.2.2.2.1) := rfl
theorem m_kb_114 : m_okB m_me_114 = true := by decide +kernel
theorem m_kt_114 : m_okT m_me_114 = true := by decide +kernel
theorem m_kh_114 : m_me_114.2.2.2.2.1.all (m_okTh m_me_114) = true := by decide +kernel
theorem m_ok_114 : m_okM m_me_114 := ⟨⟨m_code_in m_cd_114, m_kb_114⟩, m_kt_114, m_kh_114⟩
set_option maxRecDepth 100000 in
theorem m_cd_115 : m_codes[17]? = some (m_me_115.1, m_me_115.2.1, m_me_115.2.2.1, m_me_115.2.2.2.1) := rfl
theorem m_kb_115 : m_okB m_me_115 = true := by decide +kernel
theorem m_kt_115 : m_okT m_me_115 = true := by decide +kernel
theorem m_kh_115 : m_me_115.2.2.2.2.1.all (m_okTh m_me_115) = true := by decide +kernel
theorem m_ok_115 : m_okM m_me_115 := ⟨⟨m_code_in m_cd_115, m_kb_115⟩, m_kt_115, m_kh_115⟩
set_option maxRecDepth 100000 in
theorem m_cd_116 : m_codes[53]? = some (m_me_116.1, m_me_116.2.1, m_me_116.2.2.1, m_me_116.2.2.2.1) := rfl
theorem m_kb_116 : m_okB m_me_116 = true := by decide +kernel
theorem m_kt_116 : m_okT m_me_116 = true := by decide +kernel
theorem m_kh_116 : m_me_116.2.2.2.2.1.all (m_okTh m_me_116) = true := by decide +kernel
theorem m_ok_116 : m_okM m_me_116 := ⟨⟨m_code_in m_cd_116, m_kb_116⟩, m_kt_116, m_kh_116⟩
set_option maxRecDepth 100000 in
theorem m_cd_117 : m_codes[59]? = some (m_me_117.1, m_me_117.2.1, m_me_117.2.2.1, m_me_117.2.2.2.1) := rfl
theorem m_kb_117 : m_okB m_me_117 = true := by decide +kernel
theorem m_kt_117 : m_okT m_me_117 = true := by decide +kernel
theorem m_kh_117 : m_me_117.2.2.2.2.1.all (m_okTh m_me_117) = true := by decide +kernel
theorem m_ok_117 : m_okM m_me_117 := ⟨⟨m_code_in m_cd_117, m_kb_117⟩, m_kt_117, m_kh_117⟩
set_option maxRecDepth 100000 in
theorem m_cd_118 : m_codes[60]? = some (m_me_118.1, m_me_118.2.1, m_me_118.2.2.1, m_me_118.2.2.2.1) := rfl
theorem m_kb_118 : m_okB m_me_118 = true := by decide +kernel
theorem m_kt_118 : m_okT m_me_118 = true := by decide +kernel
theorem m_kh_118 : m_me_118.2.2.2.2.1.all (m_okTh m_me_118) = true := by decide +kernel
theorem m_ok_118 : m_okM m_me_118 := ⟨⟨m_code_in m_cd_118, m_kb_118⟩, m_kt_118, m_kh_118⟩
set_option maxRecDepth 100000 in
theorem m_cd_119 : m_codes[61]? = some (m_me_119.1, m_me_119.2.1, m_me_119.2.2.1, m_me_119.2.2.2.1) := rfl
theorem m_kb_119 : m_okB m_me_119 = true := by decide +kernel
theorem m_kt_119 : m_okT m_me_119 = true := by decide +kernel
theorem m_kh_119 : m_me_119.2.2.2.2.1.all (m_okTh m_me_119) = true := by decide +kernel
theorem m_ok_119 : m_okM m_me_119 := ⟨⟨m_code_in m_cd_119, m_kb_119⟩, m_kt_119, m_kh_119⟩
set_option maxRecDepth 100000 in
theorem m_cd_120 : m_codes[62]? = some (m_me_120.1, m_me_120.2.1, m_me_120.2.2.1, m_me_120.2.2.2.1) := rfl
theorem m_kb_120 : m_okB m_me_120 = true := by decide +kernel
theorem m_kt_120 : m_okT m_me_120 = true := by decide +kernel
theorem m_kh_120 : m_me_120.2.2.2.2.1.all (m_okTh m_me_120) = true := by decide +kernel
theorem m_ok_120 : m_okM m_me_120 := ⟨⟨m_code_in m_cd_120, m_kb_120⟩, m_kt_120, m_kh_120⟩
set_option maxRecDepth 100000 in
theorem m_cd_121 : m_codes[63]? = some (m_me_121.1, m_me_121.2.1, m_me_121.2.2.1, m_me_121.2.2.2.1) := rfl
theorem m_kb_121 : m_okB m_me_121 = true := by decide +kernel
theorem m_kt_121 : m_okT m_me_121 = true := by decide +kernel
theorem m_kh_121 : m_me_121.2.2.2.2.1.all (m_okTh m_me_121) = true := by decide +kernel
theorem m_ok_121 : m_okM m_me_121 := ⟨⟨m_code_in m_cd_121, m_kb_121⟩, m_kt_121, m_kh_121⟩
set_option maxRecDepth 100000 in
theorem m_cd_122 : m_codes[64]? = some (m_me_122.1, m_me_122.2.1, m_me_122.2.2.1, m_me_122.2.2.2.1) := rfl
theorem m_kb_122 : m_okB m_me_122 = true := by decide +kernel
theorem m_kt_122 : m_okT m_me_122 = true := by decide +kernel
theorem m_kh_122 : m_me_122.2.2.2.2.1.all (m_okTh m_me_122) = true := by decide +kernel
theorem m_ok_122 : m_okM m_me_122 := ⟨⟨m_code_in m_cd_122, m_kb_122⟩, m_kt_122, m_kh_122⟩
set_option maxRecDepth 100000 in
theorem m_cd_123 : m_codes[65]? = some (m_me_123.1, m_me_123.2.1, m_me_123.2.2.1, m_me_123.2.2.2.1) := rfl
theorem m_kb_123 : m_okB m_me_123 = true := by decide +kernel
theorem m_kt_123 : m_okT m_me_123 = true := by decide +kernel
theorem m_kh_123 : m_me_123.2.2.2.2.1.all (m_okTh m_me_123) = true := by decide +kernel
theorem m_ok_123 : m_okM m_me_123 := ⟨⟨m_code_in m_cd_123, m_kb_123⟩, m_kt_123, m_kh_123⟩
set_option maxRecDepth 100000 in
theorem m_cd_124 : m_codes[66]? = some (m_me_124.1, m_me_124.2.1, m_me_124.2.2.1, m_me_124.2.2.2.1) := rfl
theorem m_kb_124 : m_okB m_me_124 = true := by decide +kernel
theorem m_kt_124 : m_okT m_me_124 = true := by decide +kernel
theorem m_kh_124 : m_me_124.2.2.2.2.1.all (m_okTh m_me_124) = true := by decide +kernel
theorem m_ok_124 : m_okM m_me_124 := ⟨⟨m_code_in m_cd_124, m_kb_124⟩, m_kt_124, m_kh_124⟩
set_option maxRecDepth 100000 in
theorem m_cd_125 : m_codes[67]? = some (m_me_125.1, m_me_125.2.1, m_me_125.2.2.1, m_me_125.2.2.2.1) := rfl
theorem m_kb_125 : m_okB m_me_125 = true := by decide +kernel
theorem m_kt_125 : m_okT m_me_125 = true := by decide +kernel
theorem m_kh_125 : m_me_125.2.2.2.2.1.all (m_okTh m_me_125) = true := by decide +kernel
theorem m_ok_125 : m_okM m_me_125 := ⟨⟨m_code_in m_cd_125, m_kb_125⟩, m_kt_125, m_kh_125⟩
set_option maxRecDepth 100000 in
theorem m_cd_126 : m_codes[69]? = some (m_me_126.1, m_me_126.2.1, m_me_126.2.2.1, m_me_126.2.2.2.1) := rfl
theorem m_kb_126 : m_okB m_me_126 = true := by decide +kernel
theorem m_kt_126 : m_okT m_me_126 = true := by decide +kernel
theorem m_kh_126 : m_me_126.2.2.2.2.1.all (m_okTh m_me_126) = true := by decide +kernel
theorem m_ok_126 : m_okM m_me_126 := ⟨⟨m_code_in m_cd_126, m_kb_126⟩, m_kt_126, m_kh_126⟩
set_option maxRecDepth 100000 in
theorem m_cd_127 : m_codes[74]? = some (m_me_127.1, m_me_127.2.1, m_me_127.2.2.1, m_me_127.2.2.2.1) := rfl
theorem m_kb_127 : m_okB m_me_127 = true := by decide +kernel
theorem m_kt_127 : m_okT m_me_127 = true := by decide +kernel
theorem m_kh_127 : m_me_127.2.2.2.2.1.all (m_okTh m_me_127) = true := by decide +kernel
theorem m_ok_127 : m_okM m_me_127 := ⟨⟨m_code_in m_cd_127, m_kb_127⟩, m_kt_127, m_kh_127⟩
set_option maxRecDepth 100000 in
theorem m_cd_128 : m_codes[75]? = some (m_me_128.1, m_me_128.2.1, m_me_128.2.2.1, m_me_128.2.2.2.1) := rfl
theorem m_kb_128 : m_okB m_me_128 = true := by decide +kernel
theorem m_kt_128 : m_okT m_me_128 = true := by decide +kernel
theorem m_kh_128 : m_me_128.2.2.2.2.1.all (m_okTh m_me_128) = true := by decide +kernel
theorem m_ok_128 : m_okM m_me_128 := ⟨⟨m_code_in m_cd_128, m_kb_128⟩, m_kt_128, m_kh_128⟩
set_option maxRecDepth 100000 in
theorem m_cd_129 : m_codes[82]? = some (m_me_129.1, m_me_129.2.1, m_me_129.2.2.1, m_me_129.2.2.2.1) := rfl
theorem m_kb_129 : m_okB m_me_129 = true := by decide +kernel
theorem m_kt_129 : m_okT m_me_129 = true := by decide +kernel
theorem m_kh_129 : m_me_129.2.2.2.2.1.all (m_okTh m_me_129) = true := by decide +kernel
theorem m_ok_129 : m_okM m_me_129 := ⟨⟨m_code_in m_cd_129, m_kb_129⟩, m_kt_129, m_kh_129⟩
set_option maxRecDepth 100000 in
theorem m_cd_130 : m_codes[83]? = some (m_me_130.1, m_me_130.2.1, m_me_130.2.2.1, m_me_130.2.2.2.1) := rfl
theorem m_kb_130 : m_okB m_me_130 = true := by decide +kernel
theorem m_kt_130 : m_okT m_me_130 = true := by decide +kernel
theorem m_kh_130 : m_me_130.2.2.2.2.1.all (m_okTh m_me_130) = true := by decide +kernel
theorem m_ok_130 : m_okM m_me_130 := ⟨⟨m_code_in m_cd_130, m_kb_130⟩, m_kt_130, m_kh_130⟩
set_option maxRecDepth 100000 in
theorem m_cd_131 : m_codes[85]? = some (m_me_131.1, m_me_131.2.1, m_me_131.2.2.1, m_me_131.2.2.2.1) := rfl
theorem m_kb_131 : m_okB m_me_131 = true := by decide +kernel
theorem m_kt_131 : m_okT m_me_131 = true := by decide +kernel
theorem m_kh_131 : m_me_131.2.2.2.2.1.all (m_okTh m_me_131) = true := by decide +kernel
theorem m_ok_131 : m_okM m_me_131 := ⟨⟨m_code_in m_cd_131, m_kb_131⟩, m_kt_131, m_kh_131⟩
set_option maxRecDepth 100000 in
theorem m_cd_132 : m_codes[86]? = some (m_me_132.1, m_me_132.2.1, m_me_132.2.2.1, m_me_132.2.2.2.1) := rfl
theorem m_kb_132 : m_okB m_me_132 = true := by decide +kernel
theorem m_kt_132 : m_okT m_me_132 = true := by decide +kernel
theorem m_kh_132 : m_me_132.2.2.2.2.1.all (m_okTh m_me_132) = true := by decide +kernel
theorem m_ok_132 : m_okM m_me_132 := ⟨⟨m_code_in m_cd_132, m_kb_132⟩, m_kt_132, m_kh_132⟩
set_option maxRecDepth 100000 in
theorem m_cd_133 : m_codes[87]? = some (m_me_133.1, m_me_133.2.1, m_me_133.2.2.1, m_me_133.2.2.2.1) := rfl
theorem m_kb_133 : m_okB m_me_133 = true := by decide +kernel
theorem m_kt_133 : m_okT m_me_133 = true := by decide +kernel
theorem m_kh_133 : m_me_133.2.2.2.2.1.all (m_okTh m_me_133) = true := by decide +kernel
theorem m_ok_133 : m_okM m_me_133 := ⟨⟨m_code_in m_cd_133, m_kb_133⟩, m_kt_133, m_kh_133⟩
set_option maxRecDepth 100000 in
theorem m_cd_134 : m_codes[88]? = some (m_me_134.1, m_me_134.2.1, m_me_134.2.2.1, m_me_134.2.2.2.1) := rfl
theorem m_kb_134 : m_okB m_me_134 = true := by decide +kernel
theorem m_kt_134 : m_okT m_me_134 = true := by decide +kernel
theorem m_kh_134 : m_me_134.2.2.2.2.1.all (m_okTh m_me_134) = true := by decide +kernel
theorem m_ok_134 : m_okM m_me_134 := ⟨⟨m_code_in m_cd_134, m_kb_134⟩, m_kt_134, m_kh_134⟩
set_option maxRecDepth 100000 in
theorem m_cd_135 : m_codes[89]? = some (m_me_135.1, m_me_135.2.1, m_me_135.2.2.1, m_me_135.2.2.2.1) := rfl
theorem m_kb_135 : m_okB m_me_135 = true := by decide +kernel
theorem m_kt_135 : m_okT m_me_135 = true := by decide +kernel
theorem m_kh_135 : m_me_135.2.2.2.2.1.all (m_okTh m_me_135) = true := by decide +kernel
theorem m_ok_135 : m_okM m_me_135 := ⟨⟨m_code_in m_cd_135, m_kb_135⟩, m_kt_135, m_kh_135⟩
set_option maxRecDepth 100000 in
theorem m_cd_136 : m_codes[90]? = some (m_me_136.1, m_me_136.2.1, m_me_136.2.2.1, m_me_136.2.2.2.1) := rfl
theorem m_kb_136 : m_okB m_me_136 = true := by decide +kernel
theorem m_kt_136 : m_okT m_me_136 = true := by decide +kernel
theorem m_kh_136 : m_me_136.2.2.2.2.1.all (m_okTh m_me_136) = true := by decide +kernel
theorem m_ok_136 : m_okM m_me_136 := ⟨⟨m_code_in m_cd_136, m_kb_136⟩, m_kt_136, m_kh_136⟩
set_option maxRecDepth 100000 in
theorem m_cd_137 : m_codes[92]? = some (m_me_137.1, m_me_137.2.1, m_me_137.2.2.1, m_me_137.2.2.2.1) := rfl
theorem m_kb_137 : m_okB m_me_137 = true := by decide +kernel
theorem m_kt_137 : m_okT m_me_137 = true := by decide +kernel
theorem m_kh_137 : m_me_137.2.2.2.2.1.all (m_okTh m_me_137) = true := by decide +kernel
theorem m_ok_137 : m_okM m_me_137 := ⟨⟨m_code_in m_cd_137, m_kb_137⟩, m_kt_137, m_kh_137⟩
set_option maxRecDepth 100000 in
theorem m_cd_138 : m_codes[97]? = some (m_me_138.1, m_me_138.2.1, m_me_138.2.2.1, m_me_138.2.2.2.1) := rfl
theorem m_kb_138 : m_okB m_me_138 = true := by decide +kernel
theorem m_kt_138 : m_okT m_me_138 = true := by decide +kernel
theorem m_kh_138 : m_me_138.2.2.2.2.1.all (m_okTh m_me_138) = true := by decide +kernel
theorem m_ok_138 : m_okM m_me_138 := ⟨⟨m_code_in m_cd_138, m_kb_138⟩, m_kt_138, m_kh_138⟩
set_option maxRecDepth 100000 in
theorem m_cd_139 : m_codes[110]? = some (m_me_139.1, m_me_139.2.1, m_me_139.2.2.1, m_me_139.2.2.2.1) := rfl
theorem m_kb_139 : m_okB m_me_139 = true := by decide +kernel
theorem m_kt_139 : m_okT m_me_139 = true := by decide +kernel
theorem m_kh_139 : m_me_139.2.2.2.2.1.all (m_okTh m_me_139) = true := by decide +kernel
theorem m_ok_139 : m_okM m_me_139 := ⟨⟨m_code_in m_cd_139, m_kb_139⟩, m_kt_139, m_kh_139⟩
