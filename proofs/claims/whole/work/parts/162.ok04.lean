/-! checks of methods -/
set_option maxRecDepth 100000 in
theorem m_cd_140 : m_codes[115]? = some (m_me_140.1, m_me_140.2.1, m_me_140.2.2.1, m_me_140.2.2.2.1) := rfl
theorem m_kb_140 : m_okB m_me_140 = true := by decide +kernel
theorem m_kt_140 : m_okT m_me_140 = true := by decide +kernel
theorem m_kh_140 : m_me_140.2.2.2.2.1.all (m_okTh m_me_140) = true := by decide +kernel
theorem m_ok_140 : m_okM m_me_140 := ⟨⟨m_code_in m_cd_140, m_kb_140⟩, m_kt_140, m_kh_140⟩
set_option maxRecDepth 100000 in
theorem m_cd_141 : m_codes[116]? = some (m_me_141.1, m_me_141.2.1, m_me_141.2.2.1, m_me_141.2.2.2.1) := rfl
theorem m_kb_141 : m_okB m_me_141 = true := by decide +kernel
theorem m_kt_141 : m_okT m_me_141 = true := by decide +kernel
theorem m_kh_141 : m_me_141.2.2.2.2.1.all (m_okTh m_me_141) = true := by decide +kernel
theorem m_ok_141 : m_okM m_me_141 := ⟨⟨m_code_in m_cd_141, m_kb_141⟩, m_kt_141, m_kh_141⟩
set_option maxRecDepth 100000 in
theorem m_cd_142 : m_codes[118]? = some (m_me_142.1, m_me_142.2.1, m_me_142.2.2.1, m_me_142.2.2.2.1) := rfl
theorem m_kb_142 : m_okB m_me_142 = true := by decide +kernel
theorem m_kt_142 : m_okT m_me_142 = true := by decide +kernel
theorem m_kh_142 : m_me_142.2.2.2.2.1.all (m_okTh m_me_142) = true := by decide +kernel
theorem m_ok_142 : m_okM m_me_142 := ⟨⟨m_code_in m_cd_142, m_kb_142⟩, m_kt_142, m_kh_142⟩
set_option maxRecDepth 100000 in
theorem m_cd_143 : m_codes[119]? = some (m_me_143.1, m_me_143.2.1, m_me_143.2.2.1, m_me_143.2.2.2.1) := rfl
theorem m_kb_143 : m_okB m_me_143 = true := by decide +kernel
theorem m_kt_143 : m_okT m_me_143 = true := by decide +kernel
theorem m_kh_143 : m_me_143.2.2.2.2.1.all (m_okTh m_me_143) = true := by decide +kernel
theorem m_ok_143 : m_okM m_me_143 := ⟨⟨m_code_in m_cd_143, m_kb_143⟩, m_kt_143, m_kh_143⟩
set_option maxRecDepth 100000 in
theorem m_cd_144 : m_codes[122]? = some (m_me_144.1, m_me_144.2.1, m_me_144.2.2.1, m_me_144.2.2.2.1) := rfl
theorem m_kb_144 : m_okB m_me_144 = true := by decide +kernel
theorem m_kt_144 : m_okT m_me_144 = true := by decide +kernel
theorem m_kh_144 : m_me_144.2.2.2.2.1.all (m_okTh m_me_144) = true := by decide +kernel
theorem m_ok_144 : m_okM m_me_144 := ⟨⟨m_code_in m_cd_144, m_kb_144⟩, m_kt_144, m_kh_144⟩
set_option maxRecDepth 100000 in
theorem m_cd_145 : m_codes[124]? = some (m_me_145.1, m_me_145.2.1, m_me_145.2.2.1, m_me_145.2.2.2.1) := rfl
theorem m_kb_145 : m_okB m_me_145 = true := by decide +kernel
theorem m_kt_145 : m_okT m_me_145 = true := by decide +kernel
theorem m_kh_145 : m_me_145.2.2.2.2.1.all (m_okTh m_me_145) = true := by decide +kernel
theorem m_ok_145 : m_okM m_me_145 := ⟨⟨m_code_in m_cd_145, m_kb_145⟩, m_kt_145, m_kh_145⟩
set_option maxRecDepth 100000 in
theorem m_cd_146 : m_codes[126]? = some (m_me_146.1, m_me_146.2.1, m_me_146.2.2.1, m_me_146.2.2.2.1) := rfl
theorem m_kb_146 : m_okB m_me_146 = true := by decide +kernel
theorem m_kt_146 : m_okT m_me_146 = true := by decide +kernel
theorem m_kh_146 : m_me_146.2.2.2.2.1.all (m_okTh m_me_146) = true := by decide +kernel
theorem m_ok_146 : m_okM m_me_146 := ⟨⟨m_code_in m_cd_146, m_kb_146⟩, m_kt_146, m_kh_146⟩
set_option maxRecDepth 100000 in
theorem m_cd_147 : m_codes[131]? = some (m_me_147.1, m_me_147.2.1, m_me_147.2.2.1, m_me_147.2.2.2.1) := rfl
theorem m_kb_147 : m_okB m_me_147 = true := by decide +kernel
theorem m_kt_147 : m_okT m_me_147 = true := by decide +kernel
theorem m_kh_147 : m_me_147.2.2.2.2.1.all (m_okTh m_me_147) = true := by decide +kernel
theorem m_ok_147 : m_okM m_me_147 := ⟨⟨m_code_in m_cd_147, m_kb_147⟩, m_kt_147, m_kh_147⟩
set_option maxRecDepth 100000 in
theorem m_cd_148 : m_codes[134]? = some (m_me_148.1, m_me_148.2.1, m_me_148.2.2.1, m_me_148.2.2.2.1) := rfl
theorem m_kb_148 : m_okB m_me_148 = true := by decide +kernel
theorem m_kt_148 : m_okT m_me_148 = true := by decide +kernel
theorem m_kh_148 : m_me_148.2.2.2.2.1.all (m_okTh m_me_148) = true := by decide +kernel
theorem m_ok_148 : m_okM m_me_148 := ⟨⟨m_code_in m_cd_148, m_kb_148⟩, m_kt_148, m_kh_148⟩
set_option maxRecDepth 100000 in
theorem m_cd_149 : m_codes[135]? = some (m_me_149.1, m_me_149.2.1, m_me_149.2.2.1, m_me_149.2.2.2.1) := rfl
theorem m_kb_149 : m_okB m_me_149 = true := by decide +kernel
theorem m_kt_149 : m_okT m_me_149 = true := by decide +kernel
theorem m_kh_149 : m_me_149.2.2.2.2.1.all (m_okTh m_me_149) = true := by decide +kernel
theorem m_ok_149 : m_okM m_me_149 := ⟨⟨m_code_in m_cd_149, m_kb_149⟩, m_kt_149, m_kh_149⟩
set_option maxRecDepth 100000 in
theorem m_cd_150 : m_codes[136]? = some (m_me_150.1, m_me_150.2.1, m_me_150.2.2.1, m_me_150.2.2.2.1) := rfl
theorem m_kb_150 : m_okB m_me_150 = true := by decide +kernel
theorem m_kt_150 : m_okT m_me_150 = true := by decide +kernel
theorem m_kh_150 : m_me_150.2.2.2.2.1.all (m_okTh m_me_150) = true := by decide +kernel
theorem m_ok_150 : m_okM m_me_150 := ⟨⟨m_code_in m_cd_150, m_kb_150⟩, m_kt_150, m_kh_150⟩
set_option maxRecDepth 100000 in
theorem m_cd_151 : m_codes[137]? = some (m_me_151.1, m_me_151.2.1, m_me_151.2.2.1, m_me_151.2.2.2.1) := rfl
theorem m_kb_151 : m_okB m_me_151 = true := by decide +kernel
theorem m_kt_151 : m_okT m_me_151 = true := by decide +kernel
theorem m_kh_151 : m_me_151.2.2.2.2.1.all (m_okTh m_me_151) = true := by decide +kernel
theorem m_ok_151 : m_okM m_me_151 := ⟨⟨m_code_in m_cd_151, m_kb_151⟩, m_kt_151, m_kh_151⟩
set_option maxRecDepth 100000 in
theorem m_cd_152 : m_codes[138]? = some (m_me_152.1, m_me_152.2.1, m_me_152.2.2.1, m_me_152.2.2.2.1) := rfl
theorem m_kb_152 : m_okB m_me_152 = true := by decide +kernel
theorem m_kt_152 : m_okT m_me_152 = true := by decide +kernel
theorem m_kh_152 : m_me_152.2.2.2.2.1.all (m_okTh m_me_152) = true := by decide +kernel
theorem m_ok_152 : m_okM m_me_152 := ⟨⟨m_code_in m_cd_152, m_kb_152⟩, m_kt_152, m_kh_152⟩
set_option maxRecDepth 100000 in
theorem m_cd_153 : m_codes[139]? = some (m_me_153.1, m_me_153.2.1, m_me_153.2.2.1, m_me_153.2.2.2.1) := rfl
theorem m_kb_153 : m_okB m_me_153 = true := by decide +kernel
theorem m_kt_153 : m_okT m_me_153 = true := by decide +kernel
theorem m_kh_153 : m_me_153.2.2.2.2.1.all (m_okTh m_me_153) = true := by decide +kernel
theorem m_ok_153 : m_okM m_me_153 := ⟨⟨m_code_in m_cd_153, m_kb_153⟩, m_kt_153, m_kh_153⟩
set_option maxRecDepth 100000 in
theorem m_cd_154 : m_codes[140]? = some (m_me_154.1, m_me_154.2.1, m_me_154.2.2.1, m_me_154.2.2.2.1) := rfl
theorem m_kb_154 : m_okB m_me_154 = true := by decide +kernel
theorem m_kt_154 : m_okT m_me_154 = true := by decide +kernel
theorem m_kh_154 : m_me_154.2.2.2.2.1.all (m_okTh m_me_154) = true := by decide +kernel
theorem m_ok_154 : m_okM m_me_154 := ⟨⟨m_code_in m_cd_154, m_kb_154⟩, m_kt_154, m_kh_154⟩
set_option maxRecDepth 100000 in
theorem m_cd_155 : m_codes[141]? = some (m_me_155.1, m_me_155.2.1, m_me_155.2.2.1, m_me_155.2.2.2.1) := rfl
theorem m_kb_155 : m_okB m_me_155 = true := by decide +kernel
theorem m_kt_155 : m_okT m_me_155 = true := by decide +kernel
theorem m_kh_155 : m_me_155.2.2.2.2.1.all (m_okTh m_me_155) = true := by decide +kernel
theorem m_ok_155 : m_okM m_me_155 := ⟨⟨m_code_in m_cd_155, m_kb_155⟩, m_kt_155, m_kh_155⟩
set_option maxRecDepth 100000 in
theorem m_cd_156 : m_codes[144]? = some (m_me_156.1, m_me_156.2.1, m_me_156.2.2.1, m_me_156.2.2.2.1) := rfl
theorem m_kb_156 : m_okB m_me_156 = true := by decide +kernel
theorem m_kt_156 : m_okT m_me_156 = true := by decide +kernel
theorem m_kh_156 : m_me_156.2.2.2.2.1.all (m_okTh m_me_156) = true := by decide +kernel
theorem m_ok_156 : m_okM m_me_156 := ⟨⟨m_code_in m_cd_156, m_kb_156⟩, m_kt_156, m_kh_156⟩
set_option maxRecDepth 100000 in
theorem m_cd_157 : m_codes[148]? = some (m_me_157.1, m_me_157.2.1, m_me_157.2.2.1, m_me_157.2.2.2.1) := rfl
theorem m_kb_157 : m_okB m_me_157 = true := by decide +kernel
theorem m_kt_157 : m_okT m_me_157 = true := by decide +kernel
theorem m_kh_157 : m_me_157.2.2.2.2.1.all (m_okTh m_me_157) = true := by decide +kernel
theorem m_ok_157 : m_okM m_me_157 := ⟨⟨m_code_in m_cd_157, m_kb_157⟩, m_kt_157, m_kh_157⟩
set_option maxRecDepth 100000 in
theorem m_cd_158 : m_codes[149]? = some (m_me_158.1, m_me_158.2.1, m_me_158.2.2.1, m_me_158.2.2.2.1) := rfl
theorem m_kb_158 : m_okB m_me_158 = true := by decide +kernel
theorem m_kt_158 : m_okT m_me_158 = true := by decide +kernel
theorem m_kh_158 : m_me_158.2.2.2.2.1.all (m_okTh m_me_158) = true := by decide +kernel
theorem m_ok_158 : m_okM m_me_158 := ⟨⟨m_code_in m_cd_158, m_kb_158⟩, m_kt_158, m_kh_158⟩
set_option maxRecDepth 100000 in
theorem m_cd_159 : m_codes[150]? = some (m_me_159.1, m_me_159.2.1, m_me_159.2.2.1, m_me_159.2.2.2.1) := rfl
theorem m_kb_159 : m_okB m_me_159 = true := by decide +kernel
theorem m_kt_159 : m_okT m_me_159 = true := by decide +kernel
theorem m_kh_159 : m_me_159.2.2.2.2.1.all (m_okTh m_me_159) = true := by decide +kernel
theorem m_ok_159 : m_okM m_me_159 := ⟨⟨m_code_in m_cd_159, m_kb_159⟩, m_kt_159, m_kh_159⟩
set_option maxRecDepth 100000 in
theorem m_cd_160 : m_codes[152]? = some (m_me_160.1, m_me_160.2.1, m_me_160.2.2.1, m_me_160.2.2.2.1) := rfl
theorem m_kb_160 : m_okB m_me_160 = true := by decide +kernel
theorem m_kt_160 : m_okT m_me_160 = true := by decide +kernel
theorem m_kh_160 : m_me_160.2.2.2.2.1.all (m_okTh m_me_160) = true := by decide +kernel
theorem m_ok_160 : m_okM m_me_160 := ⟨⟨m_code_in m_cd_160, m_kb_160⟩, m_kt_160, m_kh_160⟩
set_option maxRecDepth 100000 in
theorem m_cd_161 : m_codes[155]? = some (m_me_161.1, m_me_161.2.1, m_me_161.2.2.1, m_me_161.2.2.2.1) := rfl
theorem m_kb_161 : m_okB m_me_161 = true := by decide +kernel
theorem m_kt_161 : m_okT m_me_161 = true := by decide +kernel
theorem m_kh_161 : m_me_161.2.2.2.2.1.all (m_okTh m_me_161) = true := by decide +kernel
theorem m_ok_161 : m_okM m_me_161 := ⟨⟨m_code_in m_cd_161, m_kb_161⟩, m_kt_161, m_kh_161⟩
set_option maxRecDepth 100000 in
theorem m_cd_162 : m_codes[156]? = some (m_me_162.1, m_me_162.2.1, m_me_162.2.2.1, m_me_162.2.2.2.1) := rfl
theorem m_kb_162 : m_okB m_me_162 = true := by decide +kernel
theorem m_kt_162 : m_okT m_me_162 = true := by decide +kernel
theorem m_kh_162 : m_me_162.2.2.2.2.1.all (m_okTh m_me_162) = true := by decide +kernel
theorem m_ok_162 : m_okM m_me_162 := ⟨⟨m_code_in m_cd_162, m_kb_162⟩, m_kt_162, m_kh_162⟩
set_option maxRecDepth 100000 in
theorem m_cd_163 : m_codes[157]? = some (m_me_163.1, m_me_163.2.1, m_me_163.2.2.1, m_me_163.2.2.2.1) := rfl
theorem m_kb_163 : m_okB m_me_163 = true := by decide +kernel
theorem m_kt_163 : m_okT m_me_163 = true := by decide +kernel
theorem m_kh_163 : m_me_163.2.2.2.2.1.all (m_okTh m_me_163) = true := by decide +kernel
theorem m_ok_163 : m_okM m_me_163 := ⟨⟨m_code_in m_cd_163, m_kb_163⟩, m_kt_163, m_kh_163⟩
set_option maxRecDepth 100000 in
theorem m_cd_164 : m_codes[164]? = some (m_me_164.1, m_me_164.2.1, m_me_164.2.2.1, m_me_164.2.2.2.1) := rfl
theorem m_kb_164 : m_okB m_me_164 = true := by decide +kernel
theorem m_kt_164 : m_okT m_me_164 = true := by decide +kernel
theorem m_kh_164 : m_me_164.2.2.2.2.1.all (m_okTh m_me_164) = true := by decide +kernel
theorem m_ok_164 : m_okM m_me_164 := ⟨⟨m_code_in m_cd_164, m_kb_164⟩, m_kt_164, m_kh_164⟩
set_option maxRecDepth 100000 in
theorem m_cd_165 : m_codes[165]? = some (m_me_165.1, m_me_165.2.1, m_me_165.2.2.1, m_me_165.2.2.2.1) := rfl
theorem m_kb_165 : m_okB m_me_165 = true := by decide +kernel
theorem m_kt_165 : m_okT m_me_165 = true := by decide +kernel
theorem m_kh_165 : m_me_165.2.2.2.2.1.all (m_okTh m_me_165) = true := by decide +kernel
theorem m_ok_165 : m_okM m_me_165 := ⟨⟨m_code_in m_cd_165, m_kb_165⟩, m_kt_165, m_kh_165⟩
set_option maxRecDepth 100000 in
theorem m_cd_166 : m_codes[167]? = some (m_me_166.1, m_me_166.2.1, m_me_166.2.2.1, m_me_166.2.2.2.1) := rfl
theorem m_kb_166 : m_okB m_me_166 = true := by decide +kernel
theorem m_kt_166 : m_okT m_me_166 = true := by decide +kernel
theorem m_kh_166 : m_me_166.2.2.2.2.1.all (m_okTh m_me_166) = true := by decide +kernel
theorem m_ok_166 : m_okM m_me_166 := ⟨⟨m_code_in m_cd_166, m_kb_166⟩, m_kt_166, m_kh_166⟩
set_option maxRecDepth 100000 in
theorem m_cd_167 : m_codes[169]? = some (m_me_167.1, m_me_167.2.1, m_me_167.2.2.1, m_me_167.2.2.2.1) := rfl
theorem m_kb_167 : m_okB m_me_167 = true := by decide +kernel
theorem m_kt_167 : m_okT m_me_167 = true := by decide +kernel
theorem m_kh_167 : m_me_167.2.2.2.2.1.all (m_okTh m_me_167) = true := by decide +kernel
theorem m_ok_167 : m_okM m_me_167 := ⟨⟨m_code_in m_cd_167, m_kb_167⟩, m_kt_167, m_kh_167⟩
set_option maxRecDepth 100000 in
theorem m_cd_168 : m_codes[172]? = some (m_me_168.1, m_me_168.2.1, m_me_168.2.2.1, m_me_168.2.2.2.1) := rfl
theorem m_kb_168 : m_okB m_me_168 = true := by decide +kernel
theorem m_kt_168 : m_okT m_me_168 = true := by decide +kernel
theorem m_kh_168 : m_me_168.2.2.2.2.1.all (m_okTh m_me_168) = true := by decide +kernel
theorem m_ok_168 : m_okM m_me_168 := ⟨⟨m_code_in m_cd_168, m_kb_168⟩, m_kt_168, m_kh_168⟩
set_option maxRecDepth 100000 in
theorem m_cd_169 : m_codes[174]? = some (m_me_169.1, m_me_169.2.1, m_me_169.2.2.1, m_me_169.2.2.2.1) := rfl
theorem m_kb_169 : m_okB m_me_169 = true := by decide +kernel
theorem m_kt_169 : m_okT m_me_169 = true := by decide +kernel
theorem m_kh_169 : m_me_169.2.2.2.2.1.all (m_okTh m_me_169) = true := by decide +kernel
theorem m_ok_169 : m_okM m_me_169 := ⟨⟨m_code_in m_cd_169, m_kb_169⟩, m_kt_169, m_kh_169⟩
set_option maxRecDepth 100000 in
theorem m_cd_170 : m_codes[175]? = some (m_me_170.1, m_me_170.2.1, m_me_170.2.2.1, m_me_170.2.2.2.1) := rfl
theorem m_kb_170 : m_okB m_me_170 = true := by decide +kernel
theorem m_kt_170 : m_okT m_me_170 = true := by decide +kernel
theorem m_kh_170 : m_me_170.2.2.2.2.1.all (m_okTh m_me_170) = true := by decide +kernel
theorem m_ok_170 : m_okM m_me_170 := ⟨⟨m_code_in m_cd_170, m_kb_170⟩, m_kt_170, m_kh_170⟩
set_option maxRecDepth 100000 in
theorem m_cd_171 : m_codes[176]? = some (m_me_171.1, m_me_171.2.1, m_me_171.2.2.1, m_me_171.2.2.2.1) := rfl
theorem m_kb_171 : m_okB m_me_171 = true := by decide +kernel
theorem m_kt_171 : m_okT m_me_171 = true := by decide +kernel
theorem m_kh_171 : m_me_171.2.2.2.2.1.all (m_okTh m_me_171) = true := by decide +kernel
theorem m_ok_171 : m_okM m_me_171 := ⟨⟨m_code_in m_cd_171, m_kb_171⟩, m_kt_171, m_kh_171⟩
set_option maxRecDepth 100000 in
theorem m_cd_172 : m_codes[179]? = some (m_me_172.1, m_me_172.2.1, m_me_172.2.2.1, m_me_172.2.2.2.1) := rfl
theorem m_kb_172 : m_okB m_me_172 = true := by decide +kernel
theorem m_kt_172 : m_okT m_me_172 = true := by decide +kernel
theorem m_kh_172 : m_me_172.2.2.2.2.1.all (m_okTh m_me_172) = true := by decide +kernel
theorem m_ok_172 : m_okM m_me_172 := ⟨⟨m_code_in m_cd_172, m_kb_172⟩, m_kt_172, m_kh_172⟩
set_option maxRecDepth 100000 in
theorem m_cd_173 : m_codes[181]? = some (m_me_173.1, m_me_173.2.1, m_me_173.2.2.1, m_me_173.2.2.2.1) := rfl
theorem m_kb_173 : m_okB m_me_173 = true := by decide +kernel
theorem m_kt_173 : m_okT m_me_173 = true := by decide +kernel
theorem m_kh_173 : m_me_173.2.2.2.2.1.all (m_okTh m_me_173) = true := by decide +kernel
theorem m_ok_173 : m_okM m_me_173 := ⟨⟨m_code_in m_cd_173, m_kb_173⟩, m_kt_173, m_kh_173⟩
set_option maxRecDepth 100000 in
theorem m_cd_174 : m_codes[183]? = some (m_me_174.1, m_me_174.2.1, m_me_174.2.2.1, m_me_174.2.2.2.1) := rfl
theorem m_kb_174 : m_okB m_me_174 = true := by decide +kernel
theorem m_kt_174 : m_okT m_me_174 = true := by decide +kernel
theorem m_kh_174 : m_me_174.2.2.2.2.1.all (m_okTh m_me_174) = true := by decide +kernel
theorem m_ok_174 : m_okM m_me_174 := ⟨⟨m_code_in m_cd_174, m_kb_174⟩, m_kt_174, m_kh_174⟩
