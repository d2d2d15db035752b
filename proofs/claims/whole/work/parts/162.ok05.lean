/-! checks of methods -/
set_option maxRecDepth 100000 in
theorem m_cd_175 : m_codes[185]? = some (m_me_175.1, m_me_175.2.1, m_me_175.2.2.1, m_me_175.2.2.2.1) := rfl
theorem m_kb_175 : m_okB m_me_175 = true := by decide +kernel
theorem m_kt_175 : m_okT m_me_175 = true := by decide +kernel
theorem m_kh_175 : m_me_175.2.2.2.2.1.all (m_okTh m_me_175) = true := by decide +kernel
theorem m_ok_175 : m_okM m_me_175 := ⟨⟨m_code_in m_cd_175, m_kb_175⟩, m_kt_175, m_kh_175⟩
set_option maxRecDepth 100000 in
theorem m_cd_176 : m_codes[187]? = some (m_me_176.1, m_me_176.2.1, m_me_176.2.2.1, m_me_176.2.2.2.1) := rfl
theorem m_kb_176 : m_okB m_me_176 = true := by decide +kernel
theorem m_kt_176 : m_okT m_me_176 = true := by decide +kernel
theorem m_kh_176 : m_me_176.2.2.2.2.1.all (m_okTh m_me_176) = true := by decide +kernel
theorem m_ok_176 : m_okM m_me_176 := ⟨⟨m_code_in m_cd_176, m_kb_176⟩, m_kt_176, m_kh_176⟩
set_option maxRecDepth 100000 in
theorem m_cd_177 : m_codes[190]? = some (m_me_177.1, m_me_177.2.1, m_me_177.2.2.1, m_me_177.2.2.2.1) := rfl
theorem m_kb_177 : m_okB m_me_177 = true := by decide +kernel
theorem m_kt_177 : m_okT m_me_177 = true := by decide +kernel
theorem m_kh_177 : m_me_177.2.2.2.2.1.all (m_okTh m_me_177) = true := by decide +kernel
theorem m_ok_177 : m_okM m_me_177 := ⟨⟨m_code_in m_cd_177, m_kb_177⟩, m_kt_177, m_kh_177⟩
set_option maxRecDepth 100000 in
theorem m_cd_178 : m_codes[191]? = some (m_me_178.1, m_me_178.2.1, m_me_178.2.2.1, m_me_178.2.2.2.1) := rfl
theorem m_kb_178 : m_okB m_me_178 = true := by decide +kernel
theorem m_kt_178 : m_okT m_me_178 = true := by decide +kernel
theorem m_kh_178 : m_me_178.2.2.2.2.1.all (m_okTh m_me_178) = true := by decide +kernel
theorem m_ok_178 : m_okM m_me_178 := ⟨⟨m_code_in m_cd_178, m_kb_178⟩, m_kt_178, m_kh_178⟩
set_option maxRecDepth 100000 in
theorem m_cd_179 : m_codes[196]? = some (m_me_179.1, m_me_179.2.1, m_me_179.2.2.1, m_me_179.2.2.2.1) := rfl
theorem m_kb_179 : m_okB m_me_179 = true := by decide +kernel
theorem m_kt_179 : m_okT m_me_179 = true := by decide +kernel
theorem m_kh_179 : m_me_179.2.2.2.2.1.all (m_okTh m_me_179) = true := by decide +kernel
theorem m_ok_179 : m_okM m_me_179 := ⟨⟨m_code_in m_cd_179, m_kb_179⟩, m_kt_179, m_kh_179⟩
set_option maxRecDepth 100000 in
theorem m_cd_180 : m_codes[197]? = some (m_me_180.1, m_me_180.2.1, m_me_180.2.2.1, m_me_180.2.2.2.1) := rfl
theorem m_kb_180 : m_okB m_me_180 = true := by decide +kernel
theorem m_kt_180 : m_okT m_me_180 = true := by decide +kernel
theorem m_kh_180 : m_me_180.2.2.2.2.1.all (m_okTh m_me_180) = true := by decide +kernel
theorem m_ok_180 : m_okM m_me_180 := ⟨⟨m_code_in m_cd_180, m_kb_180⟩, m_kt_180, m_kh_180⟩
set_option maxRecDepth 100000 in
theorem m_cd_181 : m_codes[202]? = some (m_me_181.1, m_me_181.2.1, m_me_181.2.2.1, m_me_181.2.2.2.1) := rfl
theorem m_kb_181 : m_okB m_me_181 = true := by decide +kernel
theorem m_kt_181 : m_okT m_me_181 = true := by decide +kernel
theorem m_kh_181 : m_me_181.2.2.2.2.1.all (m_okTh m_me_181) = true := by decide +kernel
theorem m_ok_181 : m_okM m_me_181 := ⟨⟨m_code_in m_cd_181, m_kb_181⟩, m_kt_181, m_kh_181⟩
set_option maxRecDepth 100000 in
theorem m_cd_182 : m_codes[203]? = some (m_me_182.1, m_me_182.2.1, m_me_182.2.2.1, m_me_182.2.2.2.1) := rfl
theorem m_kb_182 : m_okB m_me_182 = true := by decide +kernel
theorem m_kt_182 : m_okT m_me_182 = true := by decide +kernel
theorem m_kh_182 : m_me_182.2.2.2.2.1.all (m_okTh m_me_182) = true := by decide +kernel
theorem m_ok_182 : m_okM m_me_182 := ⟨⟨m_code_in m_cd_182, m_kb_182⟩, m_kt_182, m_kh_182⟩
set_option maxRecDepth 100000 in
theorem m_cd_183 : m_codes[207]? = some (m_me_183.1, m_me_183.2.1, m_me_183.2.2.1, m_me_183.2.2.2.1) := rfl
theorem m_kb_183 : m_okB m_me_183 = true := by decide +kernel
theorem m_kt_183 : m_okT m_me_183 = true := by decide +kernel
theorem m_kh_183 : m_me_183.2.2.2.2.1.all (m_okTh m_me_183) = true := by decide +kernel
theorem m_ok_183 : m_okM m_me_183 := ⟨⟨m_code_in m_cd_183, m_kb_183⟩, m_kt_183, m_kh_183⟩
set_option maxRecDepth 100000 in
theorem m_cd_184 : m_codes[208]? = some (m_me_184.1, m_me_184.2.1, m_me_184.2.2.1, m_me_184.2.2.2.1) := rfl
theorem m_kb_184 : m_okB m_me_184 = true := by decide +kernel
theorem m_kt_184 : m_okT m_me_184 = true := by decide +kernel
theorem m_kh_184 : m_me_184.2.2.2.2.1.all (m_okTh m_me_184) = true := by decide +kernel
theorem m_ok_184 : m_okM m_me_184 := ⟨⟨m_code_in m_cd_184, m_kb_184⟩, m_kt_184, m_kh_184⟩
set_option maxRecDepth 100000 in
theorem m_cd_185 : m_codes[209]? = some (m_me_185.1, m_me_185.2.1, m_me_185.2.2.1, m_me_185.2.2.2.1) := rfl
theorem m_kb_185 : m_okB m_me_185 = true := by decide +kernel
theorem m_kt_185 : m_okT m_me_185 = true := by decide +kernel
theorem m_kh_185 : m_me_185.2.2.2.2.1.all (m_okTh m_me_185) = true := by decide +kernel
theorem m_ok_185 : m_okM m_me_185 := ⟨⟨m_code_in m_cd_185, m_kb_185⟩, m_kt_185, m_kh_185⟩
set_option maxRecDepth 100000 in
theorem m_cd_186 : m_codes[210]? = some (m_me_186.1, m_me_186.2.1, m_me_186.2.2.1, m_me_186.2.2.2.1) := rfl
theorem m_kb_186 : m_okB m_me_186 = true := by decide +kernel
theorem m_kt_186 : m_okT m_me_186 = true := by decide +kernel
theorem m_kh_186 : m_me_186.2.2.2.2.1.all (m_okTh m_me_186) = true := by decide +kernel
theorem m_ok_186 : m_okM m_me_186 := ⟨⟨m_code_in m_cd_186, m_kb_186⟩, m_kt_186, m_kh_186⟩
set_option maxRecDepth 100000 in
theorem m_cd_187 : m_codes[211]? = some (m_me_187.1, m_me_187.2.1, m_me_187.2.2.1, m_me_187.2.2.2.1) := rfl
theorem m_kb_187 : m_okB m_me_187 = true := by decide +kernel
theorem m_kt_187 : m_okT m_me_187 = true := by decide +kernel
theorem m_kh_187 : m_me_187.2.2.2.2.1.all (m_okTh m_me_187) = true := by decide +kernel
theorem m_ok_187 : m_okM m_me_187 := ⟨⟨m_code_in m_cd_187, m_kb_187⟩, m_kt_187, m_kh_187⟩
set_option maxRecDepth 100000 in
theorem m_cd_188 : m_codes[212]? = some (m_me_188.1, m_me_188.2.1, m_me_188.2.2.1, m_me_188.2.2.2.1) := rfl
theorem m_kb_188 : m_okB m_me_188 = true := by decide +kernel
theorem m_kt_188 : m_okT m_me_188 = true := by decide +kernel
theorem m_kh_188 : m_me_188.2.2.2.2.1.all (m_okTh m_me_188) = true := by decide +kernel
theorem m_ok_188 : m_okM m_me_188 := ⟨⟨m_code_in m_cd_188, m_kb_188⟩, m_kt_188, m_kh_188⟩
set_option maxRecDepth 100000 in
theorem m_cd_189 : m_codes[213]? = some (m_me_189.1, m_me_189.2.1, m_me_189.2.2.1, m_me_189.2.2.2.1) := rfl
theorem m_kb_189 : m_okB m_me_189 = true := by decide +kernel
theorem m_kt_189 : m_okT m_me_189 = true := by decide +kernel
theorem m_kh_189 : m_me_189.2.2.2.2.1.all (m_okTh m_me_189) = true := by decide +kernel
theorem m_ok_189 : m_okM m_me_189 := ⟨⟨m_code_in m_cd_189, m_kb_189⟩, m_kt_189, m_kh_189⟩
set_option maxRecDepth 100000 in
theorem m_cd_190 : m_codes[214]? = some (m_me_190.1, m_me_190.2.1, m_me_190.2.2.1, m_me_190.2.2.2.1) := rfl
theorem m_kb_190 : m_okB m_me_190 = true := by decide +kernel
theorem m_kt_190 : m_okT m_me_190 = true := by decide +kernel
theorem m_kh_190 : m_me_190.2.2.2.2.1.all (m_okTh m_me_190) = true := by decide +kernel
theorem m_ok_190 : m_okM m_me_190 := ⟨⟨m_code_in m_cd_190, m_kb_190⟩, m_kt_190, m_kh_190⟩
set_option maxRecDepth 100000 in
theorem m_cd_191 : m_codes[215]? = some (m_me_191.1, m_me_191.2.1, m_me_191.2.2.1, m_me_191.2.2.2.1) := rfl
theorem m_kb_191 : m_okB m_me_191 = true := by decide +kernel
theorem m_kt_191 : m_okT m_me_191 = true := by decide +kernel
theorem m_kh_191 : m_me_191.2.2.2.2.1.all (m_okTh m_me_191) = true := by decide +kernel
theorem m_ok_191 : m_okM m_me_191 := ⟨⟨m_code_in m_cd_191, m_kb_191⟩, m_kt_191, m_kh_191⟩
set_option maxRecDepth 100000 in
theorem m_cd_192 : m_codes[216]? = some (m_me_192.1, m_me_192.2.1, m_me_192.2.2.1, m_me_192.2.2.2.1) := rfl
theorem m_kb_192 : m_okB m_me_192 = true := by decide +kernel
theorem m_kt_192 : m_okT m_me_192 = true := by decide +kernel
theorem m_kh_192 : m_me_192.2.2.2.2.1.all (m_okTh m_me_192) = true := by decide +kernel
theorem m_ok_192 : m_okM m_me_192 := ⟨⟨m_code_in m_cd_192, m_kb_192⟩, m_kt_192, m_kh_192⟩
set_option maxRecDepth 100000 in
theorem m_cd_193 : m_codes[217]? = some (m_me_193.1, m_me_193.2.1, m_me_193.2.2.1, m_me_193.2.2.2.1) := rfl
theorem m_kb_193 : m_okB m_me_193 = true := by decide +kernel
theorem m_kt_193 : m_okT m_me_193 = true := by decide +kernel
theorem m_kh_193 : m_me_193.2.2.2.2.1.all (m_okTh m_me_193) = true := by decide +kernel
theorem m_ok_193 : m_okM m_me_193 := ⟨⟨m_code_in m_cd_193, m_kb_193⟩, m_kt_193, m_kh_193⟩
set_option maxRecDepth 100000 in
theorem m_cd_194 : m_codes[218]? = some (m_me_194.1, m_me_194.2.1, m_me_194.2.2.1, m_me_194.2.2.2.1) := rfl
theorem m_kb_194 : m_okB m_me_194 = true := by decide +kernel
theorem m_kt_194 : m_okT m_me_194 = true := by decide +kernel
theorem m_kh_194 : m_me_194.2.2.2.2.1.all (m_okTh m_me_194) = true := by decide +kernel
theorem m_ok_194 : m_okM m_me_194 := ⟨⟨m_code_in m_cd_194, m_kb_194⟩, m_kt_194, m_kh_194⟩
set_option maxRecDepth 100000 in
theorem m_cd_195 : m_codes[219]? = some (m_me_195.1, m_me_195.2.1, m_me_195.2.2.1, m_me_195.2.2.2.1) := rfl
theorem m_kb_195 : m_okB m_me_195 = true := by decide +kernel
theorem m_kt_195 : m_okT m_me_195 = true := by decide +kernel
theorem m_kh_195 : m_me_195.2.2.2.2.1.all (m_okTh m_me_195) = true := by decide +kernel
theorem m_ok_195 : m_okM m_me_195 := ⟨⟨m_code_in m_cd_195, m_kb_195⟩, m_kt_195, m_kh_195⟩
set_option maxRecDepth 100000 in
theorem m_cd_196 : m_codes[220]? = some (m_me_196.1, m_me_196.2.1, m_me_196.2.2.1, m_me_196.2.2.2.1) := rfl
theorem m_kb_196 : m_okB m_me_196 = true := by decide +kernel
theorem m_kt_196 : m_okT m_me_196 = true := by decide +kernel
theorem m_kh_196 : m_me_196.2.2.2.2.1.all (m_okTh m_me_196) = true := by decide +kernel
theorem m_ok_196 : m_okM m_me_196 := ⟨⟨m_code_in m_cd_196, m_kb_196⟩, m_kt_196, m_kh_196⟩
set_option maxRecDepth 100000 in
theorem m_cd_197 : m_codes[221]? = some (m_me_197.1, m_me_197.2.1, m_me_197.2.2.1, m_me_197.2.2.2.1) := rfl
theorem m_kb_197 : m_okB m_me_197 = true := by decide +kernel
theorem m_kt_197 : m_okT m_me_197 = true := by decide +kernel
theorem m_kh_197 : m_me_197.2.2.2.2.1.all (m_okTh m_me_197) = true := by decide +kernel
theorem m_ok_197 : m_okM m_me_197 := ⟨⟨m_code_in m_cd_197, m_kb_197⟩, m_kt_197, m_kh_197⟩
set_option maxRecDepth 100000 in
theorem m_cd_198 : m_codes[222]? = some (m_me_198.1, m_me_198.2.1, m_me_198.2.2.1, m_me_198.2.2.2.1) := rfl
theorem m_kb_198 : m_okB m_me_198 = true := by decide +kernel
theorem m_kt_198 : m_okT m_me_198 = true := by decide +kernel
theorem m_kh_198 : m_me_198.2.2.2.2.1.all (m_okTh m_me_198) = true := by decide +kernel
theorem m_ok_198 : m_okM m_me_198 := ⟨⟨m_code_in m_cd_198, m_kb_198⟩, m_kt_198, m_kh_198⟩
set_option maxRecDepth 100000 in
theorem m_cd_199 : m_codes[223]? = some (m_me_199.1, m_me_199.2.1, m_me_199.2.2.1, m_me_199.2.2.2.1) := rfl
theorem m_kb_199 : m_okB m_me_199 = true := by decide +kernel
theorem m_kt_199 : m_okT m_me_199 = true := by decide +kernel
theorem m_kh_199 : m_me_199.2.2.2.2.1.all (m_okTh m_me_199) = true := by decide +kernel
theorem m_ok_199 : m_okM m_me_199 := ⟨⟨m_code_in m_cd_199, m_kb_199⟩, m_kt_199, m_kh_199⟩
set_option maxRecDepth 100000 in
theorem m_cd_200 : m_codes[224]? = some (m_me_200.1, m_me_200.2.1, m_me_200.2.2.1, m_me_200.2.2.2.1) := rfl
theorem m_kb_200 : m_okB m_me_200 = true := by decide +kernel
theorem m_kt_200 : m_okT m_me_200 = true := by decide +kernel
theorem m_kh_200 : m_me_200.2.2.2.2.1.all (m_okTh m_me_200) = true := by decide +kernel
theorem m_ok_200 : m_okM m_me_200 := ⟨⟨m_code_in m_cd_200, m_kb_200⟩, m_kt_200, m_kh_200⟩
set_option maxRecDepth 100000 in
theorem m_cd_201 : m_codes[225]? = some (m_me_201.1, m_me_201.2.1, m_me_201.2.2.1, m_me_201.2.2.2.1) := rfl
theorem m_kb_201 : m_okB m_me_201 = true := by decide +kernel
theorem m_kt_201 : m_okT m_me_201 = true := by decide +kernel
theorem m_kh_201 : m_me_201.2.2.2.2.1.all (m_okTh m_me_201) = true := by decide +kernel
theorem m_ok_201 : m_okM m_me_201 := ⟨⟨m_code_in m_cd_201, m_kb_201⟩, m_kt_201, m_kh_201⟩
set_option maxRecDepth 100000 in
theorem m_cd_202 : m_codes[226]? = some (m_me_202.1, m_me_202.2.1, m_me_202.2.2.1, m_me_202.2.2.2.1) := rfl
theorem m_kb_202 : m_okB m_me_202 = true := by decide +kernel
theorem m_kt_202 : m_okT m_me_202 = true := by decide +kernel
theorem m_kh_202 : m_me_202.2.2.2.2.1.all (m_okTh m_me_202) = true := by decide +kernel
theorem m_ok_202 : m_okM m_me_202 := ⟨⟨m_code_in m_cd_202, m_kb_202⟩, m_kt_202, m_kh_202⟩
set_option maxRecDepth 100000 in
theorem m_cd_203 : m_codes[227]? = some (m_me_203.1, m_me_203.2.1, m_me_203.2.2.1, m_me_203.2.2.2.1) := rfl
theorem m_kb_203 : m_okB m_me_203 = true := by decide +kernel
theorem m_kt_203 : m_okT m_me_203 = true := by decide +kernel
theorem m_kh_203 : m_me_203.2.2.2.2.1.all (m_okTh m_me_203) = true := by decide +kernel
theorem m_ok_203 : m_okM m_me_203 := ⟨⟨m_code_in m_cd_203, m_kb_203⟩, m_kt_203, m_kh_203⟩
set_option maxRecDepth 100000 in
theorem m_cd_204 : m_codes[228]? = some (m_me_204.1, m_me_204.2.1, m_me_204.2.2.1, m_me_204.2.2.2.1) := rfl
theorem m_kb_204 : m_okB m_me_204 = true := by decide +kernel
theorem m_kt_204 : m_okT m_me_204 = true := by decide +kernel
theorem m_kh_204 : m_me_204.2.2.2.2.1.all (m_okTh m_me_204) = true := by decide +kernel
theorem m_ok_204 : m_okM m_me_204 := ⟨⟨m_code_in m_cd_204, m_kb_204⟩, m_kt_204, m_kh_204⟩
set_option maxRecDepth 100000 in
theorem m_cd_205 : m_codes[229]? = some (m_me_205.1, m_me_205.2.1, m_me_205.2.2.1, m_me_205.2.2.2.1) := rfl
theorem m_kb_205 : m_okB m_me_205 = true := by decide +kernel
theorem m_kt_205 : m_okT m_me_205 = true := by decide +kernel
theorem m_kh_205 : m_me_205.2.2.2.2.1.all (m_okTh m_me_205) = true := by decide +kernel
theorem m_ok_205 : m_okM m_me_205 := ⟨⟨m_code_in m_cd_205, m_kb_205⟩, m_kt_205, m_kh_205⟩
set_option maxRecDepth 100000 in
theorem m_cd_206 : m_codes[230]? = some (m_me_206.1, m_me_206.2.1, m_me_206.2.2.1, m_me_206.2.2.2.1) := rfl
theorem m_kb_206 : m_okB m_me_206 = true := by decide +kernel
theorem m_kt_206 : m_okT m_me_206 = true := by decide +kernel
theorem m_kh_206 : m_me_206.2.2.2.2.1.all (m_okTh m_me_206) = true := by decide +kernel
theorem m_ok_206 : m_okM m_me_206 := ⟨⟨m_code_in m_cd_206, m_kb_206⟩, m_kt_206, m_kh_206⟩
set_option maxRecDepth 100000 in
theorem m_cd_207 : m_codes[231]? = some (m_me_207.1, m_me_207.2.1, m_me_207.2.2.1, m_me_207.2.2.2.1) := rfl
theorem m_kb_207 : m_okB m_me_207 = true := by decide +kernel
theorem m_kt_207 : m_okT m_me_207 = true := by decide +kernel
theorem m_kh_207 : m_me_207.2.2.2.2.1.all (m_okTh m_me_207) = true := by decide +kernel
theorem m_ok_207 : m_okM m_me_207 := ⟨⟨m_code_in m_cd_207, m_kb_207⟩, m_kt_207, m_kh_207⟩
set_option maxRecDepth 100000 in
theorem m_cd_208 : m_codes[232]? = some (m_me_208.1, m_me_208.2.1, m_me_208.2.2.1, m_me_208.2.2.2.1) := rfl
theorem m_kb_208 : m_okB m_me_208 = true := by decide +kernel
theorem m_kt_208 : m_okT m_me_208 = true := by decide +kernel
theorem m_kh_208 : m_me_208.2.2.2.2.1.all (m_okTh m_me_208) = true := by decide +kernel
theorem m_ok_208 : m_okM m_me_208 := ⟨⟨m_code_in m_cd_208, m_kb_208⟩, m_kt_208, m_kh_208⟩
set_option maxRecDepth 100000 in
theorem m_cd_209 : m_codes[233]? = some (m_me_209.1, m_me_209.2.1, m_me_209.2.2.1, m_me_209.2.2.2.1) := rfl
theorem m_kb_209 : m_okB m_me_209 = true := by decide +kernel
theorem m_kt_209 : m_okT m_me_209 = true := by decide +kernel
theorem m_kh_209 : m_me_209.2.2.2.2.1.all (m_okTh m_me_209) = true := by decide +kernel
theorem m_ok_209 : m_okM m_me_209 := ⟨⟨m_code_in m_cd_209, m_kb_209⟩, m_kt_209, m_kh_209⟩
