/-! checks of methods -/
set_option maxRecDepth 100000 in
theorem m_cd_210 : m_codes[234]? = some (m_me_210.1, m_me_210.2.1, m_me_210.2.2.1, m_me_210.2.2.2.1) := rfl
theorem m_kb_210 : m_okB m_me_210 = true := by decide +kernel
theorem m_kt_210 : m_okT m_me_210 = true := by decide +kernel
theorem m_kh_210 : m_me_210.2.2.2.2.1.all (m_okTh m_me_210) = true := by decide +kernel
theorem m_ok_210 : m_okM m_me_210 := ⟨⟨m_code_in m_cd_210, m_kb_210⟩, m_kt_210, m_kh_210⟩
set_option maxRecDepth 100000 in
theorem m_cd_211 : m_codes[235]? = some (m_me_211.1, m_me_211.2.1, m_me_211.2.2.1, m_me_211.2.2.2.1) := rfl
theorem m_kb_211 : m_okB m_me_211 = true := by decide +kernel
theorem m_kt_211 : m_okT m_me_211 = true := by decide +kernel
theorem m_kh_211 : m_me_211.2.2.2.2.1.all (m_okTh m_me_211) = true := by decide +kernel
theorem m_ok_211 : m_okM m_me_211 := ⟨⟨m_code_in m_cd_211, m_kb_211⟩, m_kt_211, m_kh_211⟩
set_option maxRecDepth 100000 in
theorem m_cd_212 : m_codes[236]? = some (m_me_212.1, m_me_212.2.1, m_me_212.2.2.1, m_me_212.2.2.2.1) := rfl
theorem m_kb_212 : m_okB m_me_212 = true := by decide +kernel
theorem m_kt_212 : m_okT m_me_212 = true := by decide +kernel
theorem m_kh_212 : m_me_212.2.2.2.2.1.all (m_okTh m_me_212) = true := by decide +kernel
theorem m_ok_212 : m_okM m_me_212 := ⟨⟨m_code_in m_cd_212, m_kb_212⟩, m_kt_212, m_kh_212⟩
set_option maxRecDepth 100000 in
theorem m_cd_213 : m_codes[237]? = some (m_me_213.1, m_me_213.2.1, m_me_213.2.2.1, m_me_213.2.2.2.1) := rfl
theorem m_kb_213 : m_okB m_me_213 = true := by decide +kernel
theorem m_kt_213 : m_okT m_me_213 = true := by decide +kernel
theorem m_kh_213 : m_me_213.2.2.2.2.1.all (m_okTh m_me_213) = true := by decide +kernel
theorem m_ok_213 : m_okM m_me_213 := ⟨⟨m_code_in m_cd_213, m_kb_213⟩, m_kt_213, m_kh_213⟩
set_option maxRecDepth 100000 in
theorem m_cd_214 : m_codes[238]? = some (m_me_214.1, m_me_214.2.1, m_me_214.2.2.1, m_me_214.2.2.2.1) := rfl
theorem m_kb_214 : m_okB m_me_214 = true := by decide +kernel
theorem m_kt_214 : m_okT m_me_214 = true := by decide +kernel
theorem m_kh_214 : m_me_214.2.2.2.2.1.all (m_okTh m_me_214) = true := by decide +kernel
theorem m_ok_214 : m_okM m_me_214 := ⟨⟨m_code_in m_cd_214, m_kb_214⟩, m_kt_214, m_kh_214⟩
set_option maxRecDepth 100000 in
theorem m_cd_215 : m_codes[239]? = some (m_me_215.1, m_me_215.2.1, m_me_215.2.2.1, m_me_215.2.2.2.1) := rfl
theorem m_kb_215 : m_okB m_me_215 = true := by decide +kernel
theorem m_kt_215 : m_okT m_me_215 = true := by decide +kernel
theorem m_kh_215 : m_me_215.2.2.2.2.1.all (m_okTh m_me_215) = true := by decide +kernel
theorem m_ok_215 : m_okM m_me_215 := ⟨⟨m_code_in m_cd_215, m_kb_215⟩, m_kt_215, m_kh_215⟩
set_option maxRecDepth 100000 in
theorem m_cd_216 : m_codes[240]? = some (m_me_216.1, m_me_216.2.1, m_me_216.2.2.1, m_me_216.2.2.2.1) := rfl
theorem m_kb_216 : m_okB m_me_216 = true := by decide +kernel
theorem m_kt_216 : m_okT m_me_216 = true := by decide +kernel
theorem m_kh_216 : m_me_216.2.2.2.2.1.all (m_okTh m_me_216) = true := by decide +kernel
theorem m_ok_216 : m_okM m_me_216 := ⟨⟨m_code_in m_cd_216, m_kb_216⟩, m_kt_216, m_kh_216⟩
set_option maxRecDepth 100000 in
theorem m_cd_217 : m_codes[241]? = some (m_me_217.1, m_me_217.2.1, m_me_217.2.2.1, m_me_217.2.2.2.1) := rfl
theorem m_kb_217 : m_okB m_me_217 = true := by decide +kernel
theorem m_kt_217 : m_okT m_me_217 = true := by decide +kernel
theorem m_kh_217 : m_me_217.2.2.2.2.1.all (m_okTh m_me_217) = true := by decide +kernel
theorem m_ok_217 : m_okM m_me_217 := ⟨⟨m_code_in m_cd_217, m_kb_217⟩, m_kt_217, m_kh_217⟩
set_option maxRecDepth 100000 in
theorem m_cd_218 : m_codes[242]? = some (m_me_218.1, m_me_218.2.1, m_me_218.2.2.1, m_me_218.2.2.2.1) := rfl
theorem m_kb_218 : m_okB m_me_218 = true := by decide +kernel
theorem m_kt_218 : m_okT m_me_218 = true := by decide +kernel
theorem m_kh_218 : m_me_218.2.2.2.2.1.all (m_okTh m_me_218) = true := by decide +kernel
theorem m_ok_218 : m_okM m_me_218 := ⟨⟨m_code_in m_cd_218, m_kb_218⟩, m_kt_218, m_kh_218⟩
set_option maxRecDepth 100000 in
theorem m_cd_219 : m_codes[243]? = some (m_me_219.1, m_me_219.2.1, m_me_219.2.2.1, m_me_219.2.2.2.1) := rfl
theorem m_kb_219 : m_okB m_me_219 = true := by decide +kernel
theorem m_kt_219 : m_okT m_me_219 = true := by decide +kernel
theorem m_kh_219 : m_me_219.2.2.2.2.1.all (m_okTh m_me_219) = true := by decide +kernel
theorem m_ok_219 : m_okM m_me_219 := ⟨⟨m_code_in m_cd_219, m_kb_219⟩, m_kt_219, m_kh_219⟩
set_option maxRecDepth 100000 in
theorem m_cd_220 : m_codes[244]? = some (m_me_220.1, m_me_220.2.1, m_me_220.2.2.1, m_me_220.2.2.2.1) := rfl
theorem m_kb_220 : m_okB m_me_220 = true := by decide +kernel
theorem m_kt_220 : m_okT m_me_220 = true := by decide +kernel
theorem m_kh_220 : m_me_220.2.2.2.2.1.all (m_okTh m_me_220) = true := by decide +kernel
theorem m_ok_220 : m_okM m_me_220 := ⟨⟨m_code_in m_cd_220, m_kb_220⟩, m_kt_220, m_kh_220⟩
set_option maxRecDepth 100000 in
theorem m_cd_221 : m_codes[245]? = some (m_me_221.1, m_me_221.2.1, m_me_221.2.2.1, m_me_221.2.2.2.1) := rfl
theorem m_kb_221 : m_okB m_me_221 = true := by decide +kernel
theorem m_kt_221 : m_okT m_me_221 = true := by decide +kernel
theorem m_kh_221 : m_me_221.2.2.2.2.1.all (m_okTh m_me_221) = true := by decide +kernel
theorem m_ok_221 : m_okM m_me_221 := ⟨⟨m_code_in m_cd_221, m_kb_221⟩, m_kt_221, m_kh_221⟩
set_option maxRecDepth 100000 in
theorem m_cd_222 : m_codes[246]? = some (m_me_222.1, m_me_222.2.1, m_me_222.2.2.1, m_me_222.2.2.2.1) := rfl
theorem m_kb_222 : m_okB m_me_222 = true := by decide +kernel
theorem m_kt_222 : m_okT m_me_222 = true := by decide +kernel
theorem m_kh_222 : m_me_222.2.2.2.2.1.all (m_okTh m_me_222) = true := by decide +kernel
theorem m_ok_222 : m_okM m_me_222 := ⟨⟨m_code_in m_cd_222, m_kb_222⟩, m_kt_222, m_kh_222⟩
set_option maxRecDepth 100000 in
theorem m_cd_223 : m_codes[247]? = some (m_me_223.1, m_me_223.2.1, m_me_223.2.2.1, m_me_223.2.2.2.1) := rfl
theorem m_kb_223 : m_okB m_me_223 = true := by decide +kernel
theorem m_kt_223 : m_okT m_me_223 = true := by decide +kernel
theorem m_kh_223 : m_me_223.2.2.2.2.1.all (m_okTh m_me_223) = true := by decide +kernel
theorem m_ok_223 : m_okM m_me_223 := ⟨⟨m_code_in m_cd_223, m_kb_223⟩, m_kt_223, m_kh_223⟩
set_option maxRecDepth 100000 in
theorem m_cd_224 : m_codes[248]? = some (m_me_224.1, m_me_224.2.1, m_me_224.2.2.1, m_me_224.2.2.2.1) := rfl
theorem m_kb_224 : m_okB m_me_224 = true := by decide +kernel
theorem m_kt_224 : m_okT m_me_224 = true := by decide +kernel
theorem m_kh_224 : m_me_224.2.2.2.2.1.all (m_okTh m_me_224) = true := by decide +kernel
theorem m_ok_224 : m_okM m_me_224 := ⟨⟨m_code_in m_cd_224, m_kb_224⟩, m_kt_224, m_kh_224⟩
set_option maxRecDepth 100000 in
theorem m_cd_225 : m_codes[249]? = some (m_me_225.1, m_me_225.2.1, m_me_225.2.2.1, m_me_225.2.2.2.1) := rfl
theorem m_kb_225 : m_okB m_me_225 = true := by decide +kernel
theorem m_kt_225 : m_okT m_me_225 = true := by decide +kernel
theorem m_kh_225 : m_me_225.2.2.2.2.1.all (m_okTh m_me_225) = true := by decide +kernel
theorem m_ok_225 : m_okM m_me_225 := ⟨⟨m_code_in m_cd_225, m_kb_225⟩, m_kt_225, m_kh_225⟩
set_option maxRecDepth 100000 in
theorem m_cd_226 : m_codes[250]? = some (m_me_226.1, m_me_226.2.1, m_me_226.2.2.1, m_me_226.2.2.2.1) := rfl
theorem m_kb_226 : m_okB m_me_226 = true := by decide +kernel
theorem m_kt_226 : m_okT m_me_226 = true := by decide +kernel
theorem m_kh_226 : m_me_226.2.2.2.2.1.all (m_okTh m_me_226) = true := by decide +kernel
theorem m_ok_226 : m_okM m_me_226 := ⟨⟨m_code_in m_cd_226, m_kb_226⟩, m_kt_226, m_kh_226⟩
set_option maxRecDepth 100000 in
theorem m_cd_227 : m_codes[251]? = some (m_me_227.1, m_me_227.2.1, m_me_227.2.2.1, m_me_227.2.2.2.1) := rfl
theorem m_kb_227 : m_okB m_me_227 = true := by decide +kernel
theorem m_kt_227 : m_okT m_me_227 = true := by decide +kernel
theorem m_kh_227 : m_me_227.2.2.2.2.1.all (m_okTh m_me_227) = true := by decide +kernel
theorem m_ok_227 : m_okM m_me_227 := ⟨⟨m_code_in m_cd_227, m_kb_227⟩, m_kt_227, m_kh_227⟩
set_option maxRecDepth 100000 in
theorem m_cd_228 : m_codes[252]? = some (m_me_228.1, m_me_228.2.1, m_me_228.2.2.1, m_me_228.2.2.2.1) := rfl
theorem m_kb_228 : m_okB m_me_228 = true := by decide +kernel
theorem m_kt_228 : m_okT m_me_228 = true := by decide +kernel
theorem m_kh_228 : m_me_228.2.2.2.2.1.all (m_okTh m_me_228) = true := by decide +kernel
theorem m_ok_228 : m_okM m_me_228 := ⟨⟨m_code_in m_cd_228, m_kb_228⟩, m_kt_228, m_kh_228⟩
set_option maxRecDepth 100000 in
theorem m_cd_229 : m_codes[253]? = some (m_me_229.1, m_me_229.2.1, m_me_229.2.2.1, m_me_229.2.2.2.1) := rfl
theorem m_kb_229 : m_okB m_me_229 = true := by decide +kernel
theorem m_kt_229 : m_okT m_me_229 = true := by decide +kernel
theorem m_kh_229 : m_me_229.2.2.2.2.1.all (m_okTh m_me_229) = true := by decide +kernel
theorem m_ok_229 : m_okM m_me_229 := ⟨⟨m_code_in m_cd_229, m_kb_229⟩, m_kt_229, m_kh_229⟩
set_option maxRecDepth 100000 in
theorem m_cd_230 : m_codes[254]? = some (m_me_230.1, m_me_230.2.1, m_me_230.2.2.1, m_me_230.2.2.2.1) := rfl
theorem m_kb_230 : m_okB m_me_230 = true := by decide +kernel
theorem m_kt_230 : m_okT m_me_230 = true := by decide +kernel
theorem m_kh_230 : m_me_230.2.2.2.2.1.all (m_okTh m_me_230) = true := by decide +kernel
theorem m_ok_230 : m_okM m_me_230 := ⟨⟨m_code_in m_cd_230, m_kb_230⟩, m_kt_230, m_kh_230⟩
set_option maxRecDepth 100000 in
theorem m_cd_231 : m_codes[255]? = some (m_me_231.1, m_me_231.2.1, m_me_231.2.2.1, m_me_231.2.2.2.1) := rfl
theorem m_kb_231 : m_okB m_me_231 = true := by decide +kernel
theorem m_kt_231 : m_okT m_me_231 = true := by decide +kernel
theorem m_kh_231 : m_me_231.2.2.2.2.1.all (m_okTh m_me_231) = true := by decide +kernel
theorem m_ok_231 : m_okM m_me_231 := ⟨⟨m_code_in m_cd_231, m_kb_231⟩, m_kt_231, m_kh_231⟩
set_option maxRecDepth 100000 in
theorem m_cd_232 : m_codes[256]? = some (m_me_232.1, m_me_232.2.1, m_me_232.2.2.1, m_me_232.2.2.2.1) := rfl
theorem m_kb_232 : m_okB m_me_232 = true := by decide +kernel
theorem m_kt_232 : m_okT m_me_232 = true := by decide +kernel
theorem m_kh_232 : m_me_232.2.2.2.2.1.all (m_okTh m_me_232) = true := by decide +kernel
theorem m_ok_232 : m_okM m_me_232 := ⟨⟨m_code_in m_cd_232, m_kb_232⟩, m_kt_232, m_kh_232⟩
set_option maxRecDepth 100000 in
theorem m_cd_233 : m_codes[257]? = some (m_me_233.1, m_me_233.2.1, m_me_233.2.2.1, m_me_233.2.2.2.1) := rfl
theorem m_kb_233 : m_okB m_me_233 = true := by decide +kernel
theorem m_kt_233 : m_okT m_me_233 = true := by decide +kernel
theorem m_kh_233 : m_me_233.2.2.2.2.1.all (m_okTh m_me_233) = true := by decide +kernel
theorem m_ok_233 : m_okM m_me_233 := ⟨⟨m_code_in m_cd_233, m_kb_233⟩, m_kt_233, m_kh_233⟩
set_option maxRecDepth 100000 in
theorem m_cd_234 : m_codes[258]? = some (m_me_234.1, m_me_234.2.1, m_me_234.2.2.1, m_me_234.2.2.2.1) := rfl
theorem m_kb_234 : m_okB m_me_234 = true := by decide +kernel
theorem m_kt_234 : m_okT m_me_234 = true := by decide +kernel
theorem m_kh_234 : m_me_234.2.2.2.2.1.all (m_okTh m_me_234) = true := by decide +kernel
theorem m_ok_234 : m_okM m_me_234 := ⟨⟨m_code_in m_cd_234, m_kb_234⟩, m_kt_234, m_kh_234⟩
set_option maxRecDepth 100000 in
theorem m_cd_235 : m_codes[259]? = some (m_me_235.1, m_me_235.2.1, m_me_235.2.2.1, m_me_235.2.2.2.1) := rfl
theorem m_kb_235 : m_okB m_me_235 = true := by decide +kernel
theorem m_kt_235 : m_okT m_me_235 = true := by decide +kernel
theorem m_kh_235 : m_me_235.2.2.2.2.1.all (m_okTh m_me_235) = true := by decide +kernel
theorem m_ok_235 : m_okM m_me_235 := ⟨⟨m_code_in m_cd_235, m_kb_235⟩, m_kt_235, m_kh_235⟩
set_option maxRecDepth 100000 in
theorem m_cd_236 : m_codes[260]? = some (m_me_236.1, m_me_236.2.1, m_me_236.2.2.1, m_me_236.2.2.2.1) := rfl
theorem m_kb_236 : m_okB m_me_236 = true := by decide +kernel
theorem m_kt_236 : m_okT m_me_236 = true := by decide +kernel
theorem m_kh_236 : m_me_236.2.2.2.2.1.all (m_okTh m_me_236) = true := by decide +kernel
theorem m_ok_236 : m_okM m_me_236 := ⟨⟨m_code_in m_cd_236, m_kb_236⟩, m_kt_236, m_kh_236⟩
set_option maxRecDepth 100000 in
theorem m_cd_237 : m_codes[261]? = some (m_me_237.1, m_me_237.2.1, m_me_237.2.2.1, m_me_237.2.2.2.1) := rfl
theorem m_kb_237 : m_okB m_me_237 = true := by decide +kernel
theorem m_kt_237 : m_okT m_me_237 = true := by decide +kernel
theorem m_kh_237 : m_me_237.2.2.2.2.1.all (m_okTh m_me_237) = true := by decide +kernel
theorem m_ok_237 : m_okM m_me_237 := ⟨⟨m_code_in m_cd_237, m_kb_237⟩, m_kt_237, m_kh_237⟩
set_option maxRecDepth 100000 in
theorem m_cd_238 : m_codes[262]? = some (m_me_238.1, m_me_238.2.1, m_me_238.2.2.1, m_me_238.2.2.2.1) := rfl
theorem m_kb_238 : m_okB m_me_238 = true := by decide +kernel
theorem m_kt_238 : m_okT m_me_238 = true := by decide +kernel
theorem m_kh_238 : m_me_238.2.2.2.2.1.all (m_okTh m_me_238) = true := by decide +kernel
theorem m_ok_238 : m_okM m_me_238 := ⟨⟨m_code_in m_cd_238, m_kb_238⟩, m_kt_238, m_kh_238⟩
set_option maxRecDepth 100000 in
theorem m_cd_239 : m_codes[263]? = some (m_me_239.1, m_me_239.2.1, m_me_239.2.2.1, m_me_239.2.2.2.1) := rfl
theorem m_kb_239 : m_okB m_me_239 = true := by decide +kernel
theorem m_kt_239 : m_okT m_me_239 = true := by decide +kernel
theorem m_kh_239 : m_me_239.2.2.2.2.1.all (m_okTh m_me_239) = true := by decide +kernel
theorem m_ok_239 : m_okM m_me_239 := ⟨⟨m_code_in m_cd_239, m_kb_239⟩, m_kt_239, m_kh_239⟩
set_option maxRecDepth 100000 in
theorem m_cd_240 : m_codes[264]? = some (m_me_240.1, m_me_240.2.1, m_me_240.2.2.1, m_me_240.2.2.2.1) := rfl
theorem m_kb_240 : m_okB m_me_240 = true := by decide +kernel
theorem m_kt_240 : m_okT m_me_240 = true := by decide +kernel
theorem m_kh_240 : m_me_240.2.2.2.2.1.all (m_okTh m_me_240) = true := by decide +kernel
theorem m_ok_240 : m_okM m_me_240 := ⟨⟨m_code_in m_cd_240, m_kb_240⟩, m_kt_240, m_kh_240⟩
set_option maxRecDepth 100000 in
theorem m_cd_241 : m_codes[265]? = some (m_me_241.1, m_me_241.2.1, m_me_241.2.2.1, m_me_241.2.2.2.1) := rfl
theorem m_kb_241 : m_okB m_me_241 = true := by decide +kernel
theorem m_kt_241 : m_okT m_me_241 = true := by decide +kernel
theorem m_kh_241 : m_me_241.2.2.2.2.1.all (m_okTh m_me_241) = true := by decide +kernel
theorem m_ok_241 : m_okM m_me_241 := ⟨⟨m_code_in m_cd_241, m_kb_241⟩, m_kt_241, m_kh_241⟩
set_option maxRecDepth 100000 in
theorem m_cd_242 : m_codes[266]? = some (m_me_242.1, m_me_242.2.1, m_me_242.2.2.1, m_me_242.2.2.2.1) := rfl
theorem m_kb_242 : m_okB m_me_242 = true := by decide +kernel
theorem m_kt_242 : m_okT m_me_242 = true := by decide +kernel
theorem m_kh_242 : m_me_242.2.2.2.2.1.all (m_okTh m_me_242) = true := by decide +kernel
theorem m_ok_242 : m_okM m_me_242 := ⟨⟨m_code_in m_cd_242, m_kb_242⟩, m_kt_242, m_kh_242⟩
set_option maxRecDepth 100000 in
theorem m_cd_243 : m_codes[267]? = some (m_me_243.1, m_me_243.2.1, m_me_243.2.2.1, m_me_243.2.2.2.1) := rfl
theorem m_kb_243 : m_okB m_me_243 = true := by decide +kernel
theorem m_kt_243 : m_okT m_me_243 = true := by decide +kernel
theorem m_kh_243 : m_me_243.2.2.2.2.1.all (m_okTh m_me_243) = true := by decide +kernel
theorem m_ok_243 : m_okM m_me_243 := ⟨⟨m_code_in m_cd_243, m_kb_243⟩, m_kt_243, m_kh_243⟩
set_option maxRecDepth 100000 in
theorem m_cd_244 : m_codes[268]? = some (m_me_244.1, m_me_244.2.1, m_me_244.2.2.1, m_me_244.2.2.2.1) := rfl
theorem m_kb_244 : m_okB m_me_244 = true := by decide +kernel
theorem m_kt_244 : m_okT m_me_244 = true := by decide +kernel
theorem m_kh_244 : m_me_244.2.2.2.2.1.all (m_okTh m_me_244) = true := by decide +kernel
theorem m_ok_244 : m_okM m_me_244 := ⟨⟨m_code_in m_cd_244, m_kb_244⟩, m_kt_244, m_kh_244⟩
