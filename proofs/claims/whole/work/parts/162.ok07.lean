/-! checks of methods -/
set_option maxRecDepth 100000 in
theorem m_cd_245 : m_codes[269]? = some (m_me_245.1, m_me_245.2.1, m_me_245.2.2.1, m_me_245.2.2.2.1) := rfl
theorem m_kb_245 : m_okB m_me_245 = true := by decide +kernel
theorem m_kt_245 : m_okT m_me_245 = true := by decide +kernel
theorem m_kh_245 : m_me_245.2.2.2.2.1.all (m_okTh m_me_245) = true := by decide +kernel
theorem m_ok_245 : m_okM m_me_245 := ⟨⟨m_code_in m_cd_245, m_kb_245⟩, m_kt_245, m_kh_245⟩
set_option maxRecDepth 100000 in
theorem m_cd_246 : m_codes[270]? = some (m_me_246.1, m_me_246.2.1, m_me_246.2.2.1, m_me_246.2.2.2.1) := rfl
theorem m_kb_246 : m_okB m_me_246 = true := by decide +kernel
theorem m_kt_246 : m_okT m_me_246 = true := by decide +kernel
theorem m_kh_246 : m_me_246.2.2.2.2.1.all (m_okTh m_me_246) = true := by decide +kernel
theorem m_ok_246 : m_okM m_me_246 := ⟨⟨m_code_in m_cd_246, m_kb_246⟩, m_kt_246, m_kh_246⟩
set_option maxRecDepth 100000 in
theorem m_cd_247 : m_codes[271]? = some (m_me_247.1, m_me_247.2.1, m_me_247.2.2.1, m_me_247.2.2.2.1) := rfl
theorem m_kb_247 : m_okB m_me_247 = true := by decide +kernel
theorem m_kt_247 : m_okT m_me_247 = true := by decide +kernel
theorem m_kh_247 : m_me_247.2.2.2.2.1.all (m_okTh m_me_247) = true := by decide +kernel
theorem m_ok_247 : m_okM m_me_247 := ⟨⟨m_code_in m_cd_247, m_kb_247⟩, m_kt_247, m_kh_247⟩
set_option maxRecDepth 100000 in
theorem m_cd_248 : m_codes[272]? = some (m_me_248.1, m_me_248.2.1, m_me_248.2.2.1, m_me_248.2.2.2.1) := rfl
theorem m_kb_248 : m_okB m_me_248 = true := by decide +kernel
theorem m_kt_248 : m_okT m_me_248 = true := by decide +kernel
theorem m_kh_248 : m_me_248.2.2.2.2.1.all (m_okTh m_me_248) = true := by decide +kernel
theorem m_ok_248 : m_okM m_me_248 := ⟨⟨m_code_in m_cd_248, m_kb_248⟩, m_kt_248, m_kh_248⟩
set_option maxRecDepth 100000 in
theorem m_cd_249 : m_codes[273]? = some (m_me_249.1, m_me_249.2.1, m_me_249.2.2.1, m_me_249.2.2.2.1) := rfl
theorem m_kb_249 : m_okB m_me_249 = true := by decide +kernel
theorem m_kt_249 : m_okT m_me_249 = true := by decide +kernel
theorem m_kh_249 : m_me_249.2.2.2.2.1.all (m_okTh m_me_249) = true := by decide +kernel
theorem m_ok_249 : m_okM m_me_249 := ⟨⟨m_code_in m_cd_249, m_kb_249⟩, m_kt_249, m_kh_249⟩
set_option maxRecDepth 100000 in
theorem m_cd_250 : m_codes[274]? = some (m_me_250.1, m_me_250.2.1, m_me_250.2.2.1, m_me_250.2.2.2.1) := rfl
theorem m_kb_250 : m_okB m_me_250 = true := by decide +kernel
theorem m_kt_250 : m_okT m_me_250 = true := by decide +kernel
theorem m_kh_250 : m_me_250.2.2.2.2.1.all (m_okTh m_me_250) = true := by decide +kernel
theorem m_ok_250 : m_okM m_me_250 := ⟨⟨m_code_in m_cd_250, m_kb_250⟩, m_kt_250, m_kh_250⟩
set_option maxRecDepth 100000 in
theorem m_cd_251 : m_codes[275]? = some (m_me_251.1, m_me_251.2.1, m_me_251.2.2.1, m_me_251.2.2.2.1) := rfl
theorem m_kb_251 : m_okB m_me_251 = true := by decide +kernel
theorem m_kt_251 : m_okT m_me_251 = true := by decide +kernel
theorem m_kh_251 : m_me_251.2.2.2.2.1.all (m_okTh m_me_251) = true := by decide +kernel
theorem m_ok_251 : m_okM m_me_251 := ⟨⟨m_code_in m_cd_251, m_kb_251⟩, m_kt_251, m_kh_251⟩
set_option maxRecDepth 100000 in
theorem m_cd_252 : m_codes[276]? = some (m_me_252.1, m_me_252.2.1, m_me_252.2.2.1, m_me_252.2.2.2.1) := rfl
theorem m_kb_252 : m_okB m_me_252 = true := by decide +kernel
theorem m_kt_252 : m_okT m_me_252 = true := by decide +kernel
theorem m_kh_252 : m_me_252.2.2.2.2.1.all (m_okTh m_me_252) = true := by decide +kernel
theorem m_ok_252 : m_okM m_me_252 := ⟨⟨m_code_in m_cd_252, m_kb_252⟩, m_kt_252, m_kh_252⟩
set_option maxRecDepth 100000 in
theorem m_cd_253 : m_codes[277]? = some (m_me_253.1, m_me_253.2.1, m_me_253.2.2.1, m_me_253.2.2.2.1) := rfl
theorem m_kb_253 : m_okB m_me_253 = true := by decide +kernel
theorem m_kt_253 : m_okT m_me_253 = true := by decide +kernel
theorem m_kh_253 : m_me_253.2.2.2.2.1.all (m_okTh m_me_253) = true := by decide +kernel
theorem m_ok_253 : m_okM m_me_253 := ⟨⟨m_code_in m_cd_253, m_kb_253⟩, m_kt_253, m_kh_253⟩
set_option maxRecDepth 100000 in
theorem m_cd_254 : m_codes[278]? = some (m_me_254.1, m_me_254.2.1, m_me_254.2.2.1, m_me_254.2.2.2.1) := rfl
theorem m_kb_254 : m_okB m_me_254 = true := by decide +kernel
theorem m_kt_254 : m_okT m_me_254 = true := by decide +kernel
theorem m_kh_254 : m_me_254.2.2.2.2.1.all (m_okTh m_me_254) = true := by decide +kernel
theorem m_ok_254 : m_okM m_me_254 := ⟨⟨m_code_in m_cd_254, m_kb_254⟩, m_kt_254, m_kh_254⟩
set_option maxRecDepth 100000 in
theorem m_cd_255 : m_codes[279]? = some (m_me_255.1, m_me_255.2.1, m_me_255.2.2.1, m_me_255.2.2.2.1) := rfl
theorem m_kb_255 : m_okB m_me_255 = true := by decide +kernel
theorem m_kt_255 : m_okT m_me_255 = true := by decide +kernel
theorem m_kh_255 : m_me_255.2.2.2.2.1.all (m_okTh m_me_255) = true := by decide +kernel
theorem m_ok_255 : m_okM m_me_255 := ⟨⟨m_code_in m_cd_255, m_kb_255⟩, m_kt_255, m_kh_255⟩
set_option maxRecDepth 100000 in
theorem m_cd_256 : m_codes[280]? = some (m_me_256.1, m_me_256.2.1, m_me_256.2.2.1, m_me_256.2.2.2.1) := rfl
theorem m_kb_256 : m_okB m_me_256 = true := by decide +kernel
theorem m_kt_256 : m_okT m_me_256 = true := by decide +kernel
theorem m_kh_256 : m_me_256.2.2.2.2.1.all (m_okTh m_me_256) = true := by decide +kernel
theorem m_ok_256 : m_okM m_me_256 := ⟨⟨m_code_in m_cd_256, m_kb_256⟩, m_kt_256, m_kh_256⟩
set_option maxRecDepth 100000 in
theorem m_cd_257 : m_codes[281]? = some (m_me_257.1, m_me_257.2.1, m_me_257.2.2.1, m_me_257.2.2.2.1) := rfl
theorem m_kb_257 : m_okB m_me_257 = true := by decide +kernel
theorem m_kt_257 : m_okT m_me_257 = true := by decide +kernel
theorem m_kh_257 : m_me_257.2.2.2.2.1.all (m_okTh m_me_257) = true := by decide +kernel
theorem m_ok_257 : m_okM m_me_257 := ⟨⟨m_code_in m_cd_257, m_kb_257⟩, m_kt_257, m_kh_257⟩
set_option maxRecDepth 100000 in
theorem m_cd_258 : m_codes[282]? = some (m_me_258.1, m_me_258.2.1, m_me_258.2.2.1, m_me_258.2.2.2.1) := rfl
theorem m_kb_258 : m_okB m_me_258 = true := by decide +kernel
theorem m_kt_258 : m_okT m_me_258 = true := by decide +kernel
theorem m_kh_258 : m_me_258.2.2.2.2.1.all (m_okTh m_me_258) = true := by decide +kernel
theorem m_ok_258 : m_okM m_me_258 := ⟨⟨m_code_in m_cd_258, m_kb_258⟩, m_kt_258, m_kh_258⟩
set_option maxRecDepth 100000 in
theorem m_cd_259 : m_codes[283]? = some (m_me_259.1, m_me_259.2.1, m_me_259.2.2.1, m_me_259.2.2.2.1) := rfl
theorem m_kb_259 : m_okB m_me_259 = true := by decide +kernel
theorem m_kt_259 : m_okT m_me_259 = true := by decide +kernel
theorem m_kh_259 : m_me_259.2.2.2.2.1.all (m_okTh m_me_259) = true := by decide +kernel
theorem m_ok_259 : m_okM m_me_259 := ⟨⟨m_code_in m_cd_259, m_kb_259⟩, m_kt_259, m_kh_259⟩
set_option maxRecDepth 100000 in
theorem m_cd_260 : m_codes[284]? = some (m_me_260.1, m_me_260.2.1, m_me_260.2.2.1, m_me_260.2.2.2.1) := rfl
theorem m_kb_260 : m_okB m_me_260 = true := by decide +kernel
theorem m_kt_260 : m_okT m_me_260 = true := by decide +kernel
theorem m_kh_260 : m_me_260.2.2.2.2.1.all (m_okTh m_me_260) = true := by decide +kernel
theorem m_ok_260 : m_okM m_me_260 := ⟨⟨m_code_in m_cd_260, m_kb_260⟩, m_kt_260, m_kh_260⟩
set_option maxRecDepth 100000 in
theorem m_cd_261 : m_codes[285]? = some (m_me_261.1, m_me_261.2.1, m_me_261.2.2.1, m_me_261.2.2.2.1) := rfl
theorem m_kb_261 : m_okB m_me_261 = true := by decide +kernel
theorem m_kt_261 : m_okT m_me_261 = true := by decide +kernel
theorem m_kh_261 : m_me_261.2.2.2.2.1.all (m_okTh m_me_261) = true := by decide +kernel
theorem m_ok_261 : m_okM m_me_261 := ⟨⟨m_code_in m_cd_261, m_kb_261⟩, m_kt_261, m_kh_261⟩
set_option maxRecDepth 100000 in
theorem m_cd_262 : m_codes[286]? = some (m_me_262.1, m_me_262.2.1, m_me_262.2.2.1, m_me_262.2.2.2.1) := rfl
theorem m_kb_262 : m_okB m_me_262 = true := by decide +kernel
theorem m_kt_262 : m_okT m_me_262 = true := by decide +kernel
theorem m_kh_262 : m_me_262.2.2.2.2.1.all (m_okTh m_me_262) = true := by decide +kernel
theorem m_ok_262 : m_okM m_me_262 := ⟨⟨m_code_in m_cd_262, m_kb_262⟩, m_kt_262, m_kh_262⟩
set_option maxRecDepth 100000 in
theorem m_cd_263 : m_codes[287]? = some (m_me_263.1, m_me_263.2.1, m_me_263.2.2.1, m_me_263.2.2.2.1) := rfl
theorem m_kb_263 : m_okB m_me_263 = true := by decide +kernel
theorem m_kt_263 : m_okT m_me_263 = true := by decide +kernel
theorem m_kh_263 : m_me_263.2.2.2.2.1.all (m_okTh m_me_263) = true := by decide +kernel
theorem m_ok_263 : m_okM m_me_263 := ⟨⟨m_code_in m_cd_263, m_kb_263⟩, m_kt_263, m_kh_263⟩
set_option maxRecDepth 100000 in
theorem m_cd_264 : m_codes[288]? = some (m_me_264.1, m_me_264.2.1, m_me_264.2.2.1, m_me_264.2.2.2.1) := rfl
theorem m_kb_264 : m_okB m_me_264 = true := by decide +kernel
theorem m_kt_264 : m_okT m_me_264 = true := by decide +kernel
theorem m_kh_264 : m_me_264.2.2.2.2.1.all (m_okTh m_me_264) = true := by decide +kernel
theorem m_ok_264 : m_okM m_me_264 := ⟨⟨m_code_in m_cd_264, m_kb_264⟩, m_kt_264, m_kh_264⟩
set_option maxRecDepth 100000 in
theorem m_cd_265 : m_codes[289]? = some (m_me_265.1, m_me_265.2.1, m_me_265.2.2.1, m_me_265.2.2.2.1) := rfl
theorem m_kb_265 : m_okB m_me_265 = true := by decide +kernel
theorem m_kt_265 : m_okT m_me_265 = true := by decide +kernel
theorem m_kh_265 : m_me_265.2.2.2.2.1.all (m_okTh m_me_265) = true := by decide +kernel
theorem m_ok_265 : m_okM m_me_265 := ⟨⟨m_code_in m_cd_265, m_kb_265⟩, m_kt_265, m_kh_265⟩
set_option maxRecDepth 100000 in
theorem m_cd_266 : m_codes[290]? = some (m_me_266.1, m_me_266.2.1, m_me_266.2.2.1, m_me_266.2.2.2.1) := rfl
theorem m_kb_266 : m_okB m_me_266 = true := by decide +kernel
theorem m_kt_266 : m_okT m_me_266 = true := by decide +kernel
theorem m_kh_266 : m_me_266.2.2.2.2.1.all (m_okTh m_me_266) = true := by decide +kernel
theorem m_ok_266 : m_okM m_me_266 := ⟨⟨m_code_in m_cd_266, m_kb_266⟩, m_kt_266, m_kh_266⟩
set_option maxRecDepth 100000 in
theorem m_cd_267 : m_codes[291]? = some (m_me_267.1, m_me_267.2.1, m_me_267.2.2.1, m_me_267.2.2.2.1) := rfl
theorem m_kb_267 : m_okB m_me_267 = true := by decide +kernel
theorem m_kt_267 : m_okT m_me_267 = true := by decide +kernel
theorem m_kh_267 : m_me_267.2.2.2.2.1.all (m_okTh m_me_267) = true := by decide +kernel
theorem m_ok_267 : m_okM m_me_267 := ⟨⟨m_code_in m_cd_267, m_kb_267⟩, m_kt_267, m_kh_267⟩
set_option maxRecDepth 100000 in
theorem m_cd_268 : m_codes[292]? = some (m_me_268.1, m_me_268.2.1, m_me_268.2.2.1, m_me_268.2.2.2.1) := rfl
theorem m_kb_268 : m_okB m_me_268 = true := by decide +kernel
theorem m_kt_268 : m_okT m_me_268 = true := by decide +kernel
theorem m_kh_268 : m_me_268.2.2.2.2.1.all (m_okTh m_me_268) = true := by decide +kernel
theorem m_ok_268 : m_okM m_me_268 := ⟨⟨m_code_in m_cd_268, m_kb_268⟩, m_kt_268, m_kh_268⟩
set_option maxRecDepth 100000 in
theorem m_cd_269 : m_codes[293]? = some (m_me_269.1, m_me_269.2.1, m_me_269.2.2.1, m_me_269.2.2.2.1) := rfl
theorem m_kb_269 : m_okB m_me_269 = true := by decide +kernel
theorem m_kt_269 : m_okT m_me_269 = true := by decide +kernel
theorem m_kh_269 : m_me_269.2.2.2.2.1.all (m_okTh m_me_269) = true := by decide +kernel
theorem m_ok_269 : m_okM m_me_269 := ⟨⟨m_code_in m_cd_269, m_kb_269⟩, m_kt_269, m_kh_269⟩
set_option maxRecDepth 100000 in
theorem m_cd_270 : m_codes[294]? = some (m_me_270.1, m_me_270.2.1, m_me_270.2.2.1, m_me_270.2.2.2.1) := rfl
theorem m_kb_270 : m_okB m_me_270 = true := by decide +kernel
theorem m_kt_270 : m_okT m_me_270 = true := by decide +kernel
theorem m_kh_270 : m_me_270.2.2.2.2.1.all (m_okTh m_me_270) = true := by decide +kernel
theorem m_ok_270 : m_okM m_me_270 := ⟨⟨m_code_in m_cd_270, m_kb_270⟩, m_kt_270, m_kh_270⟩
set_option maxRecDepth 100000 in
theorem m_cd_271 : m_codes[295]? = some (m_me_271.1, m_me_271.2.1, m_me_271.2.2.1, m_me_271.2.2.2.1) := rfl
theorem m_kb_271 : m_okB m_me_271 = true := by decide +kernel
theorem m_kt_271 : m_okT m_me_271 = true := by decide +kernel
theorem m_kh_271 : m_me_271.2.2.2.2.1.all (m_okTh m_me_271) = true := by decide +kernel
theorem m_ok_271 : m_okM m_me_271 := ⟨⟨m_code_in m_cd_271, m_kb_271⟩, m_kt_271, m_kh_271⟩
set_option maxRecDepth 100000 in
theorem m_cd_272 : m_codes[296]? = some (m_me_272.1, m_me_272.2.1, m_me_272.2.2.1, m_me_272.2.2.2.1) := rfl
theorem m_kb_272 : m_okB m_me_272 = true := by decide +kernel
theorem m_kt_272 : m_okT m_me_272 = true := by decide +kernel
theorem m_kh_272 : m_me_272.2.2.2.2.1.all (m_okTh m_me_272) = true := by decide +kernel
theorem m_ok_272 : m_okM m_me_272 := ⟨⟨m_code_in m_cd_272, m_kb_272⟩, m_kt_272, m_kh_272⟩
set_option maxRecDepth 100000 in
theorem m_cd_273 : m_codes[297]? = some (m_me_273.1, m_me_273.2.1, m_me_273.2.2.1, m_me_273.2.2.2.1) := rfl
theorem m_kb_273 : m_okB m_me_273 = true := by decide +kernel
theorem m_kt_273 : m_okT m_me_273 = true := by decide +kernel
theorem m_kh_273 : m_me_273.2.2.2.2.1.all (m_okTh m_me_273) = true := by decide +kernel
theorem m_ok_273 : m_okM m_me_273 := ⟨⟨m_code_in m_cd_273, m_kb_273⟩, m_kt_273, m_kh_273⟩
set_option maxRecDepth 100000 in
theorem m_cd_274 : m_codes[298]? = some (m_me_274.1, m_me_274.2.1, m_me_274.2.2.1, m_me_274.2.2.2.1) := rfl
theorem m_kb_274 : m_okB m_me_274 = true := by decide +kernel
theorem m_kt_274 : m_okT m_me_274 = true := by decide +kernel
theorem m_kh_274 : m_me_274.2.2.2.2.1.all (m_okTh m_me_274) = true := by decide +kernel
theorem m_ok_274 : m_okM m_me_274 := ⟨⟨m_code_in m_cd_274, m_kb_274⟩, m_kt_274, m_kh_274⟩
set_option maxRecDepth 100000 in
theorem m_cd_275 : m_codes[299]? = some (m_me_275.1, m_me_275.2.1, m_me_275.2.2.1, m_me_275.2.2.2.1) := rfl
theorem m_kb_275 : m_okB m_me_275 = true := by decide +kernel
theorem m_kt_275 : m_okT m_me_275 = true := by decide +kernel
theorem m_kh_275 : m_me_275.2.2.2.2.1.all (m_okTh m_me_275) = true := by decide +kernel
theorem m_ok_275 : m_okM m_me_275 := ⟨⟨m_code_in m_cd_275, m_kb_275⟩, m_kt_275, m_kh_275⟩
set_option maxRecDepth 100000 in
theorem m_cd_276 : m_codes[300]? = some (m_me_276.1, m_me_276.2.1, m_me_276.2.2.1, m_me_276.2.2.2.1) := rfl
theorem m_kb_276 : m_okB m_me_276 = true := by decide +kernel
theorem m_kt_276 : m_okT m_me_276 = true := by decide +kernel
theorem m_kh_276 : m_me_276.2.2.2.2.1.all (m_okTh m_me_276) = true := by decide +kernel
theorem m_ok_276 : m_okM m_me_276 := ⟨⟨m_code_in m_cd_276, m_kb_276⟩, m_kt_276, m_kh_276⟩
set_option maxRecDepth 100000 in
theorem m_cd_277 : m_codes[301]? = some (m_me_277.1, m_me_277.2.1, m_me_277.2.2.1, m_me_277.2.2.2.1) := rfl
theorem m_kb_277 : m_okB m_me_277 = true := by decide +kernel
theorem m_kt_277 : m_okT m_me_277 = true := by decide +kernel
theorem m_kh_277 : m_me_277.2.2.2.2.1.all (m_okTh m_me_277) = true := by decide +kernel
theorem m_ok_277 : m_okM m_me_277 := ⟨⟨m_code_in m_cd_277, m_kb_277⟩, m_kt_277, m_kh_277⟩
set_option maxRecDepth 100000 in
theorem m_cd_278 : m_codes[302]? = some (m_me_278.1, m_me_278.2.1, m_me_278.2.2.1, m_me_278.2.2.2.1) := rfl
theorem m_kb_278 : m_okB m_me_278 = true := by decide +kernel
theorem m_kt_278 : m_okT m_me_278 = true := by decide +kernel
theorem m_kh_278 : m_me_278.2.2.2.2.1.all (m_okTh m_me_278) = true := by decide +kernel
theorem m_ok_278 : m_okM m_me_278 := ⟨⟨m_code_in m_cd_278, m_kb_278⟩, m_kt_278, m_kh_278⟩
set_option maxRecDepth 100000 in
theorem m_cd_279 : m_codes[303]? = some (m_me_279.1, m_me_279.2.1, m_me_279.2.2.1, m_me_279.2.2.2.1) := rfl
theorem m_kb_279 : m_okB m_me_279 = true := by decide +kernel
theorem m_kt_279 : m_okT m_me_279 = true := by decide +kernel
theorem m_kh_279 : m_me_279.2.2.2.2.1.all (m_okTh m_me_279) = true := by decide +kernel
theorem m_ok_279 : m_okM m_me_279 := ⟨⟨m_code_in m_cd_279, m_kb_279⟩, m_kt_279, m_kh_279⟩
