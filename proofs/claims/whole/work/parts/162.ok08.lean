/-! checks of methods -/
set_option maxRecDepth 100000 in
theorem m_cd_280 : m_codes[304]? = some (m_me_280.1, m_me_280.2.1, m_me_280.2.2.1, m_me_280.2.2.2.1) := rfl
theorem m_kb_280 : m_okB m_me_280 = true := by decide +kernel
theorem m_kt_280 : m_okT m_me_280 = true := by decide +kernel
theorem m_kh_280 : m_me_280.2.2.2.2.1.all (m_okTh m_me_280) = true := by decide +kernel
theorem m_ok_280 : m_okM m_me_280 := ⟨⟨m_code_in m_cd_280, m_kb_280⟩, m_kt_280, m_kh_280⟩
set_option maxRecDepth 100000 in
theorem m_cd_281 : m_codes[305]? = some (m_me_281.1, m_me_281.2.1, m_me_281.2.2.1, m_me_281.2.2.2.1) := rfl
theorem m_kb_281 : m_okB m_me_281 = true := by decide +kernel
theorem m_kt_281 : m_okT m_me_281 = true := by decide +kernel
theorem m_kh_281 : m_me_281.2.2.2.2.1.all (m_okTh m_me_281) = true := by decide +kernel
theorem m_ok_281 : m_okM m_me_281 := ⟨⟨m_code_in m_cd_281, m_kb_281⟩, m_kt_281, m_kh_281⟩
set_option maxRecDepth 100000 in
theorem m_cd_282 : m_codes[306]? = some (m_me_282.1, m_me_282.2.1, m_me_282.2.2.1, m_me_282.2.2.2.1) := rfl
theorem m_kb_282 : m_okB m_me_282 = true := by decide +kernel
theorem m_kt_282 : m_okT m_me_282 = true := by decide +kernel
theorem m_kh_282 : m_me_282.2.2.2.2.1.all (m_okTh m_me_282) = true := by decide +kernel
theorem m_ok_282 : m_okM m_me_282 := ⟨⟨m_code_in m_cd_282, m_kb_282⟩, m_kt_282, m_kh_282⟩
set_option maxRecDepth 100000 in
theorem m_cd_283 : m_codes[307]? = some (m_me_283.1, m_me_283.2.1, m_me_283.2.2.1, m_me_283.2.2.2.1) := rfl
theorem m_kb_283 : m_okB m_me_283 = true := by decide +kernel
theorem m_kt_283 : m_okT m_me_283 = true := by decide +kernel
theorem m_kh_283 : m_me_283.2.2.2.2.1.all (m_okTh m_me_283) = true := by decide +kernel
theorem m_ok_283 : m_okM m_me_283 := ⟨⟨m_code_in m_cd_283, m_kb_283⟩, m_kt_283, m_kh_283⟩
set_option maxRecDepth 100000 in
theorem m_cd_284 : m_codes[308]? = some (m_me_284.1, m_me_284.2.1, m_me_284.2.2.1, m_me_284.2.2.2.1) := rfl
theorem m_kb_284 : m_okB m_me_284 = true := by decide +kernel
theorem m_kt_284 : m_okT m_me_284 = true := by decide +kernel
theorem m_kh_284 : m_me_284.2.2.2.2.1.all (m_okTh m_me_284) = true := by decide +kernel
theorem m_ok_284 : m_okM m_me_284 := ⟨⟨m_code_in m_cd_284, m_kb_284⟩, m_kt_284, m_kh_284⟩
set_option maxRecDepth 100000 in
theorem m_cd_285 : m_codes[309]? = some (m_me_285.1, m_me_285.2.1, m_me_285.2.2.1, m_me_285.2.2.2.1) := rfl
theorem m_kb_285 : m_okB m_me_285 = true := by decide +kernel
theorem m_kt_285 : m_okT m_me_285 = true := by decide +kernel
theorem m_kh_285 : m_me_285.2.2.2.2.1.all (m_okTh m_me_285) = true := by decide +kernel
theorem m_ok_285 : m_okM m_me_285 := ⟨⟨m_code_in m_cd_285, m_kb_285⟩, m_kt_285, m_kh_285⟩
set_option maxRecDepth 100000 in
theorem m_cd_286 : m_codes[310]? = some (m_me_286.1, m_me_286.2.1, m_me_286.2.2.1, m_me_286.2.2.2.1) := rfl
theorem m_kb_286 : m_okB m_me_286 = true := by decide +kernel
theorem m_kt_286 : m_okT m_me_286 = true := by decide +kernel
theorem m_kh_286 : m_me_286.2.2.2.2.1.all (m_okTh m_me_286) = true := by decide +kernel
theorem m_ok_286 : m_okM m_me_286 := ⟨⟨m_code_in m_cd_286, m_kb_286⟩, m_kt_286, m_kh_286⟩
set_option maxRecDepth 100000 in
theorem m_cd_287 : m_codes[311]? = some (m_me_287.1, m_me_287.2.1, m_me_287.2.2.1, m_me_287.2.2.2.1) := rfl
theorem m_kb_287 : m_okB m_me_287 = true := by decide +kernel
theorem m_kt_287 : m_okT m_me_287 = true := by decide +kernel
theorem m_kh_287 : m_me_287.2.2.2.2.1.all (m_okTh m_me_287) = true := by decide +kernel
theorem m_ok_287 : m_okM m_me_287 := ⟨⟨m_code_in m_cd_287, m_kb_287⟩, m_kt_287, m_kh_287⟩
set_option maxRecDepth 100000 in
theorem m_cd_288 : m_codes[312]? = some (m_me_288.1, m_me_288.2.1, m_me_288.2.2.1, m_me_288.2.2.2.1) := rfl
theorem m_kb_288 : m_okB m_me_288 = true := by decide +kernel
theorem m_kt_288 : m_okT m_me_288 = true := by decide +kernel
theorem m_kh_288 : m_me_288.2.2.2.2.1.all (m_okTh m_me_288) = true := by decide +kernel
theorem m_ok_288 : m_okM m_me_288 := ⟨⟨m_code_in m_cd_288, m_kb_288⟩, m_kt_288, m_kh_288⟩
set_option maxRecDepth 100000 in
theorem m_cd_289 : m_codes[313]? = some (m_me_289.1, m_me_289.2.1, m_me_289.2.2.1, m_me_289.2.2.2.1) := rfl
theorem m_kb_289 : m_okB m_me_289 = true := by decide +kernel
theorem m_kt_289 : m_okT m_me_289 = true := by decide +kernel
theorem m_kh_289 : m_me_289.2.2.2.2.1.all (m_okTh m_me_289) = true := by decide +kernel
theorem m_ok_289 : m_okM m_me_289 := ⟨⟨m_code_in m_cd_289, m_kb_289⟩, m_kt_289, m_kh_289⟩
set_option maxRecDepth 100000 in
theorem m_cd_290 : m_codes[314]? = some (m_me_290.1, m_me_290.2.1, m_me_290.2.2.1, m_me_290.2.2.2.1) := rfl
theorem m_kb_290 : m_okB m_me_290 = true := by decide +kernel
theorem m_kt_290 : m_okT m_me_290 = true := by decide +kernel
theorem m_kh_290 : m_me_290.2.2.2.2.1.all (m_okTh m_me_290) = true := by decide +kernel
theorem m_ok_290 : m_okM m_me_290 := ⟨⟨m_code_in m_cd_290, m_kb_290⟩, m_kt_290, m_kh_290⟩
set_option maxRecDepth 100000 in
theorem m_cd_291 : m_codes[315]? = some (m_me_291.1, m_me_291.2.1, m_me_291.2.2.1, m_me_291.2.2.2.1) := rfl
theorem m_kb_291 : m_okB m_me_291 = true := by decide +kernel
theorem m_kt_291 : m_okT m_me_291 = true := by decide +kernel
theorem m_kh_291 : m_me_291.2.2.2.2.1.all (m_okTh m_me_291) = true := by decide +kernel
theorem m_ok_291 : m_okM m_me_291 := ⟨⟨m_code_in m_cd_291, m_kb_291⟩, m_kt_291, m_kh_291⟩
set_option maxRecDepth 100000 in
theorem m_cd_292 : m_codes[316]? = some (m_me_292.1, m_me_292.2.1, m_me_292.2.2.1, m_me_292.2.2.2.1) := rfl
theorem m_kb_292 : m_okB m_me_292 = true := by decide +kernel
theorem m_kt_292 : m_okT m_me_292 = true := by decide +kernel
theorem m_kh_292 : m_me_292.2.2.2.2.1.all (m_okTh m_me_292) = true := by decide +kernel
theorem m_ok_292 : m_okM m_me_292 := ⟨⟨m_code_in m_cd_292, m_kb_292⟩, m_kt_292, m_kh_292⟩
set_option maxRecDepth 100000 in
theorem m_cd_293 : m_codes[317]? = some (m_me_293.1, m_me_293.2.1, m_me_293.2.2.1, m_me_293.2.2.2.1) := rfl
theorem m_kb_293 : m_okB m_me_293 = true := by decide +kernel
theorem m_kt_293 : m_okT m_me_293 = true := by decide +kernel
theorem m_kh_293 : m_me_293.2.2.2.2.1.all (m_okTh m_me_293) = true := by decide +kernel
theorem m_ok_293 : m_okM m_me_293 := ⟨⟨m_code_in m_cd_293, m_kb_293⟩, m_kt_293, m_kh_293⟩
set_option maxRecDepth 100000 in
theorem m_cd_294 : m_codes[318]? = some (m_me_294.1, m_me_294.2.1, m_me_294.2.2.1, m_me_294.2.2.2.1) := rfl
theorem m_kb_294 : m_okB m_me_294 = true := by decide +kernel
theorem m_kt_294 : m_okT m_me_294 = true := by decide +kernel
theorem m_kh_294 : m_me_294.2.2.2.2.1.all (m_okTh m_me_294) = true := by decide +kernel
theorem m_ok_294 : m_okM m_me_294 := ⟨⟨m_code_in m_cd_294, m_kb_294⟩, m_kt_294, m_kh_294⟩
set_option maxRecDepth 100000 in
theorem m_cd_295 : m_codes[319]? = some (m_me_295.1, m_me_295.2.1, m_me_295.2.2.1, m_me_295.2.2.2.1) := rfl
theorem m_kb_295 : m_okB m_me_295 = true := by decide +kernel
theorem m_kt_295 : m_okT m_me_295 = true := by decide +kernel
theorem m_kh_295 : m_me_295.2.2.2.2.1.all (m_okTh m_me_295) = true := by decide +kernel
theorem m_ok_295 : m_okM m_me_295 := ⟨⟨m_code_in m_cd_295, m_kb_295⟩, m_kt_295, m_kh_295⟩
set_option maxRecDepth 100000 in
theorem m_cd_296 : m_codes[320]? = some (m_me_296.1, m_me_296.2.1, m_me_296.2.2.1, m_me_296.2.2.2.1) := rfl
theorem m_kb_296 : m_okB m_me_296 = true := by decide +kernel
theorem m_kt_296 : m_okT m_me_296 = true := by decide +kernel
theorem m_kh_296 : m_me_296.2.2.2.2.1.all (m_okTh m_me_296) = true := by decide +kernel
theorem m_ok_296 : m_okM m_me_296 := ⟨⟨m_code_in m_cd_296, m_kb_296⟩, m_kt_296, m_kh_296⟩
set_option maxRecDepth 100000 in
theorem m_cd_297 : m_codes[321]? = some (m_me_297.1, m_me_297.2.1, m_me_297.2.2.1, m_me_297.2.2.2.1) := rfl
theorem m_kb_297 : m_okB m_me_297 = true := by decide +kernel
theorem m_kt_297 : m_okT m_me_297 = true := by decide +kernel
theorem m_kh_297 : m_me_297.2.2.2.2.1.all (m_okTh m_me_297) = true := by decide +kernel
theorem m_ok_297 : m_okM m_me_297 := ⟨⟨m_code_in m_cd_297, m_kb_297⟩, m_kt_297, m_kh_297⟩
set_option maxRecDepth 100000 in
theorem m_cd_298 : m_codes[322]? = some (m_me_298.1, m_me_298.2.1, m_me_298.2.2.1, m_me_298.2.2.2.1) := rfl
theorem m_kb_298 : m_okB m_me_298 = true := by decide +kernel
theorem m_kt_298 : m_okT m_me_298 = true := by decide +kernel
theorem m_kh_298 : m_me_298.2.2.2.2.1.all (m_okTh m_me_298) = true := by decide +kernel
theorem m_ok_298 : m_okM m_me_298 := ⟨⟨m_code_in m_cd_298, m_kb_298⟩, m_kt_298, m_kh_298⟩
set_option maxRecDepth 100000 in
theorem m_cd_299 : m_codes[323]? = some (m_me_299.1, m_me_299.2.1, m_me_299.2.2.1, m_me_299.2.2.2.1) := rfl
theorem m_kb_299 : m_okB m_me_299 = true := by decide +kernel
theorem m_kt_299 : m_okT m_me_299 = true := by decide +kernel
theorem m_kh_299 : m_me_299.2.2.2.2.1.all (m_okTh m_me_299) = true := by decide +kernel
theorem m_ok_299 : m_okM m_me_299 := ⟨⟨m_code_in m_cd_299, m_kb_299⟩, m_kt_299, m_kh_299⟩
set_option maxRecDepth 100000 in
theorem m_cd_300 : m_codes[324]? = some (m_me_300.1, m_me_300.2.1, m_me_300.2.2.1, m_me_300.2.2.2.1) := rfl
theorem m_kb_300 : m_okB m_me_300 = true := by decide +kernel
theorem m_kt_300 : m_okT m_me_300 = true := by decide +kernel
theorem m_kh_300 : m_me_300.2.2.2.2.1.all (m_okTh m_me_300) = true := by decide +kernel
theorem m_ok_300 : m_okM m_me_300 := ⟨⟨m_code_in m_cd_300, m_kb_300⟩, m_kt_300, m_kh_300⟩
set_option maxRecDepth 100000 in
theorem m_cd_301 : m_codes[325]? = some (m_me_301.1, m_me_301.2.1, m_me_301.2.2.1, m_me_301.2.2.2.1) := rfl
theorem m_kb_301 : m_okB m_me_301 = true := by decide +kernel
theorem m_kt_301 : m_okT m_me_301 = true := by decide +kernel
theorem m_kh_301 : m_me_301.2.2.2.2.1.all (m_okTh m_me_301) = true := by decide +kernel
theorem m_ok_301 : m_okM m_me_301 := ⟨⟨m_code_in m_cd_301, m_kb_301⟩, m_kt_301, m_kh_301⟩
set_option maxRecDepth 100000 in
theorem m_cd_302 : m_codes[326]? = some (m_me_302.1, m_me_302.2.1, m_me_302.2.2.1, m_me_302.2.2.2.1) := rfl
theorem m_kb_302 : m_okB m_me_302 = true := by decide +kernel
theorem m_kt_302 : m_okT m_me_302 = true := by decide +kernel
theorem m_kh_302 : m_me_302.2.2.2.2.1.all (m_okTh m_me_302) = true := by decide +kernel
theorem m_ok_302 : m_okM m_me_302 := ⟨⟨m_code_in m_cd_302, m_kb_302⟩, m_kt_302, m_kh_302⟩
set_option maxRecDepth 100000 in
theorem m_cd_303 : m_codes[327]? = some (m_me_303.1, m_me_303.2.1, m_me_303.2.2.1, m_me_303.2.2.2.1) := rfl
theorem m_kb_303 : m_okB m_me_303 = true := by decide +kernel
theorem m_kt_303 : m_okT m_me_303 = true := by decide +kernel
theorem m_kh_303 : m_me_303.2.2.2.2.1.all (m_okTh m_me_303) = true := by decide +kernel
theorem m_ok_303 : m_okM m_me_303 := ⟨⟨m_code_in m_cd_303, m_kb_303⟩, m_kt_303, m_kh_303⟩
set_option maxRecDepth 100000 in
theorem m_cd_304 : m_codes[328]? = some (m_me_304.1, m_me_304.2.1, m_me_304.2.2.1, m_me_304.2.2.2.1) := rfl
theorem m_kb_304 : m_okB m_me_304 = true := by decide +kernel
theorem m_kt_304 : m_okT m_me_304 = true := by decide +kernel
theorem m_kh_304 : m_me_304.2.2.2.2.1.all (m_okTh m_me_304) = true := by decide +kernel
theorem m_ok_304 : m_okM m_me_304 := ⟨⟨m_code_in m_cd_304, m_kb_304⟩, m_kt_304, m_kh_304⟩
set_option maxRecDepth 100000 in
theorem m_cd_305 : m_codes[329]? = some (m_me_305.1, m_me_305.2.1, m_me_305.2.2.1, m_me_305.2.2.2.1) := rfl
theorem m_kb_305 : m_okB m_me_305 = true := by decide +kernel
theorem m_kt_305 : m_okT m_me_305 = true := by decide +kernel
theorem m_kh_305 : m_me_305.2.2.2.2.1.all (m_okTh m_me_305) = true := by decide +kernel
theorem m_ok_305 : m_okM m_me_305 := ⟨⟨m_code_in m_cd_305, m_kb_305⟩, m_kt_305, m_kh_305⟩
set_option maxRecDepth 100000 in
theorem m_cd_306 : m_codes[330]? = some (m_me_306.1, m_me_306.2.1, m_me_306.2.2.1, m_me_306.2.2.2.1) := rfl
theorem m_kb_306 : m_okB m_me_306 = true := by decide +kernel
theorem m_kt_306 : m_okT m_me_306 = true := by decide +kernel
theorem m_kh_306 : m_me_306.2.2.2.2.1.all (m_okTh m_me_306) = true := by decide +kernel
theorem m_ok_306 : m_okM m_me_306 := ⟨⟨m_code_in m_cd_306, m_kb_306⟩, m_kt_306, m_kh_306⟩
set_option maxRecDepth 100000 in
theorem m_cd_307 : m_codes[331]? = some (m_me_307.1, m_me_307.2.1, m_me_307.2.2.1, m_me_307.2.2.2.1) := rfl
theorem m_kb_307 : m_okB m_me_307 = true := by decide +kernel
theorem m_kt_307 : m_okT m_me_307 = true := by decide +kernel
theorem m_kh_307 : m_me_307.2.2.2.2.1.all (m_okTh m_me_307) = true := by decide +kernel
theorem m_ok_307 : m_okM m_me_307 := ⟨⟨m_code_in m_cd_307, m_kb_307⟩, m_kt_307, m_kh_307⟩
set_option maxRecDepth 100000 in
theorem m_cd_308 : m_codes[332]? = some (m_me_308.1, m_me_308.2.1, m_me_308.2.2.1, m_me_308.2.2.2.1) := rfl
theorem m_kb_308 : m_okB m_me_308 = true := by decide +kernel
theorem m_kt_308 : m_okT m_me_308 = true := by decide +kernel
theorem m_kh_308 : m_me_308.2.2.2.2.1.all (m_okTh m_me_308) = true := by decide +kernel
theorem m_ok_308 : m_okM m_me_308 := ⟨⟨m_code_in m_cd_308, m_kb_308⟩, m_kt_308, m_kh_308⟩
set_option maxRecDepth 100000 in
theorem m_cd_309 : m_codes[333]? = some (m_me_309.1, m_me_309.2.1, m_me_309.2.2.1, m_me_309.2.2.2.1) := rfl
theorem m_kb_309 : m_okB m_me_309 = true := by decide +kernel
theorem m_kt_309 : m_okT m_me_309 = true := by decide +kernel
theorem m_kh_309 : m_me_309.2.2.2.2.1.all (m_okTh m_me_309) = true := by decide +kernel
theorem m_ok_309 : m_okM m_me_309 := ⟨⟨m_code_in m_cd_309, m_kb_309⟩, m_kt_309, m_kh_309⟩
set_option maxRecDepth 100000 in
theorem m_cd_310 : m_codes[334]? = some (m_me_310.1, m_me_310.2.1, m_me_310.2.2.1, m_me_310.2.2.2.1) := rfl
theorem m_kb_310 : m_okB m_me_310 = true := by decide +kernel
theorem m_kt_310 : m_okT m_me_310 = true := by decide +kernel
theorem m_kh_310 : m_me_310.2.2.2.2.1.all (m_okTh m_me_310) = true := by decide +kernel
theorem m_ok_310 : m_okM m_me_310 := ⟨⟨m_code_in m_cd_310, m_kb_310⟩, m_kt_310, m_kh_310⟩
set_option maxRecDepth 100000 in
theorem m_cd_311 : m_codes[335]? = some (m_me_311.1, m_me_311.2.1, m_me_311.2.2.1, m_me_311.2.2.2.1) := rfl
theorem m_kb_311 : m_okB m_me_311 = true := by decide +kernel
theorem m_kt_311 : m_okT m_me_311 = true := by decide +kernel
theorem m_kh_311 : m_me_311.2.2.2.2.1.all (m_okTh m_me_311) = true := by decide +kernel
theorem m_ok_311 : m_okM m_me_311 := ⟨⟨m_code_in m_cd_311, m_kb_311⟩, m_kt_311, m_kh_311⟩
set_option maxRecDepth 100000 in
theorem m_cd_312 : m_codes[336]? = some (m_me_312.1, m_me_312.2.1, m_me_312.2.2.1, m_me_312.2.2.2.1) := rfl
theorem m_kb_312 : m_okB m_me_312 = true := by decide +kernel
theorem m_kt_312 : m_okT m_me_312 = true := by decide +kernel
theorem m_kh_312 : m_me_312.2.2.2.2.1.all (m_okTh m_me_312) = true := by decide +kernel
theorem m_ok_312 : m_okM m_me_312 := ⟨⟨m_code_in m_cd_312, m_kb_312⟩, m_kt_312, m_kh_312⟩
set_option maxRecDepth 100000 in
theorem m_cd_313 : m_codes[337]? = some (m_me_313.1, m_me_313.2.1, m_me_313.2.2.1, m_me_313.2.2.2.1) := rfl
theorem m_kb_313 : m_okB m_me_313 = true := by decide +kernel
theorem m_kt_313 : m_okT m_me_313 = true := by decide +kernel
theorem m_kh_313 : m_me_313.2.2.2.2.1.all (m_okTh m_me_313) = true := by decide +kernel
theorem m_ok_313 : m_okM m_me_313 := ⟨⟨m_code_in m_cd_313, m_kb_313⟩, m_kt_313, m_kh_313⟩
set_option maxRecDepth 100000 in
theorem m_cd_314 : m_codes[338]? = some (m_me_314.1, m_me_314.2.1, m_me_314.2.2.1, m_me_314.2.2.2.1) := rfl
theorem m_kb_314 : m_okB m_me_314 = true := by decide +kernel
theorem m_kt_314 : m_okT m_me_314 = true := by decide +kernel
theorem m_kh_314 : m_me_314.2.2.2.2.1.all (m_okTh m_me_314) = true := by decide +kernel
theorem m_ok_314 : m_okM m_me_314 := ⟨⟨m_code_in m_cd_314, m_kb_314⟩, m_kt_314, m_kh_314⟩
