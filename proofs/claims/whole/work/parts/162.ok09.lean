/-! checks of methods -/
set_option maxRecDepth 100000 in
theorem m_cd_315 : m_codes[339]? = some (m_me_315.1, m_me_315.2.1, m_me_315.2.2.1, m_me_315.2.2.2.1) := rfl
theorem m_kb_315 : m_okB m_me_315 = true := by decide +kernel
theorem m_kt_315 : m_okT m_me_315 = true := by decide +kernel
theorem m_kh_315 : m_me_315.2.2.2.2.1.all (m_okTh m_me_315) = true := by decide +kernel
theorem m_ok_315 : m_okM m_me_315 := ⟨⟨m_code_in m_cd_315, m_kb_315⟩, m_kt_315, m_kh_315⟩
set_option maxRecDepth 100000 in
theorem m_cd_316 : m_codes[340]? = some (m_me_316.1, m_me_316.2.1, m_me_316.2.2.1, m_me_316.2.2.2.1) := rfl
theorem m_kb_316 : m_okB m_me_316 = true := by decide +kernel
theorem m_kt_316 : m_okT m_me_316 = true := by decide +kernel
theorem m_kh_316 : m_me_316.2.2.2.2.1.all (m_okTh m_me_316) = true := by decide +kernel
theorem m_ok_316 : m_okM m_me_316 := ⟨⟨m_code_in m_cd_316, m_kb_316⟩, m_kt_316, m_kh_316⟩
set_option maxRecDepth 100000 in
theorem m_cd_317 : m_codes[341]? = some (m_me_317.1, m_me_317.2.1, m_me_317.2.2.1, m_me_317.2.2.2.1) := rfl
theorem m_kb_317 : m_okB m_me_317 = true := by decide +kernel
theorem m_kt_317 : m_okT m_me_317 = true := by decide +kernel
theorem m_kh_317 : m_me_317.2.2.2.2.1.all (m_okTh m_me_317) = true := by decide +kernel
theorem m_ok_317 : m_okM m_me_317 := ⟨⟨m_code_in m_cd_317, m_kb_317⟩, m_kt_317, m_kh_317⟩
set_option maxRecDepth 100000 in
theorem m_cd_318 : m_codes[342]? = some (m_me_318.1, m_me_318.2.1, m_me_318.2.2.1, m_me_318.2.2.2.1) := rfl
theorem m_kb_318 : m_okB m_me_318 = true := by decide +kernel
theorem m_kt_318 : m_okT m_me_318 = true := by decide +kernel
theorem m_kh_318 : m_me_318.2.2.2.2.1.all (m_okTh m_me_318) = true := by decide +kernel
theorem m_ok_318 : m_okM m_me_318 := ⟨⟨m_code_in m_cd_318, m_kb_318⟩, m_kt_318, m_kh_318⟩
set_option maxRecDepth 100000 in
theorem m_cd_319 : m_codes[343]? = some (m_me_319.1, m_me_319.2.1, m_me_319.2.2.1, m_me_319.2.2.2.1) := rfl
theorem m_kb_319 : m_okB m_me_319 = true := by decide +kernel
theorem m_kt_319 : m_okT m_me_319 = true := by decide +kernel
theorem m_kh_319 : m_me_319.2.2.2.2.1.all (m_okTh m_me_319) = true := by decide +kernel
theorem m_ok_319 : m_okM m_me_319 := ⟨⟨m_code_in m_cd_319, m_kb_319⟩, m_kt_319, m_kh_319⟩
set_option maxRecDepth 100000 in
theorem m_cd_320 : m_codes[344]? = some (m_me_320.1, m_me_320.2.1, m_me_320.2.2.1, m_me_320.2.2.2.1) := rfl
theorem m_kb_320 : m_okB m_me_320 = true := by decide +kernel
theorem m_kt_320 : m_okT m_me_320 = true := by decide +kernel
theorem m_kh_320 : m_me_320.2.2.2.2.1.all (m_okTh m_me_320) = true := by decide +kernel
theorem m_ok_320 : m_okM m_me_320 := ⟨⟨m_code_in m_cd_320, m_kb_320⟩, m_kt_320, m_kh_320⟩
set_option maxRecDepth 100000 in
theorem m_cd_321 : m_codes[345]? = some (m_me_321.1, m_me_321.2.1, m_me_321.2.2.1, m_me_321.2.2.2.1) := rfl
theorem m_kb_321 : m_okB m_me_321 = true := by decide +kernel
theorem m_kt_321 : m_okT m_me_321 = true := by decide +kernel
theorem m_kh_321 : m_me_321.2.2.2.2.1.all (m_okTh m_me_321) = true := by decide +kernel
theorem m_ok_321 : m_okM m_me_321 := ⟨⟨m_code_in m_cd_321, m_kb_321⟩, m_kt_321, m_kh_321⟩
set_option maxRecDepth 100000 in
theorem m_cd_322 : m_codes[346]? = some (m_me_322.1, m_me_322.2.1, m_me_322.2.2.1, m_me_322.2.2.2.1) := rfl
theorem m_kb_322 : m_okB m_me_322 = true := by decide +kernel
theorem m_kt_322 : m_okT m_me_322 = true := by decide +kernel
theorem m_kh_322 : m_me_322.2.2.2.2.1.all (m_okTh m_me_322) = true := by decide +kernel
theorem m_ok_322 : m_okM m_me_322 := ⟨⟨m_code_in m_cd_322, m_kb_322⟩, m_kt_322, m_kh_322⟩
set_option maxRecDepth 100000 in
theorem m_cd_323 : m_codes[347]? = some (m_me_323.1, m_me_323.2.1, m_me_323.2.2.1, m_me_323.2.2.2.1) := rfl
theorem m_kb_323 : m_okB m_me_323 = true := by decide +kernel
theorem m_kt_323 : m_okT m_me_323 = true := by decide +kernel
theorem m_kh_323 : m_me_323.2.2.2.2.1.all (m_okTh m_me_323) = true := by decide +kernel
theorem m_ok_323 : m_okM m_me_323 := ⟨⟨m_code_in m_cd_323, m_kb_323⟩, m_kt_323, m_kh_323⟩
set_option maxRecDepth 100000 in
theorem m_cd_324 : m_codes[348]? = some (m_me_324.1, m_me_324.2.1, m_me_324.2.2.1, m_me_324.2.2.2.1) := rfl
theorem m_kb_324 : m_okB m_me_324 = true := by decide +kernel
theorem m_kt_324 : m_okT m_me_324 = true := by decide +kernel
theorem m_kh_324 : m_me_324.2.2.2.2.1.all (m_okTh m_me_324) = true := by decide +kernel
theorem m_ok_324 : m_okM m_me_324 := ⟨⟨m_code_in m_cd_324, m_kb_324⟩, m_kt_324, m_kh_324⟩
set_option maxRecDepth 100000 in
theorem m_cd_325 : m_codes[349]? = some (m_me_325.1, m_me_325.2.1, m_me_325.2.2.1, m_me_325.2.2.2.1) := rfl
theorem m_kb_325 : m_okB m_me_325 = true := by decide +kernel
theorem m_kt_325 : m_okT m_me_325 = true := by decide +kernel
theorem m_kh_325 : m_me_325.2.2.2.2.1.all (m_okTh m_me_325) = true := by decide +kernel
theorem m_ok_325 : m_okM m_me_325 := ⟨⟨m_code_in m_cd_325, m_kb_325⟩, m_kt_325, m_kh_325⟩
set_option maxRecDepth 100000 in
theorem m_cd_326 : m_codes[350]? = some (m_me_326.1, m_me_326.2.1, m_me_326.2.2.1, m_me_326.2.2.2.1) := rfl
theorem m_kb_326 : m_okB m_me_326 = true := by decide +kernel
theorem m_kt_326 : m_okT m_me_326 = true := by decide +kernel
theorem m_kh_326 : m_me_326.2.2.2.2.1.all (m_okTh m_me_326) = true := by decide +kernel
theorem m_ok_326 : m_okM m_me_326 := ⟨⟨m_code_in m_cd_326, m_kb_326⟩, m_kt_326, m_kh_326⟩
set_option maxRecDepth 100000 in
theorem m_cd_327 : m_codes[351]? = some (m_me_327.1, m_me_327.2.1, m_me_327.2.2.1, m_me_327.2.2.2.1) := rfl
theorem m_kb_327 : m_okB m_me_327 = true := by decide +kernel
theorem m_kt_327 : m_okT m_me_327 = true := by decide +kernel
theorem m_kh_327 : m_me_327.2.2.2.2.1.all (m_okTh m_me_327) = true := by decide +kernel
theorem m_ok_327 : m_okM m_me_327 := ⟨⟨m_code_in m_cd_327, m_kb_327⟩, m_kt_327, m_kh_327⟩
set_option maxRecDepth 100000 in
theorem m_cd_328 : m_codes[352]? = some (m_me_328.1, m_me_328.2.1, m_me_328.2.2.1, m_me_328.2.2.2.1) := rfl
theorem m_kb_328 : m_okB m_me_328 = true := by decide +kernel
theorem m_kt_328 : m_okT m_me_328 = true := by decide +kernel
theorem m_kh_328 : m_me_328.2.2.2.2.1.all (m_okTh m_me_328) = true := by decide +kernel
theorem m_ok_328 : m_okM m_me_328 := ⟨⟨m_code_in m_cd_328, m_kb_328⟩, m_kt_328, m_kh_328⟩
set_option maxRecDepth 100000 in
theorem m_cd_329 : m_codes[353]? = some (m_me_329.1, m_me_329.2.1, m_me_329.2.2.1, m_me_329.2.2.2.1) := rfl
theorem m_kb_329 : m_okB m_me_329 = true := by decide +kernel
theorem m_kt_329 : m_okT m_me_329 = true := by decide +kernel
theorem m_kh_329 : m_me_329.2.2.2.2.1.all (m_okTh m_me_329) = true := by decide +kernel
theorem m_ok_329 : m_okM m_me_329 := ⟨⟨m_code_in m_cd_329, m_kb_329⟩, m_kt_329, m_kh_329⟩
set_option maxRecDepth 100000 in
theorem m_cd_330 : m_codes[354]? = some (m_me_330.1, m_me_330.2.1, m_me_330.2.2.1, m_me_330.2.2.2.1) := rfl
theorem m_kb_330 : m_okB m_me_330 = true := by decide +kernel
theorem m_kt_330 : m_okT m_me_330 = true := by decide +kernel
theorem m_kh_330 : m_me_330.2.2.2.2.1.all (m_okTh m_me_330) = true := by decide +kernel
theorem m_ok_330 : m_okM m_me_330 := ⟨⟨m_code_in m_cd_330, m_kb_330⟩, m_kt_330, m_kh_330⟩
set_option maxRecDepth 100000 in
theorem m_cd_331 : m_codes[355]? = some (m_me_331.1, m_me_331.2.1, m_me_331.2.2.1, m_me_331.2.2.2.1) := rfl
theorem m_kb_331 : m_okB m_me_331 = true := by decide +kernel
theorem m_kt_331 : m_okT m_me_331 = true := by decide +kernel
theorem m_kh_331 : m_me_331.2.2.2.2.1.all (m_okTh m_me_331) = true := by decide +kernel
theorem m_ok_331 : m_okM m_me_331 := ⟨⟨m_code_in m_cd_331, m_kb_331⟩, m_kt_331, m_kh_331⟩
set_option maxRecDepth 100000 in
theorem m_cd_332 : m_codes[356]? = some (m_me_332.1, m_me_332.2.1, m_me_332.2.2.1, m_me_332.2.2.2.1) := rfl
theorem m_kb_332 : m_okB m_me_332 = true := by decide +kernel
theorem m_kt_332 : m_okT m_me_332 = true := by decide +kernel
theorem m_kh_332 : m_me_332.2.2.2.2.1.all (m_okTh m_me_332) = true := by decide +kernel
theorem m_ok_332 : m_okM m_me_332 := ⟨⟨m_code_in m_cd_332, m_kb_332⟩, m_kt_332, m_kh_332⟩
set_option maxRecDepth 100000 in
theorem m_cd_333 : m_codes[357]? = some (m_me_333.1, m_me_333.2.1, m_me_333.2.2.1, m_me_333.2.2.2.1) := rfl
theorem m_kb_333 : m_okB m_me_333 = true := by decide +kernel
theorem m_kt_333 : m_okT m_me_333 = true := by decide +kernel
theorem m_kh_333 : m_me_333.2.2.2.2.1.all (m_okTh m_me_333) = true := by decide +kernel
theorem m_ok_333 : m_okM m_me_333 := ⟨⟨m_code_in m_cd_333, m_kb_333⟩, m_kt_333, m_kh_333⟩
set_option maxRecDepth 100000 in
theorem m_cd_334 : m_codes[358]? = some (m_me_334.1, m_me_334.2.1, m_me_334.2.2.1, m_me_334.2.2.2.1) := rfl
theorem m_kb_334 : m_okB m_me_334 = true := by decide +kernel
theorem m_kt_334 : m_okT m_me_334 = true := by decide +kernel
theorem m_kh_334 : m_me_334.2.2.2.2.1.all (m_okTh m_me_334) = true := by decide +kernel
theorem m_ok_334 : m_okM m_me_334 := ⟨⟨m_code_in m_cd_334, m_kb_334⟩, m_kt_334, m_kh_334⟩
set_option maxRecDepth 100000 in
theorem m_cd_335 : m_codes[359]? = some (m_me_335.1, m_me_335.2.1, m_me_335.2.2.1, m_me_335.2.2.2.1) := rfl
theorem m_kb_335 : m_okB m_me_335 = true := by decide +kernel
theorem m_kt_335 : m_okT m_me_335 = true := by decide +kernel
theorem m_kh_335 : m_me_335.2.2.2.2.1.all (m_okTh m_me_335) = true := by decide +kernel
theorem m_ok_335 : m_okM m_me_335 := ⟨⟨m_code_in m_cd_335, m_kb_335⟩, m_kt_335, m_kh_335⟩
set_option maxRecDepth 100000 in
theorem m_cd_336 : m_codes[360]? = some (m_me_336.1, m_me_336.2.1, m_me_336.2.2.1, m_me_336.2.2.2.1) := rfl
theorem m_kb_336 : m_okB m_me_336 = true := by decide +kernel
theorem m_kt_336 : m_okT m_me_336 = true := by decide +kernel
theorem m_kh_336 : m_me_336.2.2.2.2.1.all (m_okTh m_me_336) = true := by decide +kernel
theorem m_ok_336 : m_okM m_me_336 := ⟨⟨m_code_in m_cd_336, m_kb_336⟩, m_kt_336, m_kh_336⟩
set_option maxRecDepth 100000 in
theorem m_cd_337 : m_codes[361]? = some (m_me_337.1, m_me_337.2.1, m_me_337.2.2.1, m_me_337.2.2.2.1) := rfl
theorem m_kb_337 : m_okB m_me_337 = true := by decide +kernel
theorem m_kt_337 : m_okT m_me_337 = true := by decide +kernel
theorem m_kh_337 : m_me_337.2.2.2.2.1.all (m_okTh m_me_337) = true := by decide +kernel
theorem m_ok_337 : m_okM m_me_337 := ⟨⟨m_code_in m_cd_337, m_kb_337⟩, m_kt_337, m_kh_337⟩
set_option maxRecDepth 100000 in
theorem m_cd_338 : m_codes[362]? = some (m_me_338.1, m_me_338.2.1, m_me_338.2.2.1, m_me_338.2.2.2.1) := rfl
theorem m_kb_338 : m_okB m_me_338 = true := by decide +kernel
theorem m_kt_338 : m_okT m_me_338 = true := by decide +kernel
theorem m_kh_338 : m_me_338.2.2.2.2.1.all (m_okTh m_me_338) = true := by decide +kernel
theorem m_ok_338 : m_okM m_me_338 := ⟨⟨m_code_in m_cd_338, m_kb_338⟩, m_kt_338, m_kh_338⟩
set_option maxRecDepth 100000 in
theorem m_cd_339 : m_codes[363]? = some (m_me_339.1, m_me_339.2.1, m_me_339.2.2.1, m_me_339.2.2.2.1) := rfl
theorem m_kb_339 : m_okB m_me_339 = true := by decide +kernel
theorem m_kt_339 : m_okT m_me_339 = true := by decide +kernel
theorem m_kh_339 : m_me_339.2.2.2.2.1.all (m_okTh m_me_339) = true := by decide +kernel
theorem m_ok_339 : m_okM m_me_339 := ⟨⟨m_code_in m_cd_339, m_kb_339⟩, m_kt_339, m_kh_339⟩
set_option maxRecDepth 100000 in
theorem m_cd_340 : m_codes[364]? = some (m_me_340.1, m_me_340.2.1, m_me_340.2.2.1, m_me_340.2.2.2.1) := rfl
theorem m_kb_340 : m_okB m_me_340 = true := by decide +kernel
theorem m_kt_340 : m_okT m_me_340 = true := by decide +kernel
theorem m_kh_340 : m_me_340.2.2.2.2.1.all (m_okTh m_me_340) = true := by decide +kernel
theorem m_ok_340 : m_okM m_me_340 := ⟨⟨m_code_in m_cd_340, m_kb_340⟩, m_kt_340, m_kh_340⟩
set_option maxRecDepth 100000 in
theorem m_cd_341 : m_codes[192]? = some (m_me_341.1, m_me_341.2.1, m_me_341.2.2.1, m_me_341.2.2.2.1) := rfl
theorem m_kb_341 : m_okB m_me_341 = true := by decide +kernel
theorem m_kt_341 : m_okT m_me_341 = true := by decide +kernel
theorem m_kh_341 : m_me_341.2.2.2.2.1.all (m_okTh m_me_341) = true := by decide +kernel
theorem m_ok_341 : m_okM m_me_341 := ⟨⟨m_code_in m_cd_341, m_kb_341⟩, m_kt_341, m_kh_341⟩
set_option maxRecDepth 100000 in
theorem m_cd_342 : m_codes[51]? = some (m_me_342.1, m_me_342.2.1, m_me_342.2.2.1, m_me_342.2.2.2.1) := rfl
theorem m_kb_342 : m_okB m_me_342 = true := by decide +kernel
theorem m_kt_342 : m_okT m_me_342 = true := by decide +kernel
theorem m_kh_342 : m_me_342.2.2.2.2.1.all (m_okTh m_me_342) = true := by decide +kernel
theorem m_ok_342 : m_okM m_me_342 := ⟨⟨m_code_in m_cd_342, m_kb_342⟩, m_kt_342, m_kh_342⟩
