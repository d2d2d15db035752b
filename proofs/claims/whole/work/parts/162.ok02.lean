/-! checks of methods -/
set_option maxRecDepth 100000 in
theorem m_cd_70 : m_codes[13]? = some (m_me_70.1, m_me_70.2.1, m_me_70.2.2.1, m_me_70.2.2.2.1) := rfl
theorem m_kb_70 : m_okB m_me_70 = true := by decide +kernel
theorem m_kt_70 : m_okT m_me_70 = true := by decide +kernel
theorem m_kh_70 : m_me_70.2.2.2.2.1.all (m_okTh m_me_70) = true := by decide +kernel
theorem m_ok_70 : m_okM m_me_70 := ⟨⟨m_code_in m_cd_70, m_kb_70⟩, m_kt_70, m_kh_70⟩
set_option maxRecDepth 100000 in
theorem m_cd_71 : m_codes[193]? = some (m_me_71.1, m_me_71.2.1, m_me_71.2.2.1, m_me_71.2.2.2.1) := rfl
theorem m_kb_71 : m_okB m_me_71 = true := by decide +kernel
theorem m_kt_71 : m_okT m_me_71 = true := by decide +kernel
theorem m_kh_71 : m_me_71.2.2.2.2.1.all (m_okTh m_me_71) = true := by decide +kernel
theorem m_ok_71 : m_okM m_me_71 := ⟨⟨m_code_in m_cd_71, m_kb_71⟩, m_kt_71, m_kh_71⟩
set_option maxRecDepth 100000 in
theorem m_cd_72 : m_codes[194]? = some (m_me_72.1, m_me_72.2.1, m_me_72.2.2.1, m_me_72.2.2.2.1) := rfl
theorem m_kb_72 : m_okB m_me_72 = true := by decide +kernel
theorem m_kt_72 : m_okT m_me_72 = true := by decide +kernel
theorem m_kh_72 : m_me_72.2.2.2.2.1.all (m_okTh m_me_72) = true := by decide +kernel
theorem m_ok_72 : m_okM m_me_72 := ⟨⟨m_code_in m_cd_72, m_kb_72⟩, m_kt_72, m_kh_72⟩
set_option maxRecDepth 100000 in
theorem m_cd_73 : m_codes[195]? = some (m_me_73.1, m_me_73.2.1, m_me_73.2.2.1, m_me_73.2.2.2.1) := rfl
theorem m_kb_73 : m_okB m_me_73 = true := by decide +kernel
theorem m_kt_73 : m_okT m_me_73 = true := by decide +kernel
theorem m_kh_73 : m_me_73.2.2.2.2.1.all (m_okTh m_me_73) = true := by decide +kernel
theorem m_ok_73 : m_okM m_me_73 := ⟨⟨m_code_in m_cd_73, m_kb_73⟩, m_kt_73, m_kh_73⟩
set_option maxRecDepth 100000 in
theorem m_cd_74 : m_codes[198]? = some (m_me_74.1, m_me_74.2.1, m_me_74.2.2.1, m_me_74.2.2.2.1) := rfl
theorem m_kb_74 : m_okB m_me_74 = true := by decide +kernel
theorem m_kt_74 : m_okT m_me_74 = true := by decide +kernel
theorem m_kh_74 : m_me_74.2.2.2.2.1.all (m_okTh m_me_74) = true := by decide +kernel
theorem m_ok_74 : m_okM m_me_74 := ⟨⟨m_code_in m_cd_74, m_kb_74⟩, m_kt_74, m_kh_74⟩
set_option maxRecDepth 100000 in
theorem m_cd_75 : m_codes[199]? = some (m_me_75.1, m_me_75.2.1, m_me_75.2.2.1, m_me_75.2.2.2.1) := rfl
theorem m_kb_75 : m_okB m_me_75 = true := by decide +kernel
theorem m_kt_75 : m_okT m_me_75 = true := by decide +kernel
theorem m_kh_75 : m_me_75.2.2.2.2.1.all (m_okTh m_me_75) = true := by decide +kernel
theorem m_ok_75 : m_okM m_me_75 := ⟨⟨m_code_in m_cd_75, m_kb_75⟩, m_kt_75, m_kh_75⟩
set_option maxRecDepth 100000 in
theorem m_cd_76 : m_codes[200]? = some (m_me_76.1, m_me_76.2.1, m_me_76.2.2.1, m_me_76.2.2.2.1) := rfl
theorem m_kb_76 : m_okB m_me_76 = true := by decide +kernel
theorem m_kt_76 : m_okT m_me_76 = true := by decide +kernel
theorem m_kh_76 : m_me_76.2.2.2.2.1.all (m_okTh m_me_76) = true := by decide +kernel
theorem m_ok_76 : m_okM m_me_76 := ⟨⟨m_code_in m_cd_76, m_kb_76⟩, m_kt_76, m_kh_76⟩
set_option maxRecDepth 100000 in
theorem m_cd_77 : m_codes[201]? = some (m_me_77.1, m_me_77.2.1, m_me_77.2.2.1, m_me_77.2.2.2.1) := rfl
theorem m_kb_77 : m_okB m_me_77 = true := by decide +kernel
theorem m_kt_77 : m_okT m_me_77 = true := by decide +kernel
theorem m_kh_77 : m_me_77.2.2.2.2.1.all (m_okTh m_me_77) = true := by decide +kernel
theorem m_ok_77 : m_okM m_me_77 := ⟨⟨m_code_in m_cd_77, m_kb_77⟩, m_kt_77, m_kh_77⟩
set_option maxRecDepth 100000 in
theorem m_cd_78 : m_codes[4]? = some (m_me_78.1, m_me_78.2.1, m_me_78.2.2.1, m_me_78.2.2.2.1) := rfl
theorem m_kb_78 : m_okB m_me_78 = true := by decide +kernel
theorem m_kt_78 : m_okT m_me_78 = true := by decide +kernel
theorem m_kh_78 : m_me_78.2.2.2.2.1.all (m_okTh m_me_78) = true := by decide +kernel
theorem m_ok_78 : m_okM m_me_78 := ⟨⟨m_code_in m_cd_78, m_kb_78⟩, m_kt_78, m_kh_78⟩
set_option maxRecDepth 100000 in
theorem m_cd_79 : m_codes[42]? = some (m_me_79.1, m_me_79.2.1, m_me_79.2.2.1, m_me_79.2.2.2.1) := rfl
theorem m_kb_79 : m_okB m_me_79 = true := by decide +kernel
theorem m_kt_79 : m_okT m_me_79 = true := by decide +kernel
theorem m_kh_79 : m_me_79.2.2.2.2.1.all (m_okTh m_me_79) = true := by decide +kernel
theorem m_ok_79 : m_okM m_me_79 := ⟨⟨m_code_in m_cd_79, m_kb_79⟩, m_kt_79, m_kh_79⟩
set_option maxRecDepth 100000 in
theorem m_cd_80 : m_codes[48]? = some (m_me_80.1, m_me_80.2.1, m_me_80.2.2.1, m_me_80.2.2.2.1) := rfl
theorem m_kb_80 : m_okB m_me_80 = true := by decide +kernel
theorem m_kt_80 : m_okT m_me_80 = true := by decide +kernel
theorem m_kh_80 : m_me_80.2.2.2.2.1.all (m_okTh m_me_80) = true := by decide +kernel
theorem m_ok_80 : m_okM m_me_80 := ⟨⟨m_code_in m_cd_80, m_kb_80⟩, m_kt_80, m_kh_80⟩
set_option maxRecDepth 100000 in
theorem m_cd_81 : m_codes[91]? = some (m_me_81.1, m_me_81.2.1, m_me_81.2.2.1, m_me_81.2.2.2.1) := rfl
theorem m_kb_81 : m_okB m_me_81 = true := by decide +kernel
theorem m_kt_81 : m_okT m_me_81 = true := by decide +kernel
theorem m_kh_81 : m_me_81.2.2.2.2.1.all (m_okTh m_me_81) = true := by decide +kernel
theorem m_ok_81 : m_okM m_me_81 := ⟨⟨m_code_in m_cd_81, m_kb_81⟩, m_kt_81, m_kh_81⟩
set_option maxRecDepth 100000 in
theorem m_cd_82 : m_codes[133]? = some (m_me_82.1, m_me_82.2.1, m_me_82.2.2.1, m_me_82.2.2.2.1) := rfl
theorem m_kb_82 : m_okB m_me_82 = true := by decide +kernel
theorem m_kt_82 : m_okT m_me_82 = true := by decide +kernel
theorem m_kh_82 : m_me_82.2.2.2.2.1.all (m_okTh m_me_82) = true := by decide +kernel
theorem m_ok_82 : m_okM m_me_82 := ⟨⟨m_code_in m_cd_82, m_kb_82⟩, m_kt_82, m_kh_82⟩
set_option maxRecDepth 100000 in
theorem m_cd_83 : m_codes[161]? = some (m_me_83.1, m_me_83.2.1, m_me_83.2.2.1, m_me_83.2.2.2.1) := rfl
theorem m_kb_83 : m_okB m_me_83 = true := by decide +kernel
theorem m_kt_83 : m_okT m_me_83 = true := by decide +kernel
theorem m_kh_83 : m_me_83.2.2.2.2.1.all (m_okTh m_me_83) = true := by decide +kernel
theorem m_ok_83 : m_okM m_me_83 := ⟨⟨m_code_in m_cd_83, m_kb_83⟩, m_kt_83, m_kh_83⟩
set_option maxRecDepth 100000 in
theorem m_cd_84 : m_codes[166]? = some (m_me_84.1, m_me_84.2.1, m_me_84.2.2.1, m_me_84.2.2.2.1) := rfl
theorem m_kb_84 : m_okB m_me_84 = true := by decide +kernel
theorem m_kt_84 : m_okT m_me_84 = true := by decide +kernel
theorem m_kh_84 : m_me_84.2.2.2.2.1.all (m_okTh m_me_84) = true := by decide +kernel
theorem m_ok_84 : m_okM m_me_84 := ⟨⟨m_code_in m_cd_84, m_kb_84⟩, m_kt_84, m_kh_84⟩
set_option maxRecDepth 100000 in
theorem m_cd_85 : m_codes[188]? = some (m_me_85.1, m_me_85.2.1, m_me_85.2.2.1, m_me_85.2.2.2.1) := rfl
theorem m_kb_85 : m_okB m_me_85 = true := by decide +kernel
theorem m_kt_85 : m_okT m_me_85 = true := by decide +kernel
theorem m_kh_85 : m_me_85.2.2.2.2.1.all (m_okTh m_me_85) = true := by decide +kernel
theorem m_ok_85 : m_okM m_me_85 := ⟨⟨m_code_in m_cd_85, m_kb_85⟩, m_kt_85, m_kh_85⟩
set_option maxRecDepth 100000 in
theorem m_cd_86 : m_codes[6]? = some (m_me_86.1, m_me_86.2.1, m_me_86.2.2.1, m_me_86.2.2.2.1) := rfl
theorem m_kb_86 : m_okB m_me_86 = true := by decide +kernel
theorem m_kt_86 : m_okT m_me_86 = true := by decide +kernel
theorem m_kh_86 : m_me_86.2.2.2.2.1.all (m_okTh m_me_86) = true := by decide +kernel
theorem m_ok_86 : m_okM m_me_86 := ⟨⟨m_code_in m_cd_86, m_kb_86⟩, m_kt_86, m_kh_86⟩
set_option maxRecDepth 100000 in
theorem m_cd_87 : m_codes[52]? = some (m_me_87.1, m_me_87.2.1, m_me_87.2.2.1, m_me_87.2.2.2.1) := rfl
theorem m_kb_87 : m_okB m_me_87 = true := by decide +kernel
theorem m_kt_87 : m_okT m_me_87 = true := by decide +kernel
theorem m_kh_87 : m_me_87.2.2.2.2.1.all (m_okTh m_me_87) = true := by decide +kernel
theorem m_ok_87 : m_okM m_me_87 := ⟨⟨m_code_in m_cd_87, m_kb_87⟩, m_kt_87, m_kh_87⟩
set_option maxRecDepth 100000 in
theorem m_cd_88 : m_codes[54]? = some (m_me_88.1, m_me_88.2.1, m_me_88.2.2.1, m_me_88.2.2.2.1) := rfl
theorem m_kb_88 : m_okB m_me_88 = true := by decide +kernel
theorem m_kt_88 : m_okT m_me_88 = true := by decide +kernel
theorem m_kh_88 : m_me_88.2.2.2.2.1.all (m_okTh m_me_88) = true := by decide +kernel
theorem m_ok_88 : m_okM m_me_88 := ⟨⟨m_code_in m_cd_88, m_kb_88⟩, m_kt_88, m_kh_88⟩
set_option maxRecDepth 100000 in
theorem m_cd_89 : m_codes[55]? = some (m_me_89.1, m_me_89.2.1, m_me_89.2.2.1, m_me_89.2.2.2.1) := rfl
theorem m_kb_89 : m_okB m_me_89 = true := by decide +kernel
theorem m_kt_89 : m_okT m_me_89 = true := by decide +kernel
theorem m_kh_89 : m_me_89.2.2.2.2.1.all (m_okTh m_me_89) = true := by decide +kernel
theorem m_ok_89 : m_okM m_me_89 := ⟨⟨m_code_in m_cd_89, m_kb_89⟩, m_kt_89, m_kh_89⟩
set_option maxRecDepth 100000 in
theorem m_cd_90 : m_codes[57]? = some (m_me_90.1, m_me_90.2.1, m_me_90.2.2.1, m_me_90.2.2.2.1) := rfl
theorem m_kb_90 : m_okB m_me_90 = true := by decide +kernel
theorem m_kt_90 : m_okT m_me_90 = true := by decide +kernel
theorem m_kh_90 : m_me_90.2.2.2.2.1.all (m_okTh m_me_90) = true := by decide +kernel
theorem m_ok_90 : m_okM m_me_90 := ⟨⟨m_code_in m_cd_90, m_kb_90⟩, m_kt_90, m_kh_90⟩
set_option maxRecDepth 100000 in
theorem m_cd_91 : m_codes[58]? = some (m_me_91.1, m_me_91.2.1, m_me_91.2.2.1, m_me_91.2.2.2.1) := rfl
theorem m_kb_91 : m_okB m_me_91 = true := by decide +kernel
theorem m_kt_91 : m_okT m_me_91 = true := by decide +kernel
theorem m_kh_91 : m_me_91.2.2.2.2.1.all (m_okTh m_me_91) = true := by decide +kernel
theorem m_ok_91 : m_okM m_me_91 := ⟨⟨m_code_in m_cd_91, m_kb_91⟩, m_kt_91, m_kh_91⟩
set_option maxRecDepth 100000 in
theorem m_cd_92 : m_codes[68]? = some (m_me_92.1, m_me_92.2.1, m_me_92.2.2.1, m_me_92.2.2.2.1) := rfl
theorem m_kb_92 : m_okB m_me_92 = true := by decide +kernel
theorem m_kt_92 : m_okT m_me_92 = true := by decide +kernel
theorem m_kh_92 : m_me_92.2.2.2.2.1.all (m_okTh m_me_92) = true := by decide +kernel
theorem m_ok_92 : m_okM m_me_92 := ⟨⟨m_code_in m_cd_92, m_kb_92⟩, m_kt_92, m_kh_92⟩
set_option maxRecDepth 100000 in
theorem m_cd_93 : m_codes[204]? = some (m_me_93.1, m_me_93.2.1, m_me_93.2.2.1, m_me_93.2.2.2.1) := rfl
theorem m_kb_93 : m_okB m_me_93 = true := by decide +kernel
theorem m_kt_93 : m_okT m_me_93 = true := by decide +kernel
theorem m_kh_93 : m_me_93.2.2.2.2.1.all (m_okTh m_me_93) = true := by decide +kernel
theorem m_ok_93 : m_okM m_me_93 := ⟨⟨m_code_in m_cd_93, m_kb_93⟩, m_kt_93, m_kh_93⟩
set_option maxRecDepth 100000 in
theorem m_cd_94 : m_codes[205]? = some (m_me_94.1, m_me_94.2.1, m_me_94.2.2.1, m_me_94.2.2.2.1) := rfl
theorem m_kb_94 : m_okB m_me_94 = true := by decide +kernel
theorem m_kt_94 : m_okT m_me_94 = true := by decide +kernel
theorem m_kh_94 : m_me_94.2.2.2.2.1.all (m_okTh m_me_94) = true := by decide +kernel
theorem m_ok_94 : m_okM m_me_94 := ⟨⟨m_code_in m_cd_94, m_kb_94⟩, m_kt_94, m_kh_94⟩
set_option maxRecDepth 100000 in
theorem m_cd_95 : m_codes[206]? = some (m_me_95.1, m_me_95.2.1, m_me_95.2.2.1, m_me_95.2.2.2.1) := rfl
theorem m_kb_95 : m_okB m_me_95 = true := by decide +kernel
theorem m_kt_95 : m_okT m_me_95 = true := by decide +kernel
theorem m_kh_95 : m_me_95.2.2.2.2.1.all (m_okTh m_me_95) = true := by decide +kernel
theorem m_ok_95 : m_okM m_me_95 := ⟨⟨m_code_in m_cd_95, m_kb_95⟩, m_kt_95, m_kh_95⟩
set_option maxRecDepth 100000 in
theorem m_cd_96 : m_codes[8]? = some (m_me_96.1, m_me_96.2.1, m_me_96.2.2.1, m_me_96.2.2.2.1) := rfl
theorem m_kb_96 : m_okB m_me_96 = true := by decide +kernel
theorem m_kt_96 : m_okT m_me_96 = true := by decide +kernel
theorem m_kh_96 : m_me_96.2.2.2.2.1.all (m_okTh m_me_96) = true := by decide +kernel
theorem m_ok_96 : m_okM m_me_96 := ⟨⟨m_code_in m_cd_96, m_kb_96⟩, m_kt_96, m_kh_96⟩
set_option maxRecDepth 100000 in
theorem m_cd_97 : m_codes[71]? = some (m_me_97.1, m_me_97.2.1, m_me_97.2.2.1, m_me_97.2.2.2.1) := rfl
theorem m_kb_97 : m_okB m_me_97 = true := by decide +kernel
theorem m_kt_97 : m_okT m_me_97 = true := by decide +kernel
theorem m_kh_97 : m_me_97.2.2.2.2.1.all (m_okTh m_me_97) = true := by decide +kernel
theorem m_ok_97 : m_okM m_me_97 := ⟨⟨m_code_in m_cd_97, m_kb_97⟩, m_kt_97, m_kh_97⟩
set_option maxRecDepth 100000 in
theorem m_cd_98 : m_codes[101]? = some (m_me_98.1, m_me_98.2.1, m_me_98.2.2.1, m_me_98.2.2.2.1) := rfl
theorem m_kb_98 : m_okB m_me_98 = true := by decide +kernel
theorem m_kt_98 : m_okT m_me_98 = true := by decide +kernel
theorem m_kh_98 : m_me_98.2.2.2.2.1.all (m_okTh m_me_98) = true := by decide +kernel
theorem m_ok_98 : m_okM m_me_98 := ⟨⟨m_code_in m_cd_98, m_kb_98⟩, m_kt_98, m_kh_98⟩
set_option maxRecDepth 100000 in
theorem m_cd_99 : m_codes[102]? = some (m_me_99.1, m_me_99.2.1, m_me_99.2.2.1, m_me_99.2.2.2.1) := rfl
theorem m_kb_99 : m_okB m_me_99 = true := by decide +kernel
theorem m_kt_99 : m_okT m_me_99 = true := by decide +kernel
theorem m_kh_99 : m_me_99.2.2.2.2.1.all (m_okTh m_me_99) = true := by decide +kernel
theorem m_ok_99 : m_okM m_me_99 := ⟨⟨m_code_in m_cd_99, m_kb_99⟩, m_kt_99, m_kh_99⟩
set_option maxRecDepth 100000 in
theorem m_cd_100 : m_codes[106]? = some (m_me_100.1, m_me_100.2.1, m_me_100.2.2.1, m_me_100.2.2.2.1) := rfl
theorem m_kb_100 : m_okB m_me_100 = true := by decide +kernel
theorem m_kt_100 : m_okT m_me_100 = true := by decide +kernel
theorem m_kh_100 : m_me_100.2.2.2.2.1.all (m_okTh m_me_100) = true := by decide +kernel
theorem m_ok_100 : m_okM m_me_100 := ⟨⟨m_code_in m_cd_100, m_kb_100⟩, m_kt_100, m_kh_100⟩
set_option maxRecDepth 100000 in
theorem m_cd_101 : m_codes[114]? = some (m_me_101.1, m_me_101.2.1, m_me_101.2.2.1, m_me_101.2.2.2.1) := rfl
theorem m_kb_101 : m_okB m_me_101 = true := by decide +kernel
theorem m_kt_101 : m_okT m_me_101 = true := by decide +kernel
theorem m_kh_101 : m_me_101.2.2.2.2.1.all (m_okTh m_me_101) = true := by decide +kernel
theorem m_ok_101 : m_okM m_me_101 := ⟨⟨m_code_in m_cd_101, m_kb_101⟩, m_kt_101, m_kh_101⟩
set_option maxRecDepth 100000 in
theorem m_cd_102 : m_codes[128]? = some (m_me_102.1, m_me_102.2.1, m_me_102.2.2.1, m_me_102.2.2.2.1) := rfl
theorem m_kb_102 : m_okB m_me_102 = true := by decide +kernel
theorem m_kt_102 : m_okT m_me_102 = true := by decide +kernel
theorem m_kh_102 : m_me_102.2.2.2.2.1.all (m_okTh m_me_102) = true := by decide +kernel
theorem m_ok_102 : m_okM m_me_102 := ⟨⟨m_code_in m_cd_102, m_kb_102⟩, m_kt_102, m_kh_102⟩
set_option maxRecDepth 100000 in
theorem m_cd_103 : m_codes[142]? = some (m_me_103.1, m_me_103.2.1, m_me_103.2.2.1, m_me_103.2.2.2.1) := rfl
theorem m_kb_103 : m_okB m_me_103 = true := by decide +kernel
theorem m_kt_103 : m_okT m_me_103 = true := by decide +kernel
theorem m_kh_103 : m_me_103.2.2.2.2.1.all (m_okTh m_me_103) = true := by decide +kernel
theorem m_ok_103 : m_okM m_me_103 := ⟨⟨m_code_in m_cd_103, m_kb_103⟩, m_kt_103, m_kh_103⟩
set_option maxRecDepth 100000 in
theorem m_cd_104 : m_codes[143]? = some (m_me_104.1, m_me_104.2.1, m_me_104.2.2.1, m_me_104.2.2.2.1) := rfl
theorem m_kb_104 : m_okB m_me_104 = true := by decide +kernel
theorem m_kt_104 : m_okT m_me_104 = true := by decide +kernel
theorem m_kh_104 : m_me_104.2.2.2.2.1.all (m_okTh m_me_104) = true := by decide +kernel
theorem m_ok_104 : m_okM m_me_104 := ⟨⟨m_code_in m_cd_104, m_kb_104⟩, m_kt_104, m_kh_104⟩
