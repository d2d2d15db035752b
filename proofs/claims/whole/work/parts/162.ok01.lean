/-! checks of methods -/
set_option maxRecDepth 100000 in
theorem m_cd_35 : m_codes[186]? = some (m_me_35.1, m_me_35.2.1, m_me_35.2.2.1, m_me_35.2.2.2.1) := rfl
theorem m_kb_35 : m_okB m_me_35 = true := by decide +kernel
theorem m_kt_35 : m_okT m_me_35 = true := by decide +kernel
theorem m_kh_35 : m_me_35.2.2.2.2.1.all (m_okTh m_me_35) = true := by decide +kernel
theorem m_ok_35 : m_okM m_me_35 := ⟨⟨m_code_in m_cd_35, m_kb_35⟩, m_kt_35, m_kh_35⟩
set_option maxRecDepth 100000 in
theorem m_cd_36 : m_codes[5]? = some (m_me_36.1, m_me_36.2.1, m_me_36.2.2.1, m_me_36.2.2.2.1) := rfl
theorem m_kb_36 : m_okB m_me_36 = true := by decide +kernel
theorem m_kt_36 : m_okT m_me_36 = true := by decide +kernel
theorem m_kh_36 : m_me_36.2.2.2.2.1.all (m_okTh m_me_36) = true := by decide +kernel
theorem m_ok_36 : m_okM m_me_36 := ⟨⟨m_code_in m_cd_36, m_kb_36⟩, m_kt_36, m_kh_36⟩
set_option maxRecDepth 100000 in
theorem m_cd_37 : m_codes[44]? = some (m_me_37.1, m_me_37.2.1, m_me_37.2.2.1, m_me_37.2.2.2.1) := rfl
theorem m_kb_37 : m_okB m_me_37 = true := by decide +kernel
theorem m_kt_37 : m_okT m_me_37 = true := by decide +kernel
theorem m_kh_37 : m_me_37.2.2.2.2.1.all (m_okTh m_me_37) = true := by decide +kernel
theorem m_ok_37 : m_okM m_me_37 := ⟨⟨m_code_in m_cd_37, m_kb_37⟩, m_kt_37, m_kh_37⟩
set_option maxRecDepth 100000 in
theorem m_cd_38 : m_codes[46]? = some (m_me_38.1, m_me_38.2.1, m_me_38.2.2.1, m_me_38.2.2.2.1) := rfl
theorem m_kb_38 : m_okB m_me_38 = true := by decide +kernel
theorem m_kt_38 : m_okT m_me_38 = true := by decide +kernel
theorem m_kh_38 : m_me_38.2.2.2.2.1.all (m_okTh m_me_38) = true := by decide +kernel
theorem m_ok_38 : m_okM m_me_38 := ⟨⟨m_code_in m_cd_38, m_kb_38⟩, m_kt_38, m_kh_38⟩
set_option maxRecDepth 100000 in
theorem m_cd_39 : m_codes[49]? = some (m_me_39.1, m_me_39.2.1, m_me_39.2.2.1, m_me_39.2.2.2.1) := rfl
theorem m_kb_39 : m_okB m_me_39 = true := by decide +kernel
theorem m_kt_39 : m_okT m_me_39 = true := by decide +kernel
theorem m_kh_39 : m_me_39.2.2.2.2.1.all (m_okTh m_me_39) = true := by decide +kernel
theorem m_ok_39 : m_okM m_me_39 := ⟨⟨m_code_in m_cd_39, m_kb_39⟩, m_kt_39, m_kh_39⟩
set_option maxRecDepth 100000 in
theorem m_cd_40 : m_codes[103]? = some (m_me_40.1, m_me_40.2.1, m_me_40.2.2.1, m_me_40.2.2.2.1) := rfl
theorem m_kb_40 : m_okB m_me_40 = true := by decide +kernel
theorem m_kt_40 : m_okT m_me_40 = true := by decide +kernel
theorem m_kh_40 : m_me_40.2.2.2.2.1.all (m_okTh m_me_40) = true := by decide +kernel
theorem m_ok_40 : m_okM m_me_40 := ⟨⟨m_code_in m_cd_40, m_kb_40⟩, m_kt_40, m_kh_40⟩
set_option maxRecDepth 100000 in
theorem m_cd_41 : m_codes[104]? = some (m_me_41.1, m_me_41.2.1, m_me_41.2.2.1, m_me_41.2.2.2.1) := rfl
theorem m_kb_41 : m_okB m_me_41 = true := by decide +kernel
theorem m_kt_41 : m_okT m_me_41 = true := by decide +kernel
theorem m_kh_41 : m_me_41.2.2.2.2.1.all (m_okTh m_me_41) = true := by decide +kernel
theorem m_ok_41 : m_okM m_me_41 := ⟨⟨m_code_in m_cd_41, m_kb_41⟩, m_kt_41, m_kh_41⟩
set_option maxRecDepth 100000 in
theorem m_cd_42 : m_codes[108]? = some (m_me_42.1, m_me_42.2.1, m_me_42.2.2.1, m_me_42.2.2.2.1) := rfl
theorem m_kb_42 : m_okB m_me_42 = true := by decide +kernel
theorem m_kt_42 : m_okT m_me_42 = true := by decide +kernel
theorem m_kh_42 : m_me_42.2.2.2.2.1.all (m_okTh m_me_42) = true := by decide +kernel
theorem m_ok_42 : m_okM m_me_42 := ⟨⟨m_code_in m_cd_42, m_kb_42⟩, m_kt_42, m_kh_42⟩
set_option maxRecDepth 100000 in
theorem m_cd_43 : m_codes[147]? = some (m_me_43.1, m_me_43.2.1, m_me_43.2.2.1, m_me_43.2.2.2.1) := rfl
theorem m_kb_43 : m_okB m_me_43 = true := by decide +kernel
theorem m_kt_43 : m_okT m_me_43 = true := by decide +kernel
theorem m_kh_43 : m_me_43.2.2.2.2.1.all (m_okTh m_me_43) = true := by decide +kernel
theorem m_ok_43 : m_okM m_me_43 := ⟨⟨m_code_in m_cd_43, m_kb_43⟩, m_kt_43, m_kh_43⟩
set_option maxRecDepth 100000 in
theorem m_cd_44 : m_codes[2]? = some (m_me_44.1, m_me_44.2.1, m_me_44.2.2.1, m_me_44.2.2.2.1) := rfl
theorem m_kb_44 : m_okB m_me_44 = true := by decide +kernel
theorem m_kt_44 : m_okT m_me_44 = true := by decide +kernel
theorem m_kh_44 : m_me_44.2.2.2.2.1.all (m_okTh m_me_44) = true := by decide +kernel
theorem m_ok_44 : m_okM m_me_44 := ⟨⟨m_code_in m_cd_44, m_kb_44⟩, m_kt_44, m_kh_44⟩
set_option maxRecDepth 100000 in
theorem m_cd_45 : m_codes[15]? = some (m_me_45.1, m_me_45.2.1, m_me_45.2.2.1, m_me_45.2.2.2.1) := rfl
theorem m_kb_45 : m_okB m_me_45 = true := by decide +kernel
theorem m_kt_45 : m_okT m_me_45 = true := by decide +kernel
theorem m_kh_45 : m_me_45.2.2.2.2.1.all (m_okTh m_me_45) = true := by decide +kernel
theorem m_ok_45 : m_okM m_me_45 := ⟨⟨m_code_in m_cd_45, m_kb_45⟩, m_kt_45, m_kh_45⟩
set_option maxRecDepth 100000 in
theorem m_cd_46 : m_codes[19]? = some (m_me_46.1, m_me_46.2.1, m_me_46.2.2.1, m_me_46.2.2.2.1) := rfl
theorem m_kb_46 : m_okB m_me_46 = true := by decide +kernel
theorem m_kt_46 : m_okT m_me_46 = true := by decide +kernel
theorem m_kh_46 : m_me_46.2.2.2.2.1.all (m_okTh m_me_46) = true := by decide +kernel
theorem m_ok_46 : m_okM m_me_46 := ⟨⟨m_code_in m_cd_46, m_kb_46⟩, m_kt_46, m_kh_46⟩
set_option maxRecDepth 100000 in
theorem m_cd_47 : m_codes[20]? = some (m_me_47.1, m_me_47.2.1, m_me_47.2.2.1, m_me_47.2.2.2.1) := rfl
theorem m_kb_47 : m_okB m_me_47 = true := by decide +kernel
theorem m_kt_47 : m_okT m_me_47 = true := by decide +kernel
theorem m_kh_47 : m_me_47.2.2.2.2.1.all (m_okTh m_me_47) = true := by decide +kernel
theorem m_ok_47 : m_okM m_me_47 := ⟨⟨m_code_in m_cd_47, m_kb_47⟩, m_kt_47, m_kh_47⟩
set_option maxRecDepth 100000 in
theorem m_cd_48 : m_codes[21]? = some (m_me_48.1, m_me_48.2.1, m_me_48.2.2.1, m_me_48.2.2.2.1) := rfl
theorem m_kb_48 : m_okB m_me_48 = true := by decide +kernel
theorem m_kt_48 : m_okT m_me_48 = true := by decide +kernel
theorem m_kh_48 : m_me_48.2.2.2.2.1.all (m_okTh m_me_48) = true := by decide +kernel
theorem m_ok_48 : m_okM m_me_48 := ⟨⟨m_code_in m_cd_48, m_kb_48⟩, m_kt_48, m_kh_48⟩
set_option maxRecDepth 100000 in
theorem m_cd_49 : m_codes[22]? = some (m_me_49.1, m_me_49.2.1, m_me_49.2.2.1, m_me_49.2.2.2.1) := rfl
theorem m_kb_49 : m_okB m_me_49 = true := by decide +kernel
theorem m_kt_49 : m_okT m_me_49 = true := by decide +kernel
theorem m_kh_49 : m_me_49.2.2.2.2.1.all (m_okTh m_me_49) = true := by decide +kernel
theorem m_ok_49 : m_okM m_me_49 := ⟨⟨m_code_in m_cd_49, m_kb_49⟩, m_kt_49, m_kh_49⟩
set_option maxRecDepth 100000 in
theorem m_cd_50 : m_codes[23]? = some (m_me_50.1, m_me_50.2.1, m_me_50.2.2.1, m_me_50.2.2.2.1) := rfl
theorem m_kb_50 : m_okB m_me_50 = true := by decide +kernel
theorem m_kt_50 : m_okT m_me_50 = true := by decide +kernel
theorem m_kh_50 : m_me_50.2.2.2.2.1.all (m_okTh m_me_50) = true := by decide +kernel
theorem m_ok_50 : m_okM m_me_50 := ⟨⟨m_code_in m_cd_50, m_kb_50⟩, m_kt_50, m_kh_50⟩
set_option maxRecDepth 100000 in
theorem m_cd_51 : m_codes[24]? = some (m_me_51.1, m_me_51.2.1, m_me_51.2.2.1, m_me_51.2.2.2.1) := rfl
theorem m_kb_51 : m_okB m_me_51 = true := by decide +kernel
theorem m_kt_51 : m_okT m_me_51 = true := by decide +kernel
theorem m_kh_51 : m_me_51.2.2.2.2.1.all (m_okTh m_me_51) = true := by decide +kernel
theorem m_ok_51 : m_okM m_me_51 := ⟨⟨m_code_in m_cd_51, m_kb_51⟩, m_kt_51, m_kh_51⟩
set_option maxRecDepth 100000 in
theorem m_cd_52 : m_codes[26]? = some (m_me_52.1, m_me_52.2.1, m_me_52.2.2.1, m_me_52.2.2.2.1) := rfl
theorem m_kb_52 : m_okB m_me_52 = true := by decide +kernel
theorem m_kt_52 : m_okT m_me_52 = true := by decide +kernel
theorem m_kh_52 : m_me_52.2.2.2.2.1.all (m_okTh m_me_52) = true := by decide +kernel
theorem m_ok_52 : m_okM m_me_52 := ⟨⟨m_code_in m_cd_52, m_kb_52⟩, m_kt_52, m_kh_52⟩
set_option maxRecDepth 100000 in
theorem m_cd_53 : m_codes[39]? = some (m_me_53.1, m_me_53.2.1, m_me_53.2.2.1, m_me_53.2.2.2.1) := rfl
theorem m_kb_53 : m_okB m_me_53 = true := by decide +kernel
theorem m_kt_53 : m_okT m_me_53 = true := by decide +kernel
theorem m_kh_53 : m_me_53.2.2.2.2.1.all (m_okTh m_me_53) = true := by decide +kernel
theorem m_ok_53 : m_okM m_me_53 := ⟨⟨m_code_in m_cd_53, m_kb_53⟩, m_kt_53, m_kh_53⟩
set_option maxRecDepth 100000 in
theorem m_cd_54 : m_codes[40]? = some (m_me_54.1, m_me_54.2.1, m_me_54.2.2.1, m_me_54.2.2.2.1) := rfl
theorem m_kb_54 : m_okB m_me_54 = true := by decide +kernel
theorem m_kt_54 : m_okT m_me_54 = true := by decide +kernel
theorem m_kh_54 : m_me_54.2.2.2.2.1.all (m_okTh m_me_54) = true := by decide +kernel
theorem m_ok_54 : m_okM m_me_54 := ⟨⟨m_code_in m_cd_54, m_kb_54⟩, m_kt_54, m_kh_54⟩
set_option maxRecDepth 100000 in
theorem m_cd_55 : m_codes[41]? = some (m_me_55.1, m_me_55.2.1, m_me_55.2.2.1, m_me_55.2.2.2.1) := rfl
theorem m_kb_55 : m_okB m_me_55 = true := by decide +kernel
theorem m_kt_55 : m_okT m_me_55 = true := by decide +kernel
theorem m_kh_55 : m_me_55.2.2.2.2.1.all (m_okTh m_me_55) = true := by decide +kernel
theorem m_ok_55 : m_okM m_me_55 := ⟨⟨m_code_in m_cd_55, m_kb_55⟩, m_kt_55, m_kh_55⟩
set_option maxRecDepth 100000 in
theorem m_cd_56 : m_codes[56]? = some (m_me_56.1, m_me_56.2.1, m_me_56.2.2.1, m_me_56.2.2.2.1) := rfl
theorem m_kb_56 : m_okB m_me_56 = true := by decide +kernel
theorem m_kt_56 : m_okT m_me_56 = true := by decide +kernel
theorem m_kh_56 : m_me_56.2.2.2.2.1.all (m_okTh m_me_56) = true := by decide +kernel
theorem m_ok_56 : m_okM m_me_56 := ⟨⟨m_code_in m_cd_56, m_kb_56⟩, m_kt_56, m_kh_56⟩
set_option maxRecDepth 100000 in
theorem m_cd_57 : m_codes[10]? = some (m_me_57.1, m_me_57.2.1, m_me_57.2.2.1, m_me_57.2.2.2.1) := rfl
theorem m_kb_57 : m_okB m_me_57 = true := by decide +kernel
theorem m_kt_57 : m_okT m_me_57 = true := by decide +kernel
theorem m_kh_57 : m_me_57.2.2.2.2.1.all (m_okTh m_me_57) = true := by decide +kernel
theorem m_ok_57 : m_okM m_me_57 := ⟨⟨m_code_in m_cd_57, m_kb_57⟩, m_kt_57, m_kh_57⟩
set_option maxRecDepth 100000 in
theorem m_cd_58 : m_codes[73]? = some (m_me_58.1, m_me_58.2.1, m_me_58.2.2.1, m_me_58.2.2.2.1) := rfl
theorem m_kb_58 : m_okB m_me_58 = true := by decide +kernel
theorem m_kt_58 : m_okT m_me_58 = true := by decide +kernel
theorem m_kh_58 : m_me_58.2.2.2.2.1.all (m_okTh m_me_58) = true := by decide +kernel
theorem m_ok_58 : m_okM m_me_58 := ⟨⟨m_code_in m_cd_58, m_kb_58⟩, m_kt_58, m_kh_58⟩
set_option maxRecDepth 100000 in
theorem m_cd_59 : m_codes[130]? = some (m_me_59.1, m_me_59.2.1, m_me_59.2.2.1, m_me_59.2.2.2.1) := rfl
theorem m_kb_59 : m_okB m_me_59 = true := by decide +kernel
theorem m_kt_59 : m_okT m_me_59 = true := by decide +kernel
theorem m_kh_59 : m_me_59.2.2.2.2.1.all (m_okTh m_me_59) = true := by decide +kernel
theorem m_ok_59 : m_okM m_me_59 := ⟨⟨m_code_in m_cd_59, m_kb_59⟩, m_kt_59, m_kh_59⟩
set_option maxRecDepth 100000 in
theorem m_cd_60 : m_codes[153]? = some (m_me_60.1, m_me_60.2.1, m_me_60.2.2.1, m_me_60.2.2.2.1) := rfl
theorem m_kb_60 : m_okB m_me_60 = true := by decide +kernel
theorem m_kt_60 : m_okT m_me_60 = true := by decide +kernel
theorem m_kh_60 : m_me_60.2.2.2.2.1.all (m_okTh m_me_60) = true := by decide +kernel
theorem m_ok_60 : m_okM m_me_60 := ⟨⟨m_code_in m_cd_60, m_kb_60⟩, m_kt_60, m_kh_60⟩
set_option maxRecDepth 100000 in
theorem m_cd_61 : m_codes[154]? = some (m_me_61.1, m_me_61.2.1, m_me_61.2.2.1, m_me_61.2.2.2.1) := rfl
theorem m_kb_61 : m_okB m_me_61 = true := by decide +kernel
theorem m_kt_61 : m_okT m_me_61 = true := by decide +kernel
theorem m_kh_61 : m_me_61.2.2.2.2.1.all (m_okTh m_me_61) = true := by decide +kernel
theorem m_ok_61 : m_okM m_me_61 := ⟨⟨m_code_in m_cd_61, m_kb_61⟩, m_kt_61, m_kh_61⟩
set_option maxRecDepth 100000 in
theorem m_cd_62 : m_codes[162]? = some (m_me_62.1, m_me_62.2.1, m_me_62.2.2.1, m_me_62.2.2.2.1) := rfl
theorem m_kb_62 : m_okB m_me_62 = true := by decide +kernel
theorem m_kt_62 : m_okT m_me_62 = true := by decide +kernel
theorem m_kh_62 : m_me_62.2.2.2.2.1.all (m_okTh m_me_62) = true := by decide +kernel
theorem m_ok_62 : m_okM m_me_62 := ⟨⟨m_code_in m_cd_62, m_kb_62⟩, m_kt_62, m_kh_62⟩
set_option maxRecDepth 100000 in
theorem m_cd_63 : m_codes[178]? = some (m_me_63.1, m_me_63.2.1, m_me_63.2.2.1, m_me_63.2.2.2.1) := rfl
theorem m_kb_63 : m_okB m_me_63 = true := by decide +kernel
theorem m_kt_63 : m_okT m_me_63 = true := by decide +kernel
theorem m_kh_63 : m_me_63.2.2.2.2.1.all (m_okTh m_me_63) = true := by decide +kernel
theorem m_ok_63 : m_okM m_me_63 := ⟨⟨m_code_in m_cd_63, m_kb_63⟩, m_kt_63, m_kh_63⟩
set_option maxRecDepth 100000 in
theorem m_cd_64 : m_codes[3]? = some (m_me_64.1, m_me_64.2.1, m_me_64.2.2.1, m_me_64.2.2.2.1) := rfl
theorem m_kb_64 : m_okB m_me_64 = true := by decide +kernel
theorem m_kt_64 : m_okT m_me_64 = true := by decide +kernel
theorem m_kh_64 : m_me_64.2.2.2.2.1.all (m_okTh m_me_64) = true := by decide +kernel
theorem m_ok_64 : m_okM m_me_64 := ⟨⟨m_code_in m_cd_64, m_kb_64⟩, m_kt_64, m_kh_64⟩
set_option maxRecDepth 100000 in
theorem m_cd_65 : m_codes[18]? = some (m_me_65.1, m_me_65.2.1, m_me_65.2.2.1, m_me_65.2.2.2.1) := rfl
theorem m_kb_65 : m_okB m_me_65 = true := by decide +kernel
theorem m_kt_65 : m_okT m_me_65 = true := by decide +kernel
theorem m_kh_65 : m_me_65.2.2.2.2.1.all (m_okTh m_me_65) = true := by decide +kernel
theorem m_ok_65 : m_okM m_me_65 := ⟨⟨m_code_in m_cd_65, m_kb_65⟩, m_kt_65, m_kh_65⟩
set_option maxRecDepth 100000 in
theorem m_cd_66 : m_codes[25]? = some (m_me_66.1, m_me_66.2.1, m_me_66.2.2.1, m_me_66.2.2.2.1) := rfl
theorem m_kb_66 : m_okB m_me_66 = true := by decide +kernel
theorem m_kt_66 : m_okT m_me_66 = true := by decide +kernel
theorem m_kh_66 : m_me_66.2.2.2.2.1.all (m_okTh m_me_66) = true := by decide +kernel
theorem m_ok_66 : m_okM m_me_66 := ⟨⟨m_code_in m_cd_66, m_kb_66⟩, m_kt_66, m_kh_66⟩
set_option maxRecDepth 100000 in
theorem m_cd_67 : m_codes[38]? = some (m_me_67.1, m_me_67.2.1, m_me_67.2.2.1, m_me_67.2.2.2.1) := rfl
theorem m_kb_67 : m_okB m_me_67 = true := by decide +kernel
theorem m_kt_67 : m_okT m_me_67 = true := by decide +kernel
theorem m_kh_67 : m_me_67.2.2.2.2.1.all (m_okTh m_me_67) = true := by decide +kernel
theorem m_ok_67 : m_okM m_me_67 := ⟨⟨m_code_in m_cd_67, m_kb_67⟩, m_kt_67, m_kh_67⟩
set_option maxRecDepth 100000 in
theorem m_cd_68 : m_codes[43]? = some (m_me_68.1, m_me_68.2.1, m_me_68.2.2.1, m_me_68.2.2.2.1) := rfl
theorem m_kb_68 : m_okB m_me_68 = true := by decide +kernel
theorem m_kt_68 : m_okT m_me_68 = true := by decide +kernel
theorem m_kh_68 : m_me_68.2.2.2.2.1.all (m_okTh m_me_68) = true := by decide +kernel
theorem m_ok_68 : m_okM m_me_68 := ⟨⟨m_code_in m_cd_68, m_kb_68⟩, m_kt_68, m_kh_68⟩
set_option maxRecDepth 100000 in
theorem m_cd_69 : m_codes[45]? = some (m_me_69.1, m_me_69.2.1, m_me_69.2.2.1, m_me_69.2.2.2.1) := rfl
theorem m_kb_69 : m_okB m_me_69 = true := by decide +kernel
theorem m_kt_69 : m_okT m_me_69 = true := by decide +kernel
theorem m_kh_69 : m_me_69.2.2.2.2.1.all (m_okTh m_me_69) = true := by decide +kernel
theorem m_ok_69 : m_okM m_me_69 := ⟨⟨m_code_in m_cd_69, m_kb_69⟩, m_kt_69, m_kh_69⟩
