/-! checks of methods -/
set_option maxRecDepth 100000 in
theorem m_cd_0 : m_codes[7]? = some (m_me_0.1, m_me_0.2.1, m_me_0.2.2.1, m_me_0.2.2.2.1) := rfl
theorem m_kb_0 : m_okB m_me_0 = true := by decide +kernel
theorem m_kt_0 : m_okT m_me_0 = true := by decide +kernel
theorem m_kh_0 : m_me_0.2.2.2.2.1.all (m_okTh m_me_0) = true := by decide +kernel
theorem m_ok_0 : m_okM m_me_0 := ⟨⟨m_code_in m_cd_0, m_kb_0⟩, m_kt_0, m_kh_0⟩
set_option maxRecDepth 100000 in
theorem m_cd_1 : m_codes[47]? = some (m_me_1.1, m_me_1.2.1, m_me_1.2.2.1, m_me_1.2.2.2.1) := rfl
theorem m_kb_1 : m_okB m_me_1 = true := by decide +kernel
theorem m_kt_1 : m_okT m_me_1 = true := by decide +kernel
theorem m_kh_1 : m_me_1.2.2.2.2.1.all (m_okTh m_me_1) = true := by decide +kernel
theorem m_ok_1 : m_okM m_me_1 := ⟨⟨m_code_in m_cd_1, m_kb_1⟩, m_kt_1, m_kh_1⟩
set_option maxRecDepth 100000 in
theorem m_cd_2 : m_codes[70]? = some (m_me_2.1, m_me_2.2.1, m_me_2.2.2.1, m_me_2.2.2.2.1) := rfl
theorem m_kb_2 : m_okB m_me_2 = true := by decide +kernel
theorem m_kt_2 : m_okT m_me_2 = true := by decide +kernel
theorem m_kh_2 : m_me_2.2.2.2.2.1.all (m_okTh m_me_2) = true := by decide +kernel
theorem m_ok_2 : m_okM m_me_2 := ⟨⟨m_code_in m_cd_2, m_kb_2⟩, m_kt_2, m_kh_2⟩
set_option maxRecDepth 100000 in
theorem m_cd_3 : m_codes[94]? = some (m_me_3.1, m_me_3.2.1, m_me_3.2.2.1, m_me_3.2.2.2.1) := rfl
theorem m_kb_3 : m_okB m_me_3 = true := by decide +kernel
theorem m_kt_3 : m_okT m_me_3 = true := by decide +kernel
theorem m_kh_3 : m_me_3.2.2.2.2.1.all (m_okTh m_me_3) = true := by decide +kernel
theorem m_ok_3 : m_okM m_me_3 := ⟨⟨m_code_in m_cd_3, m_kb_3⟩, m_kt_3, m_kh_3⟩
set_option maxRecDepth 100000 in
theorem m_cd_4 : m_codes[95]? = some (m_me_4.1, m_me_4.2.1, m_me_4.2.2.1, m_me_4.2.2.2.1) := rfl
theorem m_kb_4 : m_okB m_me_4 = true := by decide +kernel
theorem m_kt_4 : m_okT m_me_4 = true := by decide +kernel
theorem m_kh_4 : m_me_4.2.2.2.2.1.all (m_okTh m_me_4) = true := by decide +kernel
theorem m_ok_4 : m_okM m_me_4 := ⟨⟨m_code_in m_cd_4, m_kb_4⟩, m_kt_4, m_kh_4⟩
set_option maxRecDepth 100000 in
theorem m_cd_5 : m_codes[96]? = some (m_me_5.1, m_me_5.2.1, m_me_5.2.2.1, m_me_5.2.2.2.1) := rfl
theorem m_kb_5 : m_okB m_me_5 = true := by decide +kernel
theorem m_kt_5 : m_okT m_me_5 = true := by decide +kernel
theorem m_kh_5 : m_me_5.2.2.2.2.1.all (m_okTh m_me_5) = true := by decide +kernel
theorem m_ok_5 : m_okM m_me_5 := ⟨⟨m_code_in m_cd_5, m_kb_5⟩, m_kt_5, m_kh_5⟩
set_option maxRecDepth 100000 in
theorem m_cd_6 : m_codes[105]? = some (m_me_6.1, m_me_6.2.1, m_me_6.2.2.1, m_me_6.2.2.2.1) := rfl
theorem m_kb_6 : m_okB m_me_6 = true := by decide +kernel
theorem m_kt_6 : m_okT m_me_6 = true := by decide +kernel
theorem m_kh_6 : m_me_6.2.2.2.2.1.all (m_okTh m_me_6) = true := by decide +kernel
theorem m_ok_6 : m_okM m_me_6 := ⟨⟨m_code_in m_cd_6, m_kb_6⟩, m_kt_6, m_kh_6⟩
set_option maxRecDepth 100000 in
theorem m_cd_7 : m_codes[127]? = some (m_me_7.1, m_me_7.2.1, m_me_7.2.2.1, m_me_7.2.2.2.1) := rfl
theorem m_kb_7 : m_okB m_me_7 = true := by decide +kernel
theorem m_kt_7 : m_okT m_me_7 = true := by decide +kernel
theorem m_kh_7 : m_me_7.2.2.2.2.1.all (m_okTh m_me_7) = true := by decide +kernel
theorem m_ok_7 : m_okM m_me_7 := ⟨⟨m_code_in m_cd_7, m_kb_7⟩, m_kt_7, m_kh_7⟩
set_option maxRecDepth 100000 in
theorem m_cd_8 : m_codes[129]? = some (m_me_8.1, m_me_8.2.1, m_me_8.2.2.1, m_me_8.2.2.2.1) := rfl
theorem m_kb_8 : m_okB m_me_8 = true := by decide +kernel
theorem m_kt_8 : m_okT m_me_8 = true := by decide +kernel
theorem m_kh_8 : m_me_8.2.2.2.2.1.all (m_okTh m_me_8) = true := by decide +kernel
theorem m_ok_8 : m_okM m_me_8 := ⟨⟨m_code_in m_cd_8, m_kb_8⟩, m_kt_8, m_kh_8⟩
set_option maxRecDepth 100000 in
theorem m_cd_9 : m_codes[132]? = some (m_me_9.1, m_me_9.2.1, m_me_9.2.2.1, m_me_9.2.2.2.1) := rfl
theorem m_kb_9 : m_okB m_me_9 = true := by decide +kernel
theorem m_kt_9 : m_okT m_me_9 = true := by decide +kernel
theorem m_kh_9 : m_me_9.2.2.2.2.1.all (m_okTh m_me_9) = true := by decide +kernel
theorem m_ok_9 : m_okM m_me_9 := ⟨⟨m_code_in m_cd_9, m_kb_9⟩, m_kt_9, m_kh_9⟩
set_option maxRecDepth 100000 in
theorem m_cd_10 : m_codes[145]? = some (m_me_10.1, m_me_10.2.1, m_me_10.2.2.1, m_me_10.2.2.2.1) := rfl
theorem m_kb_10 : m_okB m_me_10 = true := by decide +kernel
theorem m_kt_10 : m_okT m_me_10 = true := by decide +kernel
theorem m_kh_10 : m_me_10.2.2.2.2.1.all (m_okTh m_me_10) = true := by decide +kernel
theorem m_ok_10 : m_okM m_me_10 := ⟨⟨m_code_in m_cd_10, m_kb_10⟩, m_kt_10, m_kh_10⟩
set_option maxRecDepth 100000 in
theorem m_cd_11 : m_codes[151]? = some (m_me_11.1, m_me_11.2.1, m_me_11.2.2.1, m_me_11.2.2.2.1) := rfl
theorem m_kb_11 : m_okB m_me_11 = true := by decide +kernel
theorem m_kt_11 : m_okT m_me_11 = true := by decide +kernel
theorem m_kh_11 : m_me_11.2.2.2.2.1.all (m_okTh m_me_11) = true := by decide +kernel
theorem m_ok_11 : m_okM m_me_11 := ⟨⟨m_code_in m_cd_11, m_kb_11⟩, m_kt_11, m_kh_11⟩
set_option maxRecDepth 100000 in
theorem m_cd_12 : m_codes[158]? = some (m_me_12.1, m_me_12.2.1, m_me_12.2.2.1, m_me_12.2.2.2.1) := rfl
theorem m_kb_12 : m_okB m_me_12 = true := by decide +kernel
theorem m_kt_12 : m_okT m_me_12 = true := by decide +kernel
theorem m_kh_12 : m_me_12.2.2.2.2.1.all (m_okTh m_me_12) = true := by decide +kernel
theorem m_ok_12 : m_okM m_me_12 := ⟨⟨m_code_in m_cd_12, m_kb_12⟩, m_kt_12, m_kh_12⟩
set_option maxRecDepth 100000 in
theorem m_cd_13 : m_codes[159]? = some (m_me_13.1, m_me_13.2.1, m_me_13.2.2.1, m_me_13.2.2.2.1) := rfl
theorem m_kb_13 : m_okB m_me_13 = true := by decide +kernel
theorem m_kt_13 : m_okT m_me_13 = true := by decide +kernel
theorem m_kh_13 : m_me_13.2.2.2.2.1.all (m_okTh m_me_13) = true := by decide +kernel
theorem m_ok_13 : m_okM m_me_13 := ⟨⟨m_code_in m_cd_13, m_kb_13⟩, m_kt_13, m_kh_13⟩
set_option maxRecDepth 100000 in
theorem m_cd_14 : m_codes[160]? = some (m_me_14.1, m_me_14.2.1, m_me_14.2.2.1, m_me_14.2.2.2.1) := rfl
theorem m_kb_14 : m_okB m_me_14 = true := by decide +kernel
theorem m_kt_14 : m_okT m_me_14 = true := by decide +kernel
theorem m_kh_14 : m_me_14.2.2.2.2.1.all (m_okTh m_me_14) = true := by decide +kernel
theorem m_ok_14 : m_okM m_me_14 := ⟨⟨m_code_in m_cd_14, m_kb_14⟩, m_kt_14, m_kh_14⟩
set_option maxRecDepth 100000 in
theorem m_cd_15 : m_codes[163]? = some (m_me_15.1, m_me_15.2.1, m_me_15.2.2.1, m_me_15.2.2.2.1) := rfl
theorem m_kb_15 : m_okB m_me_15 = true := by decide +kernel
theorem m_kt_15 : m_okT m_me_15 = true := by decide +kernel
theorem m_kh_15 : m_me_15.2.2.2.2.1.all (m_okTh m_me_15) = true := by decide +kernel
theorem m_ok_15 : m_okM m_me_15 := ⟨⟨m_code_in m_cd_15, m_kb_15⟩, m_kt_15, m_kh_15⟩
set_option maxRecDepth 100000 in
theorem m_cd_16 : m_codes[177]? = some (m_me_16.1, m_me_16.2.1, m_me_16.2.2.1, m_me_16.2.2.2.1) := rfl
theorem m_kb_16 : m_okB m_me_16 = true := by decide +kernel
theorem m_kt_16 : m_okT m_me_16 = true := by decide +kernel
theorem m_kh_16 : m_me_16.2.2.2.2.1.all (m_okTh m_me_16) = true := by decide +kernel
theorem m_ok_16 : m_okM m_me_16 := ⟨⟨m_code_in m_cd_16, m_kb_16⟩, m_kt_16, m_kh_16⟩
set_option maxRecDepth 100000 in
theorem m_cd_17 : m_codes[180]? = some (m_me_17.1, m_me_17.2.1, m_me_17.2.2.1, m_me_17.2.2.2.1) := rfl
theorem m_kb_17 : m_okB m_me_17 = true := by decide +kernel
theorem m_kt_17 : m_okT m_me_17 = true := by decide +kernel
theorem m_kh_17 : m_me_17.2.2.2.2.1.all (m_okTh m_me_17) = true := by decide +kernel
theorem m_ok_17 : m_okM m_me_17 := ⟨⟨m_code_in m_cd_17, m_kb_17⟩, m_kt_17, m_kh_17⟩
set_option maxRecDepth 100000 in
theorem m_cd_18 : m_codes[189]? = some (m_me_18.1, m_me_18.2.1, m_me_18.2.2.1, m_me_18.2.2.2.1) := rfl
theorem m_kb_18 : m_okB m_me_18 = true := by decide +kernel
theorem m_kt_18 : m_okT m_me_18 = true := by decide +kernel
theorem m_kh_18 : m_me_18.2.2.2.2.1.all (m_okTh m_me_18) = true := by decide +kernel
theorem m_ok_18 : m_okM m_me_18 := ⟨⟨m_code_in m_cd_18, m_kb_18⟩, m_kt_18, m_kh_18⟩
set_option maxRecDepth 100000 in
theorem m_cd_19 : m_codes[12]? = some (m_me_19.1, m_me_19.2.1, m_me_19.2.2.1, m_me_19.2.2.2.1) := rfl
theorem m_kb_19 : m_okB m_me_19 = true := by decide +kernel
theorem m_kt_19 : m_okT m_me_19 = true := by decide +kernel
theorem m_kh_19 : m_me_19.2.2.2.2.1.all (m_okTh m_me_19) = true := by decide +kernel
theorem m_ok_19 : m_okM m_me_19 := ⟨⟨m_code_in m_cd_19, m_kb_19⟩, m_kt_19, m_kh_19⟩
set_option maxRecDepth 100000 in
theorem m_cd_20 : m_codes[93]? = some (m_me_20.1, m_me_20.2.1, m_me_20.2.2.1, m_me_20.2.2.2.1) := rfl
theorem m_kb_20 : m_okB m_me_20 = true := by decide +kernel
theorem m_kt_20 : m_okT m_me_20 = true := by decide +kernel
theorem m_kh_20 : m_me_20.2.2.2.2.1.all (m_okTh m_me_20) = true := by decide +kernel
theorem m_ok_20 : m_okM m_me_20 := ⟨⟨m_code_in m_cd_20, m_kb_20⟩, m_kt_20, m_kh_20⟩
set_option maxRecDepth 100000 in
theorem m_cd_21 : m_codes[98]? = some (m_me_21.1, m_me_21.2.1, m_me_21.2.2.1, m_me_21.2.2.2.1) := rfl
theorem m_kb_21 : m_okB m_me_21 = true := by decide +kernel
theorem m_kt_21 : m_okT m_me_21 = true := by decide +kernel
theorem m_kh_21 : m_me_21.2.2.2.2.1.all (m_okTh m_me_21) = true := by decide +kernel
theorem m_ok_21 : m_okM m_me_21 := ⟨⟨m_code_in m_cd_21, m_kb_21⟩, m_kt_21, m_kh_21⟩
set_option maxRecDepth 100000 in
theorem m_cd_22 : m_codes[99]? = some (m_me_22.1, m_me_22.2.1, m_me_22.2.2.1, m_me_22.2.2.2.1) := rfl
theorem m_kb_22 : m_okB m_me_22 = true := by decide +kernel
theorem m_kt_22 : m_okT m_me_22 = true := by decide +kernel
theorem m_kh_22 : m_me_22.2.2.2.2.1.all (m_okTh m_me_22) = true := by decide +kernel
theorem m_ok_22 : m_okM m_me_22 := ⟨⟨m_code_in m_cd_22, m_kb_22⟩, m_kt_22, m_kh_22⟩
set_option maxRecDepth 100000 in
theorem m_cd_23 : m_codes[100]? = some (m_me_23.1, m_me_23.2.1, m_me_23.2.2.1, m_me_23.2.2.2.1) := rfl
theorem m_kb_23 : m_okB m_me_23 = true := by decide +kernel
theorem m_kt_23 : m_okT m_me_23 = true := by decide +kernel
theorem m_kh_23 : m_me_23.2.2.2.2.1.all (m_okTh m_me_23) = true := by decide +kernel
theorem m_ok_23 : m_okM m_me_23 := ⟨⟨m_code_in m_cd_23, m_kb_23⟩, m_kt_23, m_kh_23⟩
set_option maxRecDepth 100000 in
theorem m_cd_24 : m_codes[109]? = some (m_me_24.1, m_me_24.2.1, m_me_24.2.2.1, m_me_24.2.2.2.1) := rfl
theorem m_kb_24 : m_okB m_me_24 = true := by decide +kernel
theorem m_kt_24 : m_okT m_me_24 = true := by decide +kernel
theorem m_kh_24 : m_me_24.2.2.2.2.1.all (m_okTh m_me_24) = true := by decide +kernel
theorem m_ok_24 : m_okM m_me_24 := ⟨⟨m_code_in m_cd_24, m_kb_24⟩, m_kt_24, m_kh_24⟩
set_option maxRecDepth 100000 in
theorem m_cd_25 : m_codes[111]? = some (m_me_25.1, m_me_25.2.1, m_me_25.2.2.1, m_me_25.2.2.2.1) := rfl
theorem m_kb_25 : m_okB m_me_25 = true := by decide +kernel
theorem m_kt_25 : m_okT m_me_25 = true := by decide +kernel
theorem m_kh_25 : m_me_25.2.2.2.2.1.all (m_okTh m_me_25) = true := by decide +kernel
theorem m_ok_25 : m_okM m_me_25 := ⟨⟨m_code_in m_cd_25, m_kb_25⟩, m_kt_25, m_kh_25⟩
set_option maxRecDepth 100000 in
theorem m_cd_26 : m_codes[117]? = some (m_me_26.1, m_me_26.2.1, m_me_26.2.2.1, m_me_26.2.2.2.1) := rfl
theorem m_kb_26 : m_okB m_me_26 = true := by decide +kernel
theorem m_kt_26 : m_okT m_me_26 = true := by decide +kernel
theorem m_kh_26 : m_me_26.2.2.2.2.1.all (m_okTh m_me_26) = true := by decide +kernel
theorem m_ok_26 : m_okM m_me_26 := ⟨⟨m_code_in m_cd_26, m_kb_26⟩, m_kt_26, m_kh_26⟩
set_option maxRecDepth 100000 in
theorem m_cd_27 : m_codes[120]? = some (m_me_27.1, m_me_27.2.1, m_me_27.2.2.1, m_me_27.2.2.2.1) := rfl
theorem m_kb_27 : m_okB m_me_27 = true := by decide +kernel
theorem m_kt_27 : m_okT m_me_27 = true := by decide +kernel
theorem m_kh_27 : m_me_27.2.2.2.2.1.all (m_okTh m_me_27) = true := by decide +kernel
theorem m_ok_27 : m_okM m_me_27 := ⟨⟨m_code_in m_cd_27, m_kb_27⟩, m_kt_27, m_kh_27⟩
set_option maxRecDepth 100000 in
theorem m_cd_28 : m_codes[121]? = some (m_me_28.1, m_me_28.2.1, m_me_28.2.2.1, m_me_28.2.2.2.1) := rfl
theorem m_kb_28 : m_okB m_me_28 = true := by decide +kernel
theorem m_kt_28 : m_okT m_me_28 = true := by decide +kernel
theorem m_kh_28 : m_me_28.2.2.2.2.1.all (m_okTh m_me_28) = true := by decide +kernel
theorem m_ok_28 : m_okM m_me_28 := ⟨⟨m_code_in m_cd_28, m_kb_28⟩, m_kt_28, m_kh_28⟩
set_option maxRecDepth 100000 in
theorem m_cd_29 : m_codes[123]? = some (m_me_29.1, m_me_29.2.1, m_me_29.2.2.1, m_me_29.2.2.2.1) := rfl
theorem m_kb_29 : m_okB m_me_29 = true := by decide +kernel
theorem m_kt_29 : m_okT m_me_29 = true := by decide +kernel
theorem m_kh_29 : m_me_29.2.2.2.2.1.all (m_okTh m_me_29) = true := by decide +kernel
theorem m_ok_29 : m_okM m_me_29 := ⟨⟨m_code_in m_cd_29, m_kb_29⟩, m_kt_29, m_kh_29⟩
set_option maxRecDepth 100000 in
theorem m_cd_30 : m_codes[125]? = some (m_me_30.1, m_me_30.2.1, m_me_30.2.2.1, m_me_30.2.2.2.1) := rfl
theorem m_kb_30 : m_okB m_me_30 = true := by decide +kernel
theorem m_kt_30 : m_okT m_me_30 = true := by decide +kernel
theorem m_kh_30 : m_me_30.2.2.2.2.1.all (m_okTh m_me_30) = true := by decide +kernel
theorem m_ok_30 : m_okM m_me_30 := ⟨⟨m_code_in m_cd_30, m_kb_30⟩, m_kt_30, m_kh_30⟩
set_option maxRecDepth 100000 in
theorem m_cd_31 : m_codes[168]? = some (m_me_31.1, m_me_31.2.1, m_me_31.2.2.1, m_me_31.2.2.2.1) := rfl
theorem m_kb_31 : m_okB m_me_31 = true := by decide +kernel
theorem m_kt_31 : m_okT m_me_31 = true := by decide +kernel
theorem m_kh_31 : m_me_31.2.2.2.2.1.all (m_okTh m_me_31) = true := by decide +kernel
theorem m_ok_31 : m_okM m_me_31 := ⟨⟨m_code_in m_cd_31, m_kb_31⟩, m_kt_31, m_kh_31⟩
set_option maxRecDepth 100000 in
theorem m_cd_32 : m_codes[170]? = some (m_me_32.1, m_me_32.2.1, m_me_32.2.2.1, m_me_32.2.2.2.1) := rfl
theorem m_kb_32 : m_okB m_me_32 = true := by decide +kernel
theorem m_kt_32 : m_okT m_me_32 = true := by decide +kernel
theorem m_kh_32 : m_me_32.2.2.2.2.1.all (m_okTh m_me_32) = true := by decide +kernel
theorem m_ok_32 : m_okM m_me_32 := ⟨⟨m_code_in m_cd_32, m_kb_32⟩, m_kt_32, m_kh_32⟩
set_option maxRecDepth 100000 in
theorem m_cd_33 : m_codes[171]? = some (m_me_33.1, m_me_33.2.1, m_me_33.2.2.1, m_me_33.2.2.2.1) := rfl
theorem m_kb_33 : m_okB m_me_33 = true := by decide +kernel
theorem m_kt_33 : m_okT m_me_33 = true := by decide +kernel
theorem m_kh_33 : m_me_33.2.2.2.2.1.all (m_okTh m_me_33) = true := by decide +kernel
theorem m_ok_33 : m_okM m_me_33 := ⟨⟨m_code_in m_cd_33, m_kb_33⟩, m_kt_33, m_kh_33⟩
set_option maxRecDepth 100000 in
theorem m_cd_34 : m_codes[184]? = some (m_me_34.1, m_me_34.2.1, m_me_34.2.2.1, m_me_34.2.2.2.1) := rfl
theorem m_kb_34 : m_okB m_me_34 = true := by decide +kernel
theorem m_kt_34 : m_okT m_me_34 = true := by decide +kernel
theorem m_kh_34 : m_me_34.2.2.2.2.1.all (m_okTh m_me_34) = true := by decide +kernel
theorem m_ok_34 : m_okM m_me_34 := ⟨⟨m_code_in m_cd_34, m_kb_34⟩, m_kt_34, m_kh_34⟩
