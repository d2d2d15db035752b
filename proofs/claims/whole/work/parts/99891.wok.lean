/-! checks of the wrappers (written by wip/whole/gen99891.py) -/
theorem m_at_mem {i : Nat} {w : Cond} (h : lw_tbl[i]? = some w) (hg : goodWord w = true) : w ∈ m_tbl := List.mem_filter.mpr ⟨List.mem_of_getElem? h, hg⟩
set_option maxRecDepth 100000 in
theorem m_wd_0 : lw_tbl[866]? = some (Cond.codeWith m_we_0.1 m_we_0.2.1 m_we_0.2.2.1 m_we_0.2.2.2.1 (m_hh m_we_0)) := rfl
theorem m_wok_0 : m_okW m_we_0 := ⟨⟨m_at_mem m_wd_0 rfl, by decide +kernel⟩, by decide +kernel, by decide +kernel, by decide +kernel, rfl, rfl⟩
set_option maxRecDepth 100000 in
theorem m_wd_1 : lw_tbl[984]? = some (Cond.codeWith m_we_1.1 m_we_1.2.1 m_we_1.2.2.1 m_we_1.2.2.2.1 (m_hh m_we_1)) := rfl
theorem m_wok_1 : m_okW m_we_1 := ⟨⟨m_at_mem m_wd_1 rfl, by decide +kernel⟩, by decide +kernel, by decide +kernel, by decide +kernel, rfl, rfl⟩
set_option maxRecDepth 100000 in
theorem m_wd_2 : lw_tbl[996]? = some (Cond.codeWith m_we_2.1 m_we_2.2.1 m_we_2.2.2.1 m_we_2.2.2.2.1 (m_hh m_we_2)) := rfl
theorem m_wok_2 : m_okW m_we_2 := ⟨⟨m_at_mem m_wd_2 rfl, by decide +kernel⟩, by decide +kernel, by decide +kernel, by decide +kernel, rfl, rfl⟩
set_option maxRecDepth 100000 in
theorem m_wd_3 : lw_tbl[1003]? = some (Cond.codeWith m_we_3.1 m_we_3.2.1 m_we_3.2.2.1 m_we_3.2.2.2.1 (m_hh m_we_3)) := rfl
theorem m_wok_3 : m_okW m_we_3 := ⟨⟨m_at_mem m_wd_3 rfl, by decide +kernel⟩, by decide +kernel, by decide +kernel, by decide +kernel, rfl, rfl⟩
set_option maxRecDepth 100000 in
theorem m_wd_4 : lw_tbl[1024]? = some (Cond.codeWith m_we_4.1 m_we_4.2.1 m_we_4.2.2.1 m_we_4.2.2.2.1 (m_hh m_we_4)) := rfl
theorem m_wok_4 : m_okW m_we_4 := ⟨⟨m_at_mem m_wd_4 rfl, by decide +kernel⟩, by decide +kernel, by decide +kernel, by decide +kernel, rfl, rfl⟩
set_option maxRecDepth 100000 in
theorem m_wd_5 : lw_tbl[1048]? = some (Cond.codeWith m_we_5.1 m_we_5.2.1 m_we_5.2.2.1 m_we_5.2.2.2.1 (m_hh m_we_5)) := rfl
theorem m_wok_5 : m_okW m_we_5 := ⟨⟨m_at_mem m_wd_5 rfl, by decide +kernel⟩, by decide +kernel, by decide +kernel, by decide +kernel, rfl, rfl⟩
set_option maxRecDepth 100000 in
theorem m_wd_6 : lw_tbl[1124]? = some (Cond.codeWith m_we_6.1 m_we_6.2.1 m_we_6.2.2.1 m_we_6.2.2.2.1 (m_hh m_we_6)) := rfl
theorem m_wok_6 : m_okW m_we_6 := ⟨⟨m_at_mem m_wd_6 rfl, by decide +kernel⟩, by decide +kernel, by decide +kernel, by decide +kernel, rfl, rfl⟩
set_option maxRecDepth 100000 in
theorem m_wd_7 : lw_tbl[1132]? = some (Cond.codeWith m_we_7.1 m_we_7.2.1 m_we_7.2.2.1 m_we_7.2.2.2.1 (m_hh m_we_7)) := rfl
theorem m_wok_7 : m_okW m_we_7 := ⟨⟨m_at_mem m_wd_7 rfl, by decide +kernel⟩, by decide +kernel, by decide +kernel, by decide +kernel, rfl, rfl⟩
set_option maxRecDepth 100000 in
theorem m_wd_8 : lw_tbl[1144]? = some (Cond.codeWith m_we_8.1 m_we_8.2.1 m_we_8.2.2.1 m_we_8.2.2.2.1 (m_hh m_we_8)) := rfl
theorem m_wok_8 : m_okW m_we_8 := ⟨⟨m_at_mem m_wd_8 rfl, by decide +kernel⟩, by decide +kernel, by decide +kernel, by decide +kernel, rfl, rfl⟩
set_option maxRecDepth 100000 in
theorem m_wd_9 : lw_tbl[1164]? = some (Cond.codeWith m_we_9.1 m_we_9.2.1 m_we_9.2.2.1 m_we_9.2.2.2.1 (m_hh m_we_9)) := rfl
theorem m_wok_9 : m_okW m_we_9 := ⟨⟨m_at_mem m_wd_9 rfl, by decide +kernel⟩, by decide +kernel, by decide +kernel, by decide +kernel, rfl, rfl⟩
set_option maxRecDepth 100000 in
theorem m_wd_10 : lw_tbl[1175]? = some (Cond.codeWith m_we_10.1 m_we_10.2.1 m_we_10.2.2.1 m_we_10.2.2.2.1 (m_hh m_we_10)) := rfl
theorem m_wok_10 : m_okW m_we_10 := ⟨⟨m_at_mem m_wd_10 rfl, by decide +kernel⟩, by decide +kernel, by decide +kernel, by decide +kernel, rfl, rfl⟩
set_option maxRecDepth 100000 in
theorem m_wd_11 : lw_tbl[1186]? = some (Cond.codeWith m_we_11.1 m_we_11.2.1 m_we_11.2.2.1 m_we_11.2.2.2.1 (m_hh m_we_11)) := rfl
theorem m_wok_11 : m_okW m_we_11 := ⟨⟨m_at_mem m_wd_11 rfl, by decide +kernel⟩, by decide +kernel, by decide +kernel, by decide +kernel, rfl, rfl⟩
set_option maxRecDepth 100000 in
theorem m_wd_12 : lw_tbl[1209]? = some (Cond.codeWith m_we_12.1 m_we_12.2.1 m_we_12.2.2.1 m_we_12.2.2.2.1 (m_hh m_we_12)) := rfl
theorem m_wok_12 : m_okW m_we_12 := ⟨⟨m_at_mem m_wd_12 rfl, by decide +kernel⟩, by decide +kernel, by decide +kernel, by decide +kernel, rfl, rfl⟩
set_option maxRecDepth 100000 in
theorem m_wd_13 : lw_tbl[1224]? = some (Cond.codeWith m_we_13.1 m_we_13.2.1 m_we_13.2.2.1 m_we_13.2.2.2.1 (m_hh m_we_13)) := rfl
theorem m_wok_13 : m_okW m_we_13 := ⟨⟨m_at_mem m_wd_13 rfl, by decide +kernel⟩, by decide +kernel, by decide +kernel, by decide +kernel, rfl, rfl⟩
set_option maxRecDepth 100000 in
theorem m_wd_14 : lw_tbl[1231]? = some (Cond.codeWith m_we_14.1 m_we_14.2.1 m_we_14.2.2.1 m_we_14.2.2.2.1 (m_hh m_we_14)) := rfl
theorem m_wok_14 : m_okW m_we_14 := ⟨⟨m_at_mem m_wd_14 rfl, by decide +kernel⟩, by decide +kernel, by decide +kernel, by decide +kernel, rfl, rfl⟩
set_option maxRecDepth 100000 in
theorem m_wd_15 : lw_tbl[1238]? = some (Cond.codeWith m_we_15.1 m_we_15.2.1 m_we_15.2.2.1 m_we_15.2.2.2.1 (m_hh m_we_15)) := rfl
theorem m_wok_15 : m_okW m_we_15 := ⟨⟨m_at_mem m_wd_15 rfl, by decide +kernel⟩, by decide +kernel, by decide +kernel, by decide +kernel, rfl, rfl⟩
set_option maxRecDepth 100000 in
theorem m_wd_16 : lw_tbl[1245]? = some (Cond.codeWith m_we_16.1 m_we_16.2.1 m_we_16.2.2.1 m_we_16.2.2.2.1 (m_hh m_we_16)) := rfl
theorem m_wok_16 : m_okW m_we_16 := ⟨⟨m_at_mem m_wd_16 rfl, by decide +kernel⟩, by decide +kernel, by decide +kernel, by decide +kernel, rfl, rfl⟩
set_option maxRecDepth 100000 in
theorem m_wd_17 : lw_tbl[1252]? = some (Cond.codeWith m_we_17.1 m_we_17.2.1 m_we_17.2.2.1 m_we_17.2.2.2.1 (m_hh m_we_17)) := rfl
theorem m_wok_17 : m_okW m_we_17 := ⟨⟨m_at_mem m_wd_17 rfl, by decide +kernel⟩, by decide +kernel, by decide +kernel, by decide +kernel, rfl, rfl⟩
set_option maxRecDepth 100000 in
theorem m_wd_18 : lw_tbl[1259]? = some (Cond.codeWith m_we_18.1 m_we_18.2.1 m_we_18.2.2.1 m_we_18.2.2.2.1 (m_hh m_we_18)) := rfl
theorem m_wok_18 : m_okW m_we_18 := ⟨⟨m_at_mem m_wd_18 rfl, by decide +kernel⟩, by decide +kernel, by decide +kernel, by decide +kernel, rfl, rfl⟩
set_option maxRecDepth 100000 in
theorem m_wd_19 : lw_tbl[1266]? = some (Cond.codeWith m_we_19.1 m_we_19.2.1 m_we_19.2.2.1 m_we_19.2.2.2.1 (m_hh m_we_19)) := rfl
theorem m_wok_19 : m_okW m_we_19 := ⟨⟨m_at_mem m_wd_19 rfl, by decide +kernel⟩, by decide +kernel, by decide +kernel, by decide +kernel, rfl, rfl⟩
set_option maxRecDepth 100000 in
theorem m_wd_20 : lw_tbl[1275]? = some (Cond.codeWith m_we_20.1 m_we_20.2.1 m_we_20.2.2.1 m_we_20.2.2.2.1 (m_hh m_we_20)) := rfl
theorem m_wok_20 : m_okW m_we_20 := ⟨⟨m_at_mem m_wd_20 rfl, by decide +kernel⟩, by decide +kernel, by decide +kernel, by decide +kernel, rfl, rfl⟩
set_option maxRecDepth 100000 in
theorem m_wd_21 : lw_tbl[1291]? = some (Cond.codeWith m_we_21.1 m_we_21.2.1 m_we_21.2.2.1 m_we_21.2.2.2.1 (m_hh m_we_21)) := rfl
theorem m_wok_21 : m_okW m_we_21 := ⟨⟨m_at_mem m_wd_21 rfl, by decide +kernel⟩, by decide +kernel, by decide +kernel, by decide +kernel, rfl, rfl⟩
set_option maxRecDepth 100000 in
theorem m_wd_22 : lw_tbl[1312]? = some (Cond.codeWith m_we_22.1 m_we_22.2.1 m_we_22.2.2.1 m_we_22.2.2.2.1 (m_hh m_we_22)) := rfl
theorem m_wok_22 : m_okW m_we_22 := ⟨⟨m_at_mem m_wd_22 rfl, by decide +kernel⟩, by decide +kernel, by decide +kernel, by decide +kernel, rfl, rfl⟩
set_option maxRecDepth 100000 in
theorem m_wd_23 : lw_tbl[1320]? = some (Cond.codeWith m_we_23.1 m_we_23.2.1 m_we_23.2.2.1 m_we_23.2.2.2.1 (m_hh m_we_23)) := rfl
theorem m_wok_23 : m_okW m_we_23 := ⟨⟨m_at_mem m_wd_23 rfl, by decide +kernel⟩, by decide +kernel, by decide +kernel, by decide +kernel, rfl, rfl⟩
set_option maxRecDepth 100000 in
theorem m_wd_24 : lw_tbl[1327]? = some (Cond.codeWith m_we_24.1 m_we_24.2.1 m_we_24.2.2.1 m_we_24.2.2.2.1 (m_hh m_we_24)) := rfl
theorem m_wok_24 : m_okW m_we_24 := ⟨⟨m_at_mem m_wd_24 rfl, by decide +kernel⟩, by decide +kernel, by decide +kernel, by decide +kernel, rfl, rfl⟩
set_option maxRecDepth 100000 in
theorem m_wd_25 : lw_tbl[1338]? = some (Cond.codeWith m_we_25.1 m_we_25.2.1 m_we_25.2.2.1 m_we_25.2.2.2.1 (m_hh m_we_25)) := rfl
theorem m_wok_25 : m_okW m_we_25 := ⟨⟨m_at_mem m_wd_25 rfl, by decide +kernel⟩, by decide +kernel, by decide +kernel, by decide +kernel, rfl, rfl⟩
set_option maxRecDepth 100000 in
theorem m_wd_26 : lw_tbl[1354]? = some (Cond.codeWith m_we_26.1 m_we_26.2.1 m_we_26.2.2.1 m_we_26.2.2.2.1 (m_hh m_we_26)) := rfl
theorem m_wok_26 : m_okW m_we_26 := ⟨⟨m_at_mem m_wd_26 rfl, by decide +kernel⟩, by decide +kernel, by decide +kernel, by decide +kernel, rfl, rfl⟩
set_option maxRecDepth 100000 in
theorem m_wd_27 : lw_tbl[1361]? = some (Cond.codeWith m_we_27.1 m_we_27.2.1 m_we_27.2.2.1 m_we_27.2.2.2.1 (m_hh m_we_27)) := rfl
theorem m_wok_27 : m_okW m_we_27 := ⟨⟨m_at_mem m_wd_27 rfl, by decide +kernel⟩, by decide +kernel, by decide +kernel, by decide +kernel, rfl, rfl⟩
set_option maxRecDepth 100000 in
theorem m_wd_28 : lw_tbl[1398]? = some (Cond.codeWith m_we_28.1 m_we_28.2.1 m_we_28.2.2.1 m_we_28.2.2.2.1 (m_hh m_we_28)) := rfl
theorem m_wok_28 : m_okW m_we_28 := ⟨⟨m_at_mem m_wd_28 rfl, by decide +kernel⟩, by decide +kernel, by decide +kernel, by decide +kernel, rfl, rfl⟩
set_option maxRecDepth 100000 in
theorem m_wd_29 : lw_tbl[1405]? = some (Cond.codeWith m_we_29.1 m_we_29.2.1 m_we_29.2.2.1 m_we_29.2.2.2.1 (m_hh m_we_29)) := rfl
theorem m_wok_29 : m_okW m_we_29 := ⟨⟨m_at_mem m_wd_29 rfl, by decide +kernel⟩, by decide +kernel, by decide +kernel, by decide +kernel, rfl, rfl⟩
set_option maxRecDepth 100000 in
theorem m_wd_30 : lw_tbl[1416]? = some (Cond.codeWith m_we_30.1 m_we_30.2.1 m_we_30.2.2.1 m_we_30.2.2.2.1 (m_hh m_we_30)) := rfl
theorem m_wok_30 : m_okW m_we_30 := ⟨⟨m_at_mem m_wd_30 rfl, by decide +kernel⟩, by decide +kernel, by decide +kernel, by decide +kernel, rfl, rfl⟩
set_option maxRecDepth 100000 in
theorem m_wd_31 : lw_tbl[1427]? = some (Cond.codeWith m_we_31.1 m_we_31.2.1 m_we_31.2.2.1 m_we_31.2.2.2.1 (m_hh m_we_31)) := rfl
theorem m_wok_31 : m_okW m_we_31 := ⟨⟨m_at_mem m_wd_31 rfl, by decide +kernel⟩, by decide +kernel, by decide +kernel, by decide +kernel, rfl, rfl⟩
set_option maxRecDepth 100000 in
theorem m_wd_32 : lw_tbl[1444]? = some (Cond.codeWith m_we_32.1 m_we_32.2.1 m_we_32.2.2.1 m_we_32.2.2.2.1 (m_hh m_we_32)) := rfl
theorem m_wok_32 : m_okW m_we_32 := ⟨⟨m_at_mem m_wd_32 rfl, by decide +kernel⟩, by decide +kernel, by decide +kernel, by decide +kernel, rfl, rfl⟩
set_option maxRecDepth 100000 in
theorem m_wd_33 : lw_tbl[1451]? = some (Cond.codeWith m_we_33.1 m_we_33.2.1 m_we_33.2.2.1 m_we_33.2.2.2.1 (m_hh m_we_33)) := rfl
theorem m_wok_33 : m_okW m_we_33 := ⟨⟨m_at_mem m_wd_33 rfl, by decide +kernel⟩, by decide +kernel, by decide +kernel, by decide +kernel, rfl, rfl⟩
set_option maxRecDepth 100000 in
theorem m_wd_34 : lw_tbl[1475]? = some (Cond.codeWith m_we_34.1 m_we_34.2.1 m_we_34.2.2.1 m_we_34.2.2.2.1 (m_hh m_we_34)) := rfl
theorem m_wok_34 : m_okW m_we_34 := ⟨⟨m_at_mem m_wd_34 rfl, by decide +kernel⟩, by decide +kernel, by decide +kernel, by decide +kernel, rfl, rfl⟩
set_option maxRecDepth 100000 in
theorem m_wd_35 : lw_tbl[1482]? = some (Cond.codeWith m_we_35.1 m_we_35.2.1 m_we_35.2.2.1 m_we_35.2.2.2.1 (m_hh m_we_35)) := rfl
theorem m_wok_35 : m_okW m_we_35 := ⟨⟨m_at_mem m_wd_35 rfl, by decide +kernel⟩, by decide +kernel, by decide +kernel, by decide +kernel, rfl, rfl⟩
set_option maxRecDepth 100000 in
theorem m_wd_36 : lw_tbl[1498]? = some (Cond.codeWith m_we_36.1 m_we_36.2.1 m_we_36.2.2.1 m_we_36.2.2.2.1 (m_hh m_we_36)) := rfl
theorem m_wok_36 : m_okW m_we_36 := ⟨⟨m_at_mem m_wd_36 rfl, by decide +kernel⟩, by decide +kernel, by decide +kernel, by decide +kernel, rfl, rfl⟩
set_option maxRecDepth 100000 in
theorem m_wd_37 : lw_tbl[1509]? = some (Cond.codeWith m_we_37.1 m_we_37.2.1 m_we_37.2.2.1 m_we_37.2.2.2.1 (m_hh m_we_37)) := rfl
theorem m_wok_37 : m_okW m_we_37 := ⟨⟨m_at_mem m_wd_37 rfl, by decide +kernel⟩, by decide +kernel, by decide +kernel, by decide +kernel, rfl, rfl⟩
set_option maxRecDepth 100000 in
theorem m_wd_38 : lw_tbl[1521]? = some (Cond.codeWith m_we_38.1 m_we_38.2.1 m_we_38.2.2.1 m_we_38.2.2.2.1 (m_hh m_we_38)) := rfl
theorem m_wok_38 : m_okW m_we_38 := ⟨⟨m_at_mem m_wd_38 rfl, by decide +kernel⟩, by decide +kernel, by decide +kernel, by decide +kernel, rfl, rfl⟩
set_option maxRecDepth 100000 in
theorem m_wd_39 : lw_tbl[1532]? = some (Cond.codeWith m_we_39.1 m_we_39.2.1 m_we_39.2.2.1 m_we_39.2.2.2.1 (m_hh m_we_39)) := rfl
theorem m_wok_39 : m_okW m_we_39 := ⟨⟨m_at_mem m_wd_39 rfl, by decide +kernel⟩, by decide +kernel, by decide +kernel, by decide +kernel, rfl, rfl⟩
set_option maxRecDepth 100000 in
theorem m_wd_40 : lw_tbl[1543]? = some (Cond.codeWith m_we_40.1 m_we_40.2.1 m_we_40.2.2.1 m_we_40.2.2.2.1 (m_hh m_we_40)) := rfl
theorem m_wok_40 : m_okW m_we_40 := ⟨⟨m_at_mem m_wd_40 rfl, by decide +kernel⟩, by decide +kernel, by decide +kernel, by decide +kernel, rfl, rfl⟩
set_option maxRecDepth 100000 in
theorem m_wd_41 : lw_tbl[1560]? = some (Cond.codeWith m_we_41.1 m_we_41.2.1 m_we_41.2.2.1 m_we_41.2.2.2.1 (m_hh m_we_41)) := rfl
theorem m_wok_41 : m_okW m_we_41 := ⟨⟨m_at_mem m_wd_41 rfl, by decide +kernel⟩, by decide +kernel, by decide +kernel, by decide +kernel, rfl, rfl⟩
set_option maxRecDepth 100000 in
theorem m_wd_42 : lw_tbl[1594]? = some (Cond.codeWith m_we_42.1 m_we_42.2.1 m_we_42.2.2.1 m_we_42.2.2.2.1 (m_hh m_we_42)) := rfl
theorem m_wok_42 : m_okW m_we_42 := ⟨⟨m_at_mem m_wd_42 rfl, by decide +kernel⟩, by decide +kernel, by decide +kernel, by decide +kernel, rfl, rfl⟩
set_option maxRecDepth 100000 in
theorem m_wd_43 : lw_tbl[1601]? = some (Cond.codeWith m_we_43.1 m_we_43.2.1 m_we_43.2.2.1 m_we_43.2.2.2.1 (m_hh m_we_43)) := rfl
theorem m_wok_43 : m_okW m_we_43 := ⟨⟨m_at_mem m_wd_43 rfl, by decide +kernel⟩, by decide +kernel, by decide +kernel, by decide +kernel, rfl, rfl⟩
set_option maxRecDepth 100000 in
theorem m_wd_44 : lw_tbl[1627]? = some (Cond.codeWith m_we_44.1 m_we_44.2.1 m_we_44.2.2.1 m_we_44.2.2.2.1 (m_hh m_we_44)) := rfl
theorem m_wok_44 : m_okW m_we_44 := ⟨⟨m_at_mem m_wd_44 rfl, by decide +kernel⟩, by decide +kernel, by decide +kernel, by decide +kernel, rfl, rfl⟩
set_option maxRecDepth 100000 in
theorem m_wd_45 : lw_tbl[1634]? = some (Cond.codeWith m_we_45.1 m_we_45.2.1 m_we_45.2.2.1 m_we_45.2.2.2.1 (m_hh m_we_45)) := rfl
theorem m_wok_45 : m_okW m_we_45 := ⟨⟨m_at_mem m_wd_45 rfl, by decide +kernel⟩, by decide +kernel, by decide +kernel, by decide +kernel, rfl, rfl⟩
set_option maxRecDepth 100000 in
theorem m_wd_46 : lw_tbl[1669]? = some (Cond.codeWith m_we_46.1 m_we_46.2.1 m_we_46.2.2.1 m_we_46.2.2.2.1 (m_hh m_we_46)) := rfl
theorem m_wok_46 : m_okW m_we_46 := ⟨⟨m_at_mem m_wd_46 rfl, by decide +kernel⟩, by decide +kernel, by decide +kernel, by decide +kernel, rfl, rfl⟩
