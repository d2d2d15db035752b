/-! the law's switch (written by wip/whole/gen99897.py) -/
section L3
variable {l : Launch} {L n : Nat} {xs : Nat → Int32} {Wp : Nat → z_C} {S : z_S} {bc bs : Nat} {i : Int}
set_option maxRecDepth 20000 in
theorem c_sw0 (A : z_LC l L xs Wp) (h : Wp 312 (z_loc i) [] S bc bs) : Wp 45 (z_loc i) [.inl 0] S bc bs := by
  refine A.1 m_lw_1 m_sl_1 400 [(312, 6)] [] 45 _ _ _ _ _ (⟨fun off _ _ h9 => ?_, fun h9 => absurd h9 (by omega)⟩)
  have h9 : some (267 : Int) = some off := h9
  obtain rfl := Option.some.inj h9
  exact h
set_option maxRecDepth 20000 in
theorem c_sw1 (A : z_LC l L xs Wp) (h : Wp 385 (z_loc i) [] S bc bs) : Wp 45 (z_loc i) [.inl 1] S bc bs := by
  refine A.1 m_lw_1 m_sl_1 400 [(385, 6)] [] 45 _ _ _ _ _ (⟨fun off _ _ h9 => ?_, fun h9 => absurd h9 (by omega)⟩)
  have h9 : some (340 : Int) = some off := h9
  obtain rfl := Option.some.inj h9
  exact h
set_option maxRecDepth 20000 in
theorem c_sw2 (A : z_LC l L xs Wp) (h : Wp 410 (z_loc i) [] S bc bs) : Wp 45 (z_loc i) [.inl 2] S bc bs := by
  refine A.1 m_lw_1 m_sl_1 400 [(410, 6)] [] 45 _ _ _ _ _ (⟨fun off _ _ h9 => ?_, fun h9 => absurd h9 (by omega)⟩)
  have h9 : some (365 : Int) = some off := h9
  obtain rfl := Option.some.inj h9
  exact h
set_option maxRecDepth 20000 in
theorem c_sw3 (A : z_LC l L xs Wp) (h : Wp 423 (z_loc i) [] S bc bs) : Wp 45 (z_loc i) [.inl 3] S bc bs := by
  refine A.1 m_lw_1 m_sl_1 400 [(423, 6)] [] 45 _ _ _ _ _ (⟨fun off _ _ h9 => ?_, fun h9 => absurd h9 (by omega)⟩)
  have h9 : some (378 : Int) = some off := h9
  obtain rfl := Option.some.inj h9
  exact h
set_option maxRecDepth 20000 in
theorem c_sw4 (A : z_LC l L xs Wp) (h : Wp 436 (z_loc i) [] S bc bs) : Wp 45 (z_loc i) [.inl 4] S bc bs := by
  refine A.1 m_lw_1 m_sl_1 400 [(436, 6)] [] 45 _ _ _ _ _ (⟨fun off _ _ h9 => ?_, fun h9 => absurd h9 (by omega)⟩)
  have h9 : some (391 : Int) = some off := h9
  obtain rfl := Option.some.inj h9
  exact h
set_option maxRecDepth 20000 in
theorem c_sw5 (A : z_LC l L xs Wp) (h : Wp 449 (z_loc i) [] S bc bs) : Wp 45 (z_loc i) [.inl 5] S bc bs := by
  refine A.1 m_lw_1 m_sl_1 400 [(449, 6)] [] 45 _ _ _ _ _ (⟨fun off _ _ h9 => ?_, fun h9 => absurd h9 (by omega)⟩)
  have h9 : some (404 : Int) = some off := h9
  obtain rfl := Option.some.inj h9
  exact h
set_option maxRecDepth 20000 in
theorem c_sw6 (A : z_LC l L xs Wp) (h : Wp 462 (z_loc i) [] S bc bs) : Wp 45 (z_loc i) [.inl 6] S bc bs := by
  refine A.1 m_lw_1 m_sl_1 400 [(462, 6)] [] 45 _ _ _ _ _ (⟨fun off _ _ h9 => ?_, fun h9 => absurd h9 (by omega)⟩)
  have h9 : some (417 : Int) = some off := h9
  obtain rfl := Option.some.inj h9
  exact h
set_option maxRecDepth 20000 in
theorem c_sw7 (A : z_LC l L xs Wp) (h : Wp 475 (z_loc i) [] S bc bs) : Wp 45 (z_loc i) [.inl 7] S bc bs := by
  refine A.1 m_lw_1 m_sl_1 400 [(475, 6)] [] 45 _ _ _ _ _ (⟨fun off _ _ h9 => ?_, fun h9 => absurd h9 (by omega)⟩)
  have h9 : some (430 : Int) = some off := h9
  obtain rfl := Option.some.inj h9
  exact h
set_option maxRecDepth 20000 in
theorem c_sw8 (A : z_LC l L xs Wp) (h : Wp 488 (z_loc i) [] S bc bs) : Wp 45 (z_loc i) [.inl 8] S bc bs := by
  refine A.1 m_lw_1 m_sl_1 400 [(488, 6)] [] 45 _ _ _ _ _ (⟨fun off _ _ h9 => ?_, fun h9 => absurd h9 (by omega)⟩)
  have h9 : some (443 : Int) = some off := h9
  obtain rfl := Option.some.inj h9
  exact h
set_option maxRecDepth 20000 in
theorem c_sw9 (A : z_LC l L xs Wp) (h : Wp 501 (z_loc i) [] S bc bs) : Wp 45 (z_loc i) [.inl 9] S bc bs := by
  refine A.1 m_lw_1 m_sl_1 400 [(501, 6)] [] 45 _ _ _ _ _ (⟨fun off _ _ h9 => ?_, fun h9 => absurd h9 (by omega)⟩)
  have h9 : some (456 : Int) = some off := h9
  obtain rfl := Option.some.inj h9
  exact h
set_option maxRecDepth 20000 in
theorem c_sw10 (A : z_LC l L xs Wp) (h : Wp 514 (z_loc i) [] S bc bs) : Wp 45 (z_loc i) [.inl 10] S bc bs := by
  refine A.1 m_lw_1 m_sl_1 400 [(514, 6)] [] 45 _ _ _ _ _ (⟨fun off _ _ h9 => ?_, fun h9 => absurd h9 (by omega)⟩)
  have h9 : some (469 : Int) = some off := h9
  obtain rfl := Option.some.inj h9
  exact h
set_option maxRecDepth 20000 in
theorem c_sw11 (A : z_LC l L xs Wp) (h : Wp 582 (z_loc i) [] S bc bs) : Wp 45 (z_loc i) [.inl 11] S bc bs := by
  refine A.1 m_lw_1 m_sl_1 400 [(582, 6)] [] 45 _ _ _ _ _ (⟨fun off _ _ h9 => ?_, fun h9 => absurd h9 (by omega)⟩)
  have h9 : some (537 : Int) = some off := h9
  obtain rfl := Option.some.inj h9
  exact h
set_option maxRecDepth 20000 in
theorem c_sw12 (A : z_LC l L xs Wp) (h : Wp 638 (z_loc i) [] S bc bs) : Wp 45 (z_loc i) [.inl 12] S bc bs := by
  refine A.1 m_lw_1 m_sl_1 400 [(638, 6)] [] 45 _ _ _ _ _ (⟨fun off _ _ h9 => ?_, fun h9 => absurd h9 (by omega)⟩)
  have h9 : some (593 : Int) = some off := h9
  obtain rfl := Option.some.inj h9
  exact h
set_option maxRecDepth 20000 in
theorem c_sw13 (A : z_LC l L xs Wp) (h : Wp 694 (z_loc i) [] S bc bs) : Wp 45 (z_loc i) [.inl 13] S bc bs := by
  refine A.1 m_lw_1 m_sl_1 400 [(694, 6)] [] 45 _ _ _ _ _ (⟨fun off _ _ h9 => ?_, fun h9 => absurd h9 (by omega)⟩)
  have h9 : some (649 : Int) = some off := h9
  obtain rfl := Option.some.inj h9
  exact h
set_option maxRecDepth 20000 in
theorem c_sw14 (A : z_LC l L xs Wp) (h : Wp 762 (z_loc i) [] S bc bs) : Wp 45 (z_loc i) [.inl 14] S bc bs := by
  refine A.1 m_lw_1 m_sl_1 400 [(762, 6)] [] 45 _ _ _ _ _ (⟨fun off _ _ h9 => ?_, fun h9 => absurd h9 (by omega)⟩)
  have h9 : some (717 : Int) = some off := h9
  obtain rfl := Option.some.inj h9
  exact h
set_option maxRecDepth 20000 in
theorem c_sw15 (A : z_LC l L xs Wp) (h : Wp 830 (z_loc i) [] S bc bs) : Wp 45 (z_loc i) [.inl 15] S bc bs := by
  refine A.1 m_lw_1 m_sl_1 400 [(830, 6)] [] 45 _ _ _ _ _ (⟨fun off _ _ h9 => ?_, fun h9 => absurd h9 (by omega)⟩)
  have h9 : some (785 : Int) = some off := h9
  obtain rfl := Option.some.inj h9
  exact h
set_option maxRecDepth 20000 in
theorem c_sw16 (A : z_LC l L xs Wp) (h : Wp 910 (z_loc i) [] S bc bs) : Wp 45 (z_loc i) [.inl 16] S bc bs := by
  refine A.1 m_lw_1 m_sl_1 400 [(910, 6)] [] 45 _ _ _ _ _ (⟨fun off _ _ h9 => ?_, fun h9 => absurd h9 (by omega)⟩)
  have h9 : some (865 : Int) = some off := h9
  obtain rfl := Option.some.inj h9
  exact h
set_option maxRecDepth 20000 in
theorem c_sw17 (A : z_LC l L xs Wp) (h : Wp 990 (z_loc i) [] S bc bs) : Wp 45 (z_loc i) [.inl 17] S bc bs := by
  refine A.1 m_lw_1 m_sl_1 400 [(990, 6)] [] 45 _ _ _ _ _ (⟨fun off _ _ h9 => ?_, fun h9 => absurd h9 (by omega)⟩)
  have h9 : some (945 : Int) = some off := h9
  obtain rfl := Option.some.inj h9
  exact h
set_option maxRecDepth 20000 in
theorem c_sw18 (A : z_LC l L xs Wp) (h : Wp 1082 (z_loc i) [] S bc bs) : Wp 45 (z_loc i) [.inl 18] S bc bs := by
  refine A.1 m_lw_1 m_sl_1 400 [(1082, 6)] [] 45 _ _ _ _ _ (⟨fun off _ _ h9 => ?_, fun h9 => absurd h9 (by omega)⟩)
  have h9 : some (1037 : Int) = some off := h9
  obtain rfl := Option.some.inj h9
  exact h
set_option maxRecDepth 20000 in
theorem c_sw19 (A : z_LC l L xs Wp) (h : Wp 1150 (z_loc i) [] S bc bs) : Wp 45 (z_loc i) [.inl 19] S bc bs := by
  refine A.1 m_lw_1 m_sl_1 400 [(1150, 6)] [] 45 _ _ _ _ _ (⟨fun off _ _ h9 => ?_, fun h9 => absurd h9 (by omega)⟩)
  have h9 : some (1105 : Int) = some off := h9
  obtain rfl := Option.some.inj h9
  exact h
set_option maxRecDepth 20000 in
theorem c_sw20 (A : z_LC l L xs Wp) (h : Wp 1230 (z_loc i) [] S bc bs) : Wp 45 (z_loc i) [.inl 20] S bc bs := by
  refine A.1 m_lw_1 m_sl_1 400 [(1230, 6)] [] 45 _ _ _ _ _ (⟨fun off _ _ h9 => ?_, fun h9 => absurd h9 (by omega)⟩)
  have h9 : some (1185 : Int) = some off := h9
  obtain rfl := Option.some.inj h9
  exact h
set_option maxRecDepth 20000 in
theorem c_sw21 (A : z_LC l L xs Wp) (h : Wp 1286 (z_loc i) [] S bc bs) : Wp 45 (z_loc i) [.inl 21] S bc bs := by
  refine A.1 m_lw_1 m_sl_1 400 [(1286, 6)] [] 45 _ _ _ _ _ (⟨fun off _ _ h9 => ?_, fun h9 => absurd h9 (by omega)⟩)
  have h9 : some (1241 : Int) = some off := h9
  obtain rfl := Option.some.inj h9
  exact h
set_option maxRecDepth 20000 in
theorem c_sw22 (A : z_LC l L xs Wp) (h : Wp 1349 (z_loc i) [] S bc bs) : Wp 45 (z_loc i) [.inl 22] S bc bs := by
  refine A.1 m_lw_1 m_sl_1 400 [(1349, 6)] [] 45 _ _ _ _ _ (⟨fun off _ _ h9 => ?_, fun h9 => absurd h9 (by omega)⟩)
  have h9 : some (1304 : Int) = some off := h9
  obtain rfl := Option.some.inj h9
  exact h
set_option maxRecDepth 20000 in
theorem c_sw23 (A : z_LC l L xs Wp) (h : Wp 1424 (z_loc i) [] S bc bs) : Wp 45 (z_loc i) [.inl 23] S bc bs := by
  refine A.1 m_lw_1 m_sl_1 400 [(1424, 6)] [] 45 _ _ _ _ _ (⟨fun off _ _ h9 => ?_, fun h9 => absurd h9 (by omega)⟩)
  have h9 : some (1379 : Int) = some off := h9
  obtain rfl := Option.some.inj h9
  exact h
set_option maxRecDepth 20000 in
theorem c_sw24 (A : z_LC l L xs Wp) (h : Wp 1437 (z_loc i) [] S bc bs) : Wp 45 (z_loc i) [.inl 24] S bc bs := by
  refine A.1 m_lw_1 m_sl_1 400 [(1437, 6)] [] 45 _ _ _ _ _ (⟨fun off _ _ h9 => ?_, fun h9 => absurd h9 (by omega)⟩)
  have h9 : some (1392 : Int) = some off := h9
  obtain rfl := Option.some.inj h9
  exact h
set_option maxRecDepth 20000 in
theorem c_sw25 (A : z_LC l L xs Wp) (h : Wp 1493 (z_loc i) [] S bc bs) : Wp 45 (z_loc i) [.inl 25] S bc bs := by
  refine A.1 m_lw_1 m_sl_1 400 [(1493, 6)] [] 45 _ _ _ _ _ (⟨fun off _ _ h9 => ?_, fun h9 => absurd h9 (by omega)⟩)
  have h9 : some (1448 : Int) = some off := h9
  obtain rfl := Option.some.inj h9
  exact h
set_option maxRecDepth 20000 in
theorem c_sw26 (A : z_LC l L xs Wp) (h : Wp 1549 (z_loc i) [] S bc bs) : Wp 45 (z_loc i) [.inl 26] S bc bs := by
  refine A.1 m_lw_1 m_sl_1 400 [(1549, 6)] [] 45 _ _ _ _ _ (⟨fun off _ _ h9 => ?_, fun h9 => absurd h9 (by omega)⟩)
  have h9 : some (1504 : Int) = some off := h9
  obtain rfl := Option.some.inj h9
  exact h
set_option maxRecDepth 20000 in
theorem c_sw27 (A : z_LC l L xs Wp) (h : Wp 1605 (z_loc i) [] S bc bs) : Wp 45 (z_loc i) [.inl 27] S bc bs := by
  refine A.1 m_lw_1 m_sl_1 400 [(1605, 6)] [] 45 _ _ _ _ _ (⟨fun off _ _ h9 => ?_, fun h9 => absurd h9 (by omega)⟩)
  have h9 : some (1560 : Int) = some off := h9
  obtain rfl := Option.some.inj h9
  exact h
set_option maxRecDepth 20000 in
theorem c_sw28 (A : z_LC l L xs Wp) (h : Wp 1661 (z_loc i) [] S bc bs) : Wp 45 (z_loc i) [.inl 28] S bc bs := by
  refine A.1 m_lw_1 m_sl_1 400 [(1661, 6)] [] 45 _ _ _ _ _ (⟨fun off _ _ h9 => ?_, fun h9 => absurd h9 (by omega)⟩)
  have h9 : some (1616 : Int) = some off := h9
  obtain rfl := Option.some.inj h9
  exact h
set_option maxRecDepth 20000 in
theorem c_sw29 (A : z_LC l L xs Wp) (h : Wp 1717 (z_loc i) [] S bc bs) : Wp 45 (z_loc i) [.inl 29] S bc bs := by
  refine A.1 m_lw_1 m_sl_1 400 [(1717, 6)] [] 45 _ _ _ _ _ (⟨fun off _ _ h9 => ?_, fun h9 => absurd h9 (by omega)⟩)
  have h9 : some (1672 : Int) = some off := h9
  obtain rfl := Option.some.inj h9
  exact h
set_option maxRecDepth 20000 in
theorem c_sw30 (A : z_LC l L xs Wp) (h : Wp 1773 (z_loc i) [] S bc bs) : Wp 45 (z_loc i) [.inl 30] S bc bs := by
  refine A.1 m_lw_1 m_sl_1 400 [(1773, 6)] [] 45 _ _ _ _ _ (⟨fun off _ _ h9 => ?_, fun h9 => absurd h9 (by omega)⟩)
  have h9 : some (1728 : Int) = some off := h9
  obtain rfl := Option.some.inj h9
  exact h
set_option maxRecDepth 20000 in
theorem c_sw31 (A : z_LC l L xs Wp) (h : Wp 1841 (z_loc i) [] S bc bs) : Wp 45 (z_loc i) [.inl 31] S bc bs := by
  refine A.1 m_lw_1 m_sl_1 400 [(1841, 6)] [] 45 _ _ _ _ _ (⟨fun off _ _ h9 => ?_, fun h9 => absurd h9 (by omega)⟩)
  have h9 : some (1796 : Int) = some off := h9
  obtain rfl := Option.some.inj h9
  exact h
set_option maxRecDepth 20000 in
theorem c_sw32 (A : z_LC l L xs Wp) (h : Wp 1909 (z_loc i) [] S bc bs) : Wp 45 (z_loc i) [.inl 32] S bc bs := by
  refine A.1 m_lw_1 m_sl_1 400 [(1909, 6)] [] 45 _ _ _ _ _ (⟨fun off _ _ h9 => ?_, fun h9 => absurd h9 (by omega)⟩)
  have h9 : some (1864 : Int) = some off := h9
  obtain rfl := Option.some.inj h9
  exact h
set_option maxRecDepth 20000 in
theorem c_sw33 (A : z_LC l L xs Wp) (h : Wp 1977 (z_loc i) [] S bc bs) : Wp 45 (z_loc i) [.inl 33] S bc bs := by
  refine A.1 m_lw_1 m_sl_1 400 [(1977, 6)] [] 45 _ _ _ _ _ (⟨fun off _ _ h9 => ?_, fun h9 => absurd h9 (by omega)⟩)
  have h9 : some (1932 : Int) = some off := h9
  obtain rfl := Option.some.inj h9
  exact h
set_option maxRecDepth 20000 in
theorem c_sw34 (A : z_LC l L xs Wp) (h : Wp 2052 (z_loc i) [] S bc bs) : Wp 45 (z_loc i) [.inl 34] S bc bs := by
  refine A.1 m_lw_1 m_sl_1 400 [(2052, 6)] [] 45 _ _ _ _ _ (⟨fun off _ _ h9 => ?_, fun h9 => absurd h9 (by omega)⟩)
  have h9 : some (2007 : Int) = some off := h9
  obtain rfl := Option.some.inj h9
  exact h
set_option maxRecDepth 20000 in
theorem c_sw35 (A : z_LC l L xs Wp) (h : Wp 2120 (z_loc i) [] S bc bs) : Wp 45 (z_loc i) [.inl 35] S bc bs := by
  refine A.1 m_lw_1 m_sl_1 400 [(2120, 6)] [] 45 _ _ _ _ _ (⟨fun off _ _ h9 => ?_, fun h9 => absurd h9 (by omega)⟩)
  have h9 : some (2075 : Int) = some off := h9
  obtain rfl := Option.some.inj h9
  exact h
set_option maxRecDepth 20000 in
theorem c_sw36 (A : z_LC l L xs Wp) (h : Wp 2188 (z_loc i) [] S bc bs) : Wp 45 (z_loc i) [.inl 36] S bc bs := by
  refine A.1 m_lw_1 m_sl_1 400 [(2188, 6)] [] 45 _ _ _ _ _ (⟨fun off _ _ h9 => ?_, fun h9 => absurd h9 (by omega)⟩)
  have h9 : some (2143 : Int) = some off := h9
  obtain rfl := Option.some.inj h9
  exact h
set_option maxRecDepth 20000 in
theorem c_sw37 (A : z_LC l L xs Wp) (h : Wp 2244 (z_loc i) [] S bc bs) : Wp 45 (z_loc i) [.inl 37] S bc bs := by
  refine A.1 m_lw_1 m_sl_1 400 [(2244, 6)] [] 45 _ _ _ _ _ (⟨fun off _ _ h9 => ?_, fun h9 => absurd h9 (by omega)⟩)
  have h9 : some (2199 : Int) = some off := h9
  obtain rfl := Option.some.inj h9
  exact h
set_option maxRecDepth 20000 in
theorem c_sw38 (A : z_LC l L xs Wp) (h : Wp 2300 (z_loc i) [] S bc bs) : Wp 45 (z_loc i) [.inl 38] S bc bs := by
  refine A.1 m_lw_1 m_sl_1 400 [(2300, 6)] [] 45 _ _ _ _ _ (⟨fun off _ _ h9 => ?_, fun h9 => absurd h9 (by omega)⟩)
  have h9 : some (2255 : Int) = some off := h9
  obtain rfl := Option.some.inj h9
  exact h
set_option maxRecDepth 20000 in
theorem c_sw39 (A : z_LC l L xs Wp) (h : Wp 2356 (z_loc i) [] S bc bs) : Wp 45 (z_loc i) [.inl 39] S bc bs := by
  refine A.1 m_lw_1 m_sl_1 400 [(2356, 6)] [] 45 _ _ _ _ _ (⟨fun off _ _ h9 => ?_, fun h9 => absurd h9 (by omega)⟩)
  have h9 : some (2311 : Int) = some off := h9
  obtain rfl := Option.some.inj h9
  exact h
set_option maxRecDepth 20000 in
theorem c_sw40 (A : z_LC l L xs Wp) (h : Wp 2419 (z_loc i) [] S bc bs) : Wp 45 (z_loc i) [.inl 40] S bc bs := by
  refine A.1 m_lw_1 m_sl_1 400 [(2419, 6)] [] 45 _ _ _ _ _ (⟨fun off _ _ h9 => ?_, fun h9 => absurd h9 (by omega)⟩)
  have h9 : some (2374 : Int) = some off := h9
  obtain rfl := Option.some.inj h9
  exact h
set_option maxRecDepth 20000 in
theorem c_sw41 (A : z_LC l L xs Wp) (h : Wp 2482 (z_loc i) [] S bc bs) : Wp 45 (z_loc i) [.inl 41] S bc bs := by
  refine A.1 m_lw_1 m_sl_1 400 [(2482, 6)] [] 45 _ _ _ _ _ (⟨fun off _ _ h9 => ?_, fun h9 => absurd h9 (by omega)⟩)
  have h9 : some (2437 : Int) = some off := h9
  obtain rfl := Option.some.inj h9
  exact h
set_option maxRecDepth 20000 in
theorem c_sw42 (A : z_LC l L xs Wp) (h : Wp 2538 (z_loc i) [] S bc bs) : Wp 45 (z_loc i) [.inl 42] S bc bs := by
  refine A.1 m_lw_1 m_sl_1 400 [(2538, 6)] [] 45 _ _ _ _ _ (⟨fun off _ _ h9 => ?_, fun h9 => absurd h9 (by omega)⟩)
  have h9 : some (2493 : Int) = some off := h9
  obtain rfl := Option.some.inj h9
  exact h
set_option maxRecDepth 20000 in
theorem c_sw43 (A : z_LC l L xs Wp) (h : Wp 2606 (z_loc i) [] S bc bs) : Wp 45 (z_loc i) [.inl 43] S bc bs := by
  refine A.1 m_lw_1 m_sl_1 400 [(2606, 6)] [] 45 _ _ _ _ _ (⟨fun off _ _ h9 => ?_, fun h9 => absurd h9 (by omega)⟩)
  have h9 : some (2561 : Int) = some off := h9
  obtain rfl := Option.some.inj h9
  exact h
set_option maxRecDepth 20000 in
theorem c_sw44 (A : z_LC l L xs Wp) (h : Wp 2631 (z_loc i) [] S bc bs) : Wp 45 (z_loc i) [.inl 44] S bc bs := by
  refine A.1 m_lw_1 m_sl_1 400 [(2631, 6)] [] 45 _ _ _ _ _ (⟨fun off _ _ h9 => ?_, fun h9 => absurd h9 (by omega)⟩)
  have h9 : some (2586 : Int) = some off := h9
  obtain rfl := Option.some.inj h9
  exact h
set_option maxRecDepth 20000 in
theorem c_sw45 (A : z_LC l L xs Wp) (h : Wp 2715 (z_loc i) [] S bc bs) : Wp 45 (z_loc i) [.inl 45] S bc bs := by
  refine A.1 m_lw_1 m_sl_1 400 [(2715, 6)] [] 45 _ _ _ _ _ (⟨fun off _ _ h9 => ?_, fun h9 => absurd h9 (by omega)⟩)
  have h9 : some (2670 : Int) = some off := h9
  obtain rfl := Option.some.inj h9
  exact h
set_option maxRecDepth 20000 in
theorem c_sw46 (A : z_LC l L xs Wp) (h : Wp 2792 (z_loc i) [] S bc bs) : Wp 45 (z_loc i) [.inl 46] S bc bs := by
  refine A.1 m_lw_1 m_sl_1 400 [(2792, 6)] [] 45 _ _ _ _ _ (⟨fun off _ _ h9 => ?_, fun h9 => absurd h9 (by omega)⟩)
  have h9 : some (2747 : Int) = some off := h9
  obtain rfl := Option.some.inj h9
  exact h
set_option maxRecDepth 20000 in
theorem c_sw47 (A : z_LC l L xs Wp) (h : Wp 2848 (z_loc i) [] S bc bs) : Wp 45 (z_loc i) [.inl 47] S bc bs := by
  refine A.1 m_lw_1 m_sl_1 400 [(2848, 6)] [] 45 _ _ _ _ _ (⟨fun off _ _ h9 => ?_, fun h9 => absurd h9 (by omega)⟩)
  have h9 : some (2803 : Int) = some off := h9
  obtain rfl := Option.some.inj h9
  exact h
set_option maxRecDepth 20000 in
theorem c_sw48 (A : z_LC l L xs Wp) (h : Wp 2916 (z_loc i) [] S bc bs) : Wp 45 (z_loc i) [.inl 48] S bc bs := by
  refine A.1 m_lw_1 m_sl_1 400 [(2916, 6)] [] 45 _ _ _ _ _ (⟨fun off _ _ h9 => ?_, fun h9 => absurd h9 (by omega)⟩)
  have h9 : some (2871 : Int) = some off := h9
  obtain rfl := Option.some.inj h9
  exact h
set_option maxRecDepth 20000 in
theorem c_sw49 (A : z_LC l L xs Wp) (h : Wp 2984 (z_loc i) [] S bc bs) : Wp 45 (z_loc i) [.inl 49] S bc bs := by
  refine A.1 m_lw_1 m_sl_1 400 [(2984, 6)] [] 45 _ _ _ _ _ (⟨fun off _ _ h9 => ?_, fun h9 => absurd h9 (by omega)⟩)
  have h9 : some (2939 : Int) = some off := h9
  obtain rfl := Option.some.inj h9
  exact h
set_option maxRecDepth 20000 in
theorem c_sw50 (A : z_LC l L xs Wp) (h : Wp 3061 (z_loc i) [] S bc bs) : Wp 45 (z_loc i) [.inl 50] S bc bs := by
  refine A.1 m_lw_1 m_sl_1 400 [(3061, 6)] [] 45 _ _ _ _ _ (⟨fun off _ _ h9 => ?_, fun h9 => absurd h9 (by omega)⟩)
  have h9 : some (3016 : Int) = some off := h9
  obtain rfl := Option.some.inj h9
  exact h
set_option maxRecDepth 20000 in
theorem c_sw51 (A : z_LC l L xs Wp) (h : Wp 3117 (z_loc i) [] S bc bs) : Wp 45 (z_loc i) [.inl 51] S bc bs := by
  refine A.1 m_lw_1 m_sl_1 400 [(3117, 6)] [] 45 _ _ _ _ _ (⟨fun off _ _ h9 => ?_, fun h9 => absurd h9 (by omega)⟩)
  have h9 : some (3072 : Int) = some off := h9
  obtain rfl := Option.some.inj h9
  exact h
set_option maxRecDepth 20000 in
theorem c_sw52 (A : z_LC l L xs Wp) (h : Wp 3173 (z_loc i) [] S bc bs) : Wp 45 (z_loc i) [.inl 52] S bc bs := by
  refine A.1 m_lw_1 m_sl_1 400 [(3173, 6)] [] 45 _ _ _ _ _ (⟨fun off _ _ h9 => ?_, fun h9 => absurd h9 (by omega)⟩)
  have h9 : some (3128 : Int) = some off := h9
  obtain rfl := Option.some.inj h9
  exact h
set_option maxRecDepth 20000 in
theorem c_sw53 (A : z_LC l L xs Wp) (h : Wp 3250 (z_loc i) [] S bc bs) : Wp 45 (z_loc i) [.inl 53] S bc bs := by
  refine A.1 m_lw_1 m_sl_1 400 [(3250, 6)] [] 45 _ _ _ _ _ (⟨fun off _ _ h9 => ?_, fun h9 => absurd h9 (by omega)⟩)
  have h9 : some (3205 : Int) = some off := h9
  obtain rfl := Option.some.inj h9
  exact h
set_option maxRecDepth 20000 in
theorem c_sw54 (A : z_LC l L xs Wp) (h : Wp 3318 (z_loc i) [] S bc bs) : Wp 45 (z_loc i) [.inl 54] S bc bs := by
  refine A.1 m_lw_1 m_sl_1 400 [(3318, 6)] [] 45 _ _ _ _ _ (⟨fun off _ _ h9 => ?_, fun h9 => absurd h9 (by omega)⟩)
  have h9 : some (3273 : Int) = some off := h9
  obtain rfl := Option.some.inj h9
  exact h
set_option maxRecDepth 20000 in
theorem c_sw55 (A : z_LC l L xs Wp) (h : Wp 3398 (z_loc i) [] S bc bs) : Wp 45 (z_loc i) [.inl 55] S bc bs := by
  refine A.1 m_lw_1 m_sl_1 400 [(3398, 6)] [] 45 _ _ _ _ _ (⟨fun off _ _ h9 => ?_, fun h9 => absurd h9 (by omega)⟩)
  have h9 : some (3353 : Int) = some off := h9
  obtain rfl := Option.some.inj h9
  exact h
set_option maxRecDepth 20000 in
theorem c_sw56 (A : z_LC l L xs Wp) (h : Wp 3454 (z_loc i) [] S bc bs) : Wp 45 (z_loc i) [.inl 56] S bc bs := by
  refine A.1 m_lw_1 m_sl_1 400 [(3454, 6)] [] 45 _ _ _ _ _ (⟨fun off _ _ h9 => ?_, fun h9 => absurd h9 (by omega)⟩)
  have h9 : some (3409 : Int) = some off := h9
  obtain rfl := Option.some.inj h9
  exact h
set_option maxRecDepth 20000 in
theorem c_sw57 (A : z_LC l L xs Wp) (h : Wp 3510 (z_loc i) [] S bc bs) : Wp 45 (z_loc i) [.inl 57] S bc bs := by
  refine A.1 m_lw_1 m_sl_1 400 [(3510, 6)] [] 45 _ _ _ _ _ (⟨fun off _ _ h9 => ?_, fun h9 => absurd h9 (by omega)⟩)
  have h9 : some (3465 : Int) = some off := h9
  obtain rfl := Option.some.inj h9
  exact h
set_option maxRecDepth 20000 in
theorem c_sw58 (A : z_LC l L xs Wp) (h : Wp 3566 (z_loc i) [] S bc bs) : Wp 45 (z_loc i) [.inl 58] S bc bs := by
  refine A.1 m_lw_1 m_sl_1 400 [(3566, 6)] [] 45 _ _ _ _ _ (⟨fun off _ _ h9 => ?_, fun h9 => absurd h9 (by omega)⟩)
  have h9 : some (3521 : Int) = some off := h9
  obtain rfl := Option.some.inj h9
  exact h
set_option maxRecDepth 20000 in
theorem c_sw59 (A : z_LC l L xs Wp) (h : Wp 3579 (z_loc i) [] S bc bs) : Wp 45 (z_loc i) [.inl 59] S bc bs := by
  refine A.1 m_lw_1 m_sl_1 400 [(3579, 6)] [] 45 _ _ _ _ _ (⟨fun off _ _ h9 => ?_, fun h9 => absurd h9 (by omega)⟩)
  have h9 : some (3534 : Int) = some off := h9
  obtain rfl := Option.some.inj h9
  exact h
set_option maxRecDepth 20000 in
theorem c_sw60 (A : z_LC l L xs Wp) (h : Wp 3604 (z_loc i) [] S bc bs) : Wp 45 (z_loc i) [.inl 60] S bc bs := by
  refine A.1 m_lw_1 m_sl_1 400 [(3604, 6)] [] 45 _ _ _ _ _ (⟨fun off _ _ h9 => ?_, fun h9 => absurd h9 (by omega)⟩)
  have h9 : some (3559 : Int) = some off := h9
  obtain rfl := Option.some.inj h9
  exact h
set_option maxRecDepth 20000 in
theorem c_sw61 (A : z_LC l L xs Wp) (h : Wp 3629 (z_loc i) [] S bc bs) : Wp 45 (z_loc i) [.inl 61] S bc bs := by
  refine A.1 m_lw_1 m_sl_1 400 [(3629, 6)] [] 45 _ _ _ _ _ (⟨fun off _ _ h9 => ?_, fun h9 => absurd h9 (by omega)⟩)
  have h9 : some (3584 : Int) = some off := h9
  obtain rfl := Option.some.inj h9
  exact h
set_option maxRecDepth 20000 in
theorem c_sw62 (A : z_LC l L xs Wp) (h : Wp 3685 (z_loc i) [] S bc bs) : Wp 45 (z_loc i) [.inl 62] S bc bs := by
  refine A.1 m_lw_1 m_sl_1 400 [(3685, 6)] [] 45 _ _ _ _ _ (⟨fun off _ _ h9 => ?_, fun h9 => absurd h9 (by omega)⟩)
  have h9 : some (3640 : Int) = some off := h9
  obtain rfl := Option.some.inj h9
  exact h
set_option maxRecDepth 20000 in
theorem c_sw63 (A : z_LC l L xs Wp) (h : Wp 3710 (z_loc i) [] S bc bs) : Wp 45 (z_loc i) [.inl 63] S bc bs := by
  refine A.1 m_lw_1 m_sl_1 400 [(3710, 6)] [] 45 _ _ _ _ _ (⟨fun off _ h8 _ => absurd h8 (by omega), fun _ => h⟩)
end L3
