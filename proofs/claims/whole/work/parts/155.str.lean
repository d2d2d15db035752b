/-! the JDK's own methods of String constants: length(), charAt() (written by wip/whole/gen155.py) -/
def j_cod : MethodName := ⟨"java/lang/String", "coder", "()B"⟩
theorem j_cod_in : Cond.code j_cod prog_23_method_152_code 1 (some .byte) ∈ m_tbl := m_at_in (i := 642) (by decide +kernel)
abbrev j_cod_ws : List Cond := Cond.code j_cod prog_23_method_152_code 1 (some .byte) :: m_tbl
theorem j_cod_d0 : decode prog_23_method_152_code 0 = .ok (.getstatic 38, 3) := by decide +kernel
theorem j_cod_d3 : decode prog_23_method_152_code 3 = .ok (.ifCond .eq 10, 3) := by decide +kernel
theorem j_cod_d6 : decode prog_23_method_152_code 6 = .ok (.aload_n 0, 1) := by decide +kernel
theorem j_cod_d7 : decode prog_23_method_152_code 7 = .ok (.getfield 15, 3) := by decide +kernel
theorem j_cod_d10 : decode prog_23_method_152_code 10 = .ok (.goto 4, 3) := by decide +kernel
theorem j_cod_d14 : decode prog_23_method_152_code 14 = .ok (.ireturn, 1) := by decide +kernel
def j_lat : MethodName := ⟨"java/lang/String", "isLatin1", "()Z"⟩
theorem j_lat_in : Cond.code j_lat prog_23_method_154_code 1 (some .boolean) ∈ m_tbl := m_at_in (i := 652) (by decide +kernel)
abbrev j_lat_ws : List Cond := Cond.code j_lat prog_23_method_154_code 1 (some .boolean) :: m_tbl
theorem j_lat_d0 : decode prog_23_method_154_code 0 = .ok (.getstatic 38, 3) := by decide +kernel
theorem j_lat_d3 : decode prog_23_method_154_code 3 = .ok (.ifCond .eq 14, 3) := by decide +kernel
theorem j_lat_d6 : decode prog_23_method_154_code 6 = .ok (.aload_n 0, 1) := by decide +kernel
theorem j_lat_d7 : decode prog_23_method_154_code 7 = .ok (.getfield 15, 3) := by decide +kernel
theorem j_lat_d10 : decode prog_23_method_154_code 10 = .ok (.ifCond .ne 7, 3) := by decide +kernel
theorem j_lat_d13 : decode prog_23_method_154_code 13 = .ok (.iconst 1, 1) := by decide +kernel
theorem j_lat_d14 : decode prog_23_method_154_code 14 = .ok (.goto 4, 3) := by decide +kernel
theorem j_lat_d18 : decode prog_23_method_154_code 18 = .ok (.ireturn, 1) := by decide +kernel
def j_len : MethodName := ⟨"java/lang/String", "length", "()I"⟩
theorem j_len_in : Cond.code j_len prog_23_method_54_code 1 (some .int) ∈ m_tbl := m_at_in (i := 638) (by decide +kernel)
abbrev j_len_ws : List Cond := Cond.code j_len prog_23_method_54_code 1 (some .int) :: m_tbl
theorem j_len_d0 : decode prog_23_method_54_code 0 = .ok (.aload_n 0, 1) := by decide +kernel
theorem j_len_d1 : decode prog_23_method_54_code 1 = .ok (.getfield 9, 3) := by decide +kernel
theorem j_len_d4 : decode prog_23_method_54_code 4 = .ok (.arraylength, 1) := by decide +kernel
theorem j_len_d5 : decode prog_23_method_54_code 5 = .ok (.aload_n 0, 1) := by decide +kernel
theorem j_len_d6 : decode prog_23_method_54_code 6 = .ok (.invokevirtual 335, 3) := by decide +kernel
theorem j_len_d9 : decode prog_23_method_54_code 9 = .ok (.ishr, 1) := by decide +kernel
theorem j_len_d10 : decode prog_23_method_54_code 10 = .ok (.ireturn, 1) := by decide +kernel
def j_chr : MethodName := ⟨"java/lang/String", "charAt", "(I)C"⟩
theorem j_chr_in : Cond.code j_chr prog_23_method_56_code 2 (some .char) ∈ m_tbl := m_at_in (i := 648) (by decide +kernel)
abbrev j_chr_ws : List Cond := Cond.code j_chr prog_23_method_56_code 2 (some .char) :: m_tbl
theorem j_chr_d0 : decode prog_23_method_56_code 0 = .ok (.aload_n 0, 1) := by decide +kernel
theorem j_chr_d1 : decode prog_23_method_56_code 1 = .ok (.invokevirtual 492, 3) := by decide +kernel
theorem j_chr_d4 : decode prog_23_method_56_code 4 = .ok (.ifCond .eq 12, 3) := by decide +kernel
theorem j_chr_d7 : decode prog_23_method_56_code 7 = .ok (.aload_n 0, 1) := by decide +kernel
theorem j_chr_d8 : decode prog_23_method_56_code 8 = .ok (.getfield 9, 3) := by decide +kernel
theorem j_chr_d11 : decode prog_23_method_56_code 11 = .ok (.iload_n 1, 1) := by decide +kernel
theorem j_chr_d12 : decode prog_23_method_56_code 12 = .ok (.invokestatic 495, 3) := by decide +kernel
theorem j_chr_d15 : decode prog_23_method_56_code 15 = .ok (.ireturn, 1) := by decide +kernel
def j_chl : MethodName := ⟨"java/lang/StringLatin1", "charAt", "([BI)C"⟩
theorem j_chl_in : Cond.code j_chl prog_24_method_2_code 2 (some .char) ∈ m_tbl := m_at_in (i := 655) (by decide +kernel)
abbrev j_chl_ws : List Cond := Cond.code j_chl prog_24_method_2_code 2 (some .char) :: m_tbl
theorem j_chl_d0 : decode prog_24_method_2_code 0 = .ok (.iload_n 1, 1) := by decide +kernel
theorem j_chl_d1 : decode prog_24_method_2_code 1 = .ok (.aload_n 0, 1) := by decide +kernel
theorem j_chl_d2 : decode prog_24_method_2_code 2 = .ok (.arraylength, 1) := by decide +kernel
theorem j_chl_d3 : decode prog_24_method_2_code 3 = .ok (.invokestatic 9, 3) := by decide +kernel
theorem j_chl_d6 : decode prog_24_method_2_code 6 = .ok (.aload_n 0, 1) := by decide +kernel
theorem j_chl_d7 : decode prog_24_method_2_code 7 = .ok (.iload_n 1, 1) := by decide +kernel
theorem j_chl_d8 : decode prog_24_method_2_code 8 = .ok (.baload, 1) := by decide +kernel
theorem j_chl_d9 : decode prog_24_method_2_code 9 = .ok (.sipush 255, 3) := by decide +kernel
theorem j_chl_d12 : decode prog_24_method_2_code 12 = .ok (.iand, 1) := by decide +kernel
theorem j_chl_d13 : decode prog_24_method_2_code 13 = .ok (.i2c, 1) := by decide +kernel
theorem j_chl_d14 : decode prog_24_method_2_code 14 = .ok (.ireturn, 1) := by decide +kernel
def j_chk : MethodName := ⟨"java/lang/String", "checkIndex", "(II)V"⟩
theorem j_chk_in : Cond.code j_chk prog_23_method_155_code 2 none ∈ m_tbl := m_at_in (i := 658) (by decide +kernel)
abbrev j_chk_ws : List Cond := Cond.code j_chk prog_23_method_155_code 2 none :: m_tbl
theorem j_chk_d0 : decode prog_23_method_155_code 0 = .ok (.iload_n 0, 1) := by decide +kernel
theorem j_chk_d1 : decode prog_23_method_155_code 1 = .ok (.iload_n 1, 1) := by decide +kernel
theorem j_chk_d2 : decode prog_23_method_155_code 2 = .ok (.getstatic 1053, 3) := by decide +kernel
theorem j_chk_d5 : decode prog_23_method_155_code 5 = .ok (.invokestatic 1059, 3) := by decide +kernel
theorem j_chk_d8 : decode prog_23_method_155_code 8 = .ok (.pop, 1) := by decide +kernel
theorem j_chk_d9 : decode prog_23_method_155_code 9 = .ok (.return_, 1) := by decide +kernel
def j_pre : MethodName := ⟨"jdk/internal/util/Preconditions", "checkIndex", "(IILjava/util/function/BiFunction;)I"⟩
theorem j_pre_in : Cond.code j_pre prog_29_method_11_code 3 (some .int) ∈ m_tbl := m_at_in (i := 663) (by decide +kernel)
abbrev j_pre_ws : List Cond := Cond.code j_pre prog_29_method_11_code 3 (some .int) :: m_tbl
theorem j_pre_d0 : decode prog_29_method_11_code 0 = .ok (.iload_n 0, 1) := by decide +kernel
theorem j_pre_d1 : decode prog_29_method_11_code 1 = .ok (.ifCond .lt 8, 3) := by decide +kernel
theorem j_pre_d4 : decode prog_29_method_11_code 4 = .ok (.iload_n 0, 1) := by decide +kernel
theorem j_pre_d5 : decode prog_29_method_11_code 5 = .ok (.iload_n 1, 1) := by decide +kernel
theorem j_pre_d6 : decode prog_29_method_11_code 6 = .ok (.if_icmp .lt 10, 3) := by decide +kernel
theorem j_pre_d16 : decode prog_29_method_11_code 16 = .ok (.iload_n 0, 1) := by decide +kernel
theorem j_pre_d17 : decode prog_29_method_11_code 17 = .ok (.ireturn, 1) := by decide +kernel
theorem j_good {w : Cond} (h : w ∈ m_tbl) : GoodIn m_tbl (w :: m_tbl) := by
  intro v hv
  rcases List.mem_cons.mp hv with rfl | hv
  · exact ⟨h, good_of_word (List.mem_filter.mp h).2⟩
  · exact ⟨hv, good_of_word (List.mem_filter.mp hv).2⟩
/-- a String constant at a, its bytes at av -/
def j_U (b a av : Nat) (cs : List Int32) (U : State) : Prop :=
  va_Z "java/lang/String" "COMPACT_STRINGS" "Z" (.int 1) (fun q => b ≤ q) U U.heap ∧ va_Zq "jdk/internal/util/Preconditions" "SIOOBE_FORMATTER" "Ljava/util/function/BiFunction;" (fun q => b ≤ q) U U.heap ∧
  va_O "java/lang/String" a (fun q => b ≤ q) U U.heap ∧ va_OF "java/lang/String" "coder" "B" (.int 0) a (fun q => b ≤ q) U U.heap ∧ va_OF "java/lang/String" "value" "[B" (.ref av) a (fun q => b ≤ q) U U.heap ∧ va_T .byte av cs.length (fun k => .int (cs.getD k 0)) (fun q => b ≤ q) U U.heap
theorem j_U.mv {b a av : Nat} {cs : List Int32} {u U : State} (hvm : u.vm.Alike U.vm) (hh : U.heap = u.heap) (h : j_U b a av cs u) : j_U b a av cs U := by
  obtain ⟨h1, h2, h3, h4, h5, h6⟩ := h
  unfold j_U
  rw [hh]
  exact ⟨h1.moved hvm, h2.moved hvm, va_O.moved hvm h3, va_OF.moved hvm h4, va_OF.moved hvm h5, h6.moved hvm⟩
def j_P (vs : List Value) (b a av : Nat) (cs : List Int32) : Array Value → State → Prop := fun v U => v = vs.toArray ∧ j_U b a av cs U
def j_Q (r : Option Value) : Array Value → State → Outcome → State → Prop := fun _ st oc t => oc = .returned r ∧ t.heap = st.heap
theorem j_P_blind {vs : List Value} {b a av : Nat} {cs : List Int32} : FrameBlind (j_P vs b a av cs) := fun v U g mk h => ⟨h.1, j_U.mv (u := U) (U := U.calling g mk v) (Vm.Alike.refl U.vm) rfl h.2⟩
theorem j_prU {vs : List Value} {b a av : Nat} {cs : List Int32} {s : State} {H : Heap} (h : j_U b a av cs s) (hH : H = s.heap) : ∀ U : State, U.heap = H → s.WarmedH U.vm → j_P vs b a av cs vs.toArray U := fun U hU hW => ⟨rfl, j_U.mv hW.alike (hU.trans hH) h⟩
/-- a call of a method that changes nothing -/
theorem j_call {p : Program} {l : Launch} {e : Env} {R : Room} {s : State} {m : MethodId} {args : Array Value} {below : List Frame} {meth : Method} {c : Code} {H : Heap} {locs : List Loc} {cells slots : Nat} {Q : State → Prop} {pc : Nat} {ls : Array Slot} {st0 rest : List Value} {r : Option Value} {a : Array Value}
    (hr : va_Run p l e R s m args below meth c H locs cells slots 0 0 (F0 m pc ls st0) rest (j_Q r a) (fun _ => False)) (k : W p l e R s m args below meth c H locs cells slots Q (F0 m (pc + 3) ls (r.toList ++ rest))) : W p l e R s m args below meth c H locs cells slots Q (F0 m pc ls st0) := by
  intro T hT X
  obtain ⟨v, st₀, t, T', L, h0, X', hL, e1, e2, ⟨hv, ht⟩, st⟩ := hr T hT X
  cases hv
  have hL0 : L = [] := List.eq_nil_iff_forall_not_mem.mpr (fun q hq => hL q hq)
  subst hL0
  rw [List.append_nil] at X'
  obtain ⟨t2, a1, b1⟩ := k T' (by rw [e1, ht, h0]) X'
  exact ⟨t2, st t2 a1, b1⟩
def j_rm (f n : Nat) : Room := { frames := f, cells := 0, slots := 0, locals := n }
theorem j_shr0 (x : Int32) : x >>> ((0 : Int32) &&& 31) = x := by
  rw [show ((0 : Int32) &&& 31) = 0 from by decide]
  simp
theorem j_chars : ∀ cs ∈ m_tchars, cs.length ≤ 1000 ∧ ∀ c ∈ cs, ((c &&& 255).toUInt32 % 65536).toInt32 = c ∧ narrow .char (.int c) = .int c := by decide +kernel
section J1
variable {l : Launch} {b a av : Nat} {cs : List Int32}
theorem j_cod_m : Met l j_cod j_cod_ws (j_rm 0 0) (j_P [.ref a] b a av cs) (j_Q (some (.int 0))) 0 0 (fun _ => False) := by
  refine Met.ofW (cc := prog_23_method_152_code) (maxL := 1) (ret := (some .byte)) (by decide) rfl ?_
  intro p e s m args below meth c s₁ B hml hv
  obtain ⟨rfl, hU⟩ := hv
  have hx := B.exec
  have hb := B.bytes
  have hr := B.returns
  have hts : ∀ w ∈ j_cod_ws, w.before [.ref a].toArray s = true := atoms_spec (ws := j_cod_ws) B.pre
  have ht : ∀ w ∈ m_tbl, w.before [.ref a].toArray s = true := fun w hw => hts w (List.mem_cons_of_mem _ hw)
  have hown : s.vm.findClass "java/lang/String" = some m.cls := findClass_of_methodNamed B.named
  have hlocks := B.notSynchronized
  obtain ⟨h1, h2, h3, h4, h5, h6⟩ := id hU
  have hS : va_S (fun q => b ≤ q) s.heap s.heap [] := va_S.rf
  have hl := lv_entry ([.ref a]) (n := 1) (Nat.le_of_ble_eq_true rfl)
  rw [lg_entry_eq]
  generalize (lg_sl ([.ref a]) ++ List.replicate (1 - (lg_sl ([.ref a])).length) Slot.unset).toArray = ls at hl ⊢
  have hl : lv_has ls 1 [(0, .ref a)] := hl
  refine va_gets hx hb h1 hS hown (ht (.fieldLink "java/lang/String" 38 "java/lang/String" "COMPACT_STRINGS" "Z") (m_at_in (i := 643) (by decide +kernel))) (fun _ h => h) j_cod_d0 ?_
  refine lv_if_eq (tgt := 13) hx hb j_cod_d3 (by decide) (fun h => absurd h (by decide)) (fun _ => ?_)
  refine lv_aload_n hx hb j_cod_d6 rfl (lv_at hl 0 rfl) ?_
  refine vk_getf hx hb h4 hS hown (ht (.fieldLink "java/lang/String" 15 "java/lang/String" "coder" "B") (m_at_in (i := 2377) (by decide +kernel))) (fun _ h => h) j_cod_d7 ?_
  refine lv_goto (tgt := 14) hx hb j_cod_d10 (by decide) ?_
  exact W.zret (v := 0) hx hb hr (by decide) (fun t ht hW => ⟨rfl, ht⟩) (fun q hq => absurd hq List.not_mem_nil) j_cod_d14
theorem j_lat_m : Met l j_lat j_lat_ws (j_rm 0 0) (j_P [.ref a] b a av cs) (j_Q (some (.int 1))) 0 0 (fun _ => False) := by
  refine Met.ofW (cc := prog_23_method_154_code) (maxL := 1) (ret := (some .boolean)) (by decide) rfl ?_
  intro p e s m args below meth c s₁ B hml hv
  obtain ⟨rfl, hU⟩ := hv
  have hx := B.exec
  have hb := B.bytes
  have hr := B.returns
  have hts : ∀ w ∈ j_lat_ws, w.before [.ref a].toArray s = true := atoms_spec (ws := j_lat_ws) B.pre
  have ht : ∀ w ∈ m_tbl, w.before [.ref a].toArray s = true := fun w hw => hts w (List.mem_cons_of_mem _ hw)
  have hown : s.vm.findClass "java/lang/String" = some m.cls := findClass_of_methodNamed B.named
  have hlocks := B.notSynchronized
  obtain ⟨h1, h2, h3, h4, h5, h6⟩ := id hU
  have hS : va_S (fun q => b ≤ q) s.heap s.heap [] := va_S.rf
  have hl := lv_entry ([.ref a]) (n := 1) (Nat.le_of_ble_eq_true rfl)
  rw [lg_entry_eq]
  generalize (lg_sl ([.ref a]) ++ List.replicate (1 - (lg_sl ([.ref a])).length) Slot.unset).toArray = ls at hl ⊢
  have hl : lv_has ls 1 [(0, .ref a)] := hl
  refine va_gets hx hb h1 hS hown (ht (.fieldLink "java/lang/String" 38 "java/lang/String" "COMPACT_STRINGS" "Z") (m_at_in (i := 643) (by decide +kernel))) (fun _ h => h) j_lat_d0 ?_
  refine lv_if_eq (tgt := 17) hx hb j_lat_d3 (by decide) (fun h => absurd h (by decide)) (fun _ => ?_)
  refine lv_aload_n hx hb j_lat_d6 rfl (lv_at hl 0 rfl) ?_
  refine vk_getf hx hb h4 hS hown (ht (.fieldLink "java/lang/String" 15 "java/lang/String" "coder" "B") (m_at_in (i := 2377) (by decide +kernel))) (fun _ h => h) j_lat_d7 ?_
  refine lv_if_ne (tgt := 17) hx hb j_lat_d10 (by decide) (fun h => absurd rfl h) (fun _ => ?_)
  refine lv_iconst (v := 1) hx hb j_lat_d13 (by decide) ?_
  refine lv_goto (tgt := 18) hx hb j_lat_d14 (by decide) ?_
  exact W.zret (v := 1) hx hb hr (by decide) (fun t ht hW => ⟨rfl, ht⟩) (fun q hq => absurd hq List.not_mem_nil) j_lat_d18
theorem j_len_m : Met l j_len j_len_ws (j_rm 1 20) (j_P [.ref a] b a av cs) (j_Q (some (.int (Int32.ofNat cs.length)))) 0 0 (fun _ => False) := by
  refine Met.ofW (cc := prog_23_method_54_code) (maxL := 1) (ret := (some .int)) (by decide) rfl ?_
  intro p e s m args below meth c s₁ B hml hv
  obtain ⟨rfl, hU⟩ := hv
  have hx := B.exec
  have hb := B.bytes
  have hr := B.returns
  have hts : ∀ w ∈ j_len_ws, w.before [.ref a].toArray s = true := atoms_spec (ws := j_len_ws) B.pre
  have ht : ∀ w ∈ m_tbl, w.before [.ref a].toArray s = true := fun w hw => hts w (List.mem_cons_of_mem _ hw)
  have hown : s.vm.findClass "java/lang/String" = some m.cls := findClass_of_methodNamed B.named
  have hlocks := B.notSynchronized
  obtain ⟨h1, h2, h3, h4, h5, h6⟩ := id hU
  have hS : va_S (fun q => b ≤ q) s.heap s.heap [] := va_S.rf
  have hl := lv_entry ([.ref a]) (n := 1) (Nat.le_of_ble_eq_true rfl)
  rw [lg_entry_eq]
  generalize (lg_sl ([.ref a]) ++ List.replicate (1 - (lg_sl ([.ref a])).length) Slot.unset).toArray = ls at hl ⊢
  have hl : lv_has ls 1 [(0, .ref a)] := hl
  refine lv_aload_n hx hb j_len_d0 rfl (lv_at hl 0 rfl) ?_
  refine vk_getf hx hb h5 hS hown (ht (.fieldLink "java/lang/String" 9 "java/lang/String" "value" "[B") (m_at_in (i := 2376) (by decide +kernel))) (fun _ h => h) j_len_d1 ?_
  refine va_tlen hx hb h6 hS rfl j_len_d4 ?_
  refine lv_aload_n hx hb j_len_d5 rfl (lv_at hl 0 rfl) ?_
  refine j_call (va_runV (As := []) (rest := [.int (Int32.ofNat cs.length)]) (C := "java/lang/String") ⟨hx, hb, hml, hown, hts⟩ (j_cod_m (b := b) (a := a) (av := av) (cs := cs)) ⟨(callB_of 0 ht (j_good j_cod_in) rfl rfl rfl (ht (.initialized "java/lang/String") (m_at_in (i := 131) (by decide +kernel))) (ht (.methodLink "java/lang/String" 335 j_cod) (m_at_in (i := 639) (by decide +kernel))) (by decide +kernel) ⟨Nat.le_of_ble_eq_true rfl, Nat.le_of_ble_eq_true rfl⟩), (ht (.instanceMethod j_cod) (m_at_in (i := 640) (by decide +kernel))), (ht (.selects "java/lang/String" j_cod j_cod) (m_at_in (i := 641) (by decide +kernel)))⟩ ⟨j_P_blind, ⟨_, h3.choose_spec.1, h3.choose_spec.2.1, h3.choose_spec.2.2.1⟩, j_prU hU rfl⟩ rfl rfl hl.1 rfl (lv_room (Nat.le_of_ble_eq_true rfl)) j_len_d6 ⟨Nat.zero_le _, Nat.zero_le _⟩) ?_
  refine lv_ishr hx hb j_len_d9 ?_
  rw [j_shr0]
  exact W.iret hx hb hr (fun t ht hW => ⟨rfl, ht⟩) (fun q hq => absurd hq List.not_mem_nil) j_len_d10
theorem j_pre_m {x y : Int32} {v : Value} (hv0 : v = .null ∨ ∃ t, v = .ref t) (hx0 : ¬ x < 0) (hxy : x < y) : Met l j_pre j_pre_ws (j_rm 0 0) (j_P [.int x, .int y, v] b a av cs) (j_Q (some (.int x))) 0 0 (fun _ => False) := by
  rcases hv0 with rfl | ⟨t0, rfl⟩
  · refine Met.ofW (cc := prog_29_method_11_code) (maxL := 3) (ret := (some .int)) (by decide) rfl ?_
    intro p e s m args below meth c s₁ B hml hv
    obtain ⟨rfl, hU⟩ := hv
    have hx := B.exec
    have hb := B.bytes
    have hr := B.returns
    have hts : ∀ w ∈ j_pre_ws, w.before [.int x, .int y, .null].toArray s = true := atoms_spec (ws := j_pre_ws) B.pre
    have ht : ∀ w ∈ m_tbl, w.before [.int x, .int y, .null].toArray s = true := fun w hw => hts w (List.mem_cons_of_mem _ hw)
    have hown : s.vm.findClass "jdk/internal/util/Preconditions" = some m.cls := findClass_of_methodNamed B.named
    have hlocks := B.notSynchronized
    obtain ⟨h1, h2, h3, h4, h5, h6⟩ := id hU
    have hS : va_S (fun q => b ≤ q) s.heap s.heap [] := va_S.rf
    have hl := lv_entry ([.int x, .int y, .null]) (n := 3) (Nat.le_of_ble_eq_true rfl)
    rw [lg_entry_eq]
    generalize (lg_sl ([.int x, .int y, .null]) ++ List.replicate (3 - (lg_sl ([.int x, .int y, .null])).length) Slot.unset).toArray = ls at hl ⊢
    have hl : lv_has ls 3 [(0, .int x), (1, .int y), (2, .null)] := hl
    refine lv_iload_n hx hb j_pre_d0 rfl (lv_at hl 0 rfl) ?_
    refine lv_if_lt (tgt := 9) hx hb j_pre_d1 (by decide) (fun h => absurd h hx0) (fun _ => ?_)
    refine lv_iload_n hx hb j_pre_d4 rfl (lv_at hl 0 rfl) ?_
    refine lv_iload_n hx hb j_pre_d5 rfl (lv_at hl 1 rfl) ?_
    refine lv_icmp_lt (tgt := 16) hx hb j_pre_d6 (by decide) (fun _ => ?_) (fun h => absurd hxy h)
    refine lv_iload_n hx hb j_pre_d16 rfl (lv_at hl 0 rfl) ?_
    exact W.iret hx hb hr (fun t ht hW => ⟨rfl, ht⟩) (fun q hq => absurd hq List.not_mem_nil) j_pre_d17
  · refine Met.ofW (cc := prog_29_method_11_code) (maxL := 3) (ret := (some .int)) (by decide) rfl ?_
    intro p e s m args below meth c s₁ B hml hv
    obtain ⟨rfl, hU⟩ := hv
    have hx := B.exec
    have hb := B.bytes
    have hr := B.returns
    have hts : ∀ w ∈ j_pre_ws, w.before [.int x, .int y, .ref t0].toArray s = true := atoms_spec (ws := j_pre_ws) B.pre
    have ht : ∀ w ∈ m_tbl, w.before [.int x, .int y, .ref t0].toArray s = true := fun w hw => hts w (List.mem_cons_of_mem _ hw)
    have hown : s.vm.findClass "jdk/internal/util/Preconditions" = some m.cls := findClass_of_methodNamed B.named
    have hlocks := B.notSynchronized
    obtain ⟨h1, h2, h3, h4, h5, h6⟩ := id hU
    have hS : va_S (fun q => b ≤ q) s.heap s.heap [] := va_S.rf
    have hl := lv_entry ([.int x, .int y, .ref t0]) (n := 3) (Nat.le_of_ble_eq_true rfl)
    rw [lg_entry_eq]
    generalize (lg_sl ([.int x, .int y, .ref t0]) ++ List.replicate (3 - (lg_sl ([.int x, .int y, .ref t0])).length) Slot.unset).toArray = ls at hl ⊢
    have hl : lv_has ls 3 [(0, .int x), (1, .int y), (2, .ref t0)] := hl
    refine lv_iload_n hx hb j_pre_d0 rfl (lv_at hl 0 rfl) ?_
    refine lv_if_lt (tgt := 9) hx hb j_pre_d1 (by decide) (fun h => absurd h hx0) (fun _ => ?_)
    refine lv_iload_n hx hb j_pre_d4 rfl (lv_at hl 0 rfl) ?_
    refine lv_iload_n hx hb j_pre_d5 rfl (lv_at hl 1 rfl) ?_
    refine lv_icmp_lt (tgt := 16) hx hb j_pre_d6 (by decide) (fun _ => ?_) (fun h => absurd hxy h)
    refine lv_iload_n hx hb j_pre_d16 rfl (lv_at hl 0 rfl) ?_
    exact W.iret hx hb hr (fun t ht hW => ⟨rfl, ht⟩) (fun q hq => absurd hq List.not_mem_nil) j_pre_d17
theorem j_chk_m {x y : Int32} (hx0 : ¬ x < 0) (hxy : x < y) : Met l j_chk j_chk_ws (j_rm 1 22) (j_P [.int x, .int y] b a av cs) (j_Q none) 0 0 (fun _ => False) := by
  refine Met.ofW (cc := prog_23_method_155_code) (maxL := 2) (ret := none) (by decide) rfl ?_
  intro p e s m args below meth c s₁ B hml hv
  obtain ⟨rfl, hU⟩ := hv
  have hx := B.exec
  have hb := B.bytes
  have hr := B.returns
  have hts : ∀ w ∈ j_chk_ws, w.before [.int x, .int y].toArray s = true := atoms_spec (ws := j_chk_ws) B.pre
  have ht : ∀ w ∈ m_tbl, w.before [.int x, .int y].toArray s = true := fun w hw => hts w (List.mem_cons_of_mem _ hw)
  have hown : s.vm.findClass "java/lang/String" = some m.cls := findClass_of_methodNamed B.named
  have hlocks := B.notSynchronized
  obtain ⟨h1, h2, h3, h4, h5, h6⟩ := id hU
  have hS : va_S (fun q => b ≤ q) s.heap s.heap [] := va_S.rf
  have hl := lv_entry ([.int x, .int y]) (n := 2) (Nat.le_of_ble_eq_true rfl)
  rw [lg_entry_eq]
  generalize (lg_sl ([.int x, .int y]) ++ List.replicate (2 - (lg_sl ([.int x, .int y])).length) Slot.unset).toArray = ls at hl ⊢
  have hl : lv_has ls 2 [(0, .int x), (1, .int y)] := hl
  refine lv_iload_n hx hb j_chk_d0 rfl (lv_at hl 0 rfl) ?_
  refine lv_iload_n hx hb j_chk_d1 rfl (lv_at hl 1 rfl) ?_
  obtain ⟨v, hv, hZ⟩ : ∃ v : Value, (v = .null ∨ ∃ t, v = .ref t) ∧ va_Z "jdk/internal/util/Preconditions" "SIOOBE_FORMATTER" "Ljava/util/function/BiFunction;" v (fun q => b ≤ q) s s.heap := by
    rcases h2 with h2 | ⟨t, h2⟩
    · exact ⟨_, Or.inl rfl, h2⟩
    · exact ⟨_, Or.inr ⟨t, rfl⟩, h2⟩
  refine va_gets hx hb hZ hS hown (ht (.fieldLink "java/lang/String" 1053 "jdk/internal/util/Preconditions" "SIOOBE_FORMATTER" "Ljava/util/function/BiFunction;") (m_at_in (i := 659) (by decide +kernel))) (fun _ h => h) j_chk_d2 ?_
  refine j_call (va_runS (As := [.int x, .int y, v]) (rest := []) ⟨hx, hb, hml, hown, hts⟩ (j_pre_m (b := b) (a := a) (av := av) (cs := cs) hv hx0 hxy) ⟨(callB_of 3 ht (j_good j_pre_in) rfl rfl rfl (ht (.initialized "jdk/internal/util/Preconditions") (m_at_in (i := 133) (by decide +kernel))) (ht (.methodLink "java/lang/String" 1059 j_pre) (m_at_in (i := 661) (by decide +kernel))) (by decide +kernel) ⟨Nat.le_of_ble_eq_true rfl, Nat.le_of_ble_eq_true rfl⟩), (ht (.static j_pre) (m_at_in (i := 662) (by decide +kernel)))⟩ ⟨j_P_blind, j_prU hU rfl⟩ rfl rfl hl.1 rfl (lv_room (Nat.le_of_ble_eq_true rfl)) j_chk_d5 ⟨Nat.zero_le _, Nat.zero_le _⟩) ?_
  refine lv_pop hx hb j_chk_d8 rfl ?_
  exact W.vret hx hb hr (fun t ht hW => ⟨rfl, ht⟩) (fun q hq => absurd hq List.not_mem_nil) j_chk_d9
theorem j_chl_m {x : Int32} (hin : vp_in x cs.length) (hlen : cs.length ≤ 1000) (hch : ∀ c ∈ cs, ((c &&& 255).toUInt32 % 65536).toInt32 = c ∧ narrow .char (.int c) = .int c) : Met l j_chl j_chl_ws (j_rm 2 43) (j_P [.ref av, .int x] b a av cs) (j_Q (some (.int (cs.getD x.toNatClampNeg 0)))) 0 0 (fun _ => False) := by
  refine Met.ofW (cc := prog_24_method_2_code) (maxL := 2) (ret := (some .char)) (by decide) rfl ?_
  intro p e s m args below meth c s₁ B hml hv
  obtain ⟨rfl, hU⟩ := hv
  have hx := B.exec
  have hb := B.bytes
  have hr := B.returns
  have hts : ∀ w ∈ j_chl_ws, w.before [.ref av, .int x].toArray s = true := atoms_spec (ws := j_chl_ws) B.pre
  have ht : ∀ w ∈ m_tbl, w.before [.ref av, .int x].toArray s = true := fun w hw => hts w (List.mem_cons_of_mem _ hw)
  have hown : s.vm.findClass "java/lang/StringLatin1" = some m.cls := findClass_of_methodNamed B.named
  have hlocks := B.notSynchronized
  obtain ⟨h1, h2, h3, h4, h5, h6⟩ := id hU
  have hS : va_S (fun q => b ≤ q) s.heap s.heap [] := va_S.rf
  have hl := lv_entry ([.ref av, .int x]) (n := 2) (Nat.le_of_ble_eq_true rfl)
  rw [lg_entry_eq]
  generalize (lg_sl ([.ref av, .int x]) ++ List.replicate (2 - (lg_sl ([.ref av, .int x])).length) Slot.unset).toArray = ls at hl ⊢
  have hl : lv_has ls 2 [(0, .ref av), (1, .int x)] := hl
  have hx0 : ¬ x < 0 := fun h => hin (Or.inl h)
  have hlt : x.toNatClampNeg < cs.length := Nat.not_le.mp fun q => hin (Or.inr q)
  have hxy : x < Int32.ofNat cs.length := by
    obtain ⟨n, hn, rfl⟩ := nI_of hx0
    rw [nI_clamp hn] at hlt
    exact nI_lt hlt (by omega)
  have hmem : cs.getD x.toNatClampNeg 0 ∈ cs := by
    rw [List.getD_eq_getElem?_getD, List.getElem?_eq_getElem hlt]
    exact List.getElem_mem hlt
  refine lv_iload_n hx hb j_chl_d0 rfl (lv_at hl 1 rfl) ?_
  refine lv_aload_n hx hb j_chl_d1 rfl (lv_at hl 0 rfl) ?_
  refine va_tlen hx hb h6 hS rfl j_chl_d2 ?_
  refine j_call (va_runS (As := [.int x, .int (Int32.ofNat cs.length)]) (rest := []) ⟨hx, hb, hml, hown, hts⟩ (j_chk_m (b := b) (a := a) (av := av) (cs := cs) hx0 hxy) ⟨(callB_of 2 ht (j_good j_chk_in) rfl rfl rfl (ht (.initialized "java/lang/String") (m_at_in (i := 131) (by decide +kernel))) (ht (.methodLink "java/lang/StringLatin1" 9 j_chk) (m_at_in (i := 656) (by decide +kernel))) (by decide +kernel) ⟨Nat.le_of_ble_eq_true rfl, Nat.le_of_ble_eq_true rfl⟩), (ht (.static j_chk) (m_at_in (i := 657) (by decide +kernel)))⟩ ⟨j_P_blind, j_prU hU rfl⟩ rfl rfl hl.1 rfl (lv_room (Nat.le_of_ble_eq_true rfl)) j_chl_d3 ⟨Nat.zero_le _, Nat.zero_le _⟩) ?_
  refine lv_aload_n hx hb j_chl_d6 rfl (lv_at hl 0 rfl) ?_
  refine lv_iload_n hx hb j_chl_d7 rfl (lv_at hl 1 rfl) ?_
  refine va_tb hx hb h6 hS hin rfl j_chl_d8 ?_
  refine lv_sipush (v := 255) hx hb j_chl_d9 (by decide) ?_
  refine lv_iand hx hb j_chl_d12 ?_
  refine lv_i2c hx hb j_chl_d13 (hch _ hmem).1 ?_
  exact W.zret hx hb hr (hch _ hmem).2 (fun t ht hW => ⟨rfl, ht⟩) (fun q hq => absurd hq List.not_mem_nil) j_chl_d14
theorem j_chr_m {x : Int32} (hin : vp_in x cs.length) (hlen : cs.length ≤ 1000) (hch : ∀ c ∈ cs, ((c &&& 255).toUInt32 % 65536).toInt32 = c ∧ narrow .char (.int c) = .int c) : Met l j_chr j_chr_ws (j_rm 3 64) (j_P [.ref a, .int x] b a av cs) (j_Q (some (.int (cs.getD x.toNatClampNeg 0)))) 0 0 (fun _ => False) := by
  refine Met.ofW (cc := prog_23_method_56_code) (maxL := 2) (ret := (some .char)) (by decide) rfl ?_
  intro p e s m args below meth c s₁ B hml hv
  obtain ⟨rfl, hU⟩ := hv
  have hx := B.exec
  have hb := B.bytes
  have hr := B.returns
  have hts : ∀ w ∈ j_chr_ws, w.before [.ref a, .int x].toArray s = true := atoms_spec (ws := j_chr_ws) B.pre
  have ht : ∀ w ∈ m_tbl, w.before [.ref a, .int x].toArray s = true := fun w hw => hts w (List.mem_cons_of_mem _ hw)
  have hown : s.vm.findClass "java/lang/String" = some m.cls := findClass_of_methodNamed B.named
  have hlocks := B.notSynchronized
  obtain ⟨h1, h2, h3, h4, h5, h6⟩ := id hU
  have hS : va_S (fun q => b ≤ q) s.heap s.heap [] := va_S.rf
  have hl := lv_entry ([.ref a, .int x]) (n := 2) (Nat.le_of_ble_eq_true rfl)
  rw [lg_entry_eq]
  generalize (lg_sl ([.ref a, .int x]) ++ List.replicate (2 - (lg_sl ([.ref a, .int x])).length) Slot.unset).toArray = ls at hl ⊢
  have hl : lv_has ls 2 [(0, .ref a), (1, .int x)] := hl
  have hlt : x.toNatClampNeg < cs.length := Nat.not_le.mp fun q => hin (Or.inr q)
  have hmem : cs.getD x.toNatClampNeg 0 ∈ cs := by
    rw [List.getD_eq_getElem?_getD, List.getElem?_eq_getElem hlt]
    exact List.getElem_mem hlt
  refine lv_aload_n hx hb j_chr_d0 rfl (lv_at hl 0 rfl) ?_
  refine j_call (va_runV (As := []) (rest := []) (C := "java/lang/String") ⟨hx, hb, hml, hown, hts⟩ (j_lat_m (b := b) (a := a) (av := av) (cs := cs)) ⟨(callB_of 0 ht (j_good j_lat_in) rfl rfl rfl (ht (.initialized "java/lang/String") (m_at_in (i := 131) (by decide +kernel))) (ht (.methodLink "java/lang/String" 492 j_lat) (m_at_in (i := 649) (by decide +kernel))) (by decide +kernel) ⟨Nat.le_of_ble_eq_true rfl, Nat.le_of_ble_eq_true rfl⟩), (ht (.instanceMethod j_lat) (m_at_in (i := 650) (by decide +kernel))), (ht (.selects "java/lang/String" j_lat j_lat) (m_at_in (i := 651) (by decide +kernel)))⟩ ⟨j_P_blind, ⟨_, h3.choose_spec.1, h3.choose_spec.2.1, h3.choose_spec.2.2.1⟩, j_prU hU rfl⟩ rfl rfl hl.1 rfl (lv_room (Nat.le_of_ble_eq_true rfl)) j_chr_d1 ⟨Nat.zero_le _, Nat.zero_le _⟩) ?_
  refine lv_if_eq (tgt := 16) hx hb j_chr_d4 (by decide) (fun h => absurd h (by decide)) (fun _ => ?_)
  refine lv_aload_n hx hb j_chr_d7 rfl (lv_at hl 0 rfl) ?_
  refine vk_getf hx hb h5 hS hown (ht (.fieldLink "java/lang/String" 9 "java/lang/String" "value" "[B") (m_at_in (i := 2376) (by decide +kernel))) (fun _ h => h) j_chr_d8 ?_
  refine lv_iload_n hx hb j_chr_d11 rfl (lv_at hl 1 rfl) ?_
  refine j_call (va_runS (As := [.ref av, .int x]) (rest := []) ⟨hx, hb, hml, hown, hts⟩ (j_chl_m (b := b) (a := a) (av := av) (cs := cs) hin hlen hch) ⟨(callB_of 2 ht (j_good j_chl_in) rfl rfl rfl (ht (.initialized "java/lang/StringLatin1") (m_at_in (i := 132) (by decide +kernel))) (ht (.methodLink "java/lang/String" 495 j_chl) (m_at_in (i := 653) (by decide +kernel))) (by decide +kernel) ⟨Nat.le_of_ble_eq_true rfl, Nat.le_of_ble_eq_true rfl⟩), (ht (.static j_chl) (m_at_in (i := 654) (by decide +kernel)))⟩ ⟨j_P_blind, j_prU hU rfl⟩ rfl rfl hl.1 rfl (lv_room (Nat.le_of_ble_eq_true rfl)) j_chr_d12 ⟨Nat.zero_le _, Nat.zero_le _⟩) ?_
  exact W.zret hx hb hr (hch _ hmem).2 (fun t ht hW => ⟨rfl, ht⟩) (fun q hq => absurd hq List.not_mem_nil) j_chr_d15
end J1
theorem m_text_inv {a : Nat} {f : List Int32 → Prop} (h : m_text a f) : ∃ j cs, a = m_str j ∧ m_tchars[j]? = some cs ∧ f cs := by
  unfold m_text at h
  cases hb : Nat.ble 1000000 a with
  | false => rw [hb] at h; exact h.elim
  | true =>
    rw [hb] at h
    have hle := Nat.le_of_ble_eq_true hb
    generalize hm : m_tchars[a - 1000000]? = q at h
    cases q with
    | none => exact h.elim
    | some cs =>
      refine ⟨a - 1000000, cs, ?_, hm, h⟩
      show a = 1000000 + (a - 1000000)
      rw [Nat.add_sub_cancel' hle]
section J2
variable {G : m_G} {own : String} {cc : ByteArray} {d : Nat} {pc : Nat} {l : m_L} {st : m_V} {S : m_S} {bc bs : Nat}
theorem m_strU (F : m_Fix G own cc d) {ad : Nat → Nat} {H : Heap} {locs : List Loc} {j : Nat} {cs : List Int32} (hext : m_ext G.2.2.1 S.1.length G.2.2.2 ad) (hS : va_S (m_A G) (g_s G).heap H locs) (hj : m_tchars[j]? = some cs) :
    ∃ av, (∃ cell : Cell, H[ad (m_str j)]? = some cell ∧ cell.vm.isStatics = false ∧ (g_s G).vm.findClass "java/lang/String" = some cell.cls) ∧ ∀ U : State, U.heap = H → (g_s G).WarmedH U.vm → j_U (g_s0 G).heap.size (ad (m_str j)) av cs U := by
  obtain ⟨-, -, -, -, -, -, -, h1, h2, h3⟩ := F.2.2.2.2.2.1.up hext
  obtain ⟨av, h3, h4, h5, h6⟩ := h3 j cs hj
  have hW0 := F.2.2.2.2.2.2.1
  have hle := F.2.2.2.2.2.2.2.1
  have hold := F.2.2.2.2.2.2.2.2.1
  have hq : ∀ q : Nat, q < (g_s0 G).heap.size → ¬ (g_s0 G).heap.size ≤ q → H[q]? = (g_s0 G).heap[q]? := fun q h1 h2 => by
    rw [hS.2.1 q (Nat.lt_of_lt_of_le h1 hle) h2]
    exact hold q h1
  refine ⟨av, ?_, fun U hU hW => ?_⟩
  · obtain ⟨cell, a1, a2, a3, -⟩ := va_O.moved hW0.alike (h3.kept hq)
    exact ⟨cell, a1, a2, a3⟩
  · have hvm : (g_s0 G).vm.Alike U.vm := (State.WarmedH.trans hW0 hW).alike
    unfold j_U
    rw [hU]
    exact ⟨(h1.kept hq).moved hvm, (h2.kept hq).moved hvm, va_O.moved hvm (h3.kept hq), va_OF.moved hvm (h4.kept hq), va_OF.moved hvm (h5.kept hq), (h6.kept hq).moved hvm⟩
theorem m_i_strlen (F : m_Fix G own cc d) {j idx p : Nat} {cs : List Int32} {r : m_V} (hst0 : st = .ref (m_str j) :: r) (hr : m_rest 1 st = true) (hj : m_tchars[j]? = some cs) (hl : m_at p (.methodLink own idx j_len) = true) (hd : decode cc pc = .ok (.invokevirtual idx, 3)) (h : m_Wp G (pc + 3) l (.int (Int32.ofNat cs.length) :: r) S bc bs) : m_Wp G pc l st S bc bs := by
  intro ad H ls cst locs cells slots hext hH hS hlr hst hc hs
  have hcat := m_rest_le hr hst
  subst hst0
  obtain ⟨_, z0, rfl, ⟨-, rfl⟩, h2⟩ := hst
  have h8 : (z0.map fun v => v.category).sum ≤ 8 := hcat
  have hRl := F.2.2.2.2.2.2.2.2.2.2
  have hRf := F.2.2.2.2.2.2.2.2.2.1
  obtain ⟨av, hrc, hU⟩ := m_strU F hext hS hj
  exact j_call (va_runV (As := []) (rest := z0) (C := "java/lang/String") (nL := (g_c G).maxLocals) (Ts := m_tbl) ⟨F.1, F.2.1, rfl, F.2.2.1, F.2.2.2.1⟩ (j_len_m (b := (g_s0 G).heap.size) (a := ad (m_str j)) (av := av) (cs := cs)) ⟨callB_of 0 F.2.2.2.1 (j_good j_len_in) rfl rfl rfl (F.w (i := 131) (by decide +kernel)) (F.w hl) (by decide +kernel) ⟨(show 1 + 1 ≤ (g_R G).frames by omega), (show 8 + (1 + 11) + 20 ≤ (g_R G).locals by omega)⟩, F.w (i := 636) (by decide +kernel), F.w (i := 637) (by decide +kernel)⟩ ⟨j_P_blind, hrc, fun U hU1 hW => ⟨rfl, hU U hU1 hW⟩⟩ rfl rfl hlr.2.1 rfl (by show 2 * 0 + _ ≤ 8; omega) hd ⟨(show cells + 0 ≤ (g_R G).cells by omega), (show slots + 0 ≤ (g_R G).slots by omega)⟩) (h ad H ls _ locs cells slots hext hH hS hlr ⟨_, z0, rfl, rfl, h2⟩ hc hs)
theorem m_i_strat (F : m_Fix G own cc d) {j idx p : Nat} {i : Int32} {cs : List Int32} {r : m_V} (hst0 : st = .int i :: .ref (m_str j) :: r) (hr : m_rest 2 st = true) (hj : m_tchars[j]? = some cs) (hin : vp_in i cs.length) (hl : m_at p (.methodLink own idx j_chr) = true) (hd : decode cc pc = .ok (.invokevirtual idx, 3)) (h : m_Wp G (pc + 3) l (.int (cs.getD i.toNatClampNeg 0) :: r) S bc bs) : m_Wp G pc l st S bc bs := by
  intro ad H ls cst locs cells slots hext hH hS hlr hst hc hs
  have hcat := m_rest_le hr hst
  subst hst0
  obtain ⟨_, z0, rfl, rfl, _, z1, rfl, ⟨-, rfl⟩, h2⟩ := hst
  have h8 : (z1.map fun v => v.category).sum ≤ 8 := hcat
  have hRl := F.2.2.2.2.2.2.2.2.2.2
  have hRf := F.2.2.2.2.2.2.2.2.2.1
  obtain ⟨hlen, hch⟩ := j_chars cs (List.mem_of_getElem? hj)
  obtain ⟨av, hrc, hU⟩ := m_strU F hext hS hj
  exact j_call (va_runV (As := [.int i]) (rest := z1) (C := "java/lang/String") (nL := (g_c G).maxLocals) (Ts := m_tbl) ⟨F.1, F.2.1, rfl, F.2.2.1, F.2.2.2.1⟩ (j_chr_m (b := (g_s0 G).heap.size) (a := ad (m_str j)) (av := av) (cs := cs) hin hlen hch) ⟨callB_of 1 F.2.2.2.1 (j_good j_chr_in) rfl rfl rfl (F.w (i := 131) (by decide +kernel)) (F.w hl) (by decide +kernel) ⟨(show 3 + 1 ≤ (g_R G).frames by omega), (show 8 + (2 + 11) + 64 ≤ (g_R G).locals by omega)⟩, F.w (i := 646) (by decide +kernel), F.w (i := 647) (by decide +kernel)⟩ ⟨j_P_blind, hrc, fun U hU1 hW => ⟨rfl, hU U hU1 hW⟩⟩ rfl rfl hlr.2.1 rfl (by show 2 * 0 + _ ≤ 8; omega) hd ⟨(show cells + 0 ≤ (g_R G).cells by omega), (show slots + 0 ≤ (g_R G).slots by omega)⟩) (h ad H ls _ locs cells slots hext hH hS hlr ⟨_, z1, rfl, rfl, h2⟩ hc hs)
end J2
