/-! the kinds of calls -/
section S9
variable {G : m_G} {own : String} {cc : ByteArray} {d : Nat} {pc : Nat} {l : m_L} {st : m_V} {S : m_S} {bc bs : Nat} {nx : m_C} {ex : String → m_L → m_S → Nat → Nat → Prop}
/-- by a virtual call -/
theorem m_i_V (F : m_Fix G own cc d) {a n idx p ci : Nat} {M : m_Meth} (hM : m_M[a]? = some M) (hok : m_okC M) (hk : k_kind M = 0) (hn : n = (k_np M) + 1) (hcls : m_cnames.getD ci "" = M.1.cls) (hl : m_at p (.methodLink own idx M.1) = true) (hd : decode cc pc = .ok (.invokevirtual idx, 3))
    {o : Nat} {rs : List (Option Nat)} (ho : st[n - 1]? = some (.ref o)) (hob : S.1[o]? = some (.inl ci, rs)) (h : m_callOn (m_Call (g_l G) d) a n l st S bc bs nx ex)
    (hnx : ∀ l st S bc bs, nx l st S bc bs → m_Wp G (pc + 3) l st S bc bs) (hex : ∀ X l S bc bs, ex X l S bc bs → m_Wx G pc X l S bc bs) : m_Wp G pc l st S bc bs := by
  intro ad H ls cst locs cells slots hext hH hS hlr hst hc hs
  obtain ⟨hr, hlen, mc, ms, Q', hSem, hmc, hms, hK⟩ := m_callOn_inv h
  have hcat := m_rest_le hr hst
  obtain ⟨c0, hc0, -, rfl⟩ := hst.get ho
  have hbot := m_bottom (by omega) hc0
  have hcargs : m_vrs ad S.1.length (st.take n).reverse (cst.take n).reverse := (hst.split n).1.rev
  have hcl : cst.length = st.length := hst.len
  have hMet := hSem M hM (g_s0 G) (g_D G) (g_dA G) (g_L G) (g_xs G) ad _ (F.2.2.2.2.2.1.up hext) hcargs
  have hok' := hok.2
  simp only [m_okB, Bool.and_eq_true, hk, decide_eq_true_eq] at hok'
  obtain ⟨⟨⟨⟨⟨w2, w3⟩, w4⟩, w5⟩, w6, w7⟩, -⟩ := hok'
  have hRl := F.2.2.2.2.2.2.2.2.2.2
  have hRf := F.2.2.2.2.2.2.2.2.2.1
  have hmax : M.2.2.1 ≤ 45 := Nat.le_of_ble_eq_true w3
  have hcb : CallB (g_R G) (g_s G) (g_args G) own idx M.1 M.2.1 M.2.2.1 M.2.2.2.1 (m_wsM M) (m_rm d mc ms) mc ms (k_np M) :=
    callB_of (k_np M) F.2.2.2.1 (m_good hok) rfl rfl rfl (F.w w2) (F.w hl) w5 ⟨by show d + 10 + 1 ≤ _; omega, by show 8 + (M.2.2.1 + 11) + (64 * d + 200) ≤ _; omega⟩
  have hrev : (cst.take n).reverse = .ref (ad o) :: (cst.take (n - 1)).reverse := by rw [hbot]; simp
  rw [hrev] at hMet
  have hrecv := va_recv F.K hH.1 (m_cl_at (hH.2.2.1 o _ hob).2.1) (m_ws_at hob)
  rw [hcls] at hrecv
  refine m_after (n := n) (a := (Value.ref (ad o) :: (cst.take (n - 1)).reverse).toArray) F hext hS hlr hst hc hs (vx_runV (As := (cst.take (n - 1)).reverse) (b := ad o) (C := M.1.cls) (nL := (g_c G).maxLocals) (Ts := m_tbl) ⟨F.1, F.2.1, rfl, F.2.2.1, F.2.2.2.1⟩ hMet ⟨hcb, F.w w6, F.w w7⟩ ⟨m_Pc_blind, hrecv, m_pre F hH hS⟩ rfl (by rw [List.length_reverse, List.length_take]; omega) hlr.2.1 ?_ (by show 2 * 0 + _ ≤ 8; omega) hd ⟨(show cells + mc ≤ (g_R G).cells by omega), (show slots + ms ≤ (g_R G).slots by omega)⟩) hmc hms hK hnx hex
  show cst = _
  rw [List.reverse_reverse]
  have e := List.take_append_drop n cst
  rw [hbot, List.append_assoc] at e
  exact e.symm
/-- by a static call -/
theorem m_i_S (F : m_Fix G own cc d) {a n idx p : Nat} {M : m_Meth} (hM : m_M[a]? = some M) (hok : m_okC M) (hk : k_kind M = 1) (hn : n = (k_np M)) (hl : m_at p (.methodLink own idx M.1) = true) (hd : decode cc pc = .ok (.invokestatic idx, 3))
    (h : m_callOn (m_Call (g_l G) d) a n l st S bc bs nx ex)
    (hnx : ∀ l st S bc bs, nx l st S bc bs → m_Wp G (pc + 3) l st S bc bs) (hex : ∀ X l S bc bs, ex X l S bc bs → m_Wx G pc X l S bc bs) : m_Wp G pc l st S bc bs := by
  intro ad H ls cst locs cells slots hext hH hS hlr hst hc hs
  obtain ⟨hr, hlen, mc, ms, Q', hSem, hmc, hms, hK⟩ := m_callOn_inv h
  have hcat := m_rest_le hr hst
  have hcargs : m_vrs ad S.1.length (st.take n).reverse (cst.take n).reverse := (hst.split n).1.rev
  have hcl : cst.length = st.length := hst.len
  have hMet := hSem M hM (g_s0 G) (g_D G) (g_dA G) (g_L G) (g_xs G) ad _ (F.2.2.2.2.2.1.up hext) hcargs
  have hok' := hok.2
  simp only [m_okB, Bool.and_eq_true, hk, decide_eq_true_eq] at hok'
  obtain ⟨⟨⟨⟨⟨w2, w3⟩, w4⟩, w5⟩, w6⟩, -⟩ := hok'
  have hRl := F.2.2.2.2.2.2.2.2.2.2
  have hRf := F.2.2.2.2.2.2.2.2.2.1
  have hmax : M.2.2.1 ≤ 45 := Nat.le_of_ble_eq_true w3
  have hcb : CallB (g_R G) (g_s G) (g_args G) own idx M.1 M.2.1 M.2.2.1 M.2.2.2.1 (m_wsM M) (m_rm d mc ms) mc ms (k_np M) :=
    callB_of (k_np M) F.2.2.2.1 (m_good hok) rfl rfl rfl (F.w w2) (F.w hl) w5 ⟨by show d + 10 + 1 ≤ _; omega, by show 8 + (M.2.2.1 + 11) + (64 * d + 200) ≤ _; omega⟩
  refine m_after (n := n) (a := ((cst.take n).reverse).toArray) F hext hS hlr hst hc hs (vx_runS (As := (cst.take n).reverse) (nL := (g_c G).maxLocals) (Ts := m_tbl) ⟨F.1, F.2.1, rfl, F.2.2.1, F.2.2.2.1⟩ hMet ⟨hcb, F.w w6⟩ ⟨m_Pc_blind, m_pre F hH hS⟩ rfl (by rw [List.length_reverse, List.length_take]; omega) hlr.2.1 ?_ (by show 2 * 0 + _ ≤ 8; omega) hd ⟨(show cells + mc ≤ (g_R G).cells by omega), (show slots + ms ≤ (g_R G).slots by omega)⟩) hmc hms hK hnx hex
  show cst = _
  rw [List.reverse_reverse, List.take_append_drop]
/-- by a static call within the nest -/
theorem m_i_SN (F : m_Fix G own cc d) {a n idx p : Nat} {M : m_Meth} (hM : m_M[a]? = some M) (hok : m_okC M) (hk : k_kind M = 1) (hn : n = (k_np M)) (hl : lw_tbl[p]? = some (.methodLinkNest own idx M.1 "VirtualQueue")) (hd : decode cc pc = .ok (.invokestatic idx, 3))
    (h : m_callOn (m_Call (g_l G) d) a n l st S bc bs nx ex)
    (hnx : ∀ l st S bc bs, nx l st S bc bs → m_Wp G (pc + 3) l st S bc bs) (hex : ∀ X l S bc bs, ex X l S bc bs → m_Wx G pc X l S bc bs) : m_Wp G pc l st S bc bs := by
  intro ad H ls cst locs cells slots hext hH hS hlr hst hc hs
  obtain ⟨hr, hlen, mc, ms, Q', hSem, hmc, hms, hK⟩ := m_callOn_inv h
  have hcat := m_rest_le hr hst
  have hcargs : m_vrs ad S.1.length (st.take n).reverse (cst.take n).reverse := (hst.split n).1.rev
  have hcl : cst.length = st.length := hst.len
  have hMet := hSem M hM (g_s0 G) (g_D G) (g_dA G) (g_L G) (g_xs G) ad _ (F.2.2.2.2.2.1.up hext) hcargs
  have hok' := hok.2
  simp only [m_okB, Bool.and_eq_true, hk, decide_eq_true_eq] at hok'
  obtain ⟨⟨⟨⟨⟨w2, w3⟩, w4⟩, w5⟩, w6⟩, -⟩ := hok'
  have hRl := F.2.2.2.2.2.2.2.2.2.2
  have hRf := F.2.2.2.2.2.2.2.2.2.1
  have hmax : M.2.2.1 ≤ 45 := Nat.le_of_ble_eq_true w3
  have hNw : va_Nw (.methodLinkNest own idx M.1 "VirtualQueue") (g_s G) := va_Nw.warmM F.2.2.2.2.2.2.1 (F.2.2.2.2.2.1.2.2.1 _ (List.mem_of_getElem? hl) rfl)
  have hcb : va_CN (g_R G) (g_s G) (g_args G) own idx M.1 "VirtualQueue" M.2.1 M.2.2.1 M.2.2.2.1 (m_wsM M) (m_rm d mc ms) mc ms (k_np M) :=
    va_cnB (k_np M) F.2.2.2.1 (m_good hok) rfl rfl rfl hNw (F.w w2) w5 ⟨by show d + 10 + 1 ≤ _; omega, by show 8 + (M.2.2.1 + 11) + (64 * d + 200) ≤ _; omega⟩
  refine m_after (n := n) (a := ((cst.take n).reverse).toArray) F hext hS hlr hst hc hs (vx_runSN (As := (cst.take n).reverse) (nL := (g_c G).maxLocals) (Ts := m_tbl) ⟨F.1, F.2.1, rfl, F.2.2.1, F.2.2.2.1⟩ hMet ⟨hcb, F.w w6, trivial⟩ ⟨m_Pc_blind, m_pre F hH hS⟩ rfl (by rw [List.length_reverse, List.length_take]; omega) hlr.2.1 ?_ (by show 2 * 0 + _ ≤ 8; omega) hd ⟨(show cells + mc ≤ (g_R G).cells by omega), (show slots + ms ≤ (g_R G).slots by omega)⟩) hmc hms hK hnx hex
  show cst = _
  rw [List.reverse_reverse, List.take_append_drop]
/-- a constructor -/
theorem m_i_I (F : m_Fix G own cc d) {a n idx p : Nat} {M : m_Meth} (hM : m_M[a]? = some M) (hok : m_okC M) (hk : k_kind M = 2) (hn : n = (k_np M) + 1) (hl : m_at p (.methodLink own idx M.1) = true ∨ lw_tbl[p]? = some (.methodLinkNest own idx M.1 "VirtualQueue")) (hd : decode cc pc = .ok (.invokespecial idx, 3))
    {o : Nat} (ho : st[n - 1]? = some (.ref o)) (h : m_callOn (m_Call (g_l G) d) a n l st S bc bs nx ex)
    (hnx : ∀ l st S bc bs, nx l st S bc bs → m_Wp G (pc + 3) l st S bc bs) (hex : ∀ X l S bc bs, ex X l S bc bs → m_Wx G pc X l S bc bs) : m_Wp G pc l st S bc bs := by
  intro ad H ls cst locs cells slots hext hH hS hlr hst hc hs
  obtain ⟨hr, hlen, mc, ms, Q', hSem, hmc, hms, hK⟩ := m_callOn_inv h
  have hcat := m_rest_le hr hst
  obtain ⟨c0, hc0, -, rfl⟩ := hst.get ho
  have hbot := m_bottom (by omega) hc0
  have hcargs : m_vrs ad S.1.length (st.take n).reverse (cst.take n).reverse := (hst.split n).1.rev
  have hcl : cst.length = st.length := hst.len
  have hMet := hSem M hM (g_s0 G) (g_D G) (g_dA G) (g_L G) (g_xs G) ad _ (F.2.2.2.2.2.1.up hext) hcargs
  have hok' := hok.2
  simp only [m_okB, Bool.and_eq_true, hk, decide_eq_true_eq] at hok'
  obtain ⟨⟨⟨⟨⟨w2, w3⟩, w4⟩, w5⟩, ⟨w6, w7⟩, w8⟩, -⟩ := hok'
  have hRl := F.2.2.2.2.2.2.2.2.2.2
  have hRf := F.2.2.2.2.2.2.2.2.2.1
  have hmax : M.2.2.1 ≤ 45 := Nat.le_of_ble_eq_true w3
  have hrev : (cst.take n).reverse = .ref (ad o) :: (cst.take (n - 1)).reverse := by rw [hbot]; simp
  rw [hrev] at hMet
  have hst2 : (F0 (g_m G) pc ls cst).stack = ((cst.take (n - 1)).reverse).reverse ++ .ref (ad o) :: cst.drop n := by
    show cst = _
    rw [List.reverse_reverse]
    have e := List.take_append_drop n cst
    rw [hbot, List.append_assoc] at e
    exact e.symm
  have hgood := m_good hok
  rcases hl with hl | hl
  · have hcb : CallB (g_R G) (g_s G) (g_args G) own idx M.1 M.2.1 M.2.2.1 none (m_wsM M) (m_rm d mc ms) mc ms (k_np M) :=
      callB_of (ret := none) (k_np M) F.2.2.2.1 hgood (by unfold m_wsM; rw [w8]) rfl rfl (F.w w2) (F.w hl) w5 ⟨by show d + 10 + 1 ≤ _; omega, by show 8 + (M.2.2.1 + 11) + (64 * d + 200) ≤ _; omega⟩
    exact m_after (n := n) (a := (Value.ref (ad o) :: (cst.take (n - 1)).reverse).toArray) F hext hS hlr hst hc hs (vx_runI (As := (cst.take (n - 1)).reverse) (b := ad o) (nL := (g_c G).maxLocals) (Ts := m_tbl) ⟨F.1, F.2.1, rfl, F.2.2.1, F.2.2.2.1⟩ hMet ⟨hcb, w7, F.w w6⟩ ⟨m_Pc_blind, m_pre F hH hS⟩ rfl (by rw [List.length_reverse, List.length_take]; omega) hlr.2.1 hst2 (by show 2 * 0 + _ ≤ 8; omega) hd ⟨(show cells + mc ≤ (g_R G).cells by omega), (show slots + ms ≤ (g_R G).slots by omega)⟩) hmc hms hK hnx hex
  · have hNw : va_Nw (.methodLinkNest own idx M.1 "VirtualQueue") (g_s G) := va_Nw.warmM F.2.2.2.2.2.2.1 (F.2.2.2.2.2.1.2.2.1 _ (List.mem_of_getElem? hl) rfl)
    have hcb : va_CN (g_R G) (g_s G) (g_args G) own idx M.1 "VirtualQueue" M.2.1 M.2.2.1 none (m_wsM M) (m_rm d mc ms) mc ms (k_np M) :=
      va_cnB (ret := none) (k_np M) F.2.2.2.1 hgood (by unfold m_wsM; rw [w8]) rfl rfl hNw (F.w w2) w5 ⟨by show d + 10 + 1 ≤ _; omega, by show 8 + (M.2.2.1 + 11) + (64 * d + 200) ≤ _; omega⟩
    exact m_after (n := n) (a := (Value.ref (ad o) :: (cst.take (n - 1)).reverse).toArray) F hext hS hlr hst hc hs (vx_runIN (As := (cst.take (n - 1)).reverse) (b := ad o) (nL := (g_c G).maxLocals) (Ts := m_tbl) ⟨F.1, F.2.1, rfl, F.2.2.1, F.2.2.2.1⟩ hMet ⟨hcb, w7, F.w w6⟩ ⟨m_Pc_blind, m_pre F hH hS⟩ rfl (by rw [List.length_reverse, List.length_take]; omega) hlr.2.1 hst2 (by show 2 * 0 + _ ≤ 8; omega) hd ⟨(show cells + mc ≤ (g_R G).cells by omega), (show slots + ms ≤ (g_R G).slots by omega)⟩) hmc hms hK hnx hex
end S9
