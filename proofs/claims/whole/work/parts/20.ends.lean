/-! how a body ends, 2 -/
section S12
variable {G : m_G} {own : String} {cc : ByteArray} {d : Nat} {l : m_L} {st : m_V} {S : m_S} {bc bs : Nat} {nx : m_C} {jp : Nat → m_C}
theorem m_Fix.at (F : m_Fix G own cc d) {k : Nat} (h : k < 3) : ∀ w ∈ m_atX k, w.before (g_args G) (g_s G) = true := by
  intro w hw
  obtain ⟨h1, h2, -⟩ := m_atX_in h w hw
  unfold m_kindOk at h2
  split at h2
  · exact va_Nw.use rfl (va_Nw.warmC F.2.2.2.2.2.2.1 (F.2.2.2.2.2.1.2.2.1 _ h1 rfl))
  · exact va_Nw.use rfl (va_Nw.warmD F.2.2.2.2.2.2.1 (F.2.2.2.2.2.1.2.2.1 _ h1 rfl))
  · exact F.2.2.2.1 w (List.mem_filter.mpr ⟨h1, h2⟩)
theorem m_Fix.Z (F : m_Fix G own cc d) : vx_Zq Bundle.tN "UNASSIGNED_STACK" Bundle.steD (m_A G) (g_s G) (g_s G).heap ∧ vx_Zq Bundle.tN "SUPPRESSED_SENTINEL" Bundle.listD (m_A G) (g_s G) (g_s G).heap := by
  obtain ⟨-, -, -, -, -, C, hW, hle, hold, -⟩ := F
  obtain ⟨h1, h2⟩ := C.2.2.2.2.2.1
  exact ⟨(h1.moved hW.alike).kept (fun a ha _ => hold a ha), (h2.moved hW.alike).kept (fun a ha _ => hold a ha)⟩
theorem m_H_kept {D : va_G} {dA : FieldType → ClassId} {base : Nat} {xs : Nat → Int32} {L : Nat} {ad : Nat → Nat} {H H1 : Heap} (hH : m_H D dA base xs L ad S H) (hk : ∀ q : Nat, q < H.size → H1[q]? = H[q]?) : m_H D dA base xs L ad S H1 :=
  ⟨hH.1.kept (fun k q hq => hk q.1 ((hH.1 k q hq).lt)), hH.2⟩
end S12
section S12b
variable {call : Nat → m_V → m_S → Nat → Nat → (m_O → m_S → Nat → Nat → Prop) → Prop} {rt : Option FieldType} {Q : m_O → m_S → Prop} {ex : Nat → String → m_L → m_S → Nat → Nat → Prop} {pl : Nat × Nat} {v : Int32} {z : Nat × Nat × Nat × Nat} {nx : m_C} {jp : Nat → m_C} {l : m_L} {st : m_V} {S : m_S} {bc bs : Nat}
theorem m_ret_inv (h : m_step call rt Q ex (pl, .return_, v, z) nx jp l st S bc bs) : st = [] ∧ rt = none ∧ Q (.inl none) S := by
  unfold m_step at h
  simp only at h
  split at h
  · exact ⟨rfl, rfl, h⟩
  · exact h.elim
theorem m_iret_inv (h : m_step call rt Q ex (pl, .ireturn, v, z) nx jp l st S bc bs) : ∃ w, st = [.int w] ∧ ((rt = some .int ∧ Q (.inl (some (.int w))) S) ∨ (rt = some .boolean ∧ vp_nar .boolean w = w ∧ Q (.inl (some (.int w))) S)) := by
  unfold m_step at h
  simp only at h
  split at h
  · exact ⟨_, rfl, Or.inl ⟨rfl, h⟩⟩
  · exact ⟨_, rfl, Or.inr ⟨rfl, h⟩⟩
  · exact h.elim
theorem m_lret_inv (h : m_step call rt Q ex (pl, .lreturn, v, z) nx jp l st S bc bs) : ∃ w, st = [.long w] ∧ rt = some .long ∧ Q (.inl (some (.long w))) S := by
  unfold m_step at h
  simp only at h
  split at h
  · exact ⟨_, rfl, rfl, h⟩
  · exact h.elim
theorem m_dret_inv (h : m_step call rt Q ex (pl, .dreturn, v, z) nx jp l st S bc bs) : ∃ w, st = [.double w] ∧ rt = some .double ∧ Q (.inl (some (.double w))) S := by
  unfold m_step at h
  simp only at h
  split at h
  · exact ⟨_, rfl, rfl, h⟩
  · exact h.elim
end S12b
section S13
variable {p : Program} {l : Launch} {e : Env} {s : State} {m : MethodId} {args : Array Value} {below : List Frame} {meth : Method} {c : Code} {D : va_G} {dA : FieldType → ClassId} {s0 : State} {L : Nat} {xs : Nat → Int32} {ad0 : Nat → Nat} {S0 : m_S} {Q : m_O → m_S → Prop} {d mc ms : Nat}
/-- the context of a method's body -/
abbrev m_GG (p : Program) (l : Launch) (e : Env) (s : State) (m : MethodId) (args : Array Value) (below : List Frame) (meth : Method) (c : Code) (D : va_G) (dA : FieldType → ClassId) (s0 : State) (L : Nat) (xs : Nat → Int32) (ad0 : Nat → Nat) (S0 : m_S) (Q : m_O → m_S → Prop) (d mc ms : Nat) : m_G :=
  ((p, l, e, m_rm (d + 1) mc ms, s, m, args, below, meth, c, vx_MQ below (m_Qc s0 D dA L xs ad0 S0 Q) (m_XC s0 D dA L xs ad0 S0 Q) args s mc ms (fun q => s0.heap.size ≤ q)), (D, dA, s0, L, xs), (S0.1.length, ad0))
theorem m_Wx_out {pc : Nat} {X : String} {lc : m_L} {S : m_S} {bc bs : Nat} (hno : ∀ x ∈ c.exceptionTable.toList, False) (hlocks : meth.locks = false) (hQ : Q (.inr X) S) : m_Wx (m_GG p l e s m args below meth c D dA s0 L xs ad0 S0 Q d mc ms) pc X lc S bc bs := by
  intro ad H ls rest locs cells slots q ce hext hH hS hlr hcell hv hcl hc hs
  exact vx_out (fun x hx => (hno x hx).elim) hlocks hcell hv hcl (fun t ht _ => ⟨⟨S, ad, hQ, hext, by rw [ht]; exact hH⟩, hS.F ht⟩) hS.2.2 (show cells ≤ mc from by have : cells + bc ≤ mc := hc; omega) (show slots ≤ ms from by have : slots + bs ≤ ms := hs; omega)
set_option maxHeartbeats 1000000 in
theorem m_end_sound {M : m_Meth} {en : m_Ent} {lc : m_L} {st : m_V} {S : m_S} {bc bs : Nat} {nx : m_C} {jp : Nat → m_C} {call : Nat → m_V → m_S → Nat → Nat → (m_O → m_S → Nat → Nat → Prop) → Prop} {ex : Nat → String → m_L → m_S → Nat → Nat → Prop}
    (F : m_Fix (m_GG p l e s m args below meth c D dA s0 L xs ad0 S0 Q d mc ms) M.1.cls M.2.1 d) (hown : m_owns.getD (k_on M) "" = M.1.cls) (hno : ∀ x ∈ c.exceptionTable.toList, False) (hr : meth.sig.returnType = M.2.2.2.1) (hok : m_okE M en = true) (hth : m_okTh M en = true) (hend : m_isEnd en = true)
    (h : m_step call M.2.2.2.1 Q ex en nx jp lc st S bc bs) : m_Wp (m_GG p l e s m args below meth c D dA s0 L xs ad0 S0 Q d mc ms) en.1.1 lc st S bc bs := by
  obtain ⟨⟨pc, len⟩, ins, v, a, b, c9, t⟩ := en
  simp only [m_okE, Bool.and_eq_true, decide_eq_true_eq] at hok
  obtain ⟨hd, hok⟩ := hok
  simp only at hd hok hend h hth ⊢
  have hlocks : meth.locks = false := F.2.2.2.2.1
  have hx := F.1
  have hb := F.2.1
  intro ad H ls cst locs cells slots hext hH hS hlr hst hc hs
  have hcm : cells ≤ mc := by have : cells + bc ≤ mc := hc; omega
  have hsm : slots ≤ ms := by have : slots + bs ≤ ms := hs; omega
  cases ins with
  | return_ =>
    simp only [m_okX, m_okS] at hok
    obtain rfl := m_beq hok
    obtain ⟨rfl, hrt, h⟩ := m_ret_inv h
    rw [hrt] at hr
    obtain rfl : cst = [] := hst
    refine W.widen (k := mc) (n := ms) hcm hsm ?_
    exact vx_ret (W.vret hx hb hr (fun t ht hW => ⟨⟨none, S, ad, rfl, (fun v hv => by cases hv), h, hext, by rw [ht]; exact hH⟩, hS.F ht⟩) hS.2.2 hd hlocks)
  | ireturn =>
    simp only [m_okX, m_okS] at hok
    obtain rfl := m_beq hok
    obtain ⟨w, rfl, ⟨hrt, h⟩ | ⟨hrt, h1, h⟩⟩ := m_iret_inv h
    · rw [hrt] at hr
      obtain ⟨c0, cst0, rfl, rfl, rfl⟩ := hst
      refine W.widen (k := mc) (n := ms) hcm hsm ?_
      exact vx_ret (W.iret hx hb hr (fun t ht hW => ⟨⟨some (.int w), S, ad, rfl, (fun v hv => by cases hv; exact m_vi w), h, hext, by rw [ht]; exact hH⟩, hS.F ht⟩) hS.2.2 hd hlocks)
    · rw [hrt] at hr
      obtain ⟨c0, cst0, rfl, rfl, rfl⟩ := hst
      refine W.widen (k := mc) (n := ms) hcm hsm ?_
      have hnw : narrow .boolean (.int w) = .int w := congrArg Value.int h1
      exact vx_ret (W.zret hx hb hr hnw (fun t ht hW => ⟨⟨some (.int w), S, ad, rfl, (fun v hv => by cases hv; exact m_vi w), h, hext, by rw [ht]; exact hH⟩, hS.F ht⟩) hS.2.2 hd hlocks)
  | lreturn =>
    simp only [m_okX, m_okS] at hok
    obtain rfl := m_beq hok
    obtain ⟨w, rfl, hrt, h⟩ := m_lret_inv h
    rw [hrt] at hr
    obtain ⟨c0, cst0, rfl, rfl, rfl⟩ := hst
    refine W.widen (k := mc) (n := ms) hcm hsm ?_
    exact vx_ret (W.lret hx hb hr (fun t ht hW => ⟨⟨some (.long w), S, ad, rfl, (fun v hv => by cases hv; exact m_vl w), h, hext, by rw [ht]; exact hH⟩, hS.F ht⟩) hS.2.2 hd hlocks)
  | dreturn =>
    simp only [m_okX, m_okS] at hok
    obtain rfl := m_beq hok
    obtain ⟨w, rfl, hrt, h⟩ := m_dret_inv h
    rw [hrt] at hr
    obtain ⟨c0, cst0, rfl, rfl, rfl⟩ := hst
    refine W.widen (k := mc) (n := ms) hcm hsm ?_
    exact vx_ret (W.dret hx hb hr (fun t ht hW => ⟨⟨some (.double w), S, ad, rfl, (fun v hv => by cases hv; exact m_vd w), h, hext, by rw [ht]; exact hH⟩, hS.F ht⟩) hS.2.2 hd hlocks)
  | new i =>
    simp only [m_okX, Bool.and_eq_true] at hok
    obtain ⟨h1, h2⟩ := hok
    obtain rfl := m_beq h1
    match t, h, h2, hend, hth with
    | 0, h, h2, hend, hth => cases hend
    | t + 1, h, h2, hend, hth =>
      simp only [Bool.and_eq_true] at h2
      obtain ⟨p9, hp⟩ := m_cl_use h2.2
      have ha3 : a < 3 := Nat.le_of_ble_eq_true h2.1
      have hb13 : Nat.blt (100 + a) 13 = false := by
        rcases (show a = 0 ∨ a = 1 ∨ a = 2 by omega) with rfl | rfl | rfl <;> rfl
      have hb200 : Nat.beq (100 + a) 200 = false := by
        rcases (show a = 0 ∨ a = 1 ∨ a = 2 by omega) with rfl | rfl | rfl <;> rfl
      rw [hb13, hown] at hp
      simp only [hb200, Nat.add_sub_cancel_left] at hp
      obtain ⟨hrest, hbc, hbs, hQ⟩ := m_inv_bool (b := m_rest 0 st) (p := 1 ≤ bc ∧ 6 ≤ bs ∧ Q (.inr (m_excs.getD a "")) S) h
      have hcat := m_rest_le hrest hst
      simp only [List.drop_zero] at hcat
      have hfx : Bundle.fit (m_excs.getD a "") = true := List.all_eq_true.mp m_fitX.1 a (List.mem_range.mpr ha3)
      have hfc : ∀ n ∈ m_chain, Bundle.fit n = true := List.all_eq_true.mp m_fitX.2
      have hxc : ∀ t9 : State, s.vm.Alike t9.vm → H.size ≤ t9.heap.size → (∀ q : Nat, q < H.size → t9.heap[q]? = H[q]?) → m_XC s0 D dA L xs ad0 S0 Q (m_excs.getD a "") s t9 := by
        intro t9 _ hsz hk9
        refine ⟨⟨S, ad, hQ, hext, m_H_kept hH hk9⟩, Nat.le_trans hS.1 hsz, fun q hq hA => ?_⟩
        rw [hk9 q (Nat.lt_of_lt_of_le hq hS.1)]
        exact hS.2.1 q hq hA
      have hcl9 : cells + 1 ≤ mc := by have : cells + bc ≤ mc := hc; omega
      have hsl9 : slots + 6 ≤ ms := by have : slots + bs ≤ ms := hs; omega
      have hots : ∀ w ∈ Cond.classLink "VirtualQueue" i (m_excs.getD a "") :: Cond.initialized (m_excs.getD a "") :: m_atX a, vx_ot w = true := by
        intro w hw
        rcases List.mem_cons.mp hw with rfl | hw
        · rfl
        rcases List.mem_cons.mp hw with rfl | hw
        · rfl
        exact (m_atX_in ha3 w hw).2.2
      have hstl : l.stackTraces = false := F.2.2.2.2.2.1.2.1
      unfold m_okTh at hth
      simp only at hth
      split at hth
      · rename_i hz; omega
      · rename_i ht0
        split at hth
        · rename_i q hq
          simp only [Bool.and_eq_true, decide_eq_true_eq] at hth
          obtain ⟨⟨⟨⟨⟨o1, o2⟩, d3⟩, d4⟩, d6⟩, d9⟩ := hth
          have ho : M.1.cls = "VirtualQueue" := by rw [← hown, m_beq o1]; decide +kernel
          have hsl := List.all_eq_true.mp m_slOk_t q (List.mem_of_getElem? hq)
          simp only [Bool.and_eq_true, decide_eq_true_eq] at hsl
          have hsw : lw_tbl[q.2.2.2]? = some (.stringRef "VirtualQueue" q.2.1 (m_texts.getD q.2.2.1 "")) := by
            have := hsl.2
            rw [m_beq o2] at this
            exact this
          obtain ⟨sa, hR, -⟩ := F.2.2.2.2.2.1.2.2.2.2.2.2.1 _ _ _ (List.mem_of_getElem? hsw)
          rw [ho] at hp
          have hwn := F.2.2.1
          rw [ho] at hwn
          exact vx_throwS (own := "VirtualQueue") (cls := m_excs.getD a "") (names := m_chain) (A := fun q => s0.heap.size ≤ q) (mc := mc) (ms := ms) hx hb hstl hwn hfx hfc (F.w hp) (F.2.2.2.1 _ (m_iniX_in ha3)) (hR.warm F.2.2.2.2.2.2.1) (F.at ha3) hots F.Z.1 F.Z.2 hS hlr.2.1 hd d3 d4 d6 d9 (fun x hx9 => (hno x hx9).elim) (show 2 + 3 < d + 1 + 10 by omega) (show (cst.map fun v => v.category).sum + (13 * (2 + 1) + 43) ≤ 64 * (d + 1) + 200 by omega) hcl9 hsl9 hlocks hxc hS.2.2 hcl9 hsl9
        · cases hth
      · rename_i ht0
        split at hth
        · rename_i q hq
          simp only [Bool.and_eq_true, decide_eq_true_eq] at hth
          obtain ⟨⟨⟨⟨⟨o1, o2⟩, d3⟩, d4⟩, d6⟩, d9⟩ := hth
          have ho : M.1.cls = "VirtualQueue" := by rw [← hown, m_beq o1]; decide +kernel
          have hsl := List.all_eq_true.mp m_slOk_t q (List.mem_of_getElem? hq)
          simp only [Bool.and_eq_true, decide_eq_true_eq] at hsl
          have hsw : lw_tbl[q.2.2.2]? = some (.stringRef "VirtualQueue" q.2.1 (m_texts.getD q.2.2.1 "")) := by
            have := hsl.2
            rw [m_beq o2] at this
            exact this
          obtain ⟨sa, hR, -⟩ := F.2.2.2.2.2.1.2.2.2.2.2.2.1 _ _ _ (List.mem_of_getElem? hsw)
          rw [ho] at hp
          have hwn := F.2.2.1
          rw [ho] at hwn
          exact vx_throwSW (own := "VirtualQueue") (cls := m_excs.getD a "") (names := m_chain) (A := fun q => s0.heap.size ≤ q) (mc := mc) (ms := ms) hx hb hstl hwn hfx hfc (F.w hp) (F.2.2.2.1 _ (m_iniX_in ha3)) (hR.warm F.2.2.2.2.2.2.1) (F.at ha3) hots F.Z.1 F.Z.2 hS hlr.2.1 hd d3 d4 d6 d9 (fun x hx9 => (hno x hx9).elim) (show 2 + 3 < d + 1 + 10 by omega) (show (cst.map fun v => v.category).sum + (13 * (2 + 1) + 43) ≤ 64 * (d + 1) + 200 by omega) hcl9 hsl9 hlocks hxc hS.2.2 hcl9 hsl9
        · cases hth
      · cases hth
  | _ => cases hend
end S13
