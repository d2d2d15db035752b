/-! the law's own walk: runs of its slices, its calls of wrappers, its script, its end -/
section L1
variable {G : m_G} {own : String} {cc : ByteArray} {d D : Nat} {pc : Nat} {l : m_L} {st : m_V} {S : m_S} {bc bs : Nat}
/-- the call of a wrapper -/
theorem m_i_SW (F : m_Fix G own cc D) {n idx p : Nat} {M : m_Meth} (hok : m_okW M) (hNc : m_Nc (g_s0 G)) (hn : n = k_np M) (hl : m_at p (.methodLink own idx M.1) = true) (hd : decode cc pc = .ok (.invokestatic idx, 3)) (hRf : d + 11 ≤ (g_R G).frames) (hRl : 64 * (d + 1) + 200 ≤ (g_R G).locals)
    (hr : m_rest n st = true) (hlen : n ≤ st.length) {mc ms : Nat} {Q' : m_O → m_S → Prop} (hSem : m_SemW (g_l G) d M (st.take n).reverse S mc ms Q') (hmc : mc ≤ bc) (hms : ms ≤ bs)
    (hK : ∀ o S', Q' o S' → ∃ v, o = .inl (some v) ∧ m_Wp G (pc + 3) l (v :: st.drop n) S' (bc - mc) (bs - ms)) : m_Wp G pc l st S bc bs := by
  intro ad H ls cst locs cells slots hext hH hS hlr hst hc hs
  have hcat := m_rest_le hr hst
  have hcargs : m_vrs ad S.1.length (st.take n).reverse (cst.take n).reverse := (hst.split n).1.rev
  have hcl : cst.length = st.length := hst.len
  have hMet := hSem (g_s0 G) (g_D G) (g_dA G) (g_L G) (g_xs G) ad _ (F.2.2.2.2.2.1.up hext) hNc hcargs
  obtain ⟨⟨hC1, hC2⟩, -, -, -, -, hkd⟩ := hok
  simp only [m_okB, Bool.and_eq_true, hkd, decide_eq_true_eq] at hC2
  obtain ⟨⟨⟨⟨⟨w2, w3⟩, w4⟩, w5⟩, w6⟩, -⟩ := hC2
  have hmax : M.2.2.1 ≤ 45 := Nat.le_of_ble_eq_true w3
  have hgood : GoodIn m_tbl (m_wsW M) := fun w hw => by
    rcases List.mem_cons.mp hw with rfl | hw
    · exact ⟨hC1, good_of_word (List.mem_filter.mp hC1).2⟩
    · exact ⟨hw, good_of_word (List.mem_filter.mp hw).2⟩
  have hsig : ∀ sig, parseMethodDescriptor M.1.desc = some sig → k_np M = sig.parameters.length := fun sig h => by
    have h2 := w5.2.2
    rw [h] at h2
    exact (Option.some.inj h2).symm
  have hcw : vx_CSW (g_R G) (g_s G) (g_args G) own idx M.1 M.2.1 M.2.2.1 M.2.2.2.1 (m_hh M) (m_wsW M) (m_rm d mc ms) mc ms (k_np M) :=
    ⟨⟨rfl, rfl, (show d + 10 + 1 ≤ (g_R G).frames by omega), (show 8 + (M.2.2.1 + 11) + (64 * d + 200) ≤ (g_R G).locals by omega), pay_in F.2.2.2.1 hgood, List.mem_cons_self⟩, F.2.2.2.1 _ hC1, F.w w2, ⟨w5.1, w5.2.1⟩, hsig, F.w hl, F.w w6⟩
  refine m_after (n := n) (nx := m_Wp G (pc + 3)) (ex := fun _ _ _ _ _ => False) (a := ((cst.take n).reverse).toArray) F hext hS hlr hst hc hs (vx_runSX (hh := m_hh M) (As := (cst.take n).reverse) (nL := (g_c G).maxLocals) (Ts := m_tbl) ⟨F.1, F.2.1, rfl, F.2.2.1, F.2.2.2.1⟩ hMet hcw ⟨m_Pc_blind, m_pre F hH hS⟩ rfl (by rw [List.length_reverse, List.length_take]; omega) hlr.2.1 ?_ (by show 2 * 0 + _ ≤ 8; omega) hd ⟨(show cells + mc ≤ (g_R G).cells by omega), (show slots + ms ≤ (g_R G).slots by omega)⟩) hmc hms (fun o S' hq => ?_) (fun _ _ _ _ _ h => h) (fun _ _ _ _ _ h => h.elim)
  · show cst = _
    rw [List.reverse_reverse, List.take_append_drop]
  · obtain ⟨v, rfl, h⟩ := hK o S' hq
    exact h
theorem m_ret0 {call : Nat → m_V → m_S → Nat → Nat → (m_O → m_S → Nat → Nat → Prop) → Prop} {Q : m_O → m_S → Prop} {ex : Nat → String → m_L → m_S → Nat → Nat → Prop} {a : Nat × Nat} {v : Int32} {z : Nat × Nat × Nat × Nat} {nx : m_C} {jp : Nat → m_C} (h : m_step call none Q ex (a, .ireturn, v, z) nx jp l st S bc bs) : False := by
  cases st with
  | nil => exact h
  | cons x r =>
    cases r with
    | nil => cases x <;> exact h
    | cons y r => cases x <;> exact h
/-- a run of a slice -/
theorem m_lrun (F : m_Fix G "VirtualQueueLaw" code d) {tbl : List m_Ent} (hsl : m_okSl tbl) (n : Nat) (stops : List (Nat × Nat)) (h : m_run (m_Call (g_l G) d) none (fun _ _ => False) (fun _ _ _ _ _ _ => False) (m_Wp G) stops tbl n (m_from tbl pc) l st S bc bs) : m_Wp G pc l st S bc bs := by
  have htl : m_tail tbl tbl := ⟨fun _ h => h, hsl.2⟩
  refine m_run_sound (fun en hen nx jp lc st9 S9 bc9 bs9 hs hnx hjp => ?_) htl n _ l st S bc bs pc htl.from.1 htl.from.2 h
  have hk := List.all_eq_true.mp hsl.1 en hen
  obtain ⟨a, ins, v, z⟩ := en
  simp only [m_okL] at hk
  split at hk
  · exact (m_ret0 hs).elim
  · rename_i i e1 e2
    obtain ⟨z1, z2, z3, z4⟩ := z
    have e2 : z4 = 15 := e2
    subst e2
    exact (show False from hs).elim
  · simp only [Bool.and_eq_true, Bool.not_eq_true'] at hk
    exact m_step_sound (M := m_LM) F m_okall rfl (fun h => by cases h) hk.1 hk.2 hs hnx hjp (fun X lc S9 bc bs hq => hq.elim)
end L1
/-- what the law's walk is closed under -/
def z_LC (l : Launch) (L : Nat) (xs : Nat → Int32) (Wp : Nat → z_C) : Prop :=
  (∀ tbl : List m_Ent, m_okSl tbl → ∀ (n : Nat) (stops : List (Nat × Nat)) (ws : List Nat) (pc : Nat) (lc : z_L) (st : z_V) (S : z_S) (bc bs : Nat), z_run (z_Call l 12) none (fun _ _ => False) (fun _ _ _ _ _ _ => False) Wp stops ws tbl n (m_from tbl pc) lc st S bc bs → Wp pc lc st S bc bs) ∧
  (∀ (M : m_Meth) (n idx p pc : Nat), m_okW M → n = k_np M → m_at p (.methodLink "VirtualQueueLaw" idx M.1) = true → decode code pc = .ok (.invokestatic idx, 3) → ∀ (lc : z_L) (st : z_V) (S : z_S) (bc bs mc ms : Nat) (Q : z_O → z_S → Prop), m_rest n (z_mV st) = true → n ≤ st.length → z_SemW l 13 M (st.take n).reverse S mc ms Q → mc ≤ bc → ms ≤ bs → (∀ o S', Q o S' → ∃ v, o = .inl (some v) ∧ Wp (pc + 3) lc (v :: st.drop n) S' (bc - mc) (bs - ms)) → Wp pc lc st S bc bs) ∧
  (∀ (pc : Nat) (lc : z_L) (st : z_V) (S : z_S) (bc bs : Nat), ((∀ k : Nat, S.2.1 2000000 k = (xs k).toInt) → (S.2.1 2000001 0).toNat = L → S.1[2000000]? = none → z_okS S → Wp pc lc st S bc bs) → Wp pc lc st S bc bs) ∧
  (∀ (lc : z_L) (S : z_S) (bc bs : Nat), Wp 3717 lc [.inl 1] S bc bs)
theorem z_mV_cut {st : z_V} {n : Nat} : ((z_mV st).take n).reverse = z_mV (st.take n).reverse := by
  unfold z_mV
  rw [List.map_reverse, List.map_take]
theorem z_LC_of {G : m_G} (F : m_Fix G "VirtualQueueLaw" code 12) (hNc : m_Nc (g_s0 G)) (hRf : 24 ≤ (g_R G).frames) (hRl : 64 * 14 + 200 ≤ (g_R G).locals) (hend : ∀ (lc : m_L) (S : m_S) (bc bs : Nat), m_Wp G 3717 lc [.int 1] S bc bs) :
    z_LC (g_l G) (g_L G) (g_xs G) (fun pc zl zst zS bc bs => z_okL zl → z_okV zst → z_okS zS → m_Wp G pc (z_mL zl) (z_mV zst) (z_st zS) bc bs) := by
  refine ⟨fun tbl hsl n stops ws pc lc st S bc bs hr hl hv hS => m_lrun F hsl n stops (z_run_sound (zQ := fun _ _ => False) (ws := ws) (fun _ _ h => h.elim) (fun _ _ _ _ _ _ h => h.elim) (fun pc l9 st9 S9 bc9 bs9 h9 => h9) n _ lc st S bc bs hr hl hv hS), ?_, ?_, fun lc S bc bs _ _ _ => hend _ _ _ _⟩
  · intro M n idx p pc hok hn hlk hd lc st S bc bs mc ms Q hr hlen hSem hmc hms hK hl hv hS
    refine m_i_SW (d := 13) F hok hNc hn hlk hd hRf hRl hr (by unfold z_mV; rw [List.length_map]; exact hlen) (by rw [z_mV_cut]; exact hSem (z_okV_rev (z_okV_take n hv)) hS) hmc hms (fun o S' h => ?_)
    obtain ⟨zo, zS, rfl, rfl, h1, h2, h3⟩ := h
    obtain ⟨v, rfl, hW⟩ := hK zo zS h3
    refine ⟨z_val v, rfl, ?_⟩
    have h4 := hW hl ⟨h1, z_okV_drop n hv⟩ h2
    unfold z_mV at h4 ⊢
    rw [← List.map_drop]
    exact h4
  · intro pc lc st S bc bs h hl hv hS ad H ls cst locs cells slots hext hH hS9 hlr hst hc hs
    refine h (fun k => ?_) ?_ ?_ hS hl hv hS ad H ls cst locs cells slots hext hH hS9 hlr hst hc hs
    · have h1 := congrFun hH.2.2.2.2.1 k
      rw [← h1]
      exact (z_of (hS 2000000 k).1).symm
    · have h2 : (Int32.ofInt (S.2.1 2000001 0)).toInt.toNat = g_L G := hH.2.2.2.2.2
      rw [z_of (hS 2000001 0).1] at h2
      exact h2
    · have h3 : S.1.length ≤ 2000 := hH.2.2.2.1
      rw [List.getElem?_eq_none_iff]
      omega
theorem p_thrown {l : Launch} {d : Nat} {g : List (Option Nat)} {T : m_E} {J : z_J} {X : z_X} : z_Sem l (d + 1) M_R_thrown [.inr (.inr (.ref 148))] (m_Ex g T, J, X) 0 0 (z_ret (.inl (J 148 2)) (m_Ex g T, J, X)) := by
  refine z_sem_of z_m191 m_ok_191 (Nat.le_of_ble_eq_true rfl) (fun Wp hs hv hS => ?_)
  refine w_191_0 hs ?_
  exact ⟨rfl, rfl⟩
