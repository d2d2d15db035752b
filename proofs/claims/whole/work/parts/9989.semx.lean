/-! THE MEANING OF A WRAPPER OUT OF ITS CODE -/
theorem m_semW_of {l : Launch} (hall : ∀ M ∈ m_M, m_okC M) {d mc ms : Nat} {vs : m_V} {S : m_S} {Q : m_O → m_S → Prop} {M : m_Meth} (hok : m_okW M) (hlen : (m_args0 vs).length ≤ M.2.2.1)
    (h : ∀ Wp : Nat → m_C, (∀ (n : Nat) (stops : List (Nat × Nat)) (pc : Nat) (lc : m_L) (st : m_V) (S : m_S) (bc bs : Nat), m_run (m_Call l d) M.2.2.2.1 Q (fun pc X _ S _ _ => ∃ v, m_htag (m_hh M) pc X = some v ∧ Q (.inl (some (.int v))) S) Wp stops M.2.2.2.2.1 n (m_from M.2.2.2.2.1 pc) lc st S bc bs → Wp pc lc st S bc bs) → Wp 0 (m_args M.2.2.1 vs) [] S mc ms) : m_SemW l (d + 1) M vs S mc ms Q := by
  intro s0 D dA L xs ad cargs hCx hNc0 hvs
  obtain ⟨hC, hT, hHh, hO, hrt, hkd⟩ := hok
  have hC2 := hC.2
  simp only [m_okB, Bool.and_eq_true, decide_eq_true_eq] at hC2
  simp only [m_okT, Bool.and_eq_true] at hT
  refine vx_ofWH (cc := M.2.1) (maxL := M.2.2.1) (ret := M.2.2.2.1) (hh := m_hh M) hC2.1.1.1.2 rfl ?_
  intro p e s m args below meth c s₁ B hml hPc
  obtain ⟨rfl, hle, hW, hold, hH⟩ := hPc
  have hts : ∀ w ∈ m_wsW M, w.before cargs.toArray s = true := atoms_spec (ws := m_wsW M) B.pre
  have hown : s.vm.findClass M.1.cls = some m.cls := findClass_of_methodNamed B.named
  have hlocks := B.notSynchronized
  have htab : c.exceptionTable.toList = tableOf (m_hh M) := vx_table (x := M.1) B (hts _ List.mem_cons_self)
  have hr : meth.sig.returnType = some .int := by rw [B.returns]; exact hrt
  have hNc : m_Nc s := ⟨va_Nc.moved hW.alike hNc0.1, va_Nc.moved hW.alike hNc0.2⟩
  have F : m_Fix (m_GG p l e s m cargs.toArray below meth c D dA s0 L xs ad S Q d mc ms) M.1.cls M.2.1 d :=
    ⟨B.exec, B.bytes, hown, fun w hw => hts w (List.mem_cons_of_mem _ hw), hlocks, hCx, hW, hle, hold, (show d + 11 ≤ d + 1 + 10 by omega), (show 64 * (d + 1) + 200 ≤ 64 * (d + 1) + 200 from Nat.le_refl _)⟩
  have hkind : k_kind M = 2 → meth.name = "<init>" := by
    intro hk
    rw [hkd] at hk
    cases hk
  have hstep : ∀ en ∈ M.2.2.2.2.1, ∀ (nx : m_C) (jp : Nat → m_C) (lc : m_L) (st : m_V) (S9 : m_S) (bc bs : Nat), m_step (m_Call l d) M.2.2.2.1 Q (fun pc X _ S _ _ => ∃ v, m_htag (m_hh M) pc X = some v ∧ Q (.inl (some (.int v))) S) en nx jp lc st S9 bc bs → (∀ lc st S9 bc bs, nx lc st S9 bc bs → m_Wp (m_GG p l e s m cargs.toArray below meth c D dA s0 L xs ad S Q d mc ms) (en.1.1 + en.1.2) lc st S9 bc bs) → (∀ t lc st S9 bc bs, jp t lc st S9 bc bs → m_Wp (m_GG p l e s m cargs.toArray below meth c D dA s0 L xs ad S Q d mc ms) t lc st S9 bc bs) → m_Wp (m_GG p l e s m cargs.toArray below meth c D dA s0 L xs ad S Q d mc ms) en.1.1 lc st S9 bc bs := by
    intro en hen nx jp lc st S9 bc bs hs hnx hjp
    have hokE := List.all_eq_true.mp hT.1 en hen
    have hoI := List.all_eq_true.mp hO en hen
    cases hend : m_isEnd en with
    | true =>
      obtain ⟨⟨pc, len⟩, ins, v, z⟩ := en
      simp only [m_okE, Bool.and_eq_true, decide_eq_true_eq] at hokE
      obtain ⟨hd, hokX⟩ := hokE
      cases ins with
      | ireturn =>
        simp only [m_okX, m_okS] at hokX
        obtain rfl := m_beq hokX
        obtain ⟨w, rfl, hq⟩ := m_iret_inv hs
        have hq : Q (.inl (some (.int w))) S9 := by
          rcases hq with ⟨-, hq⟩ | ⟨-, -, hq⟩
          · exact hq
          · exact hq
        intro ad9 H ls cst locs cells slots hext hH9 hS hlr hst hc hs9
        obtain ⟨c0, cst0, rfl, rfl, rfl⟩ := hst
        exact m_retW F hr hd hq hext hH9 hS hc hs9
      | return_ => cases hoI
      | lreturn => cases hoI
      | dreturn => cases hoI
      | new i =>
        obtain ⟨a, b, c9, t⟩ := z
        match t, hend, hoI with
        | 0, hend, _ => cases hend
        | t + 1, _, hoI => cases hoI
      | _ => cases hend
    | false => exact m_step_sound F hall hC2.2 hkind hokE hend hs hnx hjp (fun X lc S9 bc bs hq => by
        obtain ⟨v, h1, h2⟩ := hq
        exact m_Wx_tag F hr htab hml hNc hHh h1 h2)
  have htl : m_tail M.2.2.2.2.1 M.2.2.2.2.1 := ⟨fun _ h => h, hT.2⟩
  have hWp := h (m_Wp (m_GG p l e s m cargs.toArray below meth c D dA s0 L xs ad S Q d mc ms)) (fun n stops pc lc st S9 bc bs hr => m_run_sound hstep htl n _ lc st S9 bc bs pc htl.from.1 htl.from.2 hr)
  obtain ⟨r1, r2⟩ := m_args_rel hvs
  have hlen2 : (lg_sl cargs).length ≤ M.2.2.1 := by rw [← r1]; exact hlen
  have hl := lv_entry cargs (n := M.2.2.1) hlen2
  rw [lg_entry_eq]
  refine hWp ad s.heap _ [] [] 0 0 (m_ext.rf _ _) hH va_S.rf ⟨?_, ?_, hl.2.1, fun i v hi => ?_⟩ rfl (show 0 + mc ≤ mc by omega) (show 0 + ms ≤ ms by omega)
  · show (m_args M.2.2.1 vs).length = c.maxLocals
    rw [hml]
    simp only [m_args, List.length_append, List.length_replicate]
    omega
  · show _ = c.maxLocals
    rw [hml]; exact hl.1
  · simp only [m_args] at hi
    rw [List.getElem?_append] at hi
    split at hi
    · rename_i hlt
      obtain ⟨c9, q1, q2⟩ := r2 i v hi
      refine ⟨c9, q1, ?_⟩
      simp only [List.getElem?_toArray]
      rw [List.getElem?_append_left (by rw [← r1]; exact hlt)]
      exact q2
    · rw [List.getElem?_replicate] at hi
      split at hi <;> cases hi
