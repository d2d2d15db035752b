/-! arrays of arrays, and calls -/
def m_idx (vm : Vm) (comp : ClassId) : Option Nat := vm.classes.findIdx? fun (x : Class) => match x.kind with
  | .array component _ => component == comp
  | _ => false
def m_over (vm : Vm) (o : Option Nat) : Bool := (o.bind (fun c => (vm.classes[c]?).map fun (k : Class) => match k.kind with
  | .array _ ty => decide (ty = FieldType.array .int) && decide (vm.findClass ("[" ++ (FieldType.array .int).toString) = some c)
  | _ => false)) == some true
theorem m_idx_same {u U : Vm} (hvm : u.Alike U) (comp : ClassId) : m_idx U comp = m_idx u comp := by
  have h1 : m_idx U comp = m_idx U.bare comp := (va_idx_bare U comp).symm
  have h2 : m_idx u comp = m_idx u.bare comp := (va_idx_bare u comp).symm
  rw [h1, h2]
  first | rw [hvm.bare_eq] | rw [← hvm.bare_eq]
theorem m_AOA_moved {u U : State} (hvm : u.vm.Alike U.vm) (h : va_AOA .int u) : va_AOA .int U := by
  intro args
  have h1 := h #[]
  simp only [Cond.before, Cond.holds, Cond.value] at h1 ⊢
  cases hc : u.vm.findClass (FieldType.array .int).toString with
  | none => rw [hc] at h1; exact absurd h1 (by simp)
  | some comp =>
    have hc' : U.vm.findClass (FieldType.array .int).toString = some comp := by rw [hvm.findClass]; exact hc
    rw [hc] at h1
    rw [hc']
    have h2 : m_over u.vm (m_idx u.vm comp) = true := h1
    show m_over U.vm (m_idx U.vm comp) = true
    rw [m_idx_same hvm comp]
    cases hx : m_idx u.vm comp with
    | none => rw [hx] at h2; exact absurd h2 (by simp [m_over])
    | some c =>
      rw [hx] at h2
      unfold m_over at h2 ⊢
      simp only [Option.bind_some] at h2 ⊢
      cases hk : u.vm.classes[c]? with
      | none => rw [hk] at h2; exact absurd h2 (by simp)
      | some k =>
        rw [hk] at h2
        obtain ⟨k', hk', he⟩ := hvm.2.2 _ _ hk
        rw [hk']
        simp only [Option.map_some] at h2 ⊢
        rw [show k'.kind = k.kind by rw [he], hvm.findClass]
        exact h2
section S7
variable {G : m_G} {own : String} {cc : ByteArray} {d : Nat} {pc : Nat} {l : m_L} {st : m_V} {S : m_S} {bc bs : Nat}
theorem m_w_ai : m_at 260 (.arrayClass .int) = true := by decide +kernel
theorem m_zeros_in {a n k : Nat} (h : a ≤ k ∧ k < a + n) : (m_zeros S a n).1 k = (fun _ => 0) ∧ (m_zeros S a n).2.1 k = (fun _ => 0) ∧ (m_zeros S a n).2.2 k = (fun _ => 0) := ⟨by simp only [m_zeros, if_pos h], by simp only [m_zeros, if_pos h], by simp only [m_zeros, if_pos h]⟩
theorem m_zeros_out {a n k : Nat} (h : ¬ (a ≤ k ∧ k < a + n)) : (m_zeros S a n).1 k = S.2.1 k ∧ (m_zeros S a n).2.1 k = S.2.2.1 k ∧ (m_zeros S a n).2.2 k = S.2.2.2 k := ⟨by simp only [m_zeros, if_neg h], by simp only [m_zeros, if_neg h], by simp only [m_zeros, if_neg h]⟩
theorem m_i_mna (F : m_Fix G own cc d) {idx p : Nat} {n k : Int32} {r : m_V} (hst0 : st = .int k :: .int n :: r) (hl : m_at p (.classLink own idx ("[" ++ (FieldType.array .int).toString)) = true) (hd : decode cc pc = .ok (.multianewarray idx 2, 4)) (hn : ¬ n < 0) (hk : ¬ k < 0) (hn2 : n.toNatClampNeg ≤ 100) (hk2 : k.toNatClampNeg ≤ 1000) (hlen : S.1.length < 1000) (h1 : 1 + n.toNatClampNeg ≤ bc) (h2 : n.toNatClampNeg + n.toNatClampNeg * k.toNatClampNeg ≤ bs)
    (h : m_Wp G (pc + 4) l (.ref S.1.length :: r) (S.1 ++ (.inr (.array .int, n.toNatClampNeg), (List.range n.toNatClampNeg).map (fun i => some (S.1.length + 1 + i))) :: List.replicate n.toNatClampNeg (.inr (.int, k.toNatClampNeg), []), m_zeros S S.1.length (1 + n.toNatClampNeg)) (bc - (1 + n.toNatClampNeg)) (bs - (n.toNatClampNeg + n.toNatClampNeg * k.toNatClampNeg))) : m_Wp G pc l st S bc bs := by
  intro ad H ls cst locs cells slots hext hH hS hlr hst hc hs
  subst hst0
  obtain ⟨c, cst', rfl, rfl, c2, cst2, rfl, rfl, h3⟩ := hst
  obtain ⟨ti, hti⟩ := m_tys_at (g_dA G) (t := .int) (by decide)
  have hfi : (g_s G).vm.findClass (FieldType.array .int).toString = some (g_dA G .int) := (F.K.2 ti _ hti).2
  have hO : va_AOA .int (g_s G) := m_AOA_moved F.2.2.2.2.2.2.1.alike F.2.2.2.2.2.1.2.2.2.1.2.2
  have hp0 : ∀ f : Nat → va_E, m_ws S ad (g_dA G) ++ va_pl [] f = m_ws S ad (g_dA G) := fun f => by simp [va_pl]
  refine va_mna (X := m_ws S ad (g_dA G)) (L := []) (f := fun _ => .inr (0, [])) (ty := .int) (cy := g_dA G .int) (z := (k.toNatClampNeg, .inl (fun _ => 0))) (N' := n.toNatClampNeg) (K' := k.toNatClampNeg) F.1 F.2.1 F.2.2.1 (F.w hl) hO (F.w m_w_ai) hfi F.K (by rw [hp0]; exact hH.1) (by rw [hp0]; exact hH.2.1) hS F.A hn hk rfl rfl (by omega) (by simp [componentBytes]; omega) (by omega) rfl rfl (show cells + (1 + n.toNatClampNeg) ≤ (g_R G).cells by omega) (show slots + (n.toNatClampNeg + n.toNatClampNeg * k.toNatClampNeg) ≤ (g_R G).slots by omega) (fun c => arrV_new c _ _) hd (fun q rr cA H1 hinj hnl hK1 hP1 hD1 hS1 => ?_)
  have ec := m_Kd hK1 (by decide)
  subst ec
  generalize hN : n.toNatClampNeg = N at *
  generalize hM : k.toNatClampNeg = M at *
  obtain ⟨ad', had'⟩ : ∃ ad' : Nat → Nat, ad' = fun j => if j = S.1.length then q else if S.1.length < j ∧ j < S.1.length + 1 + N then rr (j - (S.1.length + 1)) else ad j := ⟨_, rfl⟩
  have a0 : ad' S.1.length = q := by rw [had']; simp
  have a1 : ∀ i, i < N → ad' (S.1.length + (i + 1)) = rr i := by
    intro i hi
    rw [had']
    simp only
    rw [if_neg (by omega), if_pos (by omega)]
    congr 1
    omega
  have a2 : ∀ j, m_in S.1.length j → ad' j = ad j := by
    intro j hj
    rw [had']
    simp only
    rcases hj with z | z
    · rw [if_neg (by omega), if_neg (by omega)]
    · rw [if_neg (by omega), if_neg (by omega)]
  obtain ⟨S', hS'⟩ : ∃ S' : m_S, S' = (S.1 ++ (.inr (.array .int, N), (List.range N).map (fun i => some (S.1.length + 1 + i))) :: List.replicate N (.inr (.int, M), []), m_zeros S S.1.length (1 + N)) := ⟨_, rfl⟩
  have e0 : m_ce S' ad' (g_dA G) S.1.length (.inr (.array .int, N), (List.range N).map (fun i => some (S.1.length + 1 + i))) = .inl (g_dA G (.array .int), N, .inr (.inr (.inr (.inr (fun i => if i < N then some (rr i) else none))))) := by
    simp only [m_ce, m_av]
    congr 7
    funext j
    by_cases hj : j < N
    · have := a1 j hj
      simp [List.getD_eq_getElem?_getD, List.getElem?_range hj, hj, show S.1.length + 1 + j = S.1.length + (j + 1) by omega, this]
    · simp [List.getD_eq_getElem?_getD, hj]
  have ei : ∀ i, i < N → m_ce S' ad' (g_dA G) (S.1.length + (i + 1)) (.inr (.int, M), []) = .inl (g_dA G .int, M, .inl (fun _ => 0)) := by
    intro i hi
    simp only [m_ce, m_av, hS', (m_zeros_in (S := S) (a := S.1.length) (n := 1 + N) (k := S.1.length + (i + 1)) (by omega)).1]
  have eW : m_ws S ad (g_dA G) ++ ((.inr (.array .int, N), (List.range N).map (fun i => some (S.1.length + 1 + i))) :: List.replicate N (.inr (.int, M), []) : m_E).mapIdx (fun k c => (ad' (S.1.length + k), m_ce S' ad' (g_dA G) (S.1.length + k) c)) = (m_ws S ad (g_dA G) ++ [(q, .inl (g_dA G (.array .int), N, .inr (.inr (.inr (.inr (fun i => if i < N then some (rr i) else none))))))]) ++ va_pl ([] ++ (List.range N).map rr) (vr_up (fun _ => .inr (0, [])) ((List.range N).map rr) (.inl (g_dA G .int, M, .inl (fun _ => 0)))) := by
    rw [List.append_assoc]
    congr 1
    rw [List.mapIdx_cons]
    simp only [Nat.add_zero, a0, e0, List.singleton_append, List.nil_append]
    congr 1
    apply List.ext_getElem?
    intro i
    simp only [List.getElem?_mapIdx, List.getElem?_replicate, va_pl, List.getElem?_map]
    by_cases hi : i < N
    · have hm : rr i ∈ (List.range N).map rr := List.mem_map.mpr ⟨i, List.mem_range.mpr hi, rfl⟩
      rw [if_pos hi, List.getElem?_range hi]
      simp only [Option.map_some]
      rw [a1 i hi, ei i hi, vr_up_in hm]
    · rw [if_neg hi]
      simp [hi]
  obtain ⟨hH1, hx1⟩ := m_H_app (r := (.inr (.array .int, N), (List.range N).map (fun i => some (S.1.length + 1 + i))) :: List.replicate N (.inr (.int, M), [])) (ad' := ad') (S' := S') (H1 := H1) hH (by rw [hS']) (fun k hk => by rw [hS']; exact (m_zeros_out (by rcases hk with z | z <;> omega)).1) (fun k hk => by rw [hS']; exact (m_zeros_out (by omega)).2.1) (fun k hk => by rw [hS']; exact (m_zeros_out (by omega)).2.2) a2 (by simp; omega)
    (fun j c hj => by
      cases j with
      | zero =>
        cases hj
        refine ⟨fun i w hi => ?_, (show FieldType.array .int ∈ m_tl by decide), fun _ => by simp⟩
        simp only [List.getElem?_map] at hi
        by_cases hN' : i < N
        · rw [List.getElem?_range hN'] at hi
          cases hi
          simp; omega
        · simp [hN'] at hi
      | succ j =>
        have hm := List.mem_of_getElem? (show (List.replicate N ((.inr (.int, M), []) : m_Sh × List (Option Nat)))[j]? = some c from hj)
        rw [(List.mem_replicate.mp hm).2]
        exact ⟨fun i w hi => by simp at hi, (show FieldType.int ∈ m_tl by decide), fun q => by cases q⟩)
    (by rw [eW]; exact hP1) (by rw [eW]; exact hD1)
  rw [← hS'] at h
  refine h ad' H1 ls _ locs _ _ (hext.tr hx1) hH1 hS1 (hlr.up hx1) ⟨_, cst2, rfl, ⟨Or.inl ?_, by rw [a0]⟩, h3.up hx1⟩ (by omega) (by omega)
  rw [hS']; simp
end S7
