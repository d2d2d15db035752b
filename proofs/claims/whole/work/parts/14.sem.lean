/-! a method's meaning, and its calls -/
def m_Pc (s0 : State) (D : va_G) (dA : FieldType → ClassId) (L : Nat) (xs : Nat → Int32) (ad : Nat → Nat) (S : m_S) (cargs : List Value) : Array Value → State → Prop := fun v U =>
  v = cargs.toArray ∧ s0.heap.size ≤ U.heap.size ∧ s0.WarmedH U.vm ∧ (∀ q : Nat, q < s0.heap.size → U.heap[q]? = s0.heap[q]?) ∧ m_H D dA s0.heap.size xs L ad S U.heap
def m_plain (r : Option Value) : Prop := ∀ v, r = some v → ∀ ad n, m_vr ad n v v
def m_Qc (s0 : State) (D : va_G) (dA : FieldType → ClassId) (L : Nat) (xs : Nat → Int32) (ad : Nat → Nat) (S : m_S) (Q : m_O → m_S → Prop) : Array Value → State → Outcome → State → Prop := fun _ st o t =>
  (∃ (r : Option Value) (S' : m_S) (ad' : Nat → Nat), o = .returned r ∧ m_plain r ∧ Q (.inl r) S' ∧ m_ext S.1.length S'.1.length ad ad' ∧ m_H D dA s0.heap.size xs L ad' S' t.heap) ∧ va_F (fun q => s0.heap.size ≤ q) st t
def m_XC (s0 : State) (D : va_G) (dA : FieldType → ClassId) (L : Nat) (xs : Nat → Int32) (ad : Nat → Nat) (S : m_S) (Q : m_O → m_S → Prop) : String → State → State → Prop := fun X st t =>
  (∃ (S' : m_S) (ad' : Nat → Nat), Q (.inr X) S' ∧ m_ext S.1.length S'.1.length ad ad' ∧ m_H D dA s0.heap.size xs L ad' S' t.heap) ∧ va_F (fun q => s0.heap.size ≤ q) st t
def m_wsM (M : m_Meth) : List Cond := Cond.code M.1 M.2.1 M.2.2.1 M.2.2.2.1 :: m_tbl
def m_Sem (l : Launch) (d a : Nat) (vs : m_V) (S : m_S) (mc ms : Nat) (Q : m_O → m_S → Prop) : Prop :=
  ∀ M, m_M[a]? = some M → ∀ (s0 : State) (D : va_G) (dA : FieldType → ClassId) (L : Nat) (xs : Nat → Int32) (ad : Nat → Nat) (cargs : List Value), m_Cx l s0 D dA L xs ad → m_vrs ad S.1.length vs cargs →
    vx_Met l M.1 (m_wsM M) (m_rm d mc ms) (m_Pc s0 D dA L xs ad S cargs) (m_Qc s0 D dA L xs ad S Q) (m_XC s0 D dA L xs ad S Q) mc ms (fun q => s0.heap.size ≤ q)
def m_Call (l : Launch) (d : Nat) : Nat → m_V → m_S → Nat → Nat → (m_O → m_S → Nat → Nat → Prop) → Prop := fun a vs S bc bs K =>
  ∃ (mc ms : Nat) (Q : m_O → m_S → Prop), m_Sem l d a vs S mc ms Q ∧ mc ≤ bc ∧ ms ≤ bs ∧ ∀ o S', Q o S' → K o S' (bc - mc) (bs - ms)
abbrev k_kind (M : m_Meth) : Nat := M.2.2.2.2.2.2.1
abbrev k_np (M : m_Meth) : Nat := M.2.2.2.2.2.2.2.1
abbrev k_ci (M : m_Meth) : Nat := M.2.2.2.2.2.2.2.2.1
abbrev k_p2 (M : m_Meth) : Nat := M.2.2.2.2.2.2.2.2.2.1
abbrev k_p3 (M : m_Meth) : Nat := M.2.2.2.2.2.2.2.2.2.2.1
abbrev k_ini (M : m_Meth) : Nat := M.2.2.2.2.2.2.2.2.2.2.2.1
abbrev k_on (M : m_Meth) : Nat := M.2.2.2.2.2.2.2.2.2.2.2.2
/-- what is checked of a method as a callee -/
def m_okB (M : m_Meth) : Bool := m_at (k_ini M) (.initialized M.1.cls) && Nat.ble M.2.2.1 45 && plainName M.1.cls &&
  decide (M.1.cls ≠ "java/lang/invoke/MethodHandle" ∧ M.1.cls ≠ "java/lang/invoke/VarHandle" ∧ (parseMethodDescriptor M.1.desc).map (fun d => d.parameters.length) = some (k_np M)) && (match k_kind M with
    | 0 => m_at (k_p2 M) (.instanceMethod M.1) && m_at (k_p3 M) (.selects M.1.cls M.1 M.1)
    | 1 => m_at (k_p2 M) (.static M.1)
    | _ => m_at (k_p2 M) (.instanceMethod M.1) && decide (M.1.name = "<init>") && decide (M.2.2.2.1 = none)) && decide (m_owns.getD (k_on M) "" = M.1.cls)
def m_okC (M : m_Meth) : Prop := Cond.code M.1 M.2.1 M.2.2.1 M.2.2.2.1 ∈ m_tbl ∧ m_okB M = true
theorem m_good {M : m_Meth} (h : m_okC M) : GoodIn m_tbl (m_wsM M) := by
  intro w hw
  rcases List.mem_cons.mp hw with rfl | hw
  · exact ⟨h.1, good_of_word (List.mem_filter.mp h.1).2⟩
  · exact ⟨hw, good_of_word (List.mem_filter.mp hw).2⟩
theorem m_Cx.up {l : Launch} {s0 : State} {D : va_G} {dA : FieldType → ClassId} {L n n' : Nat} {xs : Nat → Int32} {ad ad' : Nat → Nat} (h : m_Cx l s0 D dA L xs ad) (he : m_ext n n' ad ad') : m_Cx l s0 D dA L xs ad' := by
  obtain ⟨h1, h2, h3, h4, h5, h6, h7, h8, h9, h10⟩ := h
  have e := he.2 2000000 (Or.inr (by omega))
  refine ⟨h1, h2, h3, h4, by rw [e]; exact h5, h6, fun own k tx hw => ?_, h8, h9, fun j cs hj => ?_⟩
  · obtain ⟨sa, a, b⟩ := h7 own k tx hw
    exact ⟨sa, a, fun j hj => by rw [he.2 _ (Or.inr (by unfold m_str; omega))]; exact b j hj⟩
  · rw [he.2 _ (Or.inr (by unfold m_str; omega))]
    exact h10 j cs hj
section S8
variable {G : m_G} {own : String} {cc : ByteArray} {d : Nat} {pc : Nat} {l : m_L} {st : m_V} {S : m_S} {bc bs : Nat}
/-- a throw out of an instruction -/
def m_Wx (G : m_G) (pc : Nat) (X : String) (l : m_L) (S : m_S) (bc bs : Nat) : Prop := ∀ (ad : Nat → Nat) (H : Heap) (ls : Array Slot) (rest : List Value) (locs : List Loc) (cells slots : Nat) (q : Addr) (ce : Cell),
  m_ext G.2.2.1 S.1.length G.2.2.2 ad → m_H (g_D G) (g_dA G) (g_s0 G).heap.size (g_xs G) (g_L G) ad S H → va_S (m_A G) (g_s G).heap H locs → m_lr ad S.1.length (g_c G).maxLocals l ls → H[q]? = some ce → ce.vm = .none → (g_s G).vm.findClass X = some ce.cls → cells + bc ≤ (g_R G).cells → slots + bs ≤ (g_R G).slots →
  vx_W G.1.1 G.1.2.1 G.1.2.2.1 G.1.2.2.2.1 G.1.2.2.2.2.1 G.1.2.2.2.2.2.1 G.1.2.2.2.2.2.2.1 G.1.2.2.2.2.2.2.2.1 G.1.2.2.2.2.2.2.2.2.1 G.1.2.2.2.2.2.2.2.2.2.1 H locs cells slots G.1.2.2.2.2.2.2.2.2.2.2 (F0 (g_m G) pc ls rest) q
theorem m_Pc_blind {s0 : State} {D : va_G} {dA : FieldType → ClassId} {L : Nat} {xs : Nat → Int32} {ad : Nat → Nat} {S : m_S} {cargs : List Value} : FrameBlind (m_Pc s0 D dA L xs ad S cargs) := fun _ _ _ _ h => h
theorem m_pre (F : m_Fix G own cc d) {ad : Nat → Nat} {H : Heap} {locs : List Loc} {cargs : List Value} (hH : m_H (g_D G) (g_dA G) (g_s0 G).heap.size (g_xs G) (g_L G) ad S H) (hS : va_S (m_A G) (g_s G).heap H locs) : ∀ U : State, U.heap = H → (g_s G).WarmedH U.vm → m_Pc (g_s0 G) (g_D G) (g_dA G) (g_L G) (g_xs G) ad S cargs cargs.toArray U := by
  intro U hU hW
  obtain ⟨-, -, -, -, -, -, hW0, hle, hold, -, -⟩ := F
  refine ⟨rfl, ?_, State.WarmedH.trans hW0 hW, fun q hq => ?_, by rw [hU]; exact hH⟩
  · rw [hU]; exact Nat.le_trans hle hS.1
  · rw [hU, hS.2.1 q (Nat.lt_of_lt_of_le hq hle) (Nat.not_le.mpr hq)]
    exact hold q hq
theorem m_after (F : m_Fix G own cc d) {n mc ms : Nat} {Q' : m_O → m_S → Prop} {ad : Nat → Nat} {H : Heap} {ls : Array Slot} {cst : List Value} {locs : List Loc} {cells slots : Nat} {nx : m_C} {ex : String → m_L → m_S → Nat → Nat → Prop} {a : Array Value}
    (hext : m_ext G.2.2.1 S.1.length G.2.2.2 ad) (hS : va_S (m_A G) (g_s G).heap H locs) (hlr : m_lr ad S.1.length (g_c G).maxLocals l ls) (hst : m_vrs ad S.1.length st cst) (hc : cells + bc ≤ (g_R G).cells) (hs : slots + bs ≤ (g_R G).slots)
    (hr : vx_Run G.1.1 G.1.2.1 G.1.2.2.1 G.1.2.2.2.1 G.1.2.2.2.2.1 G.1.2.2.2.2.2.1 G.1.2.2.2.2.2.2.1 G.1.2.2.2.2.2.2.2.1 G.1.2.2.2.2.2.2.2.2.1 G.1.2.2.2.2.2.2.2.2.2.1 H locs cells slots mc ms (F0 (g_m G) pc ls cst) (cst.drop n) (m_Qc (g_s0 G) (g_D G) (g_dA G) (g_L G) (g_xs G) ad S Q' a) (m_XC (g_s0 G) (g_D G) (g_dA G) (g_L G) (g_xs G) ad S Q') (m_A G)) (hmc : mc ≤ bc) (hms : ms ≤ bs)
    (hK : ∀ o S', Q' o S' → (match o with
      | .inl (some v) => nx l (v :: st.drop n) S' (bc - mc) (bs - ms)
      | .inl none => nx l (st.drop n) S' (bc - mc) (bs - ms)
      | .inr X => ex X l S' (bc - mc) (bs - ms)))
    (hnx : ∀ l st S bc bs, nx l st S bc bs → m_Wp G (pc + 3) l st S bc bs) (hex : ∀ X l S bc bs, ex X l S bc bs → m_Wx G pc X l S bc bs) : m_WW G H locs cells slots (F0 (g_m G) pc ls cst) := by
  intro T hT X
  rcases hr T hT X with ⟨v, st₀, t, T', L, h0, X', hL, e1, e2, ⟨⟨r, S', ad', hv, hpl, hQ, he, hH'⟩, hF⟩, stp⟩ | ⟨q, st₀, t, T', L, E, ce, h0, X', hL, e1, e2, ⟨⟨S', ad', hQ, he, hH'⟩, hF⟩, hce, hcv, hcl, stp⟩
  · cases hv
    obtain ⟨k1, k2, k3⟩ := vx_keep h0 e1 hS (fun q _ h => h) (fun q h => h) hL hF
    have hk := hK _ _ hQ
    have hH2 : m_H (g_D G) (g_dA G) (g_s0 G).heap.size (g_xs G) (g_L G) ad' S' T'.heap := by rw [e1]; exact hH'
    have hrest : m_vrs ad' S'.1.length (st.drop n) (cst.drop n) := ((hst.split n).2).up he
    cases v with
    | none =>
      obtain ⟨t2, a1, b1⟩ := hnx _ _ _ _ _ hk ad' T'.heap ls (cst.drop n) (locs ++ L) (cells + mc) (slots + ms) (hext.tr he) hH2 k3 (hlr.up he) hrest (by omega) (by omega) T' rfl X'
      exact ⟨t2, stp t2 a1, b1⟩
    | some w =>
      obtain ⟨t2, a1, b1⟩ := hnx _ _ _ _ _ hk ad' T'.heap ls (w :: cst.drop n) (locs ++ L) (cells + mc) (slots + ms) (hext.tr he) hH2 k3 (hlr.up he) ⟨w, _, rfl, hpl w rfl _ _, hrest⟩ (by omega) (by omega) T' rfl X'
      exact ⟨t2, stp t2 a1, b1⟩
  · obtain ⟨k1, k2, k3⟩ := vx_keep h0 e1 hS (fun q _ h => h) (fun q h => h) hL hF
    have hk := hK _ _ hQ
    have hH2 : m_H (g_D G) (g_dA G) (g_s0 G).heap.size (g_xs G) (g_L G) ad' S' T'.heap := by rw [e1]; exact hH'
    obtain ⟨t2, a1, b1⟩ := hex _ _ _ _ _ hk ad' T'.heap ls (cst.drop n) (locs ++ L) (cells + mc) (slots + ms) q ce (hext.tr he) hH2 k3 (hlr.up he) (by rw [e1]; exact hce) hcv hcl (by omega) (by omega) T' rfl X'
    exact ⟨t2, stp.trans a1, b1⟩
theorem m_callOn_inv {call : Nat → m_V → m_S → Nat → Nat → (m_O → m_S → Nat → Nat → Prop) → Prop} {a n : Nat} {nx : m_C} {ex : String → m_L → m_S → Nat → Nat → Prop} (h : m_callOn call a n l st S bc bs nx ex) : m_rest n st = true ∧ n ≤ st.length ∧ call a (st.take n).reverse S bc bs (fun o S' bc' bs' => match o with
    | .inl (some v) => nx l (v :: st.drop n) S' bc' bs'
    | .inl none => nx l (st.drop n) S' bc' bs'
    | .inr X => ex X l S' bc' bs') := by
  unfold m_callOn at h
  split at h
  · rename_i h1 h2
    exact ⟨h1, Nat.le_of_ble_eq_true h2, h⟩
  · exact h.elim
theorem m_recv_inv {n : Nat} {k : Nat → Prop} (h : m_recv st n k) : ∃ o, st[n - 1]? = some (.ref o) ∧ k o := by
  unfold m_recv at h
  split at h
  · exact ⟨_, by assumption, h⟩
  · exact h.elim
theorem m_vrs.get {n : Nat} {ad : Nat → Nat} : ∀ {vs : m_V} {cs : List Value} {i : Nat} {v : Value}, m_vrs ad n vs cs → vs[i]? = some v → ∃ c, cs[i]? = some c ∧ m_vr ad n v c
  | _ :: _, _, 0, _, ⟨c, cs', e, h1, _⟩, hv => by subst e; cases hv; exact ⟨c, rfl, h1⟩
  | _ :: _, _, i + 1, _, ⟨c, cs', e, _, h2⟩, hv => by
    subst e
    obtain ⟨c2, a, b⟩ := m_vrs.get (i := i) h2 hv
    exact ⟨c2, a, b⟩
/-- the receiver at the bottom of the arguments -/
theorem m_bottom {cst : List Value} {n : Nat} {b : Nat} (hn : 0 < n) (h : cst[n - 1]? = some (.ref b)) : cst.take n = (cst.take (n - 1)) ++ [.ref b] := by
  have e : n = (n - 1) + 1 := by omega
  rw [e, List.take_add_one]
  simp only [Nat.add_sub_cancel]
  rw [h]
  rfl
end S8
