/-! the steps of the machine are steps of the walk -/
def m_tbl : List Cond := lw_tbl.filter goodWord
theorem m_tbl_in {w : Cond} {i : Nat} (h : lw_tbl[i]? = some w) (hg : goodWord w = true) : w ∈ m_tbl := List.mem_filter.mpr ⟨List.mem_of_getElem? h, hg⟩
def m_rm (d mc ms : Nat) : Room := { frames := d + 10, cells := mc, slots := ms, locals := 64 * d + 200 }
abbrev m_G : Type := (Program × Launch × Env × Room × State × MethodId × Array Value × List Frame × Method × Code × (State → Prop)) × (va_G × (FieldType → ClassId) × State × Nat × (Nat → Int32)) × (Nat × (Nat → Nat))
abbrev g_p (G : m_G) : Program := G.1.1
abbrev g_l (G : m_G) : Launch := G.1.2.1
abbrev g_R (G : m_G) : Room := G.1.2.2.2.1
abbrev g_s (G : m_G) : State := G.1.2.2.2.2.1
abbrev g_m (G : m_G) : MethodId := G.1.2.2.2.2.2.1
abbrev g_args (G : m_G) : Array Value := G.1.2.2.2.2.2.2.1
abbrev g_meth (G : m_G) : Method := G.1.2.2.2.2.2.2.2.2.1
abbrev g_c (G : m_G) : Code := G.1.2.2.2.2.2.2.2.2.2.1
abbrev g_D (G : m_G) : va_G := G.2.1.1
abbrev g_dA (G : m_G) : FieldType → ClassId := G.2.1.2.1
abbrev g_s0 (G : m_G) : State := G.2.1.2.2.1
abbrev g_L (G : m_G) : Nat := G.2.1.2.2.2.1
abbrev g_xs (G : m_G) : Nat → Int32 := G.2.1.2.2.2.2
abbrev m_WW (G : m_G) (H : Heap) (locs : List Loc) (cells slots : Nat) (g : JFrame) : Prop :=
  W G.1.1 G.1.2.1 G.1.2.2.1 G.1.2.2.2.1 G.1.2.2.2.2.1 G.1.2.2.2.2.2.1 G.1.2.2.2.2.2.2.1 G.1.2.2.2.2.2.2.2.1 G.1.2.2.2.2.2.2.2.2.1 G.1.2.2.2.2.2.2.2.2.2.1 H locs cells slots G.1.2.2.2.2.2.2.2.2.2.2 g
abbrev m_A (G : m_G) : Nat → Prop := fun q => (g_s0 G).heap.size ≤ q
def m_Wp (G : m_G) (pc : Nat) : m_C := fun l st S bc bs => ∀ (ad : Nat → Nat) (H : Heap) (ls : Array Slot) (cst : List Value) (locs : List Loc) (cells slots : Nat),
  m_ext G.2.2.1 S.1.length G.2.2.2 ad → m_H (g_D G) (g_dA G) (g_s0 G).heap.size (g_xs G) (g_L G) ad S H → va_S (m_A G) (g_s G).heap H locs → m_lr ad S.1.length (g_c G).maxLocals l ls → m_vrs ad S.1.length st cst → cells + bc ≤ (g_R G).cells → slots + bs ≤ (g_R G).slots →
  m_WW G H locs cells slots (F0 (g_m G) pc ls cst)
/-- String constants: their characters, and the two statics that the JDK's own methods read -/
def m_Sx (s0 : State) (ad0 : Nat → Nat) : Prop :=
  va_Z "java/lang/String" "COMPACT_STRINGS" "Z" (.int 1) (fun q => s0.heap.size ≤ q) s0 s0.heap ∧ va_Zq "jdk/internal/util/Preconditions" "SIOOBE_FORMATTER" "Ljava/util/function/BiFunction;" (fun q => s0.heap.size ≤ q) s0 s0.heap ∧
  ∀ (j : Nat) (cs : List Int32), m_tchars[j]? = some cs → ∃ av, va_O "java/lang/String" (ad0 (m_str j)) (fun q => s0.heap.size ≤ q) s0 s0.heap ∧ va_OF "java/lang/String" "coder" "B" (.int 0) (ad0 (m_str j)) (fun q => s0.heap.size ≤ q) s0 s0.heap ∧ va_OF "java/lang/String" "value" "[B" (.ref av) (ad0 (m_str j)) (fun q => s0.heap.size ≤ q) s0 s0.heap ∧ va_T .byte av cs.length (fun k => .int (cs.getD k 0)) (fun q => s0.heap.size ≤ q) s0 s0.heap
/-- what is known of the start -/
def m_Cx (l : Launch) (s0 : State) (D : va_G) (dA : FieldType → ClassId) (L : Nat) (xs : Nat → Int32) (ad0 : Nat → Nat) : Prop :=
  va_K D m_cl (m_tys dA) s0 ∧ l.stackTraces = false ∧ (∀ w ∈ lw_tbl, w.onTables = true → va_Nw w s0) ∧ (va_AO "VirtualQueue$Line" s0 ∧ va_AO "VirtualQueue$Day" s0 ∧ va_AOA .int s0) ∧
  (va_X (ad0 2000000) L xs s0 s0.heap ∧ ad0 2000000 < s0.heap.size) ∧
  (vx_Zq Bundle.tN "UNASSIGNED_STACK" Bundle.steD (fun q => s0.heap.size ≤ q) s0 s0.heap ∧ vx_Zq Bundle.tN "SUPPRESSED_SENTINEL" Bundle.listD (fun q => s0.heap.size ≤ q) s0 s0.heap) ∧
  (∀ (own : String) (k : Nat) (tx : String), Cond.stringRef own k tx ∈ lw_tbl → ∃ sa, vk_R own k tx sa s0 ∧ ∀ j, m_texts[j]? = some tx → ad0 (m_str j) = sa) ∧ m_Sx s0 ad0
def m_Fix (G : m_G) (own : String) (cc : ByteArray) (d : Nat) : Prop :=
  (g_p G).tables.exec = Jvm.exec ∧ (g_c G).code = cc ∧ (g_s G).vm.findClass own = some (g_m G).cls ∧ (∀ w ∈ m_tbl, w.before (g_args G) (g_s G) = true) ∧ (g_meth G).locks = false ∧ m_Cx (g_l G) (g_s0 G) (g_D G) (g_dA G) (g_L G) (g_xs G) G.2.2.2 ∧ (g_s0 G).WarmedH (g_s G).vm ∧ (g_s0 G).heap.size ≤ (g_s G).heap.size ∧ (∀ q : Nat, q < (g_s0 G).heap.size → (g_s G).heap[q]? = (g_s0 G).heap[q]?) ∧ d + 11 ≤ (g_R G).frames ∧ 64 * (d + 1) + 200 ≤ (g_R G).locals
section S1
variable {G : m_G} {own : String} {cc : ByteArray} {d : Nat} {pc : Nat} {l : m_L} {st : m_V} {S : m_S} {bc bs : Nat}
theorem m_i_const {i : Instr} {len : Nat} {v : Value} (hv : ∀ ad n, m_vr ad n v v) (h : m_Wp G (pc + len) l (v :: st) S bc bs)
    (row : ∀ H locs cells slots ls cst, m_WW G H locs cells slots (F0 (g_m G) (pc + len) ls (v :: cst)) → m_WW G H locs cells slots (F0 (g_m G) pc ls cst)) : m_Wp G pc l st S bc bs := by
  intro ad H ls cst locs cells slots hext hH hS hl hst hc hs
  exact row H locs cells slots ls cst (h ad H ls _ locs cells slots hext hH hS hl ⟨v, cst, rfl, hv _ _, hst⟩ hc hs)
/-- an instruction of the stack alone, whose values are no references -/
theorem m_i_stack {len : Nat} {vs ws r : m_V} (hst0 : st = vs ++ r) (h : m_Wp G (pc + len) l (ws ++ r) S bc bs) (hv : ∀ ad n cs, m_vrs ad n vs cs → cs = vs) (hw : ∀ ad n, m_vrs ad n ws ws)
    (row : ∀ H locs cells slots ls cst, m_WW G H locs cells slots (F0 (g_m G) (pc + len) ls (ws ++ cst)) → m_WW G H locs cells slots (F0 (g_m G) pc ls (vs ++ cst))) : m_Wp G pc l st S bc bs := by
  intro ad H ls cst locs cells slots hext hH hS hl hst hc hs
  subst hst0
  obtain ⟨h1, h2⟩ := m_vrs.split vs.length hst
  rw [List.take_left] at h1
  rw [List.drop_left] at h2
  have e1 := hv _ _ _ h1
  have e : cst = vs ++ cst.drop vs.length := by
    have e2 := List.take_append_drop vs.length cst
    rw [e1] at e2
    exact e2.symm
  rw [e]
  exact row H locs cells slots ls _ (h ad H ls _ locs cells slots hext hH hS hl ((hw _ _).app h2) hc hs)
theorem m_vi (x : Int32) (ad : Nat → Nat) (n : Nat) : m_vr ad n (.int x) (.int x) := rfl
theorem m_vl (x : Int64) (ad : Nat → Nat) (n : Nat) : m_vr ad n (.long x) (.long x) := rfl
theorem m_vd (x : UInt64) (ad : Nat → Nat) (n : Nat) : m_vr ad n (.double x) (.double x) := rfl
theorem m_lr.at {ad : Nat → Nat} {n nL : Nat} {l : m_L} {ls : Array Slot} (h : m_lr ad n nL l ls) {i : Nat} {v : Value} (hi : l.getD i none = some v) : ∃ c : Value, m_vr ad n v c ∧ ls[i]? = some (Slot.val c) := by
  apply h.2.2.2 i v
  rw [List.getD_eq_getElem?_getD] at hi
  cases hl : l[i]? with
  | none => rw [hl] at hi; cases hi
  | some o => rw [hl] at hi; exact congrArg some hi
/-- all that the locals hold, as the kit lists it -/
def m_all (ls : Array Slot) : List (Nat × Value) := (List.range ls.size).filterMap (fun i => match ls[i]? with
  | some (Slot.val v) => some (i, v)
  | _ => none)
theorem m_all_in {ls : Array Slot} {i : Nat} {v : Value} : (i, v) ∈ m_all ls ↔ ls[i]? = some (Slot.val v) := by
  unfold m_all
  rw [List.mem_filterMap]
  constructor
  · rintro ⟨j, -, hj⟩
    split at hj
    · cases hj; assumption
    · cases hj
  · intro h
    refine ⟨i, List.mem_range.mpr (lv_lt h), ?_⟩
    rw [h]
theorem m_all_has {ad : Nat → Nat} {n nL : Nat} {l : m_L} {ls : Array Slot} (h : m_lr ad n nL l ls) : lv_has ls nL (m_all ls) := ⟨h.2.1, h.2.2.1, fun _ hq => m_all_in.mp hq⟩
theorem m_clear_inv {l : m_L} {i : Nat} {k : Prop} (h : m_clear l i k) : k ∧ ∀ j v, i = j + 1 → l[j]? = some (some v) → v.category = 1 := by
  unfold m_clear at h
  split at h
  · exact ⟨h, fun j v hj => by omega⟩
  · rename_i j
    split at h
    · exact h.elim
    · exact h.elim
    · rename_i n1 n2
      refine ⟨h, fun j' v hj hv => ?_⟩
      have : j' = j := by omega
      subst this
      rw [List.getD_eq_getElem?_getD, hv] at n1 n2
      rcases lv_cat v with q | q
      · exact q
      · cases v with
        | long x => exact absurd rfl (n1 x)
        | double x => exact absurd rfl (n2 x)
        | _ => rfl
/-- storing one value of one place -/
theorem m_lr.put1 {ad : Nat → Nat} {n nL : Nat} {l : m_L} {ls ls' : Array Slot} {i : Nat} {v c : Value} (h : m_lr ad n nL l ls) (hv : m_vr ad n v c) (hcl : ∀ j v, i = j + 1 → l[j]? = some (some v) → v.category = 1)
    (h' : lv_has ls' nL ((i, c) :: (m_all ls).filter (fun q => !(q.1 == i) && !(q.1 + 1 == i && q.2.category == 2)))) : m_lr ad n nL (l.set i (some v)) ls' := by
  refine ⟨by simpa using h.1, h'.1, h'.2.1, fun j w hj => ?_⟩
  rw [List.getElem?_set] at hj
  by_cases e : i = j
  · subst e
    rw [if_pos rfl] at hj
    split at hj
    · cases hj
      exact ⟨c, hv, h'.2.2 _ List.mem_cons_self⟩
    · cases hj
  · rw [if_neg e] at hj
    obtain ⟨c2, h1, h2⟩ := h.2.2.2 j w hj
    refine ⟨c2, h1, h'.2.2 (j, c2) (List.mem_cons_of_mem _ (List.mem_filter.mpr ⟨m_all_in.mpr h2, ?_⟩))⟩
    simp only [Bool.and_eq_true, Bool.not_eq_true', beq_eq_false_iff_ne, ne_eq, Bool.and_eq_false_iff]
    refine ⟨fun q => e q.symm, ?_⟩
    by_cases e2 : j + 1 = i
    · exact Or.inr (by rw [h1.cat, hcl j w e2.symm hj]; decide)
    · exact Or.inl e2
theorem m_lr.put2 {ad : Nat → Nat} {n nL : Nat} {l : m_L} {ls ls' : Array Slot} {i : Nat} {v c : Value} (h : m_lr ad n nL l ls) (hv : m_vr ad n v c) (hcl : ∀ j v, i = j + 1 → l[j]? = some (some v) → v.category = 1)
    (h' : lv_has ls' nL ((i, c) :: (m_all ls).filter (fun q => !(q.1 == i) && (!(q.1 == i + 1) && !(q.1 + 1 == i && q.2.category == 2))))) : m_lr ad n nL ((l.set i (some v)).set (i + 1) none) ls' := by
  refine ⟨by simpa using h.1, h'.1, h'.2.1, fun j w hj => ?_⟩
  rw [List.getElem?_set] at hj
  by_cases e : i + 1 = j
  · rw [if_pos e] at hj
    split at hj <;> cases hj
  · rw [if_neg e, List.getElem?_set] at hj
    by_cases e1 : i = j
    · subst e1
      rw [if_pos rfl] at hj
      split at hj
      · cases hj
        exact ⟨c, hv, h'.2.2 _ List.mem_cons_self⟩
      · cases hj
    · rw [if_neg e1] at hj
      obtain ⟨c2, h1, h2⟩ := h.2.2.2 j w hj
      refine ⟨c2, h1, h'.2.2 (j, c2) (List.mem_cons_of_mem _ (List.mem_filter.mpr ⟨m_all_in.mpr h2, ?_⟩))⟩
      simp only [Bool.and_eq_true, Bool.not_eq_true', beq_eq_false_iff_ne, ne_eq, Bool.and_eq_false_iff]
      refine ⟨fun q => e1 q.symm, fun q => e q.symm, ?_⟩
      by_cases e2 : j + 1 = i
      · exact Or.inr (by rw [h1.cat, hcl j w e2.symm hj]; decide)
      · exact Or.inl e2
theorem m_put1_inv {l : m_L} {i : Nat} {v : Value} {k : m_L → Prop} (h : m_put1 l i v k) : i < l.length ∧ k (l.set i (some v)) ∧ ∀ j v, i = j + 1 → l[j]? = some (some v) → v.category = 1 := by
  unfold m_put1 at h
  split at h
  · rename_i hb
    obtain ⟨h1, h2⟩ := m_clear_inv h
    exact ⟨Nat.le_of_ble_eq_true hb, h1, h2⟩
  · exact h.elim
theorem m_put2_inv {l : m_L} {i : Nat} {v : Value} {k : m_L → Prop} (h : m_put2 l i v k) : i + 1 < l.length ∧ k ((l.set i (some v)).set (i + 1) none) ∧ ∀ j v, i = j + 1 → l[j]? = some (some v) → v.category = 1 := by
  unfold m_put2 at h
  split at h
  · rename_i hb
    obtain ⟨h1, h2⟩ := m_clear_inv h
    exact ⟨Nat.le_of_ble_eq_true hb, h1, h2⟩
  · exact h.elim
theorem m_ldi_inv {l : m_L} {i : Nat} {k : Int32 → Prop} (h : m_ldi l i k) : ∃ x, l.getD i none = some (.int x) ∧ k x := by
  unfold m_ldi at h
  split at h
  · exact ⟨_, by assumption, h⟩
  · exact h.elim
theorem m_lda_inv {l : m_L} {i : Nat} {k : Nat → Prop} (h : m_lda l i k) : ∃ x, l.getD i none = some (.ref x) ∧ k x := by
  unfold m_lda at h
  split at h
  · exact ⟨_, by assumption, h⟩
  · exact h.elim
theorem m_ldl_inv {l : m_L} {i : Nat} {k : Int64 → Prop} (h : m_ldl l i k) : ∃ x, l.getD i none = some (.long x) ∧ k x := by
  unfold m_ldl at h
  split at h
  · exact ⟨_, by assumption, h⟩
  · exact h.elim
theorem m_ldd_inv {l : m_L} {i : Nat} {k : UInt64 → Prop} (h : m_ldd l i k) : ∃ x, l.getD i none = some (.double x) ∧ k x := by
  unfold m_ldd at h
  split at h
  · exact ⟨_, by assumption, h⟩
  · exact h.elim
theorem m_bin_inv {f : Int32 → Int32 → Int32} {st : m_V} {k : m_V → Prop} (h : m_bin f st k) : ∃ x y r, st = .int y :: .int x :: r ∧ k (.int (f x y) :: r) := by
  unfold m_bin at h
  split at h
  · exact ⟨_, _, _, rfl, h⟩
  · exact h.elim
theorem m_binL_inv {f : Int64 → Int64 → Int64} {st : m_V} {k : m_V → Prop} (h : m_binL f st k) : ∃ x y r, st = .long y :: .long x :: r ∧ k (.long (f x y) :: r) := by
  unfold m_binL at h
  split at h
  · exact ⟨_, _, _, rfl, h⟩
  · exact h.elim
theorem m_un_inv {f : Int32 → Int32} {st : m_V} {k : m_V → Prop} (h : m_un f st k) : ∃ x r, st = .int x :: r ∧ k (.int (f x) :: r) := by
  unfold m_un at h
  split at h
  · exact ⟨_, _, rfl, h⟩
  · exact h.elim
theorem m_if1_inv {p : Int32 → Prop} {st : m_V} {t f : m_V → Prop} (h : m_if1 p st t f) : ∃ x r, st = .int x :: r ∧ (p x → t r) ∧ (¬ p x → f r) := by
  unfold m_if1 at h
  split at h
  · exact ⟨_, _, rfl, h⟩
  · exact h.elim
theorem m_if2_inv {p : Int32 → Int32 → Prop} {st : m_V} {t f : m_V → Prop} (h : m_if2 p st t f) : ∃ x y r, st = .int y :: .int x :: r ∧ (p x y → t r) ∧ (¬ p x y → f r) := by
  unfold m_if2 at h
  split at h
  · exact ⟨_, _, _, rfl, h⟩
  · exact h.elim
theorem m_obj_inv {S : m_S} {o ci : Nat} {k : List (Option Nat) → Prop} (h : m_obj S o ci k) : ∃ rs, S.1[o]? = some (.inl ci, rs) ∧ k rs := by
  unfold m_obj at h
  split at h
  · rename_i c rs e
    split at h
    · rename_i hb
      have : c = ci := Nat.eq_of_beq_eq_true hb
      subst this
      exact ⟨rs, e, h⟩
    · exact h.elim
  · exact h.elim
theorem m_arr_inv {S : m_S} {a : Nat} {k : FieldType → Nat → List (Option Nat) → Prop} (h : m_arr S a k) : ∃ ty n rs, S.1[a]? = some (.inr (ty, n), rs) ∧ k ty n rs := by
  unfold m_arr at h
  split at h
  · exact ⟨_, _, _, by assumption, h⟩
  · exact h.elim
theorem m_arrL_inv {S : m_S} {a : Nat} {k : FieldType → Nat → Prop} (h : m_arrL S a k) : (∃ ty n rs, S.1[a]? = some (.inr (ty, n), rs) ∧ k ty n) ∨ (a = 2000000 ∧ k .int (S.2.1 2000001 0).toNatClampNeg) := by
  unfold m_arrL at h
  split at h
  · exact Or.inl ⟨_, _, _, by assumption, h⟩
  · exact h.elim
  · split at h
    · exact Or.inr ⟨Nat.eq_of_beq_eq_true (by assumption), h⟩
    · exact h.elim
end S1
