/-! what holds at the law's entry (written by wip/whole/gen998982.py) -/
section N1
variable {args : Array Value} {s : State}
/-- a String constant out of the words of the start -/
theorem n_str {tm : Term} {cs : List Int32} {A : Nat → Prop} (hN : cs.length < 2 ^ 31) (hex : (Cond.exactly tm "java/lang/String").before args s = true) (hco : (Cond.eq (.field tm "java/lang/String" "coder" "B") (.int 0)).before args s = true) (har : (Cond.arrayOf (.field tm "java/lang/String" "value" "[B") .byte).before args s = true) (hle : (Cond.eq (.length (.field tm "java/lang/String" "value" "[B")) (.int (Int32.ofNat cs.length))).before args s = true)
    (hel : ∀ j : Nat, j < cs.length → (Cond.eq (.elem (.field tm "java/lang/String" "value" "[B") (.int (Int32.ofNat j))) (.int (cs.getD j 0))).before args s = true) (hA : ∀ a : Nat, a < s.heap.size → ¬ A a) {a : Nat} (ha : tm.eval args s none [] s = some (.ref a)) :
    ∃ av, va_O "java/lang/String" a A s s.heap ∧ va_OF "java/lang/String" "coder" "B" (.int 0) a A s s.heap ∧ va_OF "java/lang/String" "value" "[B" (.ref av) a A s s.heap ∧ va_T .byte av cs.length (fun k => .int (cs.getD k 0)) A s s.heap := by
  obtain ⟨a2, c, cA, kA, q1, q2, q3, q4, q5, q6, -⟩ := Cond.exactly_spec (args := args) (first := s) (o := none) (s := s) (idx := []) (t := tm) (cls := "java/lang/String") hex
  have e2 : a2 = a := by
    rw [ha] at q1
    cases q1
    rfl
  subst e2
  obtain ⟨t, ht, hT⟩ := va_Tof (f := fun k => .int (cs.getD k 0)) (A := A) hN har (va_eqt hle) (fun j hj => va_eqt (hel j hj)) hA
  exact ⟨t, ⟨cA, q3, q5, by rw [q6]; exact q2, hA a2 (Array.getElem?_eq_some_iff.mp q3).1⟩, vk_OFof ha (va_eqt hco) hA, vk_OFof ha ht hA, hT⟩
theorem n_ref {tm : Term} (hex : (Cond.exactly tm "java/lang/String").before args s = true) : ∃ a, tm.eval args s none [] s = some (.ref a) := by
  obtain ⟨a2, c, cA, kA, q1, -⟩ := Cond.exactly_spec (args := args) (first := s) (o := none) (s := s) (idx := []) (t := tm) (cls := "java/lang/String") hex
  exact ⟨a2, q1⟩
/-- which String constants the tables name -/
def n_sl : List (String × Nat × String) := [("VirtualQueue$ParkDraft", 52, "ride"), ("VirtualQueue$ParkDraft", 61, "tier"), ("VirtualQueue$ParkDraft", 66, "party"), ("VirtualQueue$ParkDraft", 71, "extension"), ("VirtualQueue$Script", 59, "at"), ("VirtualQueue$Script", 82, "issue"), ("VirtualQueue$Script", 84, "redeem"), ("VirtualQueue$Script", 86, "cancel"), ("VirtualQueue$Script", 88, "wait"), ("VirtualQueue$Script", 90, "standby"), ("VirtualQueue$Script", 92, "break"), ("VirtualQueue$Script", 94, "repair"), ("VirtualQueue", 127, "no such tier"), ("VirtualQueue", 391, "the size is out of range"), ("VirtualQueue", 385, "no such party"), ("VirtualQueue", 383, "no such ride"), ("VirtualQueue", 389, "the slot is out of range"), ("VirtualQueue", 171, "both parties are the same"), ("VirtualQueue", 387, "no such ticket"), ("VirtualQueue", 224, "no such state"), ("VirtualQueue", 393, "there are not that many slots"), ("VirtualQueue", 280, "share is out of range"), ("VirtualQueue", 299, "no group has boarded"), ("VirtualQueue", 317, "no ticket is used or expired"), ("VirtualQueue", 329, "no capacity is planned"), ("VirtualQueue", 395, "the rides cannot be planned")]
def n_si (w : Cond) : Option (String × Nat × String) := match w with
  | .stringRef a k t => some (a, k, t)
  | _ => none
set_option maxRecDepth 100000 in
theorem n_sl_1 : tables_1_1.filterMap n_si = [] := rfl
set_option maxRecDepth 100000 in
theorem n_sl_2 : tables_1_2.filterMap n_si = [] := rfl
set_option maxRecDepth 100000 in
theorem n_sl_3 : tables_1_3.filterMap n_si = [("VirtualQueue$ParkDraft", 52, "ride"), ("VirtualQueue$ParkDraft", 61, "tier"), ("VirtualQueue$ParkDraft", 66, "party"), ("VirtualQueue$ParkDraft", 71, "extension"), ("VirtualQueue$Script", 59, "at"), ("VirtualQueue$Script", 82, "issue"), ("VirtualQueue$Script", 84, "redeem"), ("VirtualQueue$Script", 86, "cancel"), ("VirtualQueue$Script", 88, "wait"), ("VirtualQueue$Script", 90, "standby"), ("VirtualQueue$Script", 92, "break"), ("VirtualQueue$Script", 94, "repair")] := rfl
set_option maxRecDepth 100000 in
theorem n_sl_4 : tables_1_4.filterMap n_si = [("VirtualQueue", 127, "no such tier"), ("VirtualQueue", 391, "the size is out of range"), ("VirtualQueue", 385, "no such party"), ("VirtualQueue", 383, "no such ride"), ("VirtualQueue", 389, "the slot is out of range")] := rfl
set_option maxRecDepth 100000 in
theorem n_sl_5 : tables_1_5.filterMap n_si = [("VirtualQueue", 171, "both parties are the same"), ("VirtualQueue", 387, "no such ticket"), ("VirtualQueue", 224, "no such state")] := rfl
set_option maxRecDepth 100000 in
theorem n_sl_6 : tables_1_6.filterMap n_si = [("VirtualQueue", 393, "there are not that many slots"), ("VirtualQueue", 280, "share is out of range"), ("VirtualQueue", 299, "no group has boarded"), ("VirtualQueue", 317, "no ticket is used or expired"), ("VirtualQueue", 329, "no capacity is planned")] := rfl
set_option maxRecDepth 100000 in
theorem n_sl_7 : tables_1_7.filterMap n_si = [("VirtualQueue", 395, "the rides cannot be planned")] := rfl
set_option maxRecDepth 100000 in
theorem n_sl_8 : tables_1_8.filterMap n_si = [] := rfl
set_option maxRecDepth 100000 in
theorem n_sl_9 : tables_1_9.filterMap n_si = [] := rfl
set_option maxRecDepth 100000 in
theorem n_sl_10 : tables_1_10.filterMap n_si = [] := rfl
theorem n_sl_all : tables_1.filterMap n_si = n_sl := by
  unfold tables_1
  simp only [List.filterMap_append, n_sl_1, n_sl_2, n_sl_3, n_sl_4, n_sl_5, n_sl_6, n_sl_7, n_sl_8, n_sl_9, n_sl_10]
  rfl
theorem n_sl_in {own tx : String} {k : Nat} (h : Cond.stringRef own k tx ∈ lw_tbl) : (own, k, tx) ∈ n_sl := by
  have h : Cond.stringRef own k tx ∈ k2_sels lw_privs ++ tables_1 := h
  rcases List.mem_append.mp h with h | h
  · exfalso
    unfold k2_sels at h
    simp only [List.mem_map] at h
    obtain ⟨q, -, hq⟩ := h
    cases hq
  · rw [← n_sl_all]
    exact List.mem_filterMap.mpr ⟨_, h, rfl⟩
theorem n_texts : m_texts = n_sl.map (fun q => q.2.2) := rfl
theorem n_dis : ∀ i : Nat, i < 26 → ∀ j : Nat, j < 26 → m_texts[i]? = m_texts[j]? → i = j := by decide +kernel
theorem n_len : m_texts.length = 26 := rfl
/-- the addresses of the texts -/
theorem n_ads (hg : ∀ c ∈ flatC n_all, c.before args s = true) : ∃ sa : Nat → Nat, ∀ (i : Nat) (q : String × Nat × String), n_sl[i]? = some q → (Term.string q.1 q.2.1).eval args s none [] s = some (.ref (sa i)) := by
  obtain ⟨a0, h0⟩ := n_ref (hg _ n_92)
  obtain ⟨a1, h1⟩ := n_ref (hg _ n_100)
  obtain ⟨a2, h2⟩ := n_ref (hg _ n_108)
  obtain ⟨a3, h3⟩ := n_ref (hg _ n_117)
  obtain ⟨a4, h4⟩ := n_ref (hg _ n_130)
  obtain ⟨a5, h5⟩ := n_ref (hg _ n_136)
  obtain ⟨a6, h6⟩ := n_ref (hg _ n_145)
  obtain ⟨a7, h7⟩ := n_ref (hg _ n_155)
  obtain ⟨a8, h8⟩ := n_ref (hg _ n_165)
  obtain ⟨a9, h9⟩ := n_ref (hg _ n_173)
  obtain ⟨a10, h10⟩ := n_ref (hg _ n_184)
  obtain ⟨a11, h11⟩ := n_ref (hg _ n_193)
  obtain ⟨a12, h12⟩ := n_ref (hg _ n_203)
  obtain ⟨a13, h13⟩ := n_ref (hg _ n_219)
  obtain ⟨a14, h14⟩ := n_ref (hg _ n_247)
  obtain ⟨a15, h15⟩ := n_ref (hg _ n_264)
  obtain ⟨a16, h16⟩ := n_ref (hg _ n_280)
  obtain ⟨a17, h17⟩ := n_ref (hg _ n_308)
  obtain ⟨a18, h18⟩ := n_ref (hg _ n_337)
  obtain ⟨a19, h19⟩ := n_ref (hg _ n_355)
  obtain ⟨a20, h20⟩ := n_ref (hg _ n_372)
  obtain ⟨a21, h21⟩ := n_ref (hg _ n_405)
  obtain ⟨a22, h22⟩ := n_ref (hg _ n_430)
  obtain ⟨a23, h23⟩ := n_ref (hg _ n_454)
  obtain ⟨a24, h24⟩ := n_ref (hg _ n_486)
  obtain ⟨a25, h25⟩ := n_ref (hg _ n_512)
  refine ⟨fun i => [a0, a1, a2, a3, a4, a5, a6, a7, a8, a9, a10, a11, a12, a13, a14, a15, a16, a17, a18, a19, a20, a21, a22, a23, a24, a25].getD i 0, fun i q hq => ?_⟩
  match i, hq with
  | 0, hq => cases hq; exact h0
  | 1, hq => cases hq; exact h1
  | 2, hq => cases hq; exact h2
  | 3, hq => cases hq; exact h3
  | 4, hq => cases hq; exact h4
  | 5, hq => cases hq; exact h5
  | 6, hq => cases hq; exact h6
  | 7, hq => cases hq; exact h7
  | 8, hq => cases hq; exact h8
  | 9, hq => cases hq; exact h9
  | 10, hq => cases hq; exact h10
  | 11, hq => cases hq; exact h11
  | 12, hq => cases hq; exact h12
  | 13, hq => cases hq; exact h13
  | 14, hq => cases hq; exact h14
  | 15, hq => cases hq; exact h15
  | 16, hq => cases hq; exact h16
  | 17, hq => cases hq; exact h17
  | 18, hq => cases hq; exact h18
  | 19, hq => cases hq; exact h19
  | 20, hq => cases hq; exact h20
  | 21, hq => cases hq; exact h21
  | 22, hq => cases hq; exact h22
  | 23, hq => cases hq; exact h23
  | 24, hq => cases hq; exact h24
  | 25, hq => cases hq; exact h25
  | i + 26, hq => exact absurd hq (by simp [n_sl])
theorem n_Sx {ad0 : Nat → Nat} {sa : Nat → Nat} (hts : ∀ w ∈ lw_tbl, w.before args s = true) (hg : ∀ c ∈ flatC n_all, c.before args s = true) (hsa : ∀ (i : Nat) (q : String × Nat × String), n_sl[i]? = some q → (Term.string q.1 q.2.1).eval args s none [] s = some (.ref (sa i))) (had : ∀ i, i < 26 → ad0 (m_str i) = sa i) : m_Sx s ad0 := by
  have hA : ∀ a : Nat, a < s.heap.size → ¬ (fun q => s.heap.size ≤ q) a := fun a h => Nat.not_le.mpr h
  refine ⟨va_Zof (hts _ (List.mem_of_getElem? (i := 644) (by decide +kernel))) (hts _ (List.mem_of_getElem? (i := 131) (by decide +kernel))) (va_eqt (hg _ n_2)) hA, va_Zqof (hts _ (List.mem_of_getElem? (i := 660) (by decide +kernel))) (hts _ (List.mem_of_getElem? (i := 133) (by decide +kernel))) (hg _ n_3) hA, fun j cs hj => ?_⟩
  match j, hj with
  | 0, hj =>
    cases hj
    rw [had 0 (by omega)]
    refine n_str (cs := [114, 105, 100, 101]) (by decide) (hg _ n_92) (hg _ n_93) (hg _ n_94) (hg _ n_95) (fun i hi => ?_) hA (hsa 0 _ rfl)
    match i, hi with
    | 0, _ => exact hg _ n_96
    | 1, _ => exact hg _ n_97
    | 2, _ => exact hg _ n_98
    | 3, _ => exact hg _ n_99
    | i + 4, hi => exact absurd hi (Nat.not_lt.mpr (Nat.le_add_left 4 i))
  | 1, hj =>
    cases hj
    rw [had 1 (by omega)]
    refine n_str (cs := [116, 105, 101, 114]) (by decide) (hg _ n_100) (hg _ n_101) (hg _ n_102) (hg _ n_103) (fun i hi => ?_) hA (hsa 1 _ rfl)
    match i, hi with
    | 0, _ => exact hg _ n_104
    | 1, _ => exact hg _ n_105
    | 2, _ => exact hg _ n_106
    | 3, _ => exact hg _ n_107
    | i + 4, hi => exact absurd hi (Nat.not_lt.mpr (Nat.le_add_left 4 i))
  | 2, hj =>
    cases hj
    rw [had 2 (by omega)]
    refine n_str (cs := [112, 97, 114, 116, 121]) (by decide) (hg _ n_108) (hg _ n_109) (hg _ n_110) (hg _ n_111) (fun i hi => ?_) hA (hsa 2 _ rfl)
    match i, hi with
    | 0, _ => exact hg _ n_112
    | 1, _ => exact hg _ n_113
    | 2, _ => exact hg _ n_114
    | 3, _ => exact hg _ n_115
    | 4, _ => exact hg _ n_116
    | i + 5, hi => exact absurd hi (Nat.not_lt.mpr (Nat.le_add_left 5 i))
  | 3, hj =>
    cases hj
    rw [had 3 (by omega)]
    refine n_str (cs := [101, 120, 116, 101, 110, 115, 105, 111, 110]) (by decide) (hg _ n_117) (hg _ n_118) (hg _ n_119) (hg _ n_120) (fun i hi => ?_) hA (hsa 3 _ rfl)
    match i, hi with
    | 0, _ => exact hg _ n_121
    | 1, _ => exact hg _ n_122
    | 2, _ => exact hg _ n_123
    | 3, _ => exact hg _ n_124
    | 4, _ => exact hg _ n_125
    | 5, _ => exact hg _ n_126
    | 6, _ => exact hg _ n_127
    | 7, _ => exact hg _ n_128
    | 8, _ => exact hg _ n_129
    | i + 9, hi => exact absurd hi (Nat.not_lt.mpr (Nat.le_add_left 9 i))
  | 4, hj =>
    cases hj
    rw [had 4 (by omega)]
    refine n_str (cs := [97, 116]) (by decide) (hg _ n_130) (hg _ n_131) (hg _ n_132) (hg _ n_133) (fun i hi => ?_) hA (hsa 4 _ rfl)
    match i, hi with
    | 0, _ => exact hg _ n_134
    | 1, _ => exact hg _ n_135
    | i + 2, hi => exact absurd hi (Nat.not_lt.mpr (Nat.le_add_left 2 i))
  | 5, hj =>
    cases hj
    rw [had 5 (by omega)]
    refine n_str (cs := [105, 115, 115, 117, 101]) (by decide) (hg _ n_136) (hg _ n_137) (hg _ n_138) (hg _ n_139) (fun i hi => ?_) hA (hsa 5 _ rfl)
    match i, hi with
    | 0, _ => exact hg _ n_140
    | 1, _ => exact hg _ n_141
    | 2, _ => exact hg _ n_142
    | 3, _ => exact hg _ n_143
    | 4, _ => exact hg _ n_144
    | i + 5, hi => exact absurd hi (Nat.not_lt.mpr (Nat.le_add_left 5 i))
  | 6, hj =>
    cases hj
    rw [had 6 (by omega)]
    refine n_str (cs := [114, 101, 100, 101, 101, 109]) (by decide) (hg _ n_145) (hg _ n_146) (hg _ n_147) (hg _ n_148) (fun i hi => ?_) hA (hsa 6 _ rfl)
    match i, hi with
    | 0, _ => exact hg _ n_149
    | 1, _ => exact hg _ n_150
    | 2, _ => exact hg _ n_151
    | 3, _ => exact hg _ n_152
    | 4, _ => exact hg _ n_153
    | 5, _ => exact hg _ n_154
    | i + 6, hi => exact absurd hi (Nat.not_lt.mpr (Nat.le_add_left 6 i))
  | 7, hj =>
    cases hj
    rw [had 7 (by omega)]
    refine n_str (cs := [99, 97, 110, 99, 101, 108]) (by decide) (hg _ n_155) (hg _ n_156) (hg _ n_157) (hg _ n_158) (fun i hi => ?_) hA (hsa 7 _ rfl)
    match i, hi with
    | 0, _ => exact hg _ n_159
    | 1, _ => exact hg _ n_160
    | 2, _ => exact hg _ n_161
    | 3, _ => exact hg _ n_162
    | 4, _ => exact hg _ n_163
    | 5, _ => exact hg _ n_164
    | i + 6, hi => exact absurd hi (Nat.not_lt.mpr (Nat.le_add_left 6 i))
  | 8, hj =>
    cases hj
    rw [had 8 (by omega)]
    refine n_str (cs := [119, 97, 105, 116]) (by decide) (hg _ n_165) (hg _ n_166) (hg _ n_167) (hg _ n_168) (fun i hi => ?_) hA (hsa 8 _ rfl)
    match i, hi with
    | 0, _ => exact hg _ n_169
    | 1, _ => exact hg _ n_170
    | 2, _ => exact hg _ n_171
    | 3, _ => exact hg _ n_172
    | i + 4, hi => exact absurd hi (Nat.not_lt.mpr (Nat.le_add_left 4 i))
  | 9, hj =>
    cases hj
    rw [had 9 (by omega)]
    refine n_str (cs := [115, 116, 97, 110, 100, 98, 121]) (by decide) (hg _ n_173) (hg _ n_174) (hg _ n_175) (hg _ n_176) (fun i hi => ?_) hA (hsa 9 _ rfl)
    match i, hi with
    | 0, _ => exact hg _ n_177
    | 1, _ => exact hg _ n_178
    | 2, _ => exact hg _ n_179
    | 3, _ => exact hg _ n_180
    | 4, _ => exact hg _ n_181
    | 5, _ => exact hg _ n_182
    | 6, _ => exact hg _ n_183
    | i + 7, hi => exact absurd hi (Nat.not_lt.mpr (Nat.le_add_left 7 i))
  | 10, hj =>
    cases hj
    rw [had 10 (by omega)]
    refine n_str (cs := [98, 114, 101, 97, 107]) (by decide) (hg _ n_184) (hg _ n_185) (hg _ n_186) (hg _ n_187) (fun i hi => ?_) hA (hsa 10 _ rfl)
    match i, hi with
    | 0, _ => exact hg _ n_188
    | 1, _ => exact hg _ n_189
    | 2, _ => exact hg _ n_190
    | 3, _ => exact hg _ n_191
    | 4, _ => exact hg _ n_192
    | i + 5, hi => exact absurd hi (Nat.not_lt.mpr (Nat.le_add_left 5 i))
  | 11, hj =>
    cases hj
    rw [had 11 (by omega)]
    refine n_str (cs := [114, 101, 112, 97, 105, 114]) (by decide) (hg _ n_193) (hg _ n_194) (hg _ n_195) (hg _ n_196) (fun i hi => ?_) hA (hsa 11 _ rfl)
    match i, hi with
    | 0, _ => exact hg _ n_197
    | 1, _ => exact hg _ n_198
    | 2, _ => exact hg _ n_199
    | 3, _ => exact hg _ n_200
    | 4, _ => exact hg _ n_201
    | 5, _ => exact hg _ n_202
    | i + 6, hi => exact absurd hi (Nat.not_lt.mpr (Nat.le_add_left 6 i))
  | j + 12, hj => exact absurd hj (by simp [m_tchars])
/-- classes and arrays -/
theorem n_K (hts : ∀ w ∈ lw_tbl, w.before args s = true) : ∃ (D : va_G) (dA : FieldType → ClassId), va_K D m_cl (m_tys dA) s := by
  have hc : ∀ ci : Nat, ∃ q : ClassId × (Nat → Nat), ci < 13 → u_Kn s (m_cnames.getD ci "") (m_T ci) (m_N ci) q.1 q.2 := by
    intro ci
    by_cases h : ci < 13
    · have hi : ∃ n, Cond.instantiable (m_cnames.getD ci "") n ∈ lw_tbl := by
        match ci, h with
        | 0, _ => exact ⟨8, List.mem_of_getElem? (i := 353) (by decide +kernel)⟩
        | 1, _ => exact ⟨2, List.mem_of_getElem? (i := 498) (by decide +kernel)⟩
        | 2, _ => exact ⟨9, List.mem_of_getElem? (i := 263) (by decide +kernel)⟩
        | 3, _ => exact ⟨8, List.mem_of_getElem? (i := 154) (by decide +kernel)⟩
        | 4, _ => exact ⟨3, List.mem_of_getElem? (i := 434) (by decide +kernel)⟩
        | 5, _ => exact ⟨3, List.mem_of_getElem? (i := 189) (by decide +kernel)⟩
        | 6, _ => exact ⟨9, List.mem_of_getElem? (i := 511) (by decide +kernel)⟩
        | 7, _ => exact ⟨12, List.mem_of_getElem? (i := 195) (by decide +kernel)⟩
        | 8, _ => exact ⟨7, List.mem_of_getElem? (i := 320) (by decide +kernel)⟩
        | 9, _ => exact ⟨7, List.mem_of_getElem? (i := 363) (by decide +kernel)⟩
        | 10, _ => exact ⟨2, List.mem_of_getElem? (i := 412) (by decide +kernel)⟩
        | 11, _ => exact ⟨11, List.mem_of_getElem? (i := 146) (by decide +kernel)⟩
        | 12, _ => exact ⟨26, List.mem_of_getElem? (i := 1683) (by decide +kernel)⟩
        | k + 13, h => exact absurd h (by omega)
      obtain ⟨n, hn⟩ := hi
      obtain ⟨cC, iS, hk⟩ := u_known (C := m_cnames.getD ci "") (T := m_T ci) (N := m_N ci) (n := n) hts (fun w hw => (List.mem_filter.mp (m_lay h w hw)).1) (hts _ hn)
      exact ⟨(cC, iS), fun _ => hk⟩
    · exact ⟨(0, fun _ => 0), fun q => absurd q h⟩
  obtain ⟨f, hf⟩ := Classical.axiomOfChoice hc
  have hpr : ∀ t : FieldType, Cond.arrayClass t ∈ lw_tbl → (∀ C, t ≠ .object C) → ∃ c, ArrOfT s c t ∧ va_RA s c t := by
    intro t ht hno
    obtain ⟨c, k, comp, h1, h2, h3⟩ := Cond.arrayClass_spec (hts _ ht)
    refine ⟨c, fun n z => ⟨fun k h => (by cases h), k, h2, comp, h3⟩, ?_⟩
    cases t with
    | object C => exact absurd rfl (hno C)
    | _ => exact h1
  have hob : ∀ C : String, Cond.arrayOver (.object C) ∈ lw_tbl → ∃ c, ArrOfT s c (.object C) ∧ va_RA s c (.object C) := by
    intro C hC
    obtain ⟨comp, c, k, h1, h2, h3, h4, h5⟩ := Cond.arrayOver_spec (hts _ hC)
    exact ⟨c, fun n z => ⟨fun k h => (by cases h), k, h3, comp, h4⟩, k, comp, h3, h4, h1, h5⟩
  have hAA : ∃ c, ArrOfT s c (.array .int) ∧ va_RA s c (.array .int) := by
    have h1 := hts (.arrayOver (.array .int)) (List.mem_of_getElem? (i := 418) (by decide +kernel))
    simp only [Cond.before, Cond.holds, Cond.value] at h1
    cases hc : s.vm.findClass (FieldType.array .int).toString with
    | none => rw [hc] at h1; exact absurd h1 (by simp)
    | some comp =>
      rw [hc] at h1
      have h2 : m_over s.vm (m_idx s.vm comp) = true := h1
      cases hx : m_idx s.vm comp with
      | none => rw [hx] at h2; exact absurd h2 (by simp [m_over])
      | some c =>
        rw [hx] at h2
        unfold m_over at h2
        simp only [Option.bind_some] at h2
        cases hk : s.vm.classes[c]? with
        | none => rw [hk] at h2; exact absurd h2 (by simp)
        | some k =>
          rw [hk] at h2
          simp only [Option.map_some] at h2
          split at h2
          · rename_i cmp ty hkind
            simp only [beq_iff_eq, Option.some.injEq, Bool.and_eq_true, decide_eq_true_eq] at h2
            obtain ⟨rfl, h4⟩ := h2
            exact ⟨c, fun n z => ⟨fun k h => (by cases h), k, hk, cmp, hkind⟩, h4⟩
          · exact absurd h2 (by simp)
  have ht : ∀ t : FieldType, ∃ c : ClassId, t ∈ m_tl → ArrOfT s c t ∧ va_RA s c t := by
    intro t
    by_cases h : t ∈ m_tl
    · have key : ∃ c, ArrOfT s c t ∧ va_RA s c t := by
        simp only [m_tl, List.mem_cons, List.not_mem_nil, or_false] at h
        rcases h with rfl | rfl | rfl | rfl | rfl | rfl | rfl | rfl
        · exact hpr _ (List.mem_of_getElem? (i := 260) (by decide +kernel)) (fun C h => by cases h)
        · exact hpr _ (List.mem_of_getElem? (i := 261) (by decide +kernel)) (fun C h => by cases h)
        · exact hpr _ (List.mem_of_getElem? (i := 187) (by decide +kernel)) (fun C h => by cases h)
        · exact hpr _ (List.mem_of_getElem? (i := 2372) (by decide +kernel)) (fun C h => by cases h)
        · exact hpr _ (List.mem_of_getElem? (i := 2373) (by decide +kernel)) (fun C h => by cases h)
        · exact hAA
        · exact hob _ (List.mem_of_getElem? (i := 433) (by decide +kernel))
        · exact hob _ (List.mem_of_getElem? (i := 547) (by decide +kernel))
      exact ⟨key.choose, fun _ => key.choose_spec⟩
    · exact ⟨0, fun q => absurd q h⟩
  obtain ⟨dA, hdA⟩ := Classical.axiomOfChoice ht
  refine ⟨(fun k => (f k).1, fun k => (f k).2), dA, fun c q hq => ?_, fun k q hk => ?_⟩
  · by_cases h : c < 13
    · rw [m_cl_at h] at hq
      cases hq
      exact hf c h
    · exact absurd hq (by simp [m_cl, h])
  · simp only [m_tys, List.getElem?_map] at hk
    cases hm : m_tl[k]? with
    | none => rw [hm] at hk; cases hk
    | some t =>
      rw [hm] at hk
      cases hk
      exact hdA t (List.mem_of_getElem? hm)
theorem n_Nc (hg : ∀ c ∈ flatC n_all, c.before args s = true) : m_Nc s := ⟨va_Nc.of (hg _ n_22), va_Nc.of (hg _ n_23)⟩
theorem n_traces {l : Launch} (hf : l.flags = flags0) : l.stackTraces = false := by
  unfold Launch.stackTraces
  rw [hf]
  decide
/-- all that the machine's walk asks of the start -/
theorem n_Cx {l : Launch} (hf : l.flags = flags0) {b L : Nat} {xs : Nat → Int32} (hts : ∀ w ∈ lw_tbl, w.before args s = true) (hg : n_all.before args s = true) (hX : va_X b L xs s s.heap) (hb : b < s.heap.size) : ∃ (D : va_G) (dA : FieldType → ClassId) (ad0 : Nat → Nat), ad0 2000000 = b ∧ m_Cx l s D dA L xs ad0 := by
  have hg := flat_of_before _ hg
  obtain ⟨D, dA, hK⟩ := n_K hts
  obtain ⟨sa, hsa⟩ := n_ads hg
  obtain ⟨ad0, had0⟩ : ∃ ad0 : Nat → Nat, ad0 = fun k => if k = 2000000 then b else sa (k - 1000000) := ⟨_, rfl⟩
  have hb0 : ad0 2000000 = b := by rw [had0]; exact if_pos rfl
  have had : ∀ i, i < 26 → ad0 (m_str i) = sa i := fun i hi => by
    rw [had0]
    show (if 1000000 + i = 2000000 then b else sa (1000000 + i - 1000000)) = sa i
    rw [if_neg (by omega), Nat.add_sub_cancel_left]
  have hA : ∀ a : Nat, a < s.heap.size → ¬ (fun q => s.heap.size ≤ q) a := fun a h => Nat.not_le.mpr h
  refine ⟨D, dA, ad0, hb0, hK, n_traces hf, fun w hw ho => va_Nw.of ho (hts w hw), ⟨va_AO.of (hts (.arrayOver (.object "VirtualQueue$Line")) (List.mem_of_getElem? (i := 433) (by decide +kernel))), va_AO.of (hts (.arrayOver (.object "VirtualQueue$Day")) (List.mem_of_getElem? (i := 547) (by decide +kernel))), fun a9 => (by have h9 := hts (.arrayOver (.array .int)) (List.mem_of_getElem? (i := 418) (by decide +kernel)); exact h9)⟩, ⟨by rw [hb0]; exact hX, by rw [hb0]; exact hb⟩, ⟨?_, ?_⟩, fun own k tx hw => ?_, n_Sx hts hg hsa had⟩
  · exact vx_Zqof (hts (.laysStatic "java/lang/Throwable" "UNASSIGNED_STACK" "[Ljava/lang/StackTraceElement;") (List.mem_of_getElem? (i := 885) (by decide +kernel))) (hts (.initialized "java/lang/Throwable") (List.mem_of_getElem? (i := 137) (by decide +kernel))) (hg _ n_7) hA
  · exact vx_Zqof (hts (.laysStatic "java/lang/Throwable" "SUPPRESSED_SENTINEL" "Ljava/util/List;") (List.mem_of_getElem? (i := 887) (by decide +kernel))) (hts (.initialized "java/lang/Throwable") (List.mem_of_getElem? (i := 137) (by decide +kernel))) (hg _ n_8) hA
  · obtain ⟨i, hi⟩ := List.getElem?_of_mem (n_sl_in hw)
    have hlt : i < 26 := (List.getElem?_eq_some_iff.mp hi).1
    have hs := hsa i _ hi
    refine ⟨sa i, vk_R.of (hts _ hw) hs, fun j hj => ?_⟩
    have hj2 : j < 26 := (List.getElem?_eq_some_iff.mp hj).1
    have hi2 : m_texts[i]? = some tx := by
      rw [n_texts, List.getElem?_map, hi]
      rfl
    have e := n_dis j hj2 i hlt (by rw [hj, hi2])
    rw [e]
    exact had i hlt
end N1
