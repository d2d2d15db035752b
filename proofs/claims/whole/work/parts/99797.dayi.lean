/-! the constructor of a day, its steps (written by wip/whole/gen99797.py) -/
theorem x_nw.tr {n m m' : Nat} {S S1 S2 : z_S} (h : x_nw n m S S1) (h2 : x_nw (n + m) m' S1 S2) : x_nw n (m + m') S S2 := by
  refine ⟨fun a ha => ?_, fun a h3 h4 => ?_⟩
  · obtain ⟨p, q, r⟩ := h2.1 a (by omega)
    obtain ⟨p', q', r'⟩ := h.1 a (by omega)
    exact ⟨p.trans p', q.trans q', r.trans r'⟩
  · by_cases e : a < n + m
    · rw [(h2.1 a (Or.inl e)).1]; exact h.2 a h3 e
    · exact h2.2 a (by omega) (by omega)
theorem x_nw.one {E E' E2 : m_E} {J : z_J} {X : z_X} {n : Nat} : x_nw n 1 (E, J, X) (E', z_row J n (fun _ => 0), (z_row X.1 n (fun _ => 0), m_rowX X.2 n (fun _ => 0))) := by
  refine ⟨fun a ha => ⟨?_, ?_, ?_⟩, fun a h3 h4 => ?_⟩
  · show z_row J n _ a = J a
    rw [z_row_ne (by omega)]
  · show z_row X.1 n _ a = X.1 a
    rw [z_row_ne (by omega)]
  · show m_rowX X.2 n _ a = X.2 a
    unfold m_rowX; rw [if_neg (by omega)]
  · show z_row J n _ a = _
    rw [show a = n by omega, z_row_eq]
theorem x_nw.of {n m : Nat} {S S' : z_S} {E1 E2 : m_E} (h : x_nw n m S S') : x_nw n m (E1, S.2) (E2, S'.2) := h
/-- a new object and its constructor's call -/
theorem z_mkC {l : Launch} {d a : Nat} {ws : z_V} {E L : m_E} {J : z_J} {X : z_X} {c c' c2 : (Nat ⊕ (FieldType × Nat)) × List (Option Nat)} {m mc ms bc bs : Nat} {K : z_O → z_S → Nat → Nat → Prop}
    (h : z_Sem l d a ws (E ++ [c], z_row J E.length (fun _ => 0), (z_row X.1 E.length (fun _ => 0), m_rowX X.2 E.length (fun _ => 0))) mc ms (fun o S' => o = .inl none ∧ S'.1 = (E ++ [c]).set E.length c' ++ L ∧ x_nw (E ++ [c]).length m (E ++ [c], z_row J E.length (fun _ => 0), (z_row X.1 E.length (fun _ => 0), m_rowX X.2 E.length (fun _ => 0))) S'))
    (hb : mc ≤ bc) (hb2 : ms ≤ bs) (hc : c' = c2) (hK : ∀ (J' : z_J) (X' : z_X), x_nw E.length (1 + m) (E, J, X) (E ++ c2 :: L, J', X') → K (.inl none) (E ++ c2 :: L, J', X') (bc - mc) (bs - ms)) : z_Call l d a ws (E ++ [c], z_row J E.length (fun _ => 0), (z_row X.1 E.length (fun _ => 0), m_rowX X.2 E.length (fun _ => 0))) bc bs K := by
  subst hc
  refine ⟨mc, ms, _, h, hb, hb2, fun o S' _ hq => ?_⟩
  obtain ⟨rfl, h1, h2⟩ := hq
  obtain ⟨E', J', X'⟩ := S'
  have h1 : E' = _ := h1
  have e : (E ++ [c]).set E.length c' ++ L = E ++ c' :: L := by
    rw [List.set_append_right _ _ (Nat.le_refl _), Nat.sub_self]; simp
  rw [e] at h1
  subst h1
  refine hK J' X' ?_
  have e2 : (E ++ [c]).length = E.length + 1 := by simp
  rw [e2] at h2
  exact (x_nw.one (E := E) (E' := E ++ [c]) (E2 := E)).tr h2
theorem z_aL {E L : m_E} {a : Nat} {w : (Nat ⊕ (FieldType × Nat)) × List (Option Nat)} (h : E[a]? = some w) : (E ++ L)[a]? = some w := by
  rw [List.getElem?_append_left (List.getElem?_eq_some_iff.mp h).1]; exact h
theorem z_aM {E L : m_E} {w : (Nat ⊕ (FieldType × Nat)) × List (Option Nat)} : (E ++ w :: L)[E.length]? = some w := by
  rw [List.getElem?_append_right (Nat.le_refl _), Nat.sub_self]; rfl
theorem z_aT {E L : m_E} {w : (Nat ⊕ (FieldType × Nat)) × List (Option Nat)} : E.length < (E ++ w :: L).length := by simp
/-- places in the second of two lists -/
theorem z_ag {E L : m_E} {n k : Nat} (h : E.length = n) : (E ++ L)[n + k]? = L[k]? := by
  subst h
  rw [List.getElem?_append_right (Nat.le_add_right _ _), Nat.add_sub_cancel_left]
theorem z_as {E L M : m_E} {n k : Nat} {w : (Nat ⊕ (FieldType × Nat)) × List (Option Nat)} (h : E.length = n) : ((E ++ L) ++ M).set (n + k) w = E ++ (L ++ M).set k w := by
  subst h
  rw [List.append_assoc, List.set_append_right _ _ (Nat.le_add_right _ _), Nat.add_sub_cancel_left]
theorem z_al {E L : m_E} {n k : Nat} (h : E.length = n) (hk : L.length = k) : (E ++ L).length = n + k := by
  rw [List.length_append, h, hk]
set_option maxRecDepth 20000 in
theorem w_0i_0 {l : Launch} {d : Nat} {Q : z_O → z_S → Prop} {Wp : Nat → z_C} {E : m_E} {J : z_J} {X : z_X} {bc bs : Nat} {th : Nat}  (hs : z_Cl l d m_me_0 Q Wp)
    (h : Wp 4 [some (.inr (.inr (.ref th))), none] [] (E, J, X) bc bs) : Wp 0 [some (.inr (.inr (.ref th))), none] [] (E, J, X) bc bs :=
  hs 400 [(4, 1), (10, 1), (21, 1), (32, 1), (43, 1), (54, 1), (63, 1), (72, 1), (74, 2), (96, 2), (111, 2)] [] 0 _ _ _ _ _ (⟨rfl, h⟩)
set_option maxRecDepth 20000 in
theorem w_0i_4 {l : Launch} {d : Nat} {Q : z_O → z_S → Prop} {Wp : Nat → z_C} {E : m_E} {J : z_J} {X : z_X} {bc bs : Nat} {th : Nat} {rs : List (Option Nat)} (hE : E[th]? = some (.inl 0, rs)) (hs : z_Cl l d m_me_0 Q Wp)
    (h : Wp 10 [some (.inr (.inr (.ref th))), none] [] (E, z_u J th 1 6, X) bc bs) : Wp 4 [some (.inr (.inr (.ref th))), none] [] (E, J, X) bc bs :=
  hs 400 [(4, 1), (10, 1), (21, 1), (32, 1), (43, 1), (54, 1), (63, 1), (72, 1), (74, 2), (96, 2), (111, 2)] [] 4 _ _ _ _ _ (⟨rfl, _, hE, h⟩)
set_option maxRecDepth 20000 in
theorem w_0i_10 {l : Launch} {d : Nat} {Q : z_O → z_S → Prop} {Wp : Nat → z_C} {E : m_E} {J : z_J} {X : z_X} {bc bs : Nat} {th : Nat} {rs : List (Option Nat)} {L : m_E} {c' c2 : (Nat ⊕ (FieldType × Nat)) × List (Option Nat)} {m mc ms : Nat} (hE : E[th]? = some (.inl 0, rs)) (hs : z_Cl l d m_me_0 Q Wp)
    (hl : E.length < 1000) (hb : 1 + mc ≤ bc) (hb2 : 12 + ms ≤ bs) (hc : c' = c2) (hq : z_Sem l d 78 [.inr (.inr (.ref E.length))] (E ++ [((.inl 7, [none, none, none, none, none, none, none, none, none, none, none, none]) : m_Sh × List (Option Nat))], z_row J E.length (fun _ => 0), (z_row X.1 E.length (fun _ => 0), m_rowX X.2 E.length (fun _ => 0))) mc ms (fun o S' => o = .inl none ∧ S'.1 = (E ++ [((.inl 7, [none, none, none, none, none, none, none, none, none, none, none, none]) : m_Sh × List (Option Nat))]).set E.length c' ++ L ∧ x_nw (E ++ [((.inl 7, [none, none, none, none, none, none, none, none, none, none, none, none]) : m_Sh × List (Option Nat))]).length m (E ++ [((.inl 7, [none, none, none, none, none, none, none, none, none, none, none, none]) : m_Sh × List (Option Nat))], z_row J E.length (fun _ => 0), (z_row X.1 E.length (fun _ => 0), m_rowX X.2 E.length (fun _ => 0))) S'))
    (h : ∀ (J' : z_J) (X' : z_X), x_nw E.length (1 + m) (E, J, X) (E ++ c2 :: L, J', X') → Wp 21 [some (.inr (.inr (.ref th))), none] [] ((E ++ c2 :: L).set th (.inl 0, rs.set 2 (some E.length)), J', X') (bc - 1 - mc) (bs - 12 - ms)) : Wp 10 [some (.inr (.inr (.ref th))), none] [] (E, J, X) bc bs :=
  hs 400 [(4, 1), (10, 1), (21, 1), (32, 1), (43, 1), (54, 1), (63, 1), (72, 1), (74, 2), (96, 2), (111, 2)] [] 10 _ _ _ _ _ (⟨⟨hl, (Nat.le_trans (Nat.le_add_right 1 mc) hb), (Nat.le_trans (Nat.le_add_right _ ms) hb2)⟩, ⟨_, rfl, rfl, rfl, z_mkC (m := m) hq (Nat.le_sub_of_add_le (by omega)) (Nat.le_sub_of_add_le (by show ms + 12 ≤ bs; omega)) hc (fun J' X' hn => ⟨_, z_aL hE, z_aT, h J' X' hn⟩)⟩⟩)
set_option maxRecDepth 20000 in
theorem w_0i_21 {l : Launch} {d : Nat} {Q : z_O → z_S → Prop} {Wp : Nat → z_C} {E : m_E} {J : z_J} {X : z_X} {bc bs : Nat} {th : Nat} {rs : List (Option Nat)} {L : m_E} {c' c2 : (Nat ⊕ (FieldType × Nat)) × List (Option Nat)} {m mc ms : Nat} (hE : E[th]? = some (.inl 0, rs)) (hs : z_Cl l d m_me_0 Q Wp)
    (hl : E.length < 1000) (hb : 1 + mc ≤ bc) (hb2 : 9 + ms ≤ bs) (hc : c' = c2) (hq : z_Sem l d 36 [.inr (.inr (.ref E.length))] (E ++ [((.inl 2, [none, none, none, none, none, none, none, none, none]) : m_Sh × List (Option Nat))], z_row J E.length (fun _ => 0), (z_row X.1 E.length (fun _ => 0), m_rowX X.2 E.length (fun _ => 0))) mc ms (fun o S' => o = .inl none ∧ S'.1 = (E ++ [((.inl 2, [none, none, none, none, none, none, none, none, none]) : m_Sh × List (Option Nat))]).set E.length c' ++ L ∧ x_nw (E ++ [((.inl 2, [none, none, none, none, none, none, none, none, none]) : m_Sh × List (Option Nat))]).length m (E ++ [((.inl 2, [none, none, none, none, none, none, none, none, none]) : m_Sh × List (Option Nat))], z_row J E.length (fun _ => 0), (z_row X.1 E.length (fun _ => 0), m_rowX X.2 E.length (fun _ => 0))) S'))
    (h : ∀ (J' : z_J) (X' : z_X), x_nw E.length (1 + m) (E, J, X) (E ++ c2 :: L, J', X') → Wp 32 [some (.inr (.inr (.ref th))), none] [] ((E ++ c2 :: L).set th (.inl 0, rs.set 3 (some E.length)), J', X') (bc - 1 - mc) (bs - 9 - ms)) : Wp 21 [some (.inr (.inr (.ref th))), none] [] (E, J, X) bc bs :=
  hs 400 [(4, 1), (10, 1), (21, 1), (32, 1), (43, 1), (54, 1), (63, 1), (72, 1), (74, 2), (96, 2), (111, 2)] [] 21 _ _ _ _ _ (⟨⟨hl, (Nat.le_trans (Nat.le_add_right 1 mc) hb), (Nat.le_trans (Nat.le_add_right _ ms) hb2)⟩, ⟨_, rfl, rfl, rfl, z_mkC (m := m) hq (Nat.le_sub_of_add_le (by omega)) (Nat.le_sub_of_add_le (by show ms + 9 ≤ bs; omega)) hc (fun J' X' hn => ⟨_, z_aL hE, z_aT, h J' X' hn⟩)⟩⟩)
set_option maxRecDepth 20000 in
theorem w_0i_32 {l : Launch} {d : Nat} {Q : z_O → z_S → Prop} {Wp : Nat → z_C} {E : m_E} {J : z_J} {X : z_X} {bc bs : Nat} {th : Nat} {rs : List (Option Nat)} {L : m_E} {c' c2 : (Nat ⊕ (FieldType × Nat)) × List (Option Nat)} {m mc ms : Nat} (hE : E[th]? = some (.inl 0, rs)) (hs : z_Cl l d m_me_0 Q Wp)
    (hl : E.length < 1000) (hb : 1 + mc ≤ bc) (hb2 : 7 + ms ≤ bs) (hc : c' = c2) (hq : z_Sem l d 96 [.inr (.inr (.ref E.length))] (E ++ [((.inl 9, [none, none, none, none, none, none, none]) : m_Sh × List (Option Nat))], z_row J E.length (fun _ => 0), (z_row X.1 E.length (fun _ => 0), m_rowX X.2 E.length (fun _ => 0))) mc ms (fun o S' => o = .inl none ∧ S'.1 = (E ++ [((.inl 9, [none, none, none, none, none, none, none]) : m_Sh × List (Option Nat))]).set E.length c' ++ L ∧ x_nw (E ++ [((.inl 9, [none, none, none, none, none, none, none]) : m_Sh × List (Option Nat))]).length m (E ++ [((.inl 9, [none, none, none, none, none, none, none]) : m_Sh × List (Option Nat))], z_row J E.length (fun _ => 0), (z_row X.1 E.length (fun _ => 0), m_rowX X.2 E.length (fun _ => 0))) S'))
    (h : ∀ (J' : z_J) (X' : z_X), x_nw E.length (1 + m) (E, J, X) (E ++ c2 :: L, J', X') → Wp 43 [some (.inr (.inr (.ref th))), none] [] ((E ++ c2 :: L).set th (.inl 0, rs.set 4 (some E.length)), J', X') (bc - 1 - mc) (bs - 7 - ms)) : Wp 32 [some (.inr (.inr (.ref th))), none] [] (E, J, X) bc bs :=
  hs 400 [(4, 1), (10, 1), (21, 1), (32, 1), (43, 1), (54, 1), (63, 1), (72, 1), (74, 2), (96, 2), (111, 2)] [] 32 _ _ _ _ _ (⟨⟨hl, (Nat.le_trans (Nat.le_add_right 1 mc) hb), (Nat.le_trans (Nat.le_add_right _ ms) hb2)⟩, ⟨_, rfl, rfl, rfl, z_mkC (m := m) hq (Nat.le_sub_of_add_le (by omega)) (Nat.le_sub_of_add_le (by show ms + 7 ≤ bs; omega)) hc (fun J' X' hn => ⟨_, z_aL hE, z_aT, h J' X' hn⟩)⟩⟩)
set_option maxRecDepth 20000 in
theorem w_0i_43 {l : Launch} {d : Nat} {Q : z_O → z_S → Prop} {Wp : Nat → z_C} {E : m_E} {J : z_J} {X : z_X} {bc bs : Nat} {th : Nat} {rs : List (Option Nat)} {L : m_E} {c' c2 : (Nat ⊕ (FieldType × Nat)) × List (Option Nat)} {m mc ms : Nat} (hE : E[th]? = some (.inl 0, rs)) (hs : z_Cl l d m_me_0 Q Wp)
    (hl : E.length < 1000) (hb : 1 + mc ≤ bc) (hb2 : 2 + ms ≤ bs) (hc : c' = c2) (hq : z_Sem l d 106 [.inr (.inr (.ref E.length))] (E ++ [((.inl 10, [none, none]) : m_Sh × List (Option Nat))], z_row J E.length (fun _ => 0), (z_row X.1 E.length (fun _ => 0), m_rowX X.2 E.length (fun _ => 0))) mc ms (fun o S' => o = .inl none ∧ S'.1 = (E ++ [((.inl 10, [none, none]) : m_Sh × List (Option Nat))]).set E.length c' ++ L ∧ x_nw (E ++ [((.inl 10, [none, none]) : m_Sh × List (Option Nat))]).length m (E ++ [((.inl 10, [none, none]) : m_Sh × List (Option Nat))], z_row J E.length (fun _ => 0), (z_row X.1 E.length (fun _ => 0), m_rowX X.2 E.length (fun _ => 0))) S'))
    (h : ∀ (J' : z_J) (X' : z_X), x_nw E.length (1 + m) (E, J, X) (E ++ c2 :: L, J', X') → Wp 54 [some (.inr (.inr (.ref th))), none] [] ((E ++ c2 :: L).set th (.inl 0, rs.set 5 (some E.length)), J', X') (bc - 1 - mc) (bs - 2 - ms)) : Wp 43 [some (.inr (.inr (.ref th))), none] [] (E, J, X) bc bs :=
  hs 400 [(4, 1), (10, 1), (21, 1), (32, 1), (43, 1), (54, 1), (63, 1), (72, 1), (74, 2), (96, 2), (111, 2)] [] 43 _ _ _ _ _ (⟨⟨hl, (Nat.le_trans (Nat.le_add_right 1 mc) hb), (Nat.le_trans (Nat.le_add_right _ ms) hb2)⟩, ⟨_, rfl, rfl, rfl, z_mkC (m := m) hq (Nat.le_sub_of_add_le (by omega)) (Nat.le_sub_of_add_le (by show ms + 2 ≤ bs; omega)) hc (fun J' X' hn => ⟨_, z_aL hE, z_aT, h J' X' hn⟩)⟩⟩)
set_option maxRecDepth 20000 in
theorem w_0i_54 {l : Launch} {d : Nat} {Q : z_O → z_S → Prop} {Wp : Nat → z_C} {E : m_E} {J : z_J} {X : z_X} {bc bs : Nat} {th : Nat} {rs : List (Option Nat)} (hE : E[th]? = some (.inl 0, rs)) (hs : z_Cl l d m_me_0 Q Wp)
    (h : (E.length < 1000 ∧ 1 ≤ bc ∧ (8 : Int) ≤ (bs : Int)) ∧ Wp 63 [some (.inr (.inr (.ref th))), none] [] ((E ++ [((.inr (.object "VirtualQueue$Line", 8), [none, none, none, none, none, none, none, none]) : m_Sh × List (Option Nat))]).set th (.inl 0, rs.set 6 (some E.length)), z_row J E.length (fun _ => 0), (z_row X.1 E.length (fun _ => 0), m_rowX X.2 E.length (fun _ => 0))) (bc - 1) (bs - 8)) : Wp 54 [some (.inr (.inr (.ref th))), none] [] (E, J, X) bc bs :=
  hs 400 [(4, 1), (10, 1), (21, 1), (32, 1), (43, 1), (54, 1), (63, 1), (72, 1), (74, 2), (96, 2), (111, 2)] [] 54 _ _ _ _ _ (⟨rfl, ⟨by decide, by decide, h.1.1, h.1.2.1, h.1.2.2⟩, ⟨_, z_apL hE, z_apT, h.2⟩⟩)
set_option maxRecDepth 20000 in
theorem w_0i_63 {l : Launch} {d : Nat} {Q : z_O → z_S → Prop} {Wp : Nat → z_C} {E : m_E} {J : z_J} {X : z_X} {bc bs : Nat} {th : Nat} {rs : List (Option Nat)} (hE : E[th]? = some (.inl 0, rs)) (hs : z_Cl l d m_me_0 Q Wp)
    (h : (E.length < 1000 ∧ 1 ≤ bc ∧ (8 : Int) ≤ (bs : Int)) ∧ Wp 72 [some (.inr (.inr (.ref th))), none] [] ((E ++ [((.inr (.object "VirtualQueue$Line", 8), [none, none, none, none, none, none, none, none]) : m_Sh × List (Option Nat))]).set th (.inl 0, rs.set 7 (some E.length)), z_row J E.length (fun _ => 0), (z_row X.1 E.length (fun _ => 0), m_rowX X.2 E.length (fun _ => 0))) (bc - 1) (bs - 8)) : Wp 63 [some (.inr (.inr (.ref th))), none] [] (E, J, X) bc bs :=
  hs 400 [(4, 1), (10, 1), (21, 1), (32, 1), (43, 1), (54, 1), (63, 1), (72, 1), (74, 2), (96, 2), (111, 2)] [] 63 _ _ _ _ _ (⟨rfl, ⟨by decide, by decide, h.1.1, h.1.2.1, h.1.2.2⟩, ⟨_, z_apL hE, z_apT, h.2⟩⟩)
set_option maxRecDepth 20000 in
theorem w_0i_72 {l : Launch} {d : Nat} {Q : z_O → z_S → Prop} {Wp : Nat → z_C} {E : m_E} {J : z_J} {X : z_X} {bc bs : Nat} {th : Nat}  (hs : z_Cl l d m_me_0 Q Wp)
    (h : Wp 74 [some (.inr (.inr (.ref th))), some (.inl 0)] [] (E, J, X) bc bs) : Wp 72 [some (.inr (.inr (.ref th))), none] [] (E, J, X) bc bs :=
  hs 400 [(4, 1), (10, 1), (21, 1), (32, 1), (43, 1), (54, 1), (63, 1), (72, 1), (74, 2), (96, 2), (111, 2)] [] 72 _ _ _ _ _ (⟨rfl, h⟩)
set_option maxRecDepth 20000 in
theorem w_0i_74 {l : Launch} {d : Nat} {Q : z_O → z_S → Prop} {Wp : Nat → z_C} {E : m_E} {J : z_J} {X : z_X} {bc bs : Nat} {th : Nat} {r2 r3 r4 r5 ma sa : Nat} {i : Int} {ra rc : List (Option Nat)} {L : m_E} {c' : (Nat ⊕ (FieldType × Nat)) × List (Option Nat)} {m mc ms : Nat} (hE : E[th]? = some (.inl 0, [none, none, some r2, some r3, some r4, some r5, some ma, some sa])) (hA : E[ma]? = some (.inr (.object "VirtualQueue$Line", 8), ra)) (hi9 : 0 ≤ i ∧ i < 8) (hs : z_Cl l d m_me_0 Q Wp)
    (hl : E.length < 1000) (hb : 1 + mc ≤ bc) (hb2 : 3 + ms ≤ bs) (hc : c' = (.inl 4, rc)) (hq : z_Sem l d 57 [.inr (.inr (.ref E.length)), .inl 150] (E ++ [((.inl 4, [none, none, none]) : m_Sh × List (Option Nat))], z_row J E.length (fun _ => 0), (z_row X.1 E.length (fun _ => 0), m_rowX X.2 E.length (fun _ => 0))) mc ms (fun o S' => o = .inl none ∧ S'.1 = (E ++ [((.inl 4, [none, none, none]) : m_Sh × List (Option Nat))]).set E.length c' ++ L ∧ x_nw (E ++ [((.inl 4, [none, none, none]) : m_Sh × List (Option Nat))]).length m (E ++ [((.inl 4, [none, none, none]) : m_Sh × List (Option Nat))], z_row J E.length (fun _ => 0), (z_row X.1 E.length (fun _ => 0), m_rowX X.2 E.length (fun _ => 0))) S'))
    (h : ∀ (J' : z_J) (X' : z_X), x_nw E.length (1 + m) (E, J, X) (E ++ (.inl 4, rc) :: L, J', X') → Wp 96 [some (.inr (.inr (.ref th))), some (.inl i)] [] ((E ++ (.inl 4, rc) :: L).set ma (.inr (.object "VirtualQueue$Line", 8), ra.set i.toNat (some E.length)), J', X') (bc - 1 - mc) (bs - 3 - ms)) : Wp 74 [some (.inr (.inr (.ref th))), some (.inl i)] [] (E, J, X) bc bs :=
  hs 400 [(4, 1), (10, 1), (21, 1), (32, 1), (43, 1), (54, 1), (63, 1), (72, 1), (74, 2), (96, 2), (111, 2)] [] 74 _ _ _ _ _ (⟨rfl, fun c9 => absurd c9 (by omega), fun _ => ⟨_, hE, ⟨⟨hl, (Nat.le_trans (Nat.le_add_right 1 mc) hb), (Nat.le_trans (Nat.le_add_right 3 ms) hb2)⟩, ⟨rfl, ⟨_, rfl, rfl, rfl, z_mkC (m := m) hq (Nat.le_sub_of_add_le (by omega)) (Nat.le_sub_of_add_le (by show ms + 3 ≤ bs; omega)) hc (fun J' X' hn => ⟨_, _, _, _, _, z_aL hA, z_aM, rfl, ⟨hi9.1, hi9.2⟩, h J' X' hn⟩)⟩⟩⟩⟩⟩)
set_option maxRecDepth 20000 in
theorem w_0i_96 {l : Launch} {d : Nat} {Q : z_O → z_S → Prop} {Wp : Nat → z_C} {E : m_E} {J : z_J} {X : z_X} {bc bs : Nat} {th : Nat} {r2 r3 r4 r5 ma sa : Nat} {i : Int} {ra rc : List (Option Nat)} {L : m_E} {c' : (Nat ⊕ (FieldType × Nat)) × List (Option Nat)} {m mc ms : Nat} (hE : E[th]? = some (.inl 0, [none, none, some r2, some r3, some r4, some r5, some ma, some sa])) (hA : E[sa]? = some (.inr (.object "VirtualQueue$Line", 8), ra)) (hi9 : 0 ≤ i ∧ i < 8) (hs : z_Cl l d m_me_0 Q Wp)
    (hl : E.length < 1000) (hb : 1 + mc ≤ bc) (hb2 : 3 + ms ≤ bs) (hc : c' = (.inl 4, rc)) (hq : z_Sem l d 57 [.inr (.inr (.ref E.length)), .inl 60] (E ++ [((.inl 4, [none, none, none]) : m_Sh × List (Option Nat))], z_row J E.length (fun _ => 0), (z_row X.1 E.length (fun _ => 0), m_rowX X.2 E.length (fun _ => 0))) mc ms (fun o S' => o = .inl none ∧ S'.1 = (E ++ [((.inl 4, [none, none, none]) : m_Sh × List (Option Nat))]).set E.length c' ++ L ∧ x_nw (E ++ [((.inl 4, [none, none, none]) : m_Sh × List (Option Nat))]).length m (E ++ [((.inl 4, [none, none, none]) : m_Sh × List (Option Nat))], z_row J E.length (fun _ => 0), (z_row X.1 E.length (fun _ => 0), m_rowX X.2 E.length (fun _ => 0))) S'))
    (h : ∀ (J' : z_J) (X' : z_X), x_nw E.length (1 + m) (E, J, X) (E ++ (.inl 4, rc) :: L, J', X') → Wp 111 [some (.inr (.inr (.ref th))), some (.inl i)] [] ((E ++ (.inl 4, rc) :: L).set sa (.inr (.object "VirtualQueue$Line", 8), ra.set i.toNat (some E.length)), J', X') (bc - 1 - mc) (bs - 3 - ms)) : Wp 96 [some (.inr (.inr (.ref th))), some (.inl i)] [] (E, J, X) bc bs :=
  hs 400 [(4, 1), (10, 1), (21, 1), (32, 1), (43, 1), (54, 1), (63, 1), (72, 1), (74, 2), (96, 2), (111, 2)] [] 96 _ _ _ _ _ (⟨_, hE, ⟨⟨hl, (Nat.le_trans (Nat.le_add_right 1 mc) hb), (Nat.le_trans (Nat.le_add_right 3 ms) hb2)⟩, ⟨rfl, ⟨_, rfl, rfl, rfl, z_mkC (m := m) hq (Nat.le_sub_of_add_le (by omega)) (Nat.le_sub_of_add_le (by show ms + 3 ≤ bs; omega)) hc (fun J' X' hn => ⟨_, _, _, _, _, z_aL hA, z_aM, rfl, ⟨hi9.1, hi9.2⟩, h J' X' hn⟩)⟩⟩⟩⟩)
set_option maxRecDepth 20000 in
theorem w_0i_111 {l : Launch} {d : Nat} {Q : z_O → z_S → Prop} {Wp : Nat → z_C} {E : m_E} {J : z_J} {X : z_X} {bc bs : Nat} {th : Nat} {i : Int} (hs : z_Cl l d m_me_0 Q Wp)
    (hi9 : 0 ≤ i ∧ i < 8) (h : Wp 74 [some (.inr (.inr (.ref th))), some (.inl (i + 1))] [] (E, J, X) bc bs) : Wp 111 [some (.inr (.inr (.ref th))), some (.inl i)] [] (E, J, X) bc bs :=
  hs 400 [(4, 1), (10, 1), (21, 1), (32, 1), (43, 1), (54, 1), (63, 1), (72, 1), (74, 2), (96, 2), (111, 2)] [] 111 _ _ _ _ _ (⟨rfl, ⟨by omega, by omega⟩, h⟩)
set_option maxRecDepth 20000 in
theorem w_0i_74e {l : Launch} {d : Nat} {Q : z_O → z_S → Prop} {Wp : Nat → z_C} {E : m_E} {J : z_J} {X : z_X} {bc bs : Nat} {th : Nat} {i : Int} (hs : z_Cl l d m_me_0 Q Wp)
    (hi9 : 8 ≤ i) (h : Q (.inl none) (E, J, X)) : Wp 74 [some (.inr (.inr (.ref th))), some (.inl i)] [] (E, J, X) bc bs :=
  hs 400 [(4, 1), (10, 1), (21, 1), (32, 1), (43, 1), (54, 1), (63, 1), (72, 1), (74, 2), (96, 2), (111, 2)] [] 74 _ _ _ _ _ (⟨rfl, fun _ => h, fun c9 => absurd c9 (by omega)⟩)
