/-! the machine over whole numbers is sound: its parts -/
theorem z_of {x : Int} (h : z_r x) : (Int32.ofInt x).toInt = x := Int32.toInt_ofInt_of_le (by unfold z_r at h; omega) (by unfold z_r at h; omega)
theorem z_ofL {x : Int} (h : z_q x) : (Int64.ofInt x).toInt = x := Int64.toInt_ofInt_of_le (by unfold z_q at h; omega) (by unfold z_q at h; omega)
theorem z_rof (x : Int32) : z_r x.toInt := by
  have h1 := Int32.le_toInt x
  have h2 := Int32.toInt_lt x
  unfold z_r
  omega
theorem z_qof (x : Int64) : z_q x.toInt := by
  have h1 := Int64.le_toInt x
  have h2 := Int64.toInt_lt x
  unfold z_q
  omega
theorem z_clamp {x : Int} (h : z_r x) : (Int32.ofInt x).toNatClampNeg = x.toNat := by
  show (Int32.ofInt x).toInt.toNat = _
  rw [z_of h]
theorem z_lt {x y : Int} (hx : z_r x) (hy : z_r y) : Int32.ofInt x < Int32.ofInt y ↔ x < y := by
  rw [Int32.lt_iff_toInt_lt, z_of hx, z_of hy]
theorem z_le {x y : Int} (hx : z_r x) (hy : z_r y) : Int32.ofInt x ≤ Int32.ofInt y ↔ x ≤ y := by
  rw [Int32.le_iff_toInt_le, z_of hx, z_of hy]
theorem z_eq {x y : Int} (hx : z_r x) (hy : z_r y) : Int32.ofInt x = Int32.ofInt y ↔ x = y := by
  rw [← Int32.toInt_inj, z_of hx, z_of hy]
theorem z_r0 : z_r 0 := by unfold z_r; omega
theorem z_o0 : (0 : Int32) = Int32.ofInt 0 := rfl
theorem z_in {i : Int} {n : Nat} (h : z_r i) (h0 : 0 ≤ i) (h1 : i < n) : vp_in (Int32.ofInt i) n := by
  rintro (h2 | h2)
  · rw [z_o0, z_lt h z_r0] at h2
    omega
  · rw [z_clamp h] at h2
    omega
theorem z_mL_getD {l : z_L} {i : Nat} : (z_mL l).getD i none = (l.getD i none).map z_val := by
  unfold z_mL
  rw [List.getD_eq_getElem?_getD, List.getD_eq_getElem?_getD, List.getElem?_map]
  cases l[i]? <;> rfl
theorem z_ldi_inv {l : z_L} {i : Nat} {k : Int → Prop} (h : z_ldi l i k) (hl : z_okL l) : ∃ x, k x ∧ z_r x ∧ ∀ k' : Int32 → Prop, k' (Int32.ofInt x) → m_ldi (z_mL l) i k' := by
  unfold z_ldi at h
  split at h
  · rename_i x hx
    exact ⟨x, h, hl i _ hx, fun k' hk => by unfold m_ldi; rw [z_mL_getD, hx]; exact hk⟩
  · exact h.elim
theorem z_lda_inv {l : z_L} {i : Nat} {k : Nat → Prop} (h : z_lda l i k) : ∃ x, k x ∧ ∀ k' : Nat → Prop, k' x → m_lda (z_mL l) i k' := by
  unfold z_lda at h
  split at h
  · rename_i x hx
    exact ⟨x, h, fun k' hk => by unfold m_lda; rw [z_mL_getD, hx]; exact hk⟩
  · exact h.elim
theorem z_ldl_inv {l : z_L} {i : Nat} {k : Int → Prop} (h : z_ldl l i k) (hl : z_okL l) : ∃ x, k x ∧ z_q x ∧ ∀ k' : Int64 → Prop, k' (Int64.ofInt x) → m_ldl (z_mL l) i k' := by
  unfold z_ldl at h
  split at h
  · rename_i x hx
    exact ⟨x, h, hl i _ hx, fun k' hk => by unfold m_ldl; rw [z_mL_getD, hx]; exact hk⟩
  · exact h.elim
theorem z_ldd_inv {l : z_L} {i : Nat} {k : UInt64 → Prop} (h : z_ldd l i k) : ∃ x, k x ∧ ∀ k' : UInt64 → Prop, k' x → m_ldd (z_mL l) i k' := by
  unfold z_ldd at h
  split at h
  · rename_i x hx
    exact ⟨x, h, fun k' hk => by unfold m_ldd; rw [z_mL_getD, hx]; exact hk⟩
  · exact h.elim
theorem z_clear_inv {l : z_L} {i : Nat} {k : Prop} (h : z_clear l i k) : k ∧ ∀ k' : Prop, k' → m_clear (z_mL l) i k' := by
  cases i with
  | zero => exact ⟨h, fun k' hk => hk⟩
  | succ j =>
    have h : (match l.getD j none with
      | some (.inr (.inl _)) => False
      | some (.inr (.inr (.long _))) => False
      | some (.inr (.inr (.double _))) => False
      | _ => k) := h
    have e : ∀ k' : Prop, m_clear (z_mL l) (j + 1) k' = (match (l.getD j none).map z_val with
      | some (.long _) => False
      | some (.double _) => False
      | _ => k') := fun k' => by
      rw [← z_mL_getD]; rfl
    generalize l.getD j none = q at h e
    match q, h with
    | none, h => exact ⟨h, fun k' hk => by rw [e]; exact hk⟩
    | some (.inl x), h => exact ⟨h, fun k' hk => by rw [e]; exact hk⟩
    | some (.inr (.inr (.int x))), h => exact ⟨h, fun k' hk => by rw [e]; exact hk⟩
    | some (.inr (.inr (.float x))), h => exact ⟨h, fun k' hk => by rw [e]; exact hk⟩
    | some (.inr (.inr (.ref x))), h => exact ⟨h, fun k' hk => by rw [e]; exact hk⟩
    | some (.inr (.inr .null)), h => exact ⟨h, fun k' hk => by rw [e]; exact hk⟩
    | some (.inr (.inr (.retAddr x))), h => exact ⟨h, fun k' hk => by rw [e]; exact hk⟩
theorem z_okL_set {l : z_L} (hl : z_okL l) {i : Nat} {w : Option z_W} (hw : ∀ v, w = some v → z_ok v) : z_okL (l.set i w) := by
  intro j v hv
  rw [List.getD_eq_getElem?_getD, List.getElem?_set] at hv
  by_cases hij : i = j
  · subst hij
    rw [if_pos rfl] at hv
    split at hv
    · exact hw v hv
    · cases hv
  · rw [if_neg hij, ← List.getD_eq_getElem?_getD] at hv
    exact hl j v hv
theorem z_mL_set {l : z_L} {i : Nat} {w : Option z_W} : z_mL (l.set i w) = (z_mL l).set i (w.map z_val) := by
  unfold z_mL
  rw [List.map_set]
theorem z_mL_len {l : z_L} : (z_mL l).length = l.length := List.length_map _
theorem z_put1_inv {l : z_L} {i : Nat} {v : z_W} {k : z_L → Prop} (h : z_put1 l i v k) (hl : z_okL l) (hv : z_ok v) : ∃ l', k l' ∧ z_okL l' ∧ ∀ k' : m_L → Prop, k' (z_mL l') → m_put1 (z_mL l) i (z_val v) k' := by
  unfold z_put1 at h
  split at h
  · rename_i hb
    obtain ⟨h1, h2⟩ := z_clear_inv h
    refine ⟨_, h1, z_okL_set hl (fun w hw => by cases hw; exact hv), fun k' hk => ?_⟩
    unfold m_put1
    rw [z_mL_len, hb]
    refine h2 _ ?_
    rw [z_mL_set] at hk
    exact hk
  · exact h.elim
theorem z_put2_inv {l : z_L} {i : Nat} {v : z_W} {k : z_L → Prop} (h : z_put2 l i v k) (hl : z_okL l) (hv : z_ok v) : ∃ l', k l' ∧ z_okL l' ∧ ∀ k' : m_L → Prop, k' (z_mL l') → m_put2 (z_mL l) i (z_val v) k' := by
  unfold z_put2 at h
  split at h
  · rename_i hb
    obtain ⟨h1, h2⟩ := z_clear_inv h
    refine ⟨_, h1, z_okL_set (z_okL_set hl (fun w hw => by cases hw; exact hv)) (fun w hw => by cases hw), fun k' hk => ?_⟩
    unfold m_put2
    rw [z_mL_len, hb]
    refine h2 _ ?_
    rw [z_mL_set, z_mL_set] at hk
    exact hk
  · exact h.elim
theorem z_bin_inv {w : Bool} {f : Int → Int → Int} {st : z_V} {k : z_V → Prop} (h : z_bin w f st k) : ∃ x y r z, st = .inl y :: .inl x :: r ∧ z_r z ∧ Int32.ofInt z = Int32.ofInt (f x y) ∧ k (.inl z :: r) := by
  unfold z_bin at h
  split at h
  · rename_i y x r
    split at h
    · exact ⟨x, y, r, _, rfl, h.1, rfl, h.2⟩
    · have hr := z_rof (Int32.ofInt (f x y))
      refine ⟨x, y, r, (Int32.ofInt (f x y)).toInt, rfl, hr, Int32.ofInt_toInt _, h _ hr.1 hr.2 (fun hz => z_of hz)⟩
  · exact h.elim
theorem z_bit_inv {f : Int32 → Int32 → Int32} {st : z_V} {k : z_V → Prop} (h : z_bit f st k) : ∃ x y r, st = .inl y :: .inl x :: r ∧ k (.inl (f (Int32.ofInt x) (Int32.ofInt y)).toInt :: r) := by
  unfold z_bit at h
  split at h
  · exact ⟨_, _, _, rfl, h⟩
  · exact h.elim
theorem z_binL_inv {f : Int → Int → Int} {st : z_V} {k : z_V → Prop} (h : z_binL f st k) : ∃ x y r, st = .inr (.inl y) :: .inr (.inl x) :: r ∧ z_q (f x y) ∧ k (.inr (.inl (f x y)) :: r) := by
  unfold z_binL at h
  split at h
  · exact ⟨_, _, _, rfl, h.1, h.2⟩
  · exact h.elim
theorem z_if1_inv {p q : Int → Prop} {st : z_V} {t f : z_V → Prop} (h : z_if1 p q st t f) : ∃ x r, st = .inl x :: r ∧ (p x → t r) ∧ (q x → f r) := by
  unfold z_if1 at h
  split at h
  · exact ⟨_, _, rfl, h.1, h.2⟩
  · exact h.elim
theorem z_if2_inv {p q : Int → Int → Prop} {st : z_V} {t f : z_V → Prop} (h : z_if2 p q st t f) : ∃ x y r, st = .inl y :: .inl x :: r ∧ (p x y → t r) ∧ (q x y → f r) := by
  unfold z_if2 at h
  split at h
  · exact ⟨_, _, _, rfl, h.1, h.2⟩
  · exact h.elim
theorem z_st_u {S : z_S} {a : Nat} {k x : Int} (hk : 0 ≤ k) : z_st (S.1, z_u S.2.1 a k x, S.2.2) = (S.1, m_u (z_st S).2.1 a k.toNat (Int32.ofInt x), (z_st S).2.2) := by
  have e : (fun (b j : Nat) => Int32.ofInt (z_u S.2.1 a k x b j)) = m_u (z_st S).2.1 a k.toNat (Int32.ofInt x) := by
    funext b j
    unfold z_u z_row z_up m_u m_row upd
    by_cases hb : b = a
    · subst hb
      rw [if_pos rfl, if_pos rfl]
      by_cases hj : j = k.toNat
      · rw [if_pos hj, if_pos (by omega)]
      · rw [if_neg hj, if_neg (by omega)]; rfl
    · rw [if_neg hb, if_neg hb]; rfl
  show (S.1, (fun (b j : Nat) => Int32.ofInt (z_u S.2.1 a k x b j)), _) = _
  rw [e]; rfl
theorem z_st_uL {S : z_S} {a : Nat} {k x : Int} (hk : 0 ≤ k) : z_st (S.1, S.2.1, z_u S.2.2.1 a k x, S.2.2.2) = (S.1, (z_st S).2.1, m_rowX (z_st S).2.2.1 a (vf_upd ((z_st S).2.2.1 a) k.toNat (Int64.ofInt x)), S.2.2.2) := by
  have e : (fun (b j : Nat) => Int64.ofInt (z_u S.2.2.1 a k x b j)) = m_rowX (z_st S).2.2.1 a (vf_upd ((z_st S).2.2.1 a) k.toNat (Int64.ofInt x)) := by
    funext b j
    unfold z_u z_row z_up m_rowX vf_upd
    by_cases hb : b = a
    · subst hb
      rw [if_pos rfl, if_pos rfl]
      by_cases hj : j = k.toNat
      · rw [if_pos hj, if_pos (by omega)]
      · rw [if_neg hj, if_neg (by omega)]; rfl
    · rw [if_neg hb, if_neg hb]; rfl
  show (S.1, _, (fun (b j : Nat) => Int64.ofInt (z_u S.2.2.1 a k x b j)), _) = _
  rw [e]; rfl
theorem z_okS_u {S : z_S} (hS : z_okS S) {a : Nat} {k x : Int} (hx : z_r x) : z_okS (S.1, z_u S.2.1 a k x, S.2.2) := by
  intro b j
  refine ⟨?_, (hS b j).2⟩
  show z_r (z_u S.2.1 a k x b j)
  unfold z_u z_row z_up
  by_cases hb : b = a
  · rw [if_pos hb]
    show z_r (if j = k then x else S.2.1 a j)
    split
    · exact hx
    · exact (hS a j).1
  · rw [if_neg hb]
    exact (hS b j).1
theorem z_okS_uL {S : z_S} (hS : z_okS S) {a : Nat} {k x : Int} (hx : z_q x) : z_okS (S.1, S.2.1, z_u S.2.2.1 a k x, S.2.2.2) := by
  intro b j
  refine ⟨(hS b j).1, ?_⟩
  show z_q (z_u S.2.2.1 a k x b j)
  unfold z_u z_row z_up
  by_cases hb : b = a
  · rw [if_pos hb]
    show z_q (if j = k then x else S.2.2.1 a j)
    split
    · exact hx
    · exact (hS a j).2
  · rw [if_neg hb]
    exact (hS b j).2
theorem z_narB {x : Int} (h : x = 0 ∨ x = 1) : vp_nar .boolean (Int32.ofInt x) = Int32.ofInt x := by
  rcases h with rfl | rfl <;> rfl
theorem z_nar {ty : FieldType} {x : Int} (h : z_fit ty x) : m_nar ty (Int32.ofInt x) = Int32.ofInt x := by
  unfold m_nar
  split
  · exact z_narB h
  · have h : -128 ≤ x ∧ x ≤ 127 := h
    show (Int32.ofInt x).toInt8.toInt32 = Int32.ofInt x
    apply Int32.toInt.inj
    simp only [Int8.toInt_toInt32, Int32.toInt_toInt8]
    rw [z_of (by unfold z_r; omega), Int.bmod_eq_of_le (by omega) (by omega)]
  · rfl
theorem z_fits {ty : FieldType} {x : Int} (hr : z_r x) (ht : m_small ty = true) (h : z_fit ty x) : fits ty (.int (Int32.ofInt x)) = true := by
  unfold m_small at ht
  split at ht
  · rfl
  · rcases h with rfl | rfl <;> rfl
  · have h : -128 ≤ x ∧ x ≤ 127 := h
    show (decide (-128 ≤ Int32.ofInt x) && decide (Int32.ofInt x ≤ 127)) = true
    rw [show (-128 : Int32) = Int32.ofInt (-128) from rfl, show (127 : Int32) = Int32.ofInt 127 from rfl]
    simp only [Bool.and_eq_true, decide_eq_true_eq]
    rw [z_le (by unfold z_r; omega) hr, z_le hr (by unfold z_r; omega)]
    exact h
  · cases ht
theorem z_st_row {S : z_S} {a : Nat} {f : Int → Int} : z_st (S.1, z_row S.2.1 a f, S.2.2) = (S.1, m_row (z_st S).2.1 a (fun j => Int32.ofInt (f j)), (z_st S).2.2) := by
  have e : (fun (b j : Nat) => Int32.ofInt (z_row S.2.1 a f b j)) = m_row (z_st S).2.1 a (fun j => Int32.ofInt (f j)) := by
    funext b j
    unfold z_row m_row
    by_cases hb : b = a
    · rw [if_pos hb, if_pos hb]
    · rw [if_neg hb, if_neg hb]; rfl
  show (S.1, (fun (b j : Nat) => Int32.ofInt (z_row S.2.1 a f b j)), _) = _
  rw [e]; rfl
theorem z_okS_row {S : z_S} (hS : z_okS S) {a : Nat} {f : Int → Int} (hf : ∀ j, z_r (f j)) : z_okS (S.1, z_row S.2.1 a f, S.2.2) := by
  intro b j
  refine ⟨?_, (hS b j).2⟩
  show z_r (z_row S.2.1 a f b j)
  unfold z_row
  split
  · exact hf j
  · exact (hS b j).1
theorem z_cpy_m {f g : Int → Int} {sp dp n : Int} (h1 : 0 ≤ sp) (h2 : 0 ≤ dp) (h3 : 0 ≤ n) : (fun (j : Nat) => Int32.ofInt (z_cpy f g sp dp n j)) = va_cpy (fun j => Int32.ofInt (f j)) (fun j => Int32.ofInt (g j)) sp.toNat dp.toNat n.toNat := by
  funext j
  unfold z_cpy va_cpy
  by_cases hj : dp.toNat ≤ j ∧ j < dp.toNat + n.toNat
  · rw [if_pos hj, if_pos (by omega), show sp + ((j : Int) - dp) = ((sp.toNat + (j - dp.toNat) : Nat) : Int) by omega]
  · rw [if_neg hj, if_neg (by omega)]
theorem z_isA_m {S : z_S} {a : Nat} {k : FieldType → Nat → Prop} (h : z_isA S a k) (hS : z_okS S) : ∃ ty n, k ty n ∧ ∀ k' : FieldType → Nat → Prop, k' ty n → m_arrL (z_st S) a k' := by
  rcases h with ⟨ty, n, rs, h1, h2⟩ | ⟨h1, rfl, h2⟩
  · refine ⟨ty, n, h2, fun k' hk => ?_⟩
    unfold m_arrL
    rw [show (z_st S).1[a]? = some (.inr (ty, n), rs) from h1]
    exact hk
  · refine ⟨_, _, h2, fun k' hk => ?_⟩
    unfold m_arrL
    rw [show (z_st S).1[2000000]? = none from h1]
    show k' .int (Int32.ofInt (S.2.1 2000001 0)).toNatClampNeg
    rw [z_clamp (hS _ _).1]
    exact hk
theorem z_arr_m {S : z_S} {a : Nat} {ty : FieldType} {n : Nat} {rs : List (Option Nat)} (h : S.1[a]? = some (.inr (ty, n), rs)) {k' : FieldType → Nat → List (Option Nat) → Prop} (hk : k' ty n rs) : m_arr (z_st S) a k' := by
  unfold m_arr
  rw [show (z_st S).1[a]? = some (.inr (ty, n), rs) from h]
  exact hk
theorem z_obj_m {S : z_S} {o ci : Nat} {rs : List (Option Nat)} (h : S.1[o]? = some (.inl ci, rs)) {k' : List (Option Nat) → Prop} (hk : k' rs) : m_obj (z_st S) o ci k' := by
  unfold m_obj
  rw [show (z_st S).1[o]? = some (.inl ci, rs) from h]
  show (match Nat.beq ci ci with
    | true => k' rs
    | false => False)
  rw [Nat.beq_refl]
  exact hk
theorem m_tlen {i : Nat} {cs : List Int32} (h : m_tchars[i]? = some cs) : z_r (cs.length : Int) := by
  have h1 : cs ∈ m_tchars := List.mem_of_getElem? h
  have h2 : ∀ c ∈ m_tchars, c.length ≤ 1000 := by decide +kernel
  have h3 := h2 cs h1
  unfold z_r
  omega
