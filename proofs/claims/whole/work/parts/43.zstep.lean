/-! the machine over whole numbers is sound: every instruction -/
theorem z_q0 : z_q 0 := by unfold z_q; omega
theorem z_mV_c {v : Int32} {st : z_V} : z_mV (.inl v.toInt :: st) = .int v :: z_mV st := by
  show Value.int (Int32.ofInt v.toInt) :: z_mV st = _
  rw [Int32.ofInt_toInt]
theorem z_wide_inv {v : z_W} {k : Prop} (h : z_wide v k) : k ∧ ∀ k' : Prop, k' → m_ok1 (z_val v) k' := by
  match v, h with
  | .inl x, h => exact ⟨h, fun k' hk => hk⟩
  | .inr (.inr (.int x)), h => exact ⟨h, fun k' hk => hk⟩
  | .inr (.inr (.float x)), h => exact ⟨h, fun k' hk => hk⟩
  | .inr (.inr (.ref x)), h => exact ⟨h, fun k' hk => hk⟩
  | .inr (.inr .null), h => exact ⟨h, fun k' hk => hk⟩
  | .inr (.inr (.retAddr x)), h => exact ⟨h, fun k' hk => hk⟩
theorem z_ne1 {x : Int} (hx : z_r x) : ¬ Int32.ofInt x = 0 ↔ x ≠ 0 := by
  rw [z_o0, z_eq hx z_r0]
theorem z_div {x y : Int} (hx : z_r x) (hy : z_r y) (h0 : 0 ≤ x) (h1 : 0 < y) : Int32.ofInt (x / y) = Int32.ofInt x / Int32.ofInt y := by
  apply Int32.toInt.inj
  have h2 : x / y ≤ x := Int.ediv_le_self y h0
  have h3 : 0 ≤ x / y := Int.ediv_nonneg h0 (by omega)
  have hr : z_r (x / y) := by unfold z_r at *; omega
  rw [Int32.toInt_div, z_of hx, z_of hy, z_of hr, Int.tdiv_eq_ediv_of_nonneg h0]
  unfold z_r at hr
  rw [Int.bmod_eq_of_le (by omega) (by omega)]
theorem z_rem {x y : Int} (hx : z_r x) (hy : z_r y) (h0 : 0 ≤ x) (h1 : 0 < y) : z_r (x % y) ∧ Int32.ofInt (x % y) = Int32.ofInt x - Int32.ofInt x / Int32.ofInt y * Int32.ofInt y := by
  have h2 := Int.emod_nonneg x (show y ≠ 0 by omega)
  have h3 := Int.emod_lt_of_pos x h1
  refine ⟨by unfold z_r at *; omega, ?_⟩
  rw [← z_div hx hy h0 h1, ← Int32.ofInt_mul, ← Int32.ofInt_sub]
  congr 1
  have := Int.emod_def x y
  rw [this, Int.mul_comm]
theorem z_i2b {x : Int} (hx : z_r x) : z_r ((x + 128) % 256 - 128) ∧ Int32.ofInt ((x + 128) % 256 - 128) = (Int32.ofInt x).toInt8.toInt32 := by
  have hr : z_r ((x + 128) % 256 - 128) := by unfold z_r; omega
  refine ⟨hr, ?_⟩
  apply Int32.toInt.inj
  rw [Int8.toInt_toInt32, Int32.toInt_toInt8, z_of hx, z_of hr]
  have e : x.bmod (2 ^ 8) = (if x % 256 < 128 then x % 256 else x % 256 - 256) := rfl
  rw [e]
  split <;> omega
theorem z_i2c {x : Int} (hx : z_r x) : z_r (x % 65536) ∧ Int32.ofInt (x % 65536) = ((Int32.ofInt x).toUInt32 % 65536).toInt32 := by
  have hr : z_r (x % 65536) := by unfold z_r; omega
  refine ⟨hr, ?_⟩
  apply Int32.toInt.inj
  rw [z_of hr]
  have e1 : ((Int32.ofInt x).toUInt32 % 65536).toNat = (x % 65536).toNat := by
    rw [UInt32.toNat_mod]
    have e2 : ((Int32.ofInt x).toUInt32.toNat : Int) = x % 4294967296 := by
      have e3 : (Int32.ofInt x).toUInt32.toNat = (BitVec.ofInt 32 x).toNat := rfl
      rw [e3, BitVec.toNat_ofInt]
      have : 0 ≤ x % 4294967296 := Int.emod_nonneg x (by decide)
      show ((x % 4294967296).toNat : Int) = _
      omega
    have e4 : (65536 : UInt32).toNat = 65536 := rfl
    rw [e4]
    omega
  generalize hu : (Int32.ofInt x).toUInt32 % 65536 = u at e1
  have e5 : u.toInt32.toInt = (u.toNat : Int) := by
    have hlt : u.toNat < 65536 := by omega
    have e6 : u.toInt32.toInt = u.toBitVec.toInt := rfl
    rw [e6, BitVec.toInt_eq_toNat_of_lt (by show 2 * u.toNat < 2 ^ 32; omega)]
    rfl
  rw [e5, e1]
  omega
theorem z_cmp {x y : Int} (hx : z_q x) (hy : z_q y) : z_r (if y < x then 1 else if x = y then 0 else -1) ∧ Int32.ofInt (if y < x then 1 else if x = y then 0 else -1) = lg_cmp (Int64.ofInt x) (Int64.ofInt y) := by
  unfold lg_cmp
  have e1 : (Int64.ofInt x > Int64.ofInt y) ↔ y < x := by
    show Int64.ofInt y < Int64.ofInt x ↔ _
    rw [Int64.lt_iff_toInt_lt, z_ofL hx, z_ofL hy]
  have e2 : Int64.ofInt x = Int64.ofInt y ↔ x = y := by
    rw [← Int64.toInt_inj, z_ofL hx, z_ofL hy]
  by_cases h1 : y < x
  · rw [if_pos h1, if_pos (e1.mpr h1)]
    exact ⟨by unfold z_r; omega, rfl⟩
  · rw [if_neg h1, if_neg (fun q => h1 (e1.mp q))]
    by_cases h2 : x = y
    · rw [if_pos h2, if_pos (e2.mpr h2)]
      exact ⟨by unfold z_r; omega, rfl⟩
    · rw [if_neg h2, if_neg (fun q => h2 (e2.mp q))]
      exact ⟨by unfold z_r; omega, rfl⟩
theorem z_st_app {S : z_S} {E : m_E} {a : Nat} : z_st (E, z_row S.2.1 a (fun _ => 0), z_row S.2.2.1 a (fun _ => 0), m_rowX S.2.2.2 a (fun _ => 0)) = (E, m_zero (z_st S) a) := by
  have e : (fun (b j : Nat) => Int32.ofInt (z_row S.2.1 a (fun _ => 0) b j)) = m_row (z_st S).2.1 a (fun _ => 0) := by
    funext b j
    unfold z_row m_row
    by_cases hb : b = a
    · rw [if_pos hb, if_pos hb]; rfl
    · rw [if_neg hb, if_neg hb]; rfl
  have e2 : (fun (b j : Nat) => Int64.ofInt (z_row S.2.2.1 a (fun _ => 0) b j)) = m_rowX (z_st S).2.2.1 a (fun _ => 0) := by
    funext b j
    unfold z_row m_rowX
    by_cases hb : b = a
    · rw [if_pos hb, if_pos hb]; rfl
    · rw [if_neg hb, if_neg hb]; rfl
  show (E, (fun (b j : Nat) => Int32.ofInt (z_row S.2.1 a (fun _ => 0) b j)), (fun (b j : Nat) => Int64.ofInt (z_row S.2.2.1 a (fun _ => 0) b j)), _) = _
  rw [e, e2]; rfl
theorem z_okS_app {S : z_S} (hS : z_okS S) {E : m_E} {a : Nat} {D : Nat → Nat → UInt64} : z_okS (E, z_row S.2.1 a (fun _ => 0), z_row S.2.2.1 a (fun _ => 0), D) := by
  intro b j
  constructor
  · show z_r (z_row S.2.1 a (fun _ => 0) b j)
    unfold z_row
    split
    · exact z_r0
    · exact (hS b j).1
  · show z_q (z_row S.2.2.1 a (fun _ => 0) b j)
    unfold z_row
    split
    · exact z_q0
    · exact (hS b j).2
theorem z_st_zs {S : z_S} {E : m_E} {a n : Nat} : z_st (E, z_zeros S.2.1 a n, z_zeros S.2.2.1 a n, fun b => if a ≤ b ∧ b < a + n then (fun _ => 0) else S.2.2.2 b) = (E, m_zeros (z_st S) a n) := by
  have e : (fun (b j : Nat) => Int32.ofInt (z_zeros S.2.1 a n b j)) = (m_zeros (z_st S) a n).1 := by
    funext b j
    unfold z_zeros m_zeros
    show _ = (if a ≤ b ∧ b < a + n then (fun _ => 0) else (z_st S).2.1 b) j
    by_cases hb : a ≤ b ∧ b < a + n
    · rw [if_pos hb, if_pos hb]; rfl
    · rw [if_neg hb, if_neg hb]; rfl
  have e2 : (fun (b j : Nat) => Int64.ofInt (z_zeros S.2.2.1 a n b j)) = (m_zeros (z_st S) a n).2.1 := by
    funext b j
    unfold z_zeros m_zeros
    show _ = (if a ≤ b ∧ b < a + n then (fun _ => 0) else (z_st S).2.2.1 b) j
    by_cases hb : a ≤ b ∧ b < a + n
    · rw [if_pos hb, if_pos hb]; rfl
    · rw [if_neg hb, if_neg hb]; rfl
  show (E, (fun (b j : Nat) => Int32.ofInt (z_zeros S.2.1 a n b j)), (fun (b j : Nat) => Int64.ofInt (z_zeros S.2.2.1 a n b j)), _) = _
  rw [e, e2]; rfl
theorem z_okS_zs {S : z_S} (hS : z_okS S) {E : m_E} {a n : Nat} {D : Nat → Nat → UInt64} : z_okS (E, z_zeros S.2.1 a n, z_zeros S.2.2.1 a n, D) := by
  intro b j
  constructor
  · show z_r (z_zeros S.2.1 a n b j)
    unfold z_zeros
    split
    · exact z_r0
    · exact (hS b j).1
  · show z_q (z_zeros S.2.2.1 a n b j)
    unfold z_zeros
    split
    · exact z_q0
    · exact (hS b j).2
theorem z_if1_s {p q : Int → Prop} {mp : Int32 → Prop} {zst : z_V} {zt zf : z_V → Prop} {mt mf : m_V → Prop} (h : z_if1 p q zst zt zf) (hv : z_okV zst) (hp : ∀ x, z_r x → (mp (Int32.ofInt x) → p x) ∧ (¬ mp (Int32.ofInt x) → q x)) (ht : ∀ r, zt r → z_okV r → mt (z_mV r)) (hf : ∀ r, zf r → z_okV r → mf (z_mV r)) : m_if1 mp (z_mV zst) mt mf := by
  obtain ⟨x, r, rfl, h1, h2⟩ := z_if1_inv h
  exact ⟨fun c => ht r (h1 ((hp x hv.1).1 c)) hv.2, fun c => hf r (h2 ((hp x hv.1).2 c)) hv.2⟩
theorem z_if2_s {p q : Int → Int → Prop} {mp : Int32 → Int32 → Prop} {zst : z_V} {zt zf : z_V → Prop} {mt mf : m_V → Prop} (h : z_if2 p q zst zt zf) (hv : z_okV zst) (hp : ∀ x y, z_r x → z_r y → (mp (Int32.ofInt x) (Int32.ofInt y) → p x y) ∧ (¬ mp (Int32.ofInt x) (Int32.ofInt y) → q x y)) (ht : ∀ r, zt r → z_okV r → mt (z_mV r)) (hf : ∀ r, zf r → z_okV r → mf (z_mV r)) : m_if2 mp (z_mV zst) mt mf := by
  obtain ⟨x, y, r, rfl, h1, h2⟩ := z_if2_inv h
  exact ⟨fun c => ht r (h1 ((hp x y hv.2.1 hv.1).1 c)) hv.2.2, fun c => hf r (h2 ((hp x y hv.2.1 hv.1).2 c)) hv.2.2⟩
theorem z_bin_s {w : Bool} {f : Int → Int → Int} {g : Int32 → Int32 → Int32} {zst : z_V} {zk : z_V → Prop} {mk : m_V → Prop} (h : z_bin w f zst zk) (hv : z_okV zst) (hg : ∀ x y, Int32.ofInt (f x y) = g (Int32.ofInt x) (Int32.ofInt y)) (hk : ∀ r, zk r → z_okV r → mk (z_mV r)) : m_bin g (z_mV zst) mk := by
  obtain ⟨x, y, r, z, rfl, h1, h2, h3⟩ := z_bin_inv h
  show mk (.int (g (Int32.ofInt x) (Int32.ofInt y)) :: z_mV r)
  rw [← hg, ← h2]
  exact hk _ h3 ⟨h1, hv.2.2⟩
theorem z_bit_s {f : Int32 → Int32 → Int32} {zst : z_V} {zk : z_V → Prop} {mk : m_V → Prop} (h : z_bit f zst zk) (hv : z_okV zst) (hk : ∀ r, zk r → z_okV r → mk (z_mV r)) : m_bin f (z_mV zst) mk := by
  obtain ⟨x, y, r, rfl, h3⟩ := z_bit_inv h
  have h4 := hk _ h3 ⟨z_rof _, hv.2.2⟩
  rw [z_mV_c] at h4
  exact h4
theorem z_binL_s {f : Int → Int → Int} {g : Int64 → Int64 → Int64} {zst : z_V} {zk : z_V → Prop} {mk : m_V → Prop} (h : z_binL f zst zk) (hv : z_okV zst) (hg : ∀ x y, Int64.ofInt (f x y) = g (Int64.ofInt x) (Int64.ofInt y)) (hk : ∀ r, zk r → z_okV r → mk (z_mV r)) : m_binL g (z_mV zst) mk := by
  obtain ⟨x, y, r, rfl, h1, h3⟩ := z_binL_inv h
  show mk (.long (g (Int64.ofInt x) (Int64.ofInt y)) :: z_mV r)
  rw [← hg]
  exact hk _ h3 ⟨h1, hv.2.2⟩
theorem z_load_s {S : z_S} {small : FieldType → Bool} {zst : z_V} {zk : Int → z_V → Prop} {mk : Int32 → m_V → Prop} (h : z_load S small zst zk) (hv : z_okV zst) (hS : z_okS S) (hk : ∀ x r, zk x r → z_r x → z_okV r → mk (Int32.ofInt x) (z_mV r)) : m_load (z_st S) small (z_mV zst) mk := by
  unfold z_load at h
  split at h
  · rename_i i a r
    obtain ⟨ty, n, ⟨h1, h2, h3⟩, h4⟩ := z_isA_m h.1 hS
    unfold m_load
    refine h4 _ ?_
    show (match small ty with
      | true => vp_in (Int32.ofInt i) n ∧ mk ((z_st S).2.1 a (Int32.ofInt i).toNatClampNeg) (z_mV r)
      | false => False)
    rw [h1]
    refine ⟨z_in hv.1 h2 h3, ?_⟩
    rw [z_clamp hv.1]
    have h5 := hk _ _ h.2 (hS a i).1 hv.2.2
    rw [show S.2.1 a i = S.2.1 a (i.toNat : Int) by rw [Int.toNat_of_nonneg h2]] at h5
    exact h5
  · exact h.elim
theorem z_store_s {S : z_S} {small : FieldType → Bool} {zst : z_V} {zk : z_J → z_V → Prop} {mk : m_I → m_V → Prop} (h : z_store S small zst zk) (hv : z_okV zst) (hk : ∀ J r a k x, zk J r → J = z_u S.2.1 a k x → 0 ≤ k → z_r x → z_okV r → mk (m_u (z_st S).2.1 a k.toNat (Int32.ofInt x)) (z_mV r)) : m_store (z_st S) small (z_mV zst) mk := by
  unfold z_store at h
  split at h
  · rename_i x i a r
    obtain ⟨⟨ty, n, rs, h1, h2, ⟨h3, h4⟩, h5⟩, h6⟩ := h
    unfold m_store
    refine z_arr_m h1 ?_
    show (match small ty with
      | true => vp_in (Int32.ofInt i) n ∧ mk (m_u (z_st S).2.1 a (Int32.ofInt i).toNatClampNeg (m_nar ty (Int32.ofInt x))) (z_mV r)
      | false => False)
    rw [h2]
    refine ⟨z_in hv.2.1 h3 h4, ?_⟩
    rw [z_clamp hv.2.1, z_nar h5]
    exact hk _ r a i x h6 rfl h3 hv.1 hv.2.2.2
  · exact h.elim
set_option maxHeartbeats 4000000 in
theorem z_step_sound {l : Launch} {d : Nat} {rt : Option FieldType} {zQ : z_O → z_S → Prop} {Q : m_O → m_S → Prop} {zex : Nat → String → z_L → z_S → Nat → Nat → Prop} {ex : Nat → String → m_L → m_S → Nat → Nat → Prop} {w : Bool} {e : m_Ent} {znx : z_C} {nx : m_C} {zjp : Nat → z_C} {jp : Nat → m_C} {zl : z_L} {zst : z_V} {zS : z_S} {bc bs : Nat}
    (hQ : ∀ o S, zQ o S → z_okO o → z_okS S → Q (z_out o) (z_st S)) (hnx : ∀ l st S bc bs, znx l st S bc bs → z_okL l → z_okV st → z_okS S → nx (z_mL l) (z_mV st) (z_st S) bc bs) (hjp : ∀ t l st S bc bs, zjp t l st S bc bs → z_okL l → z_okV st → z_okS S → jp t (z_mL l) (z_mV st) (z_st S) bc bs) (hex : ∀ pc X l S bc bs, zex pc X l S bc bs → z_okL l → z_okS S → ex pc X (z_mL l) (z_st S) bc bs)
    (h : z_step (z_Call l d) rt zQ zex w e znx zjp zl zst zS bc bs) (hl : z_okL zl) (hv : z_okV zst) (hS : z_okS zS) : m_step (m_Call l d) rt Q ex e nx jp (z_mL zl) (z_mV zst) (z_st zS) bc bs := by
  obtain ⟨⟨pc, ln⟩, ins, v, a, b, c, t⟩ := e
  cases ins with
  | iconst i =>
    obtain ⟨rfl, h⟩ : v.toInt = i ∧ znx zl (.inl i :: zst) zS bc bs := h
    have h3 := hnx _ _ _ _ _ h hl ⟨z_rof v, hv⟩ hS
    rw [z_mV_c] at h3
    exact h3
  | bipush i =>
    obtain ⟨rfl, h⟩ : v.toInt = i ∧ znx zl (.inl i :: zst) zS bc bs := h
    have h3 := hnx _ _ _ _ _ h hl ⟨z_rof v, hv⟩ hS
    rw [z_mV_c] at h3
    exact h3
  | sipush i =>
    obtain ⟨rfl, h⟩ : v.toInt = i ∧ znx zl (.inl i :: zst) zS bc bs := h
    have h3 := hnx _ _ _ _ _ h hl ⟨z_rof v, hv⟩ hS
    rw [z_mV_c] at h3
    exact h3
  | ldc i =>
    cases t with
    | zero =>
      have h : znx zl (.inl v.toInt :: zst) zS bc bs := h
      have h3 := hnx _ _ _ _ _ h hl ⟨z_rof v, hv⟩ hS
      rw [z_mV_c] at h3
      exact h3
    | succ t' => exact hnx _ (.inr (.inr (.ref (m_str a))) :: zst) _ _ _ h hl ⟨True.intro, hv⟩ hS
  | ldc_w i =>
    cases t with
    | zero =>
      have h : znx zl (.inl v.toInt :: zst) zS bc bs := h
      have h3 := hnx _ _ _ _ _ h hl ⟨z_rof v, hv⟩ hS
      rw [z_mV_c] at h3
      exact h3
    | succ t' => exact h.elim
  | ldc2_w i =>
    have h : znx zl (.inr (.inl v.toInt) :: zst) zS bc bs := h
    have h3 := hnx _ _ _ _ _ h hl ⟨(show z_q v.toInt from by have := z_rof v; unfold z_r at this; unfold z_q; omega), hv⟩ hS
    have e : z_mV (.inr (.inl v.toInt) :: zst) = .long v.toInt64 :: z_mV zst := by
      show Value.long (Int64.ofInt v.toInt) :: z_mV zst = _
      rfl
    rw [e] at h3
    exact h3
  | lconst n =>
    have h : znx zl (.inr (.inl (n.val : Int)) :: zst) zS bc bs := h
    have h3 := hnx _ _ _ _ _ h hl ⟨(show z_q (n.val : Int) from by have := n.isLt; unfold z_q; omega), hv⟩ hS
    have e : z_mV (.inr (.inl (n.val : Int)) :: zst) = .long (Int64.ofNat n.val) :: z_mV zst := by
      show Value.long (Int64.ofInt (n.val : Int)) :: z_mV zst = _
      rw [Int64.ofInt_eq_ofNat]
    rw [e] at h3
    exact h3
  | dconst n =>
    match n, h with
    | ⟨0, _⟩, h => exact hnx _ (.inr (.inr (.double FP.dconst0)) :: zst) _ _ _ h hl ⟨True.intro, hv⟩ hS
    | ⟨1, _⟩, h => exact h.elim
  | iload i =>
    obtain ⟨x, h1, h2, h3⟩ := z_ldi_inv (i := i) h hl
    exact h3 _ (hnx _ (.inl x :: zst) _ _ _ h1 hl ⟨h2, hv⟩ hS)
  | iload_n i =>
    obtain ⟨x, h1, h2, h3⟩ := z_ldi_inv (i := i.val) h hl
    exact h3 _ (hnx _ (.inl x :: zst) _ _ _ h1 hl ⟨h2, hv⟩ hS)
  | aload i =>
    obtain ⟨x, h1, h3⟩ := z_lda_inv (i := i) h
    exact h3 _ (hnx _ (.inr (.inr (.ref x)) :: zst) _ _ _ h1 hl ⟨True.intro, hv⟩ hS)
  | aload_n i =>
    obtain ⟨x, h1, h3⟩ := z_lda_inv (i := i.val) h
    exact h3 _ (hnx _ (.inr (.inr (.ref x)) :: zst) _ _ _ h1 hl ⟨True.intro, hv⟩ hS)
  | lload i =>
    obtain ⟨x, h1, h2, h3⟩ := z_ldl_inv (i := i) h hl
    exact h3 _ (hnx _ (.inr (.inl x) :: zst) _ _ _ h1 hl ⟨h2, hv⟩ hS)
  | lload_n i =>
    obtain ⟨x, h1, h2, h3⟩ := z_ldl_inv (i := i.val) h hl
    exact h3 _ (hnx _ (.inr (.inl x) :: zst) _ _ _ h1 hl ⟨h2, hv⟩ hS)
  | dload i =>
    obtain ⟨x, h1, h3⟩ := z_ldd_inv (i := i) h
    exact h3 _ (hnx _ (.inr (.inr (.double x)) :: zst) _ _ _ h1 hl ⟨True.intro, hv⟩ hS)
  | istore i =>
    match zst, h, hv with
    | .inl x :: r, h, hv =>
      have h : z_put1 zl i (.inl x) (fun l' => znx l' r zS bc bs) := h
      obtain ⟨l', h1, h2, h3⟩ := z_put1_inv h hl hv.1
      show m_put1 (z_mL zl) i (z_val (.inl x)) (fun l' => nx l' (z_mV r) (z_st zS) bc bs)
      exact h3 _ (hnx _ r _ _ _ h1 h2 hv.2 hS)
  | istore_n i =>
    match zst, h, hv with
    | .inl x :: r, h, hv =>
      have h : z_put1 zl i.val (.inl x) (fun l' => znx l' r zS bc bs) := h
      obtain ⟨l', h1, h2, h3⟩ := z_put1_inv h hl hv.1
      show m_put1 (z_mL zl) i.val (z_val (.inl x)) (fun l' => nx l' (z_mV r) (z_st zS) bc bs)
      exact h3 _ (hnx _ r _ _ _ h1 h2 hv.2 hS)
  | astore i =>
    match zst, h, hv with
    | .inr (.inr (.ref x)) :: r, h, hv =>
      have h : z_put1 zl i (.inr (.inr (.ref x))) (fun l' => znx l' r zS bc bs) := h
      obtain ⟨l', h1, h2, h3⟩ := z_put1_inv h hl hv.1
      show m_put1 (z_mL zl) i (z_val (.inr (.inr (.ref x)))) (fun l' => nx l' (z_mV r) (z_st zS) bc bs)
      exact h3 _ (hnx _ r _ _ _ h1 h2 hv.2 hS)
  | astore_n i =>
    match zst, h, hv with
    | .inr (.inr (.ref x)) :: r, h, hv =>
      have h : z_put1 zl i.val (.inr (.inr (.ref x))) (fun l' => znx l' r zS bc bs) := h
      obtain ⟨l', h1, h2, h3⟩ := z_put1_inv h hl hv.1
      show m_put1 (z_mL zl) i.val (z_val (.inr (.inr (.ref x)))) (fun l' => nx l' (z_mV r) (z_st zS) bc bs)
      exact h3 _ (hnx _ r _ _ _ h1 h2 hv.2 hS)
  | lstore i =>
    match zst, h, hv with
    | .inr (.inl x) :: r, h, hv =>
      have h : z_put2 zl i (.inr (.inl x)) (fun l' => znx l' r zS bc bs) := h
      obtain ⟨l', h1, h2, h3⟩ := z_put2_inv h hl hv.1
      show m_put2 (z_mL zl) i (z_val (.inr (.inl x))) (fun l' => nx l' (z_mV r) (z_st zS) bc bs)
      exact h3 _ (hnx _ r _ _ _ h1 h2 hv.2 hS)
  | dstore i =>
    match zst, h, hv with
    | .inr (.inr (.double x)) :: r, h, hv =>
      have h : z_put2 zl i (.inr (.inr (.double x))) (fun l' => znx l' r zS bc bs) := h
      obtain ⟨l', h1, h2, h3⟩ := z_put2_inv h hl hv.1
      show m_put2 (z_mL zl) i (z_val (.inr (.inr (.double x)))) (fun l' => nx l' (z_mV r) (z_st zS) bc bs)
      exact h3 _ (hnx _ r _ _ _ h1 h2 hv.2 hS)
  | iinc i c9 =>
    obtain ⟨rfl, h⟩ : v.toInt = c9 ∧ z_ldi zl i (fun x => (-2147483648 ≤ x + c9 ∧ x + c9 ≤ 2147483647) ∧ z_put1 zl i (.inl (x + c9)) (fun l' => znx l' zst zS bc bs)) := h
    obtain ⟨x, ⟨h1, h2⟩, h3, h4⟩ := z_ldi_inv h hl
    obtain ⟨l', h5, h6, h7⟩ := z_put1_inv h2 hl (show z_ok (.inl (x + v.toInt)) from h1)
    show m_ldi (z_mL zl) i (fun x => m_put1 (z_mL zl) i (.int (x + v)) (fun l' => nx l' (z_mV zst) (z_st zS) bc bs))
    refine h4 _ ?_
    have h8 := h7 (fun l' => nx l' (z_mV zst) (z_st zS) bc bs) (hnx _ zst _ _ _ h5 h6 hv hS)
    have e : z_val (.inl (x + v.toInt)) = .int (Int32.ofInt x + v) := by
      show Value.int (Int32.ofInt (x + v.toInt)) = _
      rw [Int32.ofInt_add, Int32.ofInt_toInt]
    rw [e] at h8
    exact h8
  | iadd =>
    have h : z_bin w (fun x y => x + y) zst (fun r => znx zl r zS bc bs) := h
    show m_bin (fun x y => x + y) (z_mV zst) (fun r => nx (z_mL zl) r (z_st zS) bc bs)
    exact z_bin_s h hv Int32.ofInt_add (fun r h1 h2 => hnx _ _ _ _ _ h1 hl h2 hS)
  | isub =>
    have h : z_bin w (fun x y => x - y) zst (fun r => znx zl r zS bc bs) := h
    show m_bin (fun x y => x - y) (z_mV zst) (fun r => nx (z_mL zl) r (z_st zS) bc bs)
    exact z_bin_s h hv Int32.ofInt_sub (fun r h1 h2 => hnx _ _ _ _ _ h1 hl h2 hS)
  | imul =>
    have h : z_bin w (fun x y => x * y) zst (fun r => znx zl r zS bc bs) := h
    show m_bin (fun x y => x * y) (z_mV zst) (fun r => nx (z_mL zl) r (z_st zS) bc bs)
    exact z_bin_s h hv Int32.ofInt_mul (fun r h1 h2 => hnx _ _ _ _ _ h1 hl h2 hS)
  | iand =>
    have h : z_bit (fun x y => x &&& y) zst (fun r => znx zl r zS bc bs) := h
    show m_bin (fun x y => x &&& y) (z_mV zst) (fun r => nx (z_mL zl) r (z_st zS) bc bs)
    exact z_bit_s h hv (fun r h1 h2 => hnx _ _ _ _ _ h1 hl h2 hS)
  | ior =>
    have h : z_bit (fun x y => x ||| y) zst (fun r => znx zl r zS bc bs) := h
    show m_bin (fun x y => x ||| y) (z_mV zst) (fun r => nx (z_mL zl) r (z_st zS) bc bs)
    exact z_bit_s h hv (fun r h1 h2 => hnx _ _ _ _ _ h1 hl h2 hS)
  | ixor =>
    have h : z_bit (fun x y => x ^^^ y) zst (fun r => znx zl r zS bc bs) := h
    show m_bin (fun x y => x ^^^ y) (z_mV zst) (fun r => nx (z_mL zl) r (z_st zS) bc bs)
    exact z_bit_s h hv (fun r h1 h2 => hnx _ _ _ _ _ h1 hl h2 hS)
  | ishl =>
    have h : z_bit (fun x y => x <<< (y &&& 31)) zst (fun r => znx zl r zS bc bs) := h
    show m_bin (fun x y => x <<< (y &&& 31)) (z_mV zst) (fun r => nx (z_mL zl) r (z_st zS) bc bs)
    exact z_bit_s h hv (fun r h1 h2 => hnx _ _ _ _ _ h1 hl h2 hS)
  | ishr =>
    have h : z_bit (fun x y => x >>> (y &&& 31)) zst (fun r => znx zl r zS bc bs) := h
    show m_bin (fun x y => x >>> (y &&& 31)) (z_mV zst) (fun r => nx (z_mL zl) r (z_st zS) bc bs)
    exact z_bit_s h hv (fun r h1 h2 => hnx _ _ _ _ _ h1 hl h2 hS)
  | iushr =>
    have h : z_bit (fun x y => (x.toUInt32 >>> (y.toUInt32 &&& Int32.toUInt32 31)).toInt32) zst (fun r => znx zl r zS bc bs) := h
    show m_bin (fun x y => (x.toUInt32 >>> (y.toUInt32 &&& Int32.toUInt32 31)).toInt32) (z_mV zst) (fun r => nx (z_mL zl) r (z_st zS) bc bs)
    exact z_bit_s h hv (fun r h1 h2 => hnx _ _ _ _ _ h1 hl h2 hS)
  | idiv =>
    match zst, h, hv with
    | .inl y :: .inl x :: r, h, hv =>
      obtain ⟨⟨h0, h1⟩, h2⟩ : (0 ≤ x ∧ 0 < y) ∧ znx zl (.inl (x / y) :: r) zS bc bs := h
      have hy : z_r y := hv.1
      have hx : z_r x := hv.2.1
      have hq : x / y ≤ x := Int.ediv_le_self y h0
      have hp : 0 ≤ x / y := Int.ediv_nonneg h0 (by omega)
      have h3 := hnx _ _ _ _ _ h2 hl ⟨(show z_r (x / y) from by unfold z_r at *; omega), hv.2.2⟩ hS
      refine ⟨(z_ne1 hy).mpr (by omega), ?_⟩
      have e : z_mV (.inl (x / y) :: r) = .int (Int32.ofInt x / Int32.ofInt y) :: z_mV r := by
        show Value.int (Int32.ofInt (x / y)) :: z_mV r = _
        rw [z_div hx hy h0 h1]
      rw [e] at h3
      exact h3
  | irem =>
    match zst, h, hv with
    | .inl y :: .inl x :: r, h, hv =>
      obtain ⟨⟨h0, h1⟩, h2⟩ : (0 ≤ x ∧ 0 < y) ∧ znx zl (.inl (x % y) :: r) zS bc bs := h
      have hy : z_r y := hv.1
      have hx : z_r x := hv.2.1
      obtain ⟨k1, k2⟩ := z_rem hx hy h0 h1
      have h3 := hnx _ _ _ _ _ h2 hl ⟨k1, hv.2.2⟩ hS
      refine ⟨(z_ne1 hy).mpr (by omega), ?_⟩
      have e : z_mV (.inl (x % y) :: r) = .int (Int32.ofInt x - Int32.ofInt x / Int32.ofInt y * Int32.ofInt y) :: z_mV r := by
        show Value.int (Int32.ofInt (x % y)) :: z_mV r = _
        rw [k2]
      rw [e] at h3
      exact h3
  | ladd =>
    have h : z_binL (fun x y => x + y) zst (fun r => znx zl r zS bc bs) := h
    show m_binL (fun x y => x + y) (z_mV zst) (fun r => nx (z_mL zl) r (z_st zS) bc bs)
    exact z_binL_s h hv Int64.ofInt_add (fun r h1 h2 => hnx _ _ _ _ _ h1 hl h2 hS)
  | lsub =>
    have h : z_binL (fun x y => x - y) zst (fun r => znx zl r zS bc bs) := h
    show m_binL (fun x y => x - y) (z_mV zst) (fun r => nx (z_mL zl) r (z_st zS) bc bs)
    exact z_binL_s h hv Int64.ofInt_sub (fun r h1 h2 => hnx _ _ _ _ _ h1 hl h2 hS)
  | lmul =>
    have h : z_binL (fun x y => x * y) zst (fun r => znx zl r zS bc bs) := h
    show m_binL (fun x y => x * y) (z_mV zst) (fun r => nx (z_mL zl) r (z_st zS) bc bs)
    exact z_binL_s h hv Int64.ofInt_mul (fun r h1 h2 => hnx _ _ _ _ _ h1 hl h2 hS)
  | lshl =>
    match zst, h, hv with
    | .inl y :: .inr (.inl x) :: r, h, hv =>
      have h3 := hnx _ (.inr (.inl (Int64.ofInt x <<< ((Int32.ofInt y).toInt64 &&& 63)).toInt) :: r) _ _ _ h hl ⟨z_qof _, hv.2.2⟩ hS
      have e : z_mV (.inr (.inl (Int64.ofInt x <<< ((Int32.ofInt y).toInt64 &&& 63)).toInt) :: r) = .long (Int64.ofInt x <<< ((Int32.ofInt y).toInt64 &&& 63)) :: z_mV r := by
        show Value.long (Int64.ofInt _) :: z_mV r = _
        rw [Int64.ofInt_toInt]
      rw [e] at h3
      exact h3
  | lcmp =>
    match zst, h, hv with
    | .inr (.inl y) :: .inr (.inl x) :: r, h, hv =>
      obtain ⟨k1, k2⟩ := z_cmp (x := x) (y := y) hv.2.1 hv.1
      have h3 := hnx _ (.inl (if y < x then 1 else if x = y then 0 else -1) :: r) _ _ _ h hl ⟨k1, hv.2.2⟩ hS
      have e : z_mV (.inl (if y < x then 1 else if x = y then 0 else -1) :: r) = .int (lg_cmp (Int64.ofInt x) (Int64.ofInt y)) :: z_mV r := by
        show Value.int (Int32.ofInt _) :: z_mV r = _
        rw [k2]
      rw [e] at h3
      exact h3
  | i2l =>
    match zst, h, hv with
    | .inl x :: r, h, hv =>
      have hx : z_r x := hv.1
      have h3 := hnx _ (.inr (.inl x) :: r) _ _ _ h hl ⟨(show z_q x from by unfold z_r at hx; unfold z_q; omega), hv.2⟩ hS
      have e : z_mV (.inr (.inl x) :: r) = .long (Int32.ofInt x).toInt64 :: z_mV r := by
        show Value.long (Int64.ofInt x) :: z_mV r = _
        rw [show (Int32.ofInt x).toInt64 = Int64.ofInt (Int32.ofInt x).toInt from rfl, z_of hx]
      rw [e] at h3
      exact h3
  | l2i =>
    match zst, h, hv with
    | .inr (.inl x) :: r, h, hv =>
      obtain ⟨h1, h⟩ : (-2147483648 ≤ x ∧ x ≤ 2147483647) ∧ znx zl (.inl x :: r) zS bc bs := h
      have h3 := hnx _ (.inl x :: r) _ _ _ h hl ⟨h1, hv.2⟩ hS
      have e : z_mV (.inl x :: r) = .int (Int64.ofInt x).toInt32 :: z_mV r := by
        show Value.int (Int32.ofInt x) :: z_mV r = _
        rw [show (Int64.ofInt x).toInt32 = Int32.ofInt (Int64.ofInt x).toInt from (Int32.ofInt_int64ToInt _).symm, z_ofL hv.1]
      rw [e] at h3
      exact h3
  | i2b =>
    match zst, h, hv with
    | .inl x :: r, h, hv =>
      obtain ⟨k1, k2⟩ := z_i2b (x := x) hv.1
      have h3 := hnx _ (.inl ((x + 128) % 256 - 128) :: r) _ _ _ h hl ⟨k1, hv.2⟩ hS
      have e : z_mV (.inl ((x + 128) % 256 - 128) :: r) = .int (Int32.ofInt x).toInt8.toInt32 :: z_mV r := by
        show Value.int (Int32.ofInt _) :: z_mV r = _
        rw [k2]
      rw [e] at h3
      exact h3
  | i2c =>
    match zst, h, hv with
    | .inl x :: r, h, hv =>
      obtain ⟨k1, k2⟩ := z_i2c (x := x) hv.1
      have h3 := hnx _ (.inl (x % 65536) :: r) _ _ _ h hl ⟨k1, hv.2⟩ hS
      have e : z_mV (.inl (x % 65536) :: r) = .int ((Int32.ofInt x).toUInt32 % 65536).toInt32 :: z_mV r := by
        show Value.int (Int32.ofInt _) :: z_mV r = _
        rw [k2]
      rw [e] at h3
      exact h3
  | i2d =>
    match zst, h, hv with
    | .inl x :: r, h, hv => exact hnx _ (.inr (.inr (.double (FP.i2d (Int32.ofInt x)))) :: r) _ _ _ h hl ⟨True.intro, hv.2⟩ hS
  | ddiv =>
    match zst, h, hv with
    | .inr (.inr (.double y)) :: .inr (.inr (.double x)) :: r, h, hv => exact ⟨h.1, hnx _ (.inr (.inr (.double (FP.ddiv x y))) :: r) _ _ _ h.2 hl ⟨True.intro, hv.2.2⟩ hS⟩
  | dcmp op =>
    match zst, h, hv with
    | .inr (.inr (.double y)) :: .inr (.inr (.double x)) :: r, h, hv =>
      have h3 := hnx _ (.inl (Op.cmpValue (FP.dcmp x y) op).toInt :: r) _ _ _ h hl ⟨z_rof _, hv.2.2⟩ hS
      rw [z_mV_c] at h3
      exact h3
  | dup =>
    match zst, h, hv with
    | w1 :: r, h, hv =>
      obtain ⟨h1, h2⟩ := z_wide_inv h
      exact h2 _ (hnx _ (w1 :: w1 :: r) _ _ _ h1 hl ⟨hv.1, hv.1, hv.2⟩ hS)
  | dup2 =>
    match zst, h, hv with
    | w1 :: w2 :: r, h, hv =>
      obtain ⟨h1, h2⟩ := z_wide_inv h
      obtain ⟨h3, h4⟩ := z_wide_inv h1
      exact h2 _ (h4 _ (hnx _ (w1 :: w2 :: w1 :: w2 :: r) _ _ _ h3 hl ⟨hv.1, hv.2.1, hv.1, hv.2.1, hv.2.2⟩ hS))
  | pop =>
    match zst, h, hv with
    | w1 :: r, h, hv =>
      obtain ⟨h1, h2⟩ := z_wide_inv h
      exact h2 _ (hnx _ r _ _ _ h1 hl hv.2 hS)
  | goto o9 => exact hjp a _ _ _ _ _ h hl hv hS
  | ifCond cnd o9 =>
    have J9 := fun (r : z_V) (h1 : zjp a zl r zS bc bs) (h2 : z_okV r) => hjp a _ _ _ _ _ h1 hl h2 hS
    have N9 := fun (r : z_V) (h1 : znx zl r zS bc bs) (h2 : z_okV r) => hnx _ _ _ _ _ h1 hl h2 hS
    cases cnd with
    | eq =>
      have h : z_if1 (fun x => x = 0) (fun x => x ≠ 0) zst (fun r => zjp a zl r zS bc bs) (fun r => znx zl r zS bc bs) := h
      show m_if1 (fun x => x = 0) (z_mV zst) (fun r => jp a (z_mL zl) r (z_st zS) bc bs) (fun r => nx (z_mL zl) r (z_st zS) bc bs)
      exact z_if1_s h hv (fun x hx => ⟨fun c => (z_eq hx z_r0).mp c, fun c q => c ((z_eq hx z_r0).mpr q)⟩) J9 N9
    | ne =>
      have h : z_if1 (fun x => x ≠ 0) (fun x => x = 0) zst (fun r => zjp a zl r zS bc bs) (fun r => znx zl r zS bc bs) := h
      obtain ⟨x, r, rfl, h1, h2⟩ := z_if1_inv h
      exact ⟨fun c => N9 r (h2 ((z_eq hv.1 z_r0).mp c)) hv.2, fun c => J9 r (h1 (fun q => c ((z_eq hv.1 z_r0).mpr q))) hv.2⟩
    | lt =>
      have h : z_if1 (fun x => x < 0) (fun x => 0 ≤ x) zst (fun r => zjp a zl r zS bc bs) (fun r => znx zl r zS bc bs) := h
      show m_if1 (fun x => x < 0) (z_mV zst) (fun r => jp a (z_mL zl) r (z_st zS) bc bs) (fun r => nx (z_mL zl) r (z_st zS) bc bs)
      exact z_if1_s h hv (fun x hx => ⟨fun c => (z_lt hx z_r0).mp c, fun c => Int.not_lt.mp (fun q => c ((z_lt hx z_r0).mpr q))⟩) J9 N9
    | ge =>
      have h : z_if1 (fun x => 0 ≤ x) (fun x => x < 0) zst (fun r => zjp a zl r zS bc bs) (fun r => znx zl r zS bc bs) := h
      show m_if1 (fun x => 0 ≤ x) (z_mV zst) (fun r => jp a (z_mL zl) r (z_st zS) bc bs) (fun r => nx (z_mL zl) r (z_st zS) bc bs)
      exact z_if1_s h hv (fun x hx => ⟨fun c => (z_le z_r0 hx).mp c, fun c => Int.not_le.mp (fun q => c ((z_le z_r0 hx).mpr q))⟩) J9 N9
    | gt =>
      have h : z_if1 (fun x => 0 < x) (fun x => x ≤ 0) zst (fun r => zjp a zl r zS bc bs) (fun r => znx zl r zS bc bs) := h
      show m_if1 (fun x => 0 < x) (z_mV zst) (fun r => jp a (z_mL zl) r (z_st zS) bc bs) (fun r => nx (z_mL zl) r (z_st zS) bc bs)
      exact z_if1_s h hv (fun x hx => ⟨fun c => (z_lt z_r0 hx).mp c, fun c => Int.not_lt.mp (fun q => c ((z_lt z_r0 hx).mpr q))⟩) J9 N9
    | le =>
      have h : z_if1 (fun x => x ≤ 0) (fun x => 0 < x) zst (fun r => zjp a zl r zS bc bs) (fun r => znx zl r zS bc bs) := h
      show m_if1 (fun x => x ≤ 0) (z_mV zst) (fun r => jp a (z_mL zl) r (z_st zS) bc bs) (fun r => nx (z_mL zl) r (z_st zS) bc bs)
      exact z_if1_s h hv (fun x hx => ⟨fun c => (z_le hx z_r0).mp c, fun c => Int.not_le.mp (fun q => c ((z_le hx z_r0).mpr q))⟩) J9 N9
  | if_icmp cnd o9 =>
    have J9 := fun (r : z_V) (h1 : zjp a zl r zS bc bs) (h2 : z_okV r) => hjp a _ _ _ _ _ h1 hl h2 hS
    have N9 := fun (r : z_V) (h1 : znx zl r zS bc bs) (h2 : z_okV r) => hnx _ _ _ _ _ h1 hl h2 hS
    cases cnd with
    | eq =>
      have h : z_if2 (fun x y => x = y) (fun x y => x ≠ y) zst (fun r => zjp a zl r zS bc bs) (fun r => znx zl r zS bc bs) := h
      show m_if2 (fun x y => x = y) (z_mV zst) (fun r => jp a (z_mL zl) r (z_st zS) bc bs) (fun r => nx (z_mL zl) r (z_st zS) bc bs)
      exact z_if2_s h hv (fun x y hx hy => ⟨fun c => (z_eq hx hy).mp c, fun c q => c ((z_eq hx hy).mpr q)⟩) J9 N9
    | ne =>
      have h : z_if2 (fun x y => x ≠ y) (fun x y => x = y) zst (fun r => zjp a zl r zS bc bs) (fun r => znx zl r zS bc bs) := h
      obtain ⟨x, y, r, rfl, h1, h2⟩ := z_if2_inv h
      exact ⟨fun c => N9 r (h2 ((z_eq hv.2.1 hv.1).mp c)) hv.2.2, fun c => J9 r (h1 (fun q => c ((z_eq hv.2.1 hv.1).mpr q))) hv.2.2⟩
    | lt =>
      have h : z_if2 (fun x y => x < y) (fun x y => y ≤ x) zst (fun r => zjp a zl r zS bc bs) (fun r => znx zl r zS bc bs) := h
      show m_if2 (fun x y => x < y) (z_mV zst) (fun r => jp a (z_mL zl) r (z_st zS) bc bs) (fun r => nx (z_mL zl) r (z_st zS) bc bs)
      exact z_if2_s h hv (fun x y hx hy => ⟨fun c => (z_lt hx hy).mp c, fun c => Int.not_lt.mp (fun q => c ((z_lt hx hy).mpr q))⟩) J9 N9
    | ge =>
      have h : z_if2 (fun x y => y ≤ x) (fun x y => x < y) zst (fun r => zjp a zl r zS bc bs) (fun r => znx zl r zS bc bs) := h
      show m_if2 (fun x y => y ≤ x) (z_mV zst) (fun r => jp a (z_mL zl) r (z_st zS) bc bs) (fun r => nx (z_mL zl) r (z_st zS) bc bs)
      exact z_if2_s h hv (fun x y hx hy => ⟨fun c => (z_le hy hx).mp c, fun c => Int.not_le.mp (fun q => c ((z_le hy hx).mpr q))⟩) J9 N9
    | gt =>
      have h : z_if2 (fun x y => y < x) (fun x y => x ≤ y) zst (fun r => zjp a zl r zS bc bs) (fun r => znx zl r zS bc bs) := h
      show m_if2 (fun x y => y < x) (z_mV zst) (fun r => jp a (z_mL zl) r (z_st zS) bc bs) (fun r => nx (z_mL zl) r (z_st zS) bc bs)
      exact z_if2_s h hv (fun x y hx hy => ⟨fun c => (z_lt hy hx).mp c, fun c => Int.not_lt.mp (fun q => c ((z_lt hy hx).mpr q))⟩) J9 N9
    | le =>
      have h : z_if2 (fun x y => x ≤ y) (fun x y => y < x) zst (fun r => zjp a zl r zS bc bs) (fun r => znx zl r zS bc bs) := h
      show m_if2 (fun x y => x ≤ y) (z_mV zst) (fun r => jp a (z_mL zl) r (z_st zS) bc bs) (fun r => nx (z_mL zl) r (z_st zS) bc bs)
      exact z_if2_s h hv (fun x y hx hy => ⟨fun c => (z_le hx hy).mp c, fun c => Int.not_le.mp (fun q => c ((z_le hx hy).mpr q))⟩) J9 N9
  | ifnonnull o9 =>
    match zst, h, hv with
    | .inr (.inr (.ref x)) :: r, h, hv => exact hjp a _ r _ _ _ h hl hv.2 hS
    | .inr (.inr .null) :: r, h, hv => exact hnx _ r _ _ _ h hl hv.2 hS
  | tableswitch dflt lo hi offs =>
    match zst, h, hv with
    | .inl x :: r, h, hv =>
      have hx : z_r x := hv.1
      refine ⟨fun off c1 c2 c3 => ?_, fun c1 => ?_⟩
      · rw [z_of hx] at c1 c2 c3
        exact hjp _ _ r _ _ _ (h.1 off (by omega) (by omega) c3) hl hv.2 hS
      · rw [z_of hx] at c1
        exact hjp _ _ r _ _ _ (h.2 c1) hl hv.2 hS
  | getfield i9 =>
    match zst, h, hv with
    | .inr (.inr (.ref o)) :: r, h, hv =>
      obtain ⟨rs, h1, h2⟩ : ∃ rs : List (Option Nat), zS.1[o]? = some (.inl a, rs) ∧ znx zl (z_fget zS o b t rs :: r) zS bc bs := h
      refine z_obj_m h1 ?_
      have ok : z_ok (z_fget zS o b t rs) := by
        unfold z_fget
        split
        · exact (hS _ _).1
        · exact True.intro
        · exact (hS _ _).2
      have h3 := hnx _ _ _ _ _ h2 hl ⟨ok, hv.2⟩ hS
      have e : z_val (z_fget zS o b t rs) = m_fget (z_st zS) o b t rs := by
        match t with
        | 0 => rfl
        | 1 => rfl
        | t9 + 2 => rfl
      have e2 : z_mV (z_fget zS o b t rs :: r) = m_fget (z_st zS) o b t rs :: z_mV r := by
        show z_val _ :: z_mV r = _
        rw [e]
      rw [e2] at h3
      exact h3
  | putfield i9 =>
    match zst, h, hv with
    | .inl x :: .inr (.inr (.ref o)) :: r, h, hv =>
      match t, h with
      | 0, h =>
        obtain ⟨rs, h1, h2⟩ : ∃ rs : List (Option Nat), zS.1[o]? = some (.inl a, rs) ∧ znx zl r (zS.1, z_u zS.2.1 o b x, zS.2.2) bc bs := h
        refine z_obj_m h1 ?_
        have h3 := hnx _ _ _ _ _ h2 hl hv.2.2 (z_okS_u hS hv.1)
        rw [z_st_u (by omega)] at h3
        exact h3
    | .inr (.inl x) :: .inr (.inr (.ref o)) :: r, h, hv =>
      match t, h with
      | 2, h =>
        obtain ⟨rs, h1, h2⟩ : ∃ rs : List (Option Nat), zS.1[o]? = some (.inl a, rs) ∧ znx zl r (zS.1, zS.2.1, z_u zS.2.2.1 o b x, zS.2.2.2) bc bs := h
        refine z_obj_m h1 ?_
        have h3 := hnx _ _ _ _ _ h2 hl hv.2.2 (z_okS_uL hS hv.1)
        rw [z_st_uL (by omega)] at h3
        exact h3
    | .inr (.inr (.ref x)) :: .inr (.inr (.ref o)) :: r, h, hv =>
      match t, h with
      | 1, h =>
        obtain ⟨rs, h1, h2, h4⟩ : ∃ rs : List (Option Nat), zS.1[o]? = some (.inl a, rs) ∧ x < zS.1.length ∧ znx zl r (zS.1.set o (.inl a, rs.set b (some x)), zS.2) bc bs := h
        refine z_obj_m h1 ?_
        have h3 := hnx _ _ _ _ _ h4 hl hv.2.2 hS
        show (match Nat.blt x zS.1.length with
          | true => _
          | false => False)
        rw [show Nat.blt x zS.1.length = true from Nat.ble_eq_true_of_le h2]
        exact h3
  | iaload =>
    have h : z_load zS m_isInt zst (fun x r => znx zl (.inl x :: r) zS bc bs) := h
    show m_load (z_st zS) m_isInt (z_mV zst) (fun x r => nx (z_mL zl) (.int x :: r) (z_st zS) bc bs)
    exact z_load_s h hv hS (fun x r h1 h2 h3 => hnx _ (.inl x :: r) _ _ _ h1 hl ⟨h2, h3⟩ hS)
  | baload =>
    have h : z_load zS m_isByte zst (fun x r => znx zl (.inl x :: r) zS bc bs) := h
    show m_load (z_st zS) m_isByte (z_mV zst) (fun x r => nx (z_mL zl) (.int x :: r) (z_st zS) bc bs)
    exact z_load_s h hv hS (fun x r h1 h2 h3 => hnx _ (.inl x :: r) _ _ _ h1 hl ⟨h2, h3⟩ hS)
  | iastore =>
    have h : z_store zS m_isInt zst (fun J r => znx zl r (zS.1, J, zS.2.2) bc bs) := h
    show m_store (z_st zS) m_isInt (z_mV zst) (fun I r => nx (z_mL zl) r (zS.1, I, (z_st zS).2.2) bc bs)
    refine z_store_s h hv (fun J r a9 k x h1 h2 h3 h4 h5 => ?_)
    subst h2
    have h6 := hnx _ _ _ _ _ h1 hl h5 (z_okS_u hS h4)
    rw [z_st_u h3] at h6
    exact h6
  | bastore =>
    have h : z_store zS m_isByte zst (fun J r => znx zl r (zS.1, J, zS.2.2) bc bs) := h
    show m_store (z_st zS) m_isByte (z_mV zst) (fun I r => nx (z_mL zl) r (zS.1, I, (z_st zS).2.2) bc bs)
    refine z_store_s h hv (fun J r a9 k x h1 h2 h3 h4 h5 => ?_)
    subst h2
    have h6 := hnx _ _ _ _ _ h1 hl h5 (z_okS_u hS h4)
    rw [z_st_u h3] at h6
    exact h6
  | laload =>
    match zst, h, hv with
    | .inl i :: .inr (.inr (.ref a9)) :: r, h, hv =>
      obtain ⟨⟨n, rs, h1, h2, h3⟩, h4⟩ := h
      show m_arr (z_st zS) a9 (fun ty n rs => match ty with
        | .long => vp_in (Int32.ofInt i) n ∧ nx (z_mL zl) (.long ((z_st zS).2.2.1 a9 (Int32.ofInt i).toNatClampNeg) :: z_mV r) (z_st zS) bc bs
        | _ => False)
      refine z_arr_m h1 ?_
      refine ⟨z_in hv.1 h2 h3, ?_⟩
      rw [z_clamp hv.1]
      have h5 := hnx _ (.inr (.inl (zS.2.2.1 a9 i)) :: r) _ _ _ h4 hl ⟨(hS _ _).2, hv.2.2⟩ hS
      rw [show zS.2.2.1 a9 i = zS.2.2.1 a9 (i.toNat : Int) by rw [Int.toNat_of_nonneg h2]] at h5
      exact h5
  | lastore =>
    match zst, h, hv with
    | .inr (.inl x) :: .inl i :: .inr (.inr (.ref a9)) :: r, h, hv =>
      obtain ⟨⟨n, rs, h1, h2, h3⟩, h4⟩ := h
      show m_arr (z_st zS) a9 (fun ty n rs => match ty with
        | .long => vp_in (Int32.ofInt i) n ∧ nx (z_mL zl) (z_mV r) (zS.1, (z_st zS).2.1, m_rowX (z_st zS).2.2.1 a9 (vf_upd ((z_st zS).2.2.1 a9) (Int32.ofInt i).toNatClampNeg (Int64.ofInt x)), zS.2.2.2) bc bs
        | _ => False)
      refine z_arr_m h1 ?_
      refine ⟨z_in hv.2.1 h2 h3, ?_⟩
      rw [z_clamp hv.2.1]
      have h5 := hnx _ r _ _ _ h4 hl hv.2.2.2 (z_okS_uL hS hv.1)
      rw [z_st_uL h2] at h5
      exact h5
  | daload =>
    match zst, h, hv with
    | .inl i :: .inr (.inr (.ref a9)) :: r, h, hv =>
      obtain ⟨⟨n, rs, h1, h2, h3⟩, h4⟩ := h
      show m_arr (z_st zS) a9 (fun ty n rs => match ty with
        | .double => vp_in (Int32.ofInt i) n ∧ nx (z_mL zl) (.double (zS.2.2.2 a9 (Int32.ofInt i).toNatClampNeg) :: z_mV r) (z_st zS) bc bs
        | _ => False)
      refine z_arr_m h1 ?_
      refine ⟨z_in hv.1 h2 h3, ?_⟩
      rw [z_clamp hv.1]
      exact hnx _ (.inr (.inr (.double (zS.2.2.2 a9 i.toNat))) :: r) _ _ _ h4 hl ⟨True.intro, hv.2.2⟩ hS
  | dastore =>
    match zst, h, hv with
    | .inr (.inr (.double x)) :: .inl i :: .inr (.inr (.ref a9)) :: r, h, hv =>
      obtain ⟨⟨n, rs, h1, h2, h3⟩, h4⟩ := h
      show m_arr (z_st zS) a9 (fun ty n rs => match ty with
        | .double => vp_in (Int32.ofInt i) n ∧ nx (z_mL zl) (z_mV r) (zS.1, (z_st zS).2.1, (z_st zS).2.2.1, m_rowX zS.2.2.2 a9 (vf_upd (zS.2.2.2 a9) (Int32.ofInt i).toNatClampNeg x)) bc bs
        | _ => False)
      refine z_arr_m h1 ?_
      refine ⟨z_in hv.2.1 h2 h3, ?_⟩
      rw [z_clamp hv.2.1]
      exact hnx _ r _ _ _ h4 hl hv.2.2.2 hS
  | aaload =>
    match zst, h, hv with
    | .inl i :: .inr (.inr (.ref a9)) :: r, h, hv =>
      obtain ⟨ty, n, rs, c9, h1, h2, ⟨h3, h4⟩, h5, h6⟩ := h
      show m_arr (z_st zS) a9 (fun ty n rs => match m_isRef ty with
        | true => vp_in (Int32.ofInt i) n ∧ nx (z_mL zl) (m_rv (rs.getD (Int32.ofInt i).toNatClampNeg none) :: z_mV r) (z_st zS) bc bs
        | false => False)
      refine z_arr_m h1 ?_
      show (match m_isRef ty with
        | true => _
        | false => False)
      rw [h2]
      refine ⟨z_in hv.1 h3 h4, ?_⟩
      rw [z_clamp hv.1, h5]
      have ok : z_ok (.inr (.inr (m_rv c9))) := True.intro
      exact hnx _ (.inr (.inr (m_rv c9)) :: r) _ _ _ h6 hl ⟨ok, hv.2.2⟩ hS
  | aastore =>
    match zst, h, hv with
    | .inr (.inr (.ref x)) :: .inl i :: .inr (.inr (.ref a9)) :: r, h, hv =>
      obtain ⟨ty, n, rs, ci, rx, h1, h2, h3, ⟨h4, h5⟩, h6⟩ := h
      show m_arr (z_st zS) a9 (fun ty n rs => match (z_st zS).1[x]? with
        | some (.inl ci, _) => (match m_isObj ty (m_cnames.getD ci "") with
          | true => vp_in (Int32.ofInt i) n ∧ nx (z_mL zl) (z_mV r) (zS.1.set a9 (.inr (ty, n), rs.set (Int32.ofInt i).toNatClampNeg (some x)), (z_st zS).2) bc bs
          | false => False)
        | _ => False)
      refine z_arr_m h1 ?_
      show (match (z_st zS).1[x]? with
        | some (.inl ci, _) => (match m_isObj ty (m_cnames.getD ci "") with
          | true => vp_in (Int32.ofInt i) n ∧ _
          | false => False)
        | _ => False)
      rw [show (z_st zS).1[x]? = some (.inl ci, rx) from h2]
      show (match m_isObj ty (m_cnames.getD ci "") with
          | true => vp_in (Int32.ofInt i) n ∧ _
          | false => False)
      rw [h3]
      refine ⟨z_in hv.2.1 h4 h5, ?_⟩
      rw [z_clamp hv.2.1]
      exact hnx _ r _ _ _ h6 hl hv.2.2.2 hS
  | arraylength =>
    match zst, h, hv with
    | .inr (.inr (.ref a9)) :: r, h, hv =>
      obtain ⟨n, h1, h2⟩ := h
      obtain ⟨ty, n', ⟨rfl, h3⟩, h4⟩ := z_isA_m h1 hS
      show m_arrL (z_st zS) a9 (fun _ n => nx (z_mL zl) (.int (Int32.ofNat n) :: z_mV r) (z_st zS) bc bs)
      refine h4 _ ?_
      exact hnx _ (.inl (n' : Int) :: r) _ _ _ h2 hl ⟨(show z_r (n' : Int) from by unfold z_r; omega), hv.2⟩ hS
  | newarray ty =>
    match zst, h, hv with
    | .inl n :: r, h, hv =>
      obtain ⟨⟨h1, h2, h3, h4, h5⟩, h6⟩ := h
      have hn : z_r n := hv.1
      have key : ¬ Int32.ofInt n < 0 ∧ (Int32.ofInt n).toNatClampNeg ≤ 100000 ∧ zS.1.length < 1000 ∧ 1 ≤ bc ∧ (Int32.ofInt n).toNatClampNeg ≤ bs ∧ nx (z_mL zl) (.ref zS.1.length :: z_mV r) (zS.1 ++ [(.inr (newarray.typeOf ty, (Int32.ofInt n).toNatClampNeg), [])], m_zero (z_st zS) zS.1.length) (bc - 1) (bs - (Int32.ofInt n).toNatClampNeg) := by
        rw [z_clamp hn, z_o0, z_lt hn z_r0]
        refine ⟨by omega, by omega, h3, h4, by omega, ?_⟩
        have h7 := hnx _ _ _ _ _ h6 hl ⟨True.intro, hv.2⟩ (z_okS_app hS)
        rw [z_st_app] at h7
        exact h7
      exact key
  | anewarray i9 =>
    match zst, h, hv with
    | .inl n :: r, h, hv =>
      obtain ⟨⟨h1, h2, h3, h4, h5⟩, h6⟩ := h
      have hn : z_r n := hv.1
      have key : ¬ Int32.ofInt n < 0 ∧ (Int32.ofInt n).toNatClampNeg ≤ 100000 ∧ zS.1.length < 1000 ∧ 1 ≤ bc ∧ (Int32.ofInt n).toNatClampNeg ≤ bs ∧ nx (z_mL zl) (.ref zS.1.length :: z_mV r) (zS.1 ++ [(.inr (.object (m_cnames.getD a ""), (Int32.ofInt n).toNatClampNeg), List.replicate (Int32.ofInt n).toNatClampNeg none)], m_zero (z_st zS) zS.1.length) (bc - 1) (bs - (Int32.ofInt n).toNatClampNeg) := by
        rw [z_clamp hn, z_o0, z_lt hn z_r0]
        refine ⟨by omega, by omega, h3, h4, by omega, ?_⟩
        have h7 := hnx _ _ _ _ _ h6 hl ⟨True.intro, hv.2⟩ (z_okS_app hS)
        rw [z_st_app] at h7
        exact h7
      exact key
  | multianewarray i9 j9 =>
    match zst, h, hv with
    | .inl k :: .inl n :: r, h, hv =>
      obtain ⟨⟨h1, h2, h3, h4, h5, h6, h7⟩, h8⟩ := h
      have hk : z_r k := hv.1
      have hn : z_r n := hv.2.1
      have key : ¬ Int32.ofInt n < 0 ∧ ¬ Int32.ofInt k < 0 ∧ (Int32.ofInt n).toNatClampNeg ≤ 100 ∧ (Int32.ofInt k).toNatClampNeg ≤ 1000 ∧ zS.1.length < 1000 ∧ 1 + (Int32.ofInt n).toNatClampNeg ≤ bc ∧ (Int32.ofInt n).toNatClampNeg + (Int32.ofInt n).toNatClampNeg * (Int32.ofInt k).toNatClampNeg ≤ bs ∧
          nx (z_mL zl) (.ref zS.1.length :: z_mV r) (zS.1 ++ (.inr (.array .int, (Int32.ofInt n).toNatClampNeg), (List.range (Int32.ofInt n).toNatClampNeg).map (fun i => some (zS.1.length + 1 + i))) :: List.replicate (Int32.ofInt n).toNatClampNeg (.inr (.int, (Int32.ofInt k).toNatClampNeg), []), m_zeros (z_st zS) zS.1.length (1 + (Int32.ofInt n).toNatClampNeg)) (bc - (1 + (Int32.ofInt n).toNatClampNeg)) (bs - ((Int32.ofInt n).toNatClampNeg + (Int32.ofInt n).toNatClampNeg * (Int32.ofInt k).toNatClampNeg)) := by
        rw [z_clamp hn, z_clamp hk, z_o0, z_lt hn z_r0, z_lt hk z_r0]
        refine ⟨by omega, by omega, by omega, by omega, h5, by omega, ?_, ?_⟩
        · have e : ((n.toNat * k.toNat : Nat) : Int) = n * k := by
            rw [Int.natCast_mul, Int.toNat_of_nonneg h1, Int.toNat_of_nonneg h2]
          omega
        · have h9 := hnx _ _ _ _ _ h8 hl ⟨True.intro, hv.2.2⟩ (z_okS_zs hS)
          rw [z_st_zs] at h9
          exact h9
      exact key
  | new i9 =>
    match t, h with
    | 0, h =>
      obtain ⟨⟨h1, h2, h3⟩, h4⟩ := h
      have h7 := hnx _ _ _ _ _ h4 hl ⟨True.intro, hv⟩ (z_okS_app hS)
      rw [z_st_app] at h7
      exact ⟨h1, h2, h3, h7⟩
    | t' + 1, h =>
      obtain ⟨h1, ⟨h2, h3⟩, h4⟩ := h
      show (match m_rest 0 (z_mV zst) with
        | true => 1 ≤ bc ∧ 6 ≤ bs ∧ Q (.inr (m_excs.getD a "")) (z_st zS)
        | false => False)
      rw [h1]
      exact ⟨h2, h3, hQ _ _ h4 True.intro hS⟩
  | invokevirtual i9 =>
    have h : z_invoke (z_Call l d) t a b zl zst zS bc bs znx (zex pc) := h
    show m_invoke (m_Call l d) t a b (z_mL zl) (z_mV zst) (z_st zS) bc bs nx (ex pc)
    exact z_invoke_sound hnx (hex pc) h hl hv hS
  | invokestatic i9 =>
    have h : z_invoke (z_Call l d) t a b zl zst zS bc bs znx (zex pc) := h
    show m_invoke (m_Call l d) t a b (z_mL zl) (z_mV zst) (z_st zS) bc bs nx (ex pc)
    exact z_invoke_sound hnx (hex pc) h hl hv hS
  | invokespecial i9 =>
    have h : z_invoke (z_Call l d) t a b zl zst zS bc bs znx (zex pc) := h
    show m_invoke (m_Call l d) t a b (z_mL zl) (z_mV zst) (z_st zS) bc bs nx (ex pc)
    exact z_invoke_sound hnx (hex pc) h hl hv hS
  | return_ =>
    match zst, rt, h with
    | [], none, h => exact hQ _ _ h True.intro hS
  | ireturn =>
    match zst, rt, h, hv with
    | [.inl x], some .int, h, hv => exact hQ (.inl (some (.inl x))) _ h hv.1 hS
    | [.inl x], some .boolean, h, hv => exact ⟨z_narB h.1, hQ (.inl (some (.inl x))) _ h.2 hv.1 hS⟩
  | lreturn =>
    match zst, rt, h, hv with
    | [.inr (.inl x)], some .long, h, hv => exact hQ (.inl (some (.inr (.inl x)))) _ h hv.1 hS
  | dreturn =>
    match zst, rt, h, hv with
    | [.inr (.inr (.double x))], some .double, h, hv => exact hQ (.inl (some (.inr (.inr (.double x))))) _ h hv.1 hS
  | _ => exact h.elim
