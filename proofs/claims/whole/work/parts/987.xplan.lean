/-! the class: the best order of a party's rides -/
theorem z_bitm_f : ∀ m : Fin 256, ∀ k : Fin 8, (z_and (m.val : Int) (z_shl 1 (k.val : Int)) = 0 ↔ m.val.testBit k.val = false) ∧ (m.val.testBit k.val = true → z_and (m.val : Int) (z_xor (z_shl 1 (k.val : Int)) (-1)) = ((m.val ^^^ 2 ^ k.val : Nat) : Int) ∧ m.val ^^^ 2 ^ k.val < 256 ∧ y_bc (m.val ^^^ 2 ^ k.val) + 1 = y_bc m.val) := by decide +kernel
theorem y_bc_0_f : ∀ m : Fin 256, y_bc m.val = 0 → m.val = 0 := by decide +kernel
theorem z_out_f : ∀ n : Fin 9, ∀ i : Fin 32, (Int32.ofInt (z_xor (z_shl 1 (n.val : Int) - 1) (-1))).toBitVec.toNat.testBit i.val = decide (n.val ≤ i.val) := by decide +kernel
/-- no ride of a set beyond n -/
theorem z_outr {x : Int} {n : Nat} (hx : -2147483648 ≤ x ∧ x ≤ 2147483647) (hn : n ≤ 8) : z_and x (z_xor (z_shl 1 n - 1) (-1)) = 0 ↔ 0 ≤ x ∧ x < ((2 ^ n : Nat) : Int) := by
  have p8 := y_pow8 hn
  have f := z_out_f ⟨n, by omega⟩
  have xe : (Int32.ofInt x).toBitVec.toInt = x := by
    rw [Int32.toInt_toBitVec, Int32.toInt_ofInt_of_le (by omega) (by omega)]
  generalize eb : (Int32.ofInt x).toBitVec = b at *
  generalize ec : (Int32.ofInt (z_xor (z_shl 1 (n : Int) - 1) (-1))).toBitVec = c at *
  have f : ∀ i : Fin 32, c.toNat.testBit i.val = decide (n ≤ i.val) := f
  have e1 : z_and x (z_xor (z_shl 1 n - 1) (-1)) = (b &&& c).toInt := by
    unfold z_and
    rw [← Int32.toInt_toBitVec, Int32.toBitVec_and, eb, ec]
  have bl := b.isLt
  have cl := c.isLt
  have key : b.toNat &&& c.toNat = 0 ↔ b.toNat < 2 ^ n := by
    constructor
    · intro h
      refine Nat.lt_pow_two_of_testBit _ (fun i hi => ?_)
      by_cases i32 : i < 32
      · have t : (b.toNat &&& c.toNat).testBit i = false := by rw [h]; exact Nat.zero_testBit i
        rw [Nat.testBit_and, f ⟨i, i32⟩, decide_eq_true (show n ≤ i from hi), Bool.and_true] at t
        exact t
      · exact Nat.testBit_lt_two_pow (Nat.lt_of_lt_of_le bl (Nat.pow_le_pow_right (by omega) (by omega)))
    · intro h
      apply Nat.eq_of_testBit_eq
      intro i
      rw [Nat.testBit_and, Nat.zero_testBit]
      by_cases i32 : i < n
      · rw [f ⟨i, by omega⟩, decide_eq_false (by show ¬ n ≤ i; omega), Bool.and_false]
      · rw [Nat.testBit_lt_two_pow (Nat.lt_of_lt_of_le h (Nat.pow_le_pow_right (by omega) (by omega))), Bool.false_and]
  rw [e1]
  have tz : (b &&& c).toInt = 0 ↔ b.toNat &&& c.toNat = 0 := by
    rw [← BitVec.toNat_and]
    constructor
    · intro h
      have : b &&& c = 0#32 := BitVec.toInt_inj.mp (by rw [h]; rfl)
      rw [this]; rfl
    · intro h
      have : b &&& c = 0#32 := BitVec.eq_of_toNat_eq (by rw [h]; rfl)
      rw [this]; rfl
  rw [tz, key]
  have bi : b.toInt = if 2 * b.toNat < 2 ^ 32 then (b.toNat : Int) else (b.toNat : Int) - ((2 ^ 32 : Nat) : Int) := BitVec.toInt_eq_toNat_cond b
  rw [xe] at bi
  split at bi <;> omega
theorem y_bl_s {m k : Nat} : y_bl m (k + 1) = y_bl m k ++ (if m.testBit k = true then [k] else []) := rfl
section Q21
variable {l : Launch} {d : Nat} {g : List (Option Nat)} {T : m_E} {J : z_J} {X : z_X} {q : Int → Int}
theorem e_fillNextStart (hb : y_base q) (h : x_day 36 q J) {i r : Int} (hi : 0 ≤ i ∧ i < q 3) (hr : 0 ≤ r ∧ r < q 1) (hB : ∀ s, 0 ≤ s → s < 168 → J 130 s = y_taken q i s) : z_Sem l (d + 3) M_Planner_fillNextStart [.inr (.inr (.ref 128)), .inr (.inr (.ref 36)), .inl r, .inl (q (138 + 3 * i + 1))] (m_Ex g T, J, X) 0 0 (z_vq (m_Ex g T) (fun J' X' => X' = X ∧ ∃ f fn, J' = z_row (z_row J 129 f) (132 + r.toNat) fn ∧ ∀ s, 0 ≤ s → s < 144 → fn s = y_ns q i r s)) := by
  have h1 := hb.1.2.1
  have r2 := (hb.ride hr.1 hr.2).2.2.1
  have r3 := (hb.ride hr.1 hr.2).2.2.2.1
  have rd := h.ride hr.1 hr.2
  refine z_sem_of z_m72 m_ok_72 (Nat.le_of_ble_eq_true rfl) (fun Wp hs hv hS => ?_)
  have loop : ∀ f : Int → Int, (∀ s, 0 ≤ s → s < 144 → f s = y_free q r s) → ∀ (n : Nat) (fn : Int → Int), n ≤ 144 → (∀ s, (n : Int) ≤ s → s < 144 → fn s = y_ns q i r s) → Wp 18 [some (.inr (.inr (.ref 128))), some (.inr (.inr (.ref 36))), some (.inl r), some (.inl (q (138 + 3 * i + 1))), some (.inl (y_ns q i r n)), some (.inl ((n : Int) - 1)), none] [] (m_Ex g T, z_row (z_row J 129 f) (132 + r.toNat) fn, X) 0 0 := by
    intro f hf n
    induction n with
    | zero =>
      intro fn hn hfn
      refine w_72_18 hs ?_
      exact ⟨fun c => ⟨_, _, rfl, rfl, rfl, f, fn, rfl, fun s a1 a2 => hfn s a1 a2⟩, fun c => by omega⟩
    | succ n ih =>
      intro fn hn hfn
      have O : ∀ b, b ≠ 129 → b ≠ 132 + r.toNat → (z_row (z_row J 129 f) (132 + r.toNat) fn) b = J b := fun b b1 b2 => by rw [z_row_ne b2, z_row_ne b1]
      have e129 : (z_row (z_row J 129 f) (132 + r.toNat) fn) 129 n = y_free q r n := by rw [z_row_ne (by omega), z_row_eq]; exact hf n (by omega) (by omega)
      have go : ∀ v : Int, v = y_ns q i r n → Wp 18 [some (.inr (.inr (.ref 128))), some (.inr (.inr (.ref 36))), some (.inl r), some (.inl (q (138 + 3 * i + 1))), some (.inl v), some (.inl ((n : Int) + -1)), none] [] (m_Ex g T, z_u (z_row (z_row J 129 f) (132 + r.toNat) fn) (132 + r.toNat) n v, X) 0 0 := by
        intro v hv
        rw [z_u_zrow, show (n : Int) + -1 = n - 1 by omega, hv]
        refine ih _ (by omega) (fun s a1 a2 => ?_)
        by_cases z : s = n
        · rw [z_up_eq z, z]
        · rw [z_up_ne z]; exact hfn s (by omega) a2
      have ci := e_isClearb (l := l) (d := d + 1) (g := g) (T := T) (J := z_row (z_row J 129 f) (132 + r.toNat) fn) (X := X) (s := n) (n := q (10 + 14 * r + 2)) (by omega) (by omega) (by omega)
      rw [O 130 (by omega) (by omega)] at ci
      have ec : y_clear (J 130) n (q (10 + 14 * r + 2)) = y_clear (y_taken q i) n (q (10 + 14 * r + 2)) := y_clear_congr (fun j a1 a2 => hB j (by omega) (by omega))
      rw [ec] at ci
      have st : (n : Int) ≤ q (10 + 14 * r + 4) → y_ns q i r n = if q (138 + 3 * i + 1) ≤ y_free q r n ∧ y_clear (y_taken q i) n (q (10 + 14 * r + 2)) = true then (n : Int) else y_ns q i r (n + 1) := fun z => y_win_s (by omega) (by omega)
      have no : q (10 + 14 * r + 4) < (n : Int) → y_ns q i r n = -1 ∧ y_ns q i r (n + 1) = -1 := fun z => ⟨y_win_no (by omega), y_win_no (by omega)⟩
      rw [show ((n + 1 : Nat) : Int) - 1 = n by omega, show ((n + 1 : Nat) : Int) = (n : Int) + 1 from rfl]
      refine w_72_18 hs ?_
      rw [O 42 (by omega) (by omega), O 40 (by omega) (by omega), rd.2.2.2.2.1, rd.2.2.1, e129]
      refine ⟨fun c => by omega, fun c => ⟨by omega, fun c1 => ⟨by omega, by omega, go _ ?_⟩, fun c1 => ⟨by omega, fun c2 => ⟨by omega, by omega, go _ ?_⟩, fun c2 => ⟨by omega, z_cI ci ⟨fun c3 => ⟨by omega, by omega, go _ ?_⟩, fun c3 => ⟨by omega, by omega, go _ ?_⟩⟩⟩⟩⟩⟩
      · rw [(no c1).1, (no c1).2]
      · rw [st c1, if_neg (fun z => by omega)]
      · rw [y_b_0] at c3
        rw [st c1, if_neg (fun z => by rw [c3] at z; exact absurd z.2 (by decide))]
      · rw [y_b_1] at c3
        rw [st c1, if_pos ⟨c2, c3⟩]
  refine w_72_0 hs ?_
  refine z_cVq (e_fillFreeb hb h hr) ?_
  rintro J2 X2 ⟨rfl, f, rfl, hf⟩
  have := loop f (fun s a1 a2 => by rw [hf s a1 a2, y_freeX_none]) 144 (J (132 + r.toNat)) (by omega) (fun s a1 a2 => by omega)
  have e : z_row (z_row J 129 f) (132 + r.toNat) (J (132 + r.toNat)) = z_row J 129 f := by
    have : J (132 + r.toNat) = (z_row J 129 f) (132 + r.toNat) := by rw [z_row_ne (by omega)]
    rw [this, z_row_self]
  rw [e, show y_ns q i r ((144 : Nat) : Int) = -1 from y_win_no (by omega)] at this
  exact this
/-- what exploring may change -/
def x_ex (J J' : z_J) : Prop := (∀ k, k ≠ 5 → J' 128 k = J 128 k) ∧ ∀ b, b ≠ 128 → b ≠ 140 → b ≠ 141 → J' b = J b
theorem x_ex.rf {J : z_J} : x_ex J J := ⟨fun _ _ => rfl, fun _ _ _ _ => rfl⟩
theorem x_ex.tr {J J1 J2 : z_J} (h1 : x_ex J J1) (h2 : x_ex J1 J2) : x_ex J J2 := ⟨fun k hk => (h2.1 k hk).trans (h1.1 k hk), fun b a1 a2 a3 => (h2.2 b a1 a2 a3).trans (h1.2 b a1 a2 a3)⟩
/-- the planner's best order so far -/
def x_acc (n : Nat) (acc : Int × List Nat) (J : z_J) : Prop := J 128 5 = acc.1 ∧ -1 ≤ acc.1 ∧ acc.1 ≤ 1000 ∧ (acc.1 ≠ -1 → y_rp (J 141) acc.2 ∧ acc.2.length = n)
theorem e_explore (hb : y_base q) {i : Int} {m0 : Nat} (hm0 : m0 < 2 ^ (q 1).toNat) : ∀ (k m : Nat) (pre : List Nat) (fr : Int) (d : Nat) (J : z_J) (acc : Int × List Nat), y_bc m = k → m < 2 ^ (q 1).toNat → pre.length + k ≤ 5 → (q 0 ≤ fr ∧ fr ≤ 1000 ∧ (k = 0 → 1 ≤ fr)) → x_day 36 q J → (∀ r : Nat, m.testBit r = true → ∀ s, 0 ≤ s → s < 144 → J (132 + r) s = y_ns q i r s) → y_rp (J 140) pre → x_acc (pre.length + k) acc J → z_Sem l (d + k + 1) M_Planner_explore [.inr (.inr (.ref 128)), .inr (.inr (.ref 36)), .inl m, .inl (pre.length : Nat), .inl fr] (m_Ex g T, J, X) 0 0 (z_vq (m_Ex g T) (fun J' X' => X' = X ∧ x_ex J J' ∧ y_rp (J' 140) pre ∧ x_acc (pre.length + k) (y_fx q i pre fr (y_prm k (y_bl m 8)) acc) J')) := by
  obtain ⟨b0, b1, b2, b3, b4, b5⟩ := hb.1
  have p8 := y_pow8 (show (q 1).toNat ≤ 8 by omega)
  intro k
  induction k with
  | zero =>
    intro m pre fr d J acc hk hm hl hfr h hN hpre hacc
    have mz : m = 0 := y_bc_0_f ⟨m, by omega⟩ hk
    have f1 := hfr.2.2 rfl
    subst mz
    have stp : y_fx q i pre fr (y_prm 0 (y_bl 0 8)) acc = y_stp acc pre (fr - 1) := by
      show y_stp acc (pre ++ []) (fr - 1) = _
      rw [List.append_nil]
    rw [stp]
    have take : y_stp acc pre (fr - 1) = (fr - 1, pre) → z_vq (m_Ex g T) (fun J' X' => X' = X ∧ x_ex J J' ∧ y_rp (J' 140) pre ∧ x_acc (pre.length + 0) (y_stp acc pre (fr - 1)) J') (.inl none) (m_Ex g T, z_row (z_u J 128 5 (fr - 1)) 141 (z_cpy (J 140) (J 141) 0 0 5), X) := by
      intro he
      rw [he]
      refine ⟨_, _, rfl, rfl, rfl, ⟨fun k hk => ?_, fun b a1 a2 a3 => ?_⟩, ?_, ?_, by show -1 ≤ fr - 1; omega, by show fr - 1 ≤ 1000; omega, fun _ => ⟨fun j hj => ?_, ?_⟩⟩
      · rw [z_row_ne (by omega), z_u_off hk]
      · rw [z_row_ne a3, z_u_ne a1]
      · rw [z_row_ne (by omega), z_u_ne (by omega)]; exact hpre
      · rw [z_row_ne (by omega), z_u_at rfl]
      · have hj : j < pre.length := hj
        rw [z_row_eq]
        unfold z_cpy
        rw [if_pos (by omega), show (0 : Int) + ((j : Int) - 0) = j by omega]
        exact hpre j hj
      · rfl
    refine z_sem_of z_m73 m_ok_73 (Nat.le_of_ble_eq_true rfl) (fun Wp hs hv hS => ?_)
    refine w_73_0 hs ?_
    rw [hacc.1]
    refine ⟨fun c => absurd rfl c, fun c => ⟨fun c1 => ⟨by omega, take ?_⟩, fun c1 => ⟨by omega, fun c2 => ?_, fun c2 => ⟨by omega, take ?_⟩⟩⟩⟩
    · unfold y_stp
      rw [if_pos ⟨by omega, Or.inl c1⟩]
    · have : y_stp acc pre (fr - 1) = acc := by unfold y_stp; rw [if_neg (fun z => by omega)]
      rw [this]
      exact ⟨_, _, rfl, rfl, rfl, x_ex.rf, hpre, hacc⟩
    · unfold y_stp
      rw [if_pos ⟨by omega, Or.inr c2⟩]
  | succ k ih =>
    intro m pre fr d J acc hk hm hl hfr h hN hpre hacc
    have m256 : m < 256 := by omega
    have mne : m ≠ 0 := by
      intro z
      subst z
      have : y_bc 0 = 0 := by decide +kernel
      omega
    have d1 := h.hd.2.2.1
    have fb := y_bl_f ⟨m, m256⟩
    rw [Bool.and_eq_true] at fb
    refine z_sem_of z_m73 m_ok_73 (Nat.le_of_ble_eq_true rfl) (fun Wp hs hv hS => ?_)
    -- ride by ride; t: the rides that are left
    have loop : 0 ≤ fr → fr < 144 → ∀ (n r : Nat) (t : List Nat) (J1 : z_J) (acc1 : Int × List Nat), r + n = 8 → (r : Int) ≤ q 1 → (∃ u, y_bl m 8 = y_bl m r ++ t ∧ u = t) → x_ex J J1 → y_rp (J1 140) pre → x_acc (pre.length + (k + 1)) acc1 J1 → y_fx q i pre fr (y_pk (y_prm k) (y_bl m 8) t) acc1 = y_fx q i pre fr (y_prm (k + 1) (y_bl m 8)) acc → Wp 68 [some (.inr (.inr (.ref 128))), some (.inr (.inr (.ref 36))), some (.inl m), some (.inl (pre.length : Nat)), some (.inl fr), some (.inl r), none] [] (m_Ex g T, J1, X) 0 0 := by
      intro f0 f144 n
      induction n with
      | zero =>
        intro r t J1 acc1 hr hrq ht hx hp ha he
        obtain ⟨_, ht, -⟩ := ht
        have r8 : r = 8 := by omega
        have tz : t = [] := by
          rw [r8] at ht
          exact (List.append_right_eq_self.mp ht.symm)
        subst tz
        have e37 : J1 37 11 = q 1 := by rw [hx.2 37 (by omega) (by omega) (by omega)]; exact d1
        refine w_73_68 hs ?_
        rw [e37]
        refine ⟨fun c => ⟨_, _, rfl, rfl, rfl, hx, hp, ?_⟩, fun c => by omega⟩
        rw [← he]; exact ha
      | succ n ihn =>
        intro r t J1 acc1 hr hrq ht hx hp ha he
        obtain ⟨_, ht, -⟩ := ht
        have e37 : J1 37 11 = q 1 := by rw [hx.2 37 (by omega) (by omega) (by omega)]; exact d1
        have x1 : x_day 36 q J1 := x_day_congr (fun b hb9 => hx.2 b (by omega) (by omega) (by omega)) b1.2 h
        have bm := z_bitm_f ⟨m, m256⟩ ⟨r, by omega⟩
        have bm1 : z_and (m : Int) (z_shl 1 (r : Int)) = 0 ↔ m.testBit r = false := bm.1
        have bm2 : m.testBit r = true → z_and (m : Int) (z_xor (z_shl 1 (r : Int)) (-1)) = ((m ^^^ 2 ^ r : Nat) : Int) ∧ m ^^^ 2 ^ r < 256 ∧ y_bc (m ^^^ 2 ^ r) + 1 = y_bc m := bm.2
        have skip : m.testBit r = false → Wp 68 [some (.inr (.inr (.ref 128))), some (.inr (.inr (.ref 36))), some (.inl m), some (.inl (pre.length : Nat)), some (.inl fr), some (.inl ((r : Int) + 1)), none] [] (m_Ex g T, J1, X) 0 0 ∨ q 1 ≤ r := by
          intro e
          by_cases rq : (r : Int) < q 1
          · refine Or.inl (ihn (r + 1) t J1 acc1 (by omega) (by omega) ⟨t, ?_, rfl⟩ hx hp ha he)
            rw [y_bl_s (m := m) (k := r), e, if_neg (by decide), List.append_nil]; exact ht
          · exact Or.inr (by omega)
        -- with the ride's bit: it is the next
        have nxt : m.testBit r = true → ∃ t', t = r :: t' ∧ y_bl m 8 = y_bl m (r + 1) ++ t' := by
          intro e
          have s1 : ∀ j : Nat, ∃ w, y_bl m (r + 1 + j) = y_bl m (r + 1) ++ w := by
            intro j
            induction j with
            | zero => exact ⟨[], by rw [List.append_nil, Nat.add_zero]⟩
            | succ j ihj =>
              obtain ⟨w, hw⟩ := ihj
              refine ⟨w ++ (if m.testBit (r + 1 + j) = true then [r + 1 + j] else []), ?_⟩
              rw [show r + 1 + (j + 1) = r + 1 + j + 1 by omega, y_bl_s (m := m) (k := r + 1 + j), hw, List.append_assoc]
          obtain ⟨w, hw⟩ := s1 (8 - (r + 1))
          rw [show r + 1 + (8 - (r + 1)) = 8 by omega] at hw
          refine ⟨w, ?_, hw⟩
          have hw2 := hw
          rw [y_bl_s (m := m) (k := r), e, if_pos rfl, List.append_assoc, ht] at hw2
          exact List.append_cancel_left hw2
        refine w_73_68 hs ?_
        rw [e37]
        refine ⟨fun c => ?_, fun c => ⟨fun c1 => ⟨by omega, ?_⟩, fun c1 => ⟨by omega, by omega, fun c2 => ⟨by omega, ?_⟩, fun c2 => ⟨by omega, by omega, ?_⟩⟩⟩⟩
        · have tz : t = [] := by
            have rq : r = (q 1).toNat := by omega
            have := y_bl_st (m := m) (k := r) (by rw [rq]; exact hm) (8 - r)
            rw [show r + (8 - r) = 8 by omega, ht] at this
            exact List.append_right_eq_self.mp this
          subst tz
          refine ⟨_, _, rfl, rfl, rfl, hx, hp, ?_⟩
          rw [← he]; exact ha
        · rcases skip (bm1.mp c1) with z | z
          · exact z
          · omega
        · have e : m.testBit r = true := by
            cases z : m.testBit r
            · exact absurd (bm1.mpr z) c1
            · rfl
          obtain ⟨t', rfl, ht'⟩ := nxt e
          have en : J1 (132 + ((r : Int)).toNat) fr = y_ns q i r fr := by
            rw [show ((r : Int)).toNat = r by omega, hx.2 (132 + r) (by omega) (by omega) (by omega)]
            exact hN r e fr f0 f144
          rw [en] at c2
          refine ihn (r + 1) t' J1 acc1 (by omega) (by omega) ⟨t', ht', rfl⟩ hx hp ha ?_
          rw [← he, y_pk, y_fx_app, y_fx_map, if_pos c2]
        · have e : m.testBit r = true := by
            cases z : m.testBit r
            · exact absurd (bm1.mpr z) c1
            · rfl
          obtain ⟨t', rfl, ht'⟩ := nxt e
          obtain ⟨g1, g2, g3⟩ := bm2 e
          have en : J1 (132 + ((r : Int)).toNat) fr = y_ns q i r fr := by
            rw [show ((r : Int)).toNat = r by omega, hx.2 (132 + r) (by omega) (by omega) (by omega)]
            exact hN r e fr f0 f144
          rw [en] at c2
          have rd := x1.ride (r := r) (by omega) (by omega)
          have r2 := (hb.ride (r := r) (by omega) (by omega)).2.2.1
          have nb := y_ns_b hb (i := i) (r := r) (lo := fr) ⟨by omega, by omega⟩ f0 c2
          have en2 : (z_u J1 140 (pre.length : Nat) r) (132 + ((r : Int)).toNat) fr = y_ns q i r fr := by rw [z_u_ne (by omega)]; exact en
          rw [en2, rd.2.2.1, g1]
          refine ⟨by omega, ?_⟩
          have xs : m ^^^ 2 ^ r < m := y_xor_lt (Nat.ne_of_gt (Nat.two_pow_pos r)) (by
            apply Nat.eq_of_testBit_eq
            intro j
            rw [Nat.testBit_and, Nat.testBit_two_pow]
            by_cases z : r = j
            · subst z; rw [decide_eq_true rfl, e]; rfl
            · rw [decide_eq_false z]; rfl)
          have x2 : x_day 36 q (z_u J1 140 (pre.length : Nat) r) := x_day_congr (fun b hb9 => z_u_ne (by omega)) b1.2 x1
          have pl : (pre ++ [r]).length = pre.length + 1 := by rw [List.length_append, List.length_singleton]
          have rp2 : y_rp ((z_u J1 140 (pre.length : Nat) r) 140) (pre ++ [r]) := by
            intro j hj
            rw [pl] at hj
            rw [z_u_row]
            by_cases z : j = pre.length
            · rw [z_up_eq (by omega), List.getD_eq_getElem?_getD, List.getElem?_append_right (by omega), z, Nat.sub_self]; rfl
            · rw [z_up_ne (by omega), hp j (by omega), List.getD_eq_getElem?_getD, List.getD_eq_getElem?_getD, List.getElem?_append_left (by omega)]
          have ac2 : x_acc ((pre ++ [r]).length + k) acc1 (z_u J1 140 (pre.length : Nat) r) := by
            obtain ⟨a1, a2, a3, a4⟩ := ha
            refine ⟨by rw [z_u_ne (by omega)]; exact a1, a2, a3, fun z => ?_⟩
            rw [z_u_ne (by omega), pl, show pre.length + 1 + k = pre.length + (k + 1) by omega]
            exact a4 z
          have ce := ih (m ^^^ 2 ^ r) (pre ++ [r]) (y_ns q i r fr + q (10 + 14 * (r : Int) + 2)) d (z_u J1 140 (pre.length : Nat) r) acc1 (by omega) (by omega) (by rw [pl]; omega) ⟨by omega, by omega, fun _ => by omega⟩ x2 (fun r' hr' s a1 a2 => by
            rw [z_u_ne (by
              have : r' < 8 := y_bit_lt (N := 8) (p := m ^^^ 2 ^ r) (by omega) hr'
              omega), hx.2 (132 + r') (by omega) (by
              have : r' < 8 := y_bit_lt (N := 8) (p := m ^^^ 2 ^ r) (by omega) hr'
              omega) (by
              have : r' < 8 := y_bit_lt (N := 8) (p := m ^^^ 2 ^ r) (by omega) hr'
              omega)]
            refine hN r' ?_ s a1 a2
            rw [Nat.testBit_xor, Nat.testBit_two_pow] at hr'
            by_cases z : r = r'
            · subst z; exact e
            · rw [decide_eq_false z, Bool.xor_false] at hr'; exact hr') rp2 ac2
          rw [pl, show ((pre.length + 1 : Nat) : Int) = (pre.length : Int) + 1 from rfl] at ce
          refine z_cVq ce ?_
          rintro J3 X3 ⟨rfl, y1, y2, y3⟩
          refine ⟨by omega, ihn (r + 1) t' J3 _ (by omega) (by omega) ⟨t', ht', rfl⟩ ⟨fun k' hk' => ?_, fun b a1 a2 a3 => ?_⟩ (fun j hj => ?_) (by rw [show pre.length + (k + 1) = pre.length + 1 + k by omega]; exact y3) ?_⟩
          · rw [y1.1 k' hk', z_u_ne (by omega)]; exact hx.1 k' hk'
          · rw [y1.2 b a1 a2 a3, z_u_ne a2]; exact hx.2 b a1 a2 a3
          · have := y2 j (by rw [pl]; omega)
            rw [List.getD_eq_getElem?_getD, List.getElem?_append_left (by omega), ← List.getD_eq_getElem?_getD] at this
            exact this
          · rw [← he, y_pk, y_fx_app, y_fx_map, if_neg c2]
            have := y_leq_eq (y_bl_rm_f ⟨m, m256⟩ ⟨r, by omega⟩ e)
            have this : y_bl (m ^^^ 2 ^ r) 8 = y_rmv (y_bl m 8) r := this
            rw [this]
    refine w_73_0 hs ?_
    refine ⟨fun c => ⟨fun c1 => by omega, fun c1 => ⟨fun c2 => by omega, fun c2 => ⟨fun c3 => ?_, fun c3 => ?_⟩⟩⟩, fun c => by omega⟩
    · exact loop c2 c3 8 0 (y_bl m 8) J acc (by omega) (by omega) ⟨_, rfl, rfl⟩ x_ex.rf hpre hacc rfl
    · refine ⟨_, _, rfl, rfl, rfl, x_ex.rf, hpre, ?_⟩
      have : ∀ t : List Nat, y_fx q i pre fr (y_pk (y_prm k) (y_bl m 8) t) acc = acc := by
        intro t
        induction t with
        | nil => rfl
        | cons r t iht =>
          have nn : y_ns q i r fr = -1 := y_win_no (by omega)
          rw [y_pk, y_fx_app, y_fx_map, if_pos nn, iht]
      rw [y_prm, this]
      exact hacc
theorem e_plan (hb : y_base q) (h : x_day 36 q J) {i : Int} {m : Nat} (hi : 0 ≤ i ∧ i < q 3) (hm : m < 2 ^ (q 1).toNat) (h0 : m ≠ 0) (h5 : y_bc m ≤ 5) : z_Sem l (d + 9) M_Planner_plan [.inr (.inr (.ref 128)), .inr (.inr (.ref 36)), .inl i, .inl m] (m_Ex g T, J, X) 0 0 (z_vq (m_Ex g T) (fun J' X' => X' = X ∧ x_sc J J' ∧ x_acc (y_bc m) (y_plan q i m) J')) := by
  obtain ⟨b0, b1, b2, b3, b4, b5⟩ := hb.1
  have p8 := y_pow8 (show (q 1).toNat ≤ 8 by omega)
  have n1 : 1 ≤ y_bc m := y_bc_pos_f ⟨m, by omega⟩ h0
  have xp := h.party hi.1 hi.2
  refine z_sem_of z_m71 m_ok_71 (Nat.le_of_ble_eq_true rfl) (fun Wp hs hv hS => ?_)
  have loop : ∀ (n r : Nat) (J1 : z_J), r + n = (q 1).toNat → x_sc J J1 → (∀ s, 0 ≤ s → s < 168 → J1 130 s = y_taken q i s) → (∀ r' : Nat, r' < r → m.testBit r' = true → ∀ s, 0 ≤ s → s < 144 → J1 (132 + r') s = y_ns q i r' s) → Wp 14 [some (.inr (.inr (.ref 128))), some (.inr (.inr (.ref 36))), some (.inl i), some (.inl m), some (.inl r)] [] (m_Ex g T, J1, X) 0 0 := by
    intro n
    induction n with
    | zero =>
      intro r J1 hr hx h130 hN
      have x1 : x_day 36 q J1 := hx.day b1.2 h
      have hd := x1.hd
      have ee := e_explore (l := l) (g := g) (T := T) (X := X) (i := i) hb hm (y_bc m) m [] (q 0) (d + 8 - (y_bc m + 1)) (z_u J1 128 5 (-1)) (-1, []) rfl hm (by rw [List.length_nil]; omega) ⟨Int.le_refl _, by omega, fun z => by omega⟩ (x_day_congr (fun b hb9 => z_u_ne (by omega)) b1.2 x1) (fun r' hr' s a1 a2 => by
        have : r' < (q 1).toNat := y_bit_lt hm hr'
        rw [z_u_ne (by omega)]
        exact hN r' (by omega) hr' s a1 a2) (fun j hj => absurd hj (by rw [List.length_nil]; omega)) ⟨by rw [z_u_at rfl], by show (-1 : Int) ≤ -1; omega, by show (-1 : Int) ≤ 1000; omega, fun z => absurd rfl z⟩
      rw [show d + 8 - (y_bc m + 1) + y_bc m + 1 = d + 8 by omega, List.length_nil, Nat.zero_add] at ee
      refine w_71_14 hs ?_
      rw [hd.2.2.1, hd.1]
      refine ⟨fun c => z_cVq ee ?_, fun c => by omega⟩
      rintro J2 X2 ⟨rfl, y1, y2, y3⟩
      refine ⟨_, _, rfl, rfl, rfl, fun b hb9 => ?_, y3⟩
      rw [y1.2 b (by omega) (by omega) (by omega), z_u_ne (by omega)]
      exact hx b hb9
    | succ n ih =>
      intro r J1 hr hx h130 hN
      have x1 : x_day 36 q J1 := hx.day b1.2 h
      have hd := x1.hd
      have xp1 := x1.party hi.1 hi.2
      have bm := (z_bitm_f ⟨m, by omega⟩ ⟨r, by omega⟩).1
      have bm : z_and (m : Int) (z_shl 1 (r : Int)) = 0 ↔ m.testBit r = false := bm
      refine w_71_14 hs ?_
      rw [hd.2.2.1, xp1.2.1]
      refine ⟨fun c => by omega, fun c => ⟨fun c1 => ⟨by omega, ih (r + 1) J1 (by omega) hx h130 (fun r' hr' e => ?_)⟩, fun c1 => ⟨by omega, z_cVq (e_fillNextStart hb x1 hi ⟨by omega, by omega⟩ h130) ?_⟩⟩⟩
      · by_cases z : r' = r
        · subst z; rw [bm.mp c1] at e; cases e
        · exact hN r' (by omega) e
      · rintro J2 X2 ⟨rfl, f, fn, rfl, hfn⟩
        rw [show ((r : Int)).toNat = r by omega]
        refine ⟨by omega, ih (r + 1) _ (by omega) (fun b hb9 => ?_) (fun s a1 a2 => ?_) (fun r' hr' e s a1 a2 => ?_)⟩
        · rw [z_row_ne (by omega), z_row_ne (by omega)]; exact hx b hb9
        · rw [z_row_ne (by omega), z_row_ne (by omega)]; exact h130 s a1 a2
        · by_cases z : r' = r
          · subst z; rw [z_row_eq]; exact hfn s a1 a2
          · rw [z_row_ne (by omega), z_row_ne (by omega)]; exact hN r' (by omega) e s a1 a2
  refine w_71_0 hs ?_
  refine z_cVq (e_fillTakenb hb h) ?_
  rintro J2 X2 ⟨rfl, f, rfl, hf⟩
  exact loop (q 1).toNat 0 _ (by omega) (fun b hb9 => z_row_ne (by omega)) (fun s a1 a2 => by rw [z_row_eq, hf s a1 a2, y_takenX_none hb]) (fun r' hr' => by omega)
theorem q_bestFinish (hb : y_base q) (h : x_day 36 q J) {i m : Int} (hm : -2147483648 ≤ m ∧ m ≤ 2147483647) : z_Sem l (d + 10) M_Q_bestFinish [.inr (.inr (.ref 0)), .inl i, .inl m] (m_Ex g T, J, X) 4 24 (x_out x_e1 x_e2 (o_bestFinish q i m) (m_Ex g T) (fun J' X' => X' = X ∧ x_sc J J')) := by
  obtain ⟨b0, b1, b2, b3, b4, b5⟩ := hb.1
  obtain ⟨d0, d4, d1, d2, d3, d5⟩ := h.hd
  have p8 := y_pow8 (show (q 1).toNat ≤ 8 by omega)
  have zo := z_outr (x := m) (n := (q 1).toNat) hm (by omega)
  rw [show (((q 1).toNat : Nat) : Int) = q 1 by omega] at zo
  have sh := z_shl_n (k := (q 1).toNat) (by omega)
  rw [show (((q 1).toNat : Nat) : Int) = q 1 by omega] at sh
  have t1 : ¬ (0 ≤ i ∧ i < q 3) → x_out x_e1 x_e2 (o_bestFinish q i m) (m_Ex g T) (fun J' X' => X' = X ∧ x_sc J J') (.inr x_e1) (m_Ex g T, J, X) := fun hn => x_t1 (by rw [o_bestFinish, y_need_n hn]) ⟨rfl, x_sc.rf⟩
  have t2 : (0 ≤ i ∧ i < q 3) → ¬ (0 < m ∧ m < ((2 ^ (q 1).toNat : Nat) : Int) ∧ y_bc m.toNat ≤ 5) → x_out x_e1 x_e2 (o_bestFinish q i m) (m_Ex g T) (fun J' X' => X' = X ∧ x_sc J J') (.inr x_e2) (m_Ex g T, J, X) := fun hp hn => x_t2 (by rw [o_bestFinish, y_need_2 hp, y_need_n hn]) ⟨rfl, x_sc.rf⟩
  refine z_sem_of z_m177 m_ok_177 (Nat.le_of_ble_eq_true rfl) (fun Wp hs hv hS => ?_)
  refine w_177_0 hs ?_
  rw [d1, d3]
  refine ⟨by omega, fun c => t1 (by omega), fun c => ⟨fun c1 => ⟨⟨by omega, by rw [sh]; omega⟩, fun c2 => t2 ⟨c, c1⟩ (fun z => c2 (zo.mpr ⟨by omega, z.2.1⟩)), fun c2 => ⟨fun c3 => t2 ⟨c, c1⟩ (fun z => by omega), fun c3 => ?_⟩⟩, fun c1 => t1 (by omega)⟩⟩
  have mr := zo.mp c2
  have cb := e_bitCount (l := l) (d := d + 7) (g := g) (T := T) (J := J) (X := X) (x := m.toNat) (by omega)
  rw [show ((m.toNat : Nat) : Int) = m by omega] at cb
  refine z_cI cb ⟨fun c4 => ?_, fun c4 => ⟨by omega, t2 ⟨c, c1⟩ (fun z => by omega)⟩⟩
  have cp := e_plan (l := l) (d := d) (g := g) (T := T) (J := J) (X := X) (i := i) (m := m.toNat) hb h ⟨c, c1⟩ (by omega) (by omega) (by omega)
  rw [show ((m.toNat : Nat) : Int) = m by omega] at cp
  refine z_cVq cp ?_
  rintro J2 X2 ⟨rfl, y1, y2⟩
  have ho : o_bestFinish q i m = (0, if (y_plan q i m.toNat).1 = -1 then -4 else (y_plan q i m.toNat).1) := by rw [o_bestFinish, y_need_2 ⟨c, c1⟩, y_need_2 ⟨by omega, mr.2, by omega⟩]
  rw [y2.1]
  refine ⟨fun c5 => x_ok (by rw [ho, if_neg c5]) ⟨rfl, y1⟩, fun c5 => x_ok (by rw [ho, if_pos c5]) ⟨rfl, y1⟩⟩
theorem q_bestOrder (hb : y_base q) (h : x_day 36 q J) {i m x : Int} (hm : -2147483648 ≤ m ∧ m ≤ 2147483647) : z_Sem l (d + 10) M_Q_bestOrder [.inr (.inr (.ref 0)), .inl i, .inl m, .inl x] (m_Ex g T, J, X) 4 24 (x_out x_e1 x_e2 (o_bestOrder q i m x) (m_Ex g T) (fun J' X' => X' = X ∧ x_sc J J')) := by
  obtain ⟨b0, b1, b2, b3, b4, b5⟩ := hb.1
  obtain ⟨d0, d4, d1, d2, d3, d5⟩ := h.hd
  have p8 := y_pow8 (show (q 1).toNat ≤ 8 by omega)
  have zo := z_outr (x := m) (n := (q 1).toNat) hm (by omega)
  rw [show (((q 1).toNat : Nat) : Int) = q 1 by omega] at zo
  have sh := z_shl_n (k := (q 1).toNat) (by omega)
  rw [show (((q 1).toNat : Nat) : Int) = q 1 by omega] at sh
  have t1 : ¬ (0 ≤ i ∧ i < q 3) → x_out x_e1 x_e2 (o_bestOrder q i m x) (m_Ex g T) (fun J' X' => X' = X ∧ x_sc J J') (.inr x_e1) (m_Ex g T, J, X) := fun hn => x_t1 (by rw [o_bestOrder, y_need_n hn]) ⟨rfl, x_sc.rf⟩
  have t2 : (0 ≤ i ∧ i < q 3) → ¬ (0 < m ∧ m < ((2 ^ (q 1).toNat : Nat) : Int) ∧ y_bc m.toNat ≤ 5) → x_out x_e1 x_e2 (o_bestOrder q i m x) (m_Ex g T) (fun J' X' => X' = X ∧ x_sc J J') (.inr x_e2) (m_Ex g T, J, X) := fun hp hn => x_t2 (by rw [o_bestOrder, y_need_2 hp, y_need_n hn]) ⟨rfl, x_sc.rf⟩
  refine z_sem_of z_m179 m_ok_179 (Nat.le_of_ble_eq_true rfl) (fun Wp hs hv hS => ?_)
  refine w_179_0 hs ?_
  rw [d1, d3]
  refine ⟨by omega, fun c => t1 (by omega), fun c => ⟨fun c1 => ⟨⟨by omega, by rw [sh]; omega⟩, fun c2 => t2 ⟨c, c1⟩ (fun z => c2 (zo.mpr ⟨by omega, z.2.1⟩)), fun c2 => ⟨fun c3 => t2 ⟨c, c1⟩ (fun z => by omega), fun c3 => ?_⟩⟩, fun c1 => t1 (by omega)⟩⟩
  have mr := zo.mp c2
  have cb := fun (d : Nat) (J : z_J) => e_bitCount (l := l) (d := d) (g := g) (T := T) (J := J) (X := X) (x := m.toNat) (by omega)
  rw [show ((m.toNat : Nat) : Int) = m by omega] at cb
  refine z_cI (cb (d + 7) J) ⟨fun c4 => ?_, fun c4 => ⟨by omega, t2 ⟨c, c1⟩ (fun z => by omega)⟩⟩
  have cp := e_plan (l := l) (d := d) (g := g) (T := T) (J := J) (X := X) (i := i) (m := m.toNat) hb h ⟨c, c1⟩ (by omega) (by omega) (by omega)
  rw [show ((m.toNat : Nat) : Int) = m by omega] at cp
  refine z_cVq cp ?_
  rintro J2 X2 ⟨rfl, y1, y2⟩
  have ho : o_bestOrder q i m x = (0, if (y_plan q i m.toNat).1 ≠ -1 ∧ 0 ≤ x ∧ x < y_bc m.toNat then (((y_plan q i m.toNat).2.getD x.toNat 0 : Nat) : Int) else -1) := by rw [o_bestOrder, y_need_2 ⟨c, c1⟩, y_need_2 ⟨by omega, mr.2, by omega⟩]
  have no : ¬ ((y_plan q i m.toNat).1 ≠ -1 ∧ 0 ≤ x ∧ x < y_bc m.toNat) → x_out x_e1 x_e2 (o_bestOrder q i m x) (m_Ex g T) (fun J' X' => X' = X2 ∧ x_sc J J') (.inl (some (.inl (-1)))) (m_Ex g T, J2, X2) := fun hn => x_ok (by rw [ho, if_neg hn]) ⟨rfl, y1⟩
  rw [y2.1]
  refine ⟨fun c5 => no (fun z => z.1 c5), fun c5 => ⟨fun c6 => no (fun z => by omega), fun c6 => z_cI (cb (d + 8) J2) ⟨fun c7 => ⟨by omega, ?_⟩, fun c7 => no (fun z => by omega)⟩⟩⟩
  obtain ⟨k7, k8⟩ := y2.2.2.2 c5
  have := k7 x.toNat (by rw [k8]; omega)
  rw [show ((x.toNat : Nat) : Int) = x by omega] at this
  exact x_ok (by rw [ho, if_pos ⟨c5, c6, c7⟩, this]) ⟨rfl, y1⟩
end Q21
