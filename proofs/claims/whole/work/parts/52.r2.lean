/-! the reference: what a party has, and where a window would lie -/
def y_b (b : Bool) : Int := if b = true then 1 else 0
theorem y_b_0 {b : Bool} : y_b b = 0 ↔ b = false := by cases b <;> simp [y_b]
theorem y_b_1 {b : Bool} : y_b b ≠ 0 ↔ b = true := by cases b <;> simp [y_b]
theorem y_b_or {b : Bool} : y_b b = 0 ∨ y_b b = 1 := by cases b <;> simp [y_b]
def y_hs (q : Int → Int) (i r : Int) : Int → Bool := fun t => decide (q (288 + 6 * t + 0) = i ∧ q (288 + 6 * t + 5) = 0 ∧ q (288 + 6 * t + 1) = r)
def y_has (q : Int → Int) (i r : Int) : Bool := y_any (y_hs q i r) (q 5).toNat
def y_pause (q : Int → Int) (i : Int) : Bool := decide (q (138 + 3 * i + 2) ≠ -1 ∧ q 0 - q (138 + 3 * i + 2) < q (122 + 4 * q (138 + 3 * i + 0) + 2))
def y_check (q : Int → Int) (i r : Int) : Int := if q (10 + 14 * r + 5) = 1 then -5 else if y_has q i r = true then -3 else if q (122 + 4 * q (138 + 3 * i + 0) + 0) ≤ y_act q i (q 5).toNat ∨ y_pause q i = true then -2 else 0
def y_bk (q : Int → Int) (i s : Int) : Int → Bool := fun t => decide (q (288 + 6 * t + 0) = i ∧ q (288 + 6 * t + 5) = 0 ∧ q (288 + 6 * t + 2) ≤ s ∧ s ≤ q (288 + 6 * t + 3))
def y_blk (q : Int → Int) (i s : Int) : Bool := y_any (y_bk q i s) (q 5).toNat
def y_clear (f : Int → Int) (s n : Int) : Bool := !(y_any (fun k => decide (f (s + k) ≠ 0)) n.toNat)
/-- the first slot from lo to hi with room and nothing in the way, or -1 -/
def y_wn (L B : Int → Int) (w n lo : Int) : Int → Bool := fun k => decide (w ≤ L (lo + k)) && y_clear B (lo + k) n
def y_win (L B : Int → Int) (w n lo hi : Int) : Int := if y_first (y_wn L B w n lo) (hi - lo + 1).toNat = -1 then -1 else lo + y_first (y_wn L B w n lo) (hi - lo + 1).toNat
theorem y_act_b {q : Int → Int} {i : Int} : ∀ {n : Nat}, 0 ≤ y_act q i n ∧ y_act q i n ≤ n
  | 0 => by simp [y_act, y_sum]
  | n + 1 => by
    have := y_act_b (q := q) (i := i) (n := n)
    unfold y_act at *
    rw [y_sum]
    split <;> omega
theorem z_u_zrow {J : z_J} {a : Nat} {f : Int → Int} {k x : Int} : z_u (z_row J a f) a k x = z_row J a (z_up f k x) := by
  funext b
  unfold z_u z_row
  by_cases h : b = a
  · subst h; simp
  · simp [h]
theorem z_u_row1 {J : z_J} {a : Nat} {k x : Int} : z_u J a k x = z_row J a (z_up (J a) k x) := rfl
theorem z_row_self {J : z_J} {a : Nat} : z_row J a (J a) = J := by
  funext b
  unfold z_row
  by_cases h : b = a
  · subst h; simp
  · simp [h]
theorem z_row_row {J : z_J} {a : Nat} {f f' : Int → Int} : z_row (z_row J a f) a f' = z_row J a f' := by
  funext b
  unfold z_row
  by_cases h : b = a
  · subst h; simp
  · simp [h]
section R2
variable {l : Launch} {d : Nat} {g : List (Option Nat)} {T : m_E} {J : z_J} {X : z_X}
theorem c_hasActive (hb : y_base (J 149)) {i r : Int} : z_Sem l (d + 3) M_R_hasActive [.inr (.inr (.ref 148)), .inl i, .inl r] (m_Ex g T, J, X) 0 0 (z_ret (.inl (y_b (y_has (J 149) i r))) (m_Ex g T, J, X)) := by
  have h5 := hb.1.2.2.2.2.2
  refine z_sem_of z_m223 m_ok_223 (Nat.le_of_ble_eq_true rfl) (fun Wp hs hv hS => ?_)
  have loop : ∀ (n k : Nat), (k : Int) + n = J 149 5 → y_any (y_hs (J 149) i r) k = false → Wp 2 [some (.inr (.inr (.ref 148))), some (.inl i), some (.inl r), some (.inl k)] [] (m_Ex g T, J, X) 0 0 := by
    intro n
    induction n with
    | zero =>
      intro k hk ha
      refine w_223_2 hs ?_
      refine ⟨fun c => ⟨z_wi ?_, rfl⟩, fun c => by omega⟩
      rw [y_has, show (J 149 5).toNat = k by omega, ha]; rfl
    | succ n ih =>
      intro k hk ha
      have b := hb.tk (t := k) (by omega) (by omega)
      refine w_223_2 hs ?_
      refine ⟨fun c => by omega, fun c => ⟨by omega, fun c1 => ⟨by omega, ih (k + 1) (by omega) ?_⟩, fun c1 => ⟨by omega, fun c2 => ⟨by omega, ih (k + 1) (by omega) ?_⟩, fun c2 => ⟨by omega, fun c3 => ⟨by omega, ih (k + 1) (by omega) ?_⟩, fun c3 => ⟨z_wi ?_, rfl⟩⟩⟩⟩⟩
      · simp only [y_any, ha, y_hs, Bool.false_or, decide_eq_false_iff_not]; omega
      · simp only [y_any, ha, y_hs, Bool.false_or, decide_eq_false_iff_not]; omega
      · simp only [y_any, ha, y_hs, Bool.false_or, decide_eq_false_iff_not]; omega
      · have : y_has (J 149) i r = true := y_any_iff.mpr ⟨k, by omega, by simp only [y_hs, decide_eq_true_eq]; omega⟩
        rw [this]; rfl
  refine w_223_0 hs ?_
  exact loop (J 149 5).toNat 0 (by omega) rfl
theorem c_activeOf (hb : y_base (J 149)) {i : Int} : z_Sem l (d + 3) M_R_activeOf [.inr (.inr (.ref 148)), .inl i] (m_Ex g T, J, X) 0 0 (z_ret (.inl (y_act (J 149) i (J 149 5).toNat)) (m_Ex g T, J, X)) := by
  have h5 := hb.1.2.2.2.2.2
  refine z_sem_of z_m225 m_ok_225 (Nat.le_of_ble_eq_true rfl) (fun Wp hs hv hS => ?_)
  have loop : ∀ (n k : Nat) (a : Int), (k : Int) + n = J 149 5 → a = y_act (J 149) i k → Wp 4 [some (.inr (.inr (.ref 148))), some (.inl i), some (.inl a), some (.inl k)] [] (m_Ex g T, J, X) 0 0 := by
    intro n
    induction n with
    | zero =>
      intro k a hk ha
      refine w_225_4 hs ?_
      refine ⟨fun c => ⟨z_wi ?_, rfl⟩, fun c => by omega⟩
      rw [ha, show (J 149 5).toNat = k by omega]
    | succ n ih =>
      intro k a hk ha
      have b := hb.tk (t := k) (by omega) (by omega)
      have b2 := y_act_b (q := J 149) (i := i) (n := k)
      refine w_225_4 hs ?_
      refine ⟨fun c => by omega, fun c => ⟨by omega, fun c1 => ⟨by omega, ih (k + 1) _ (by omega) ?_⟩, fun c1 => ⟨by omega, fun c2 => ⟨by omega, ih (k + 1) _ (by omega) ?_⟩, fun c2 => ⟨by omega, ih (k + 1) _ (by omega) ?_⟩⟩⟩⟩
      all_goals
        rw [ha]
        simp only [y_act, y_sum]
        split <;> omega
  refine w_225_0 hs ?_
  exact loop (J 149 5).toNat 0 0 (by omega) rfl
theorem y_base.party {q : Int → Int} (h : y_base q) {i : Int} (h0 : 0 ≤ i) (h1 : i < q 3) : (0 ≤ q (138 + 3 * i + 0) ∧ q (138 + 3 * i + 0) < 4 ∧ q (138 + 3 * i + 0) < q 2) ∧ (1 ≤ q (138 + 3 * i + 1) ∧ q (138 + 3 * i + 1) ≤ 12) ∧ (-1 ≤ q (138 + 3 * i + 2) ∧ q (138 + 3 * i + 2) ≤ 144) ∧ i < 50 ∧ y_tier q (q (138 + 3 * i + 0)) := by
  obtain ⟨⟨b0, b1, b2, b3, b4, b5⟩, -, ht, hp, -⟩ := h
  obtain ⟨⟨p0, p1, p2⟩, -⟩ := hp i h0 h1
  exact ⟨by omega, by omega, by omega, by omega, ht _ p0.1 p0.2⟩
theorem c_isPausing (hb : y_base (J 149)) {i : Int} (hi : 0 ≤ i ∧ i < J 149 3) : z_Sem l (d + 2) M_R_isPausing [.inr (.inr (.ref 148)), .inl i] (m_Ex g T, J, X) 0 0 (z_ret (.inl (y_b (y_pause (J 149) i))) (m_Ex g T, J, X)) := by
  have h0 := hb.1.1
  have p := hb.party hi.1 hi.2
  refine z_sem_of z_m227 m_ok_227 (Nat.le_of_ble_eq_true rfl) (fun Wp hs hv hS => ?_)
  refine w_227_0 hs ?_
  refine ⟨by omega, fun c => ⟨z_wi ?_, rfl⟩, fun c => ⟨by omega, fun c1 => ⟨z_wi ?_, rfl⟩, fun c1 => ⟨z_wi ?_, rfl⟩⟩⟩
  · have : y_pause (J 149) i = false := by unfold y_pause; simp only [decide_eq_false_iff_not]; omega
    rw [this]; rfl
  · have : y_pause (J 149) i = false := by unfold y_pause; simp only [decide_eq_false_iff_not]; omega
    rw [this]; rfl
  · have : y_pause (J 149) i = true := by unfold y_pause; simp only [decide_eq_true_eq]; omega
    rw [this]; rfl
theorem c_latest (hb : y_base (J 149)) {i : Int} (hi : 0 ≤ i ∧ i < J 149 3) : z_Sem l (d + 2) M_R_latest [.inr (.inr (.ref 148)), .inl i] (m_Ex g T, J, X) 0 0 (z_ret (.inl (J 149 0 + J 149 (122 + 4 * J 149 (138 + 3 * i + 0) + 1))) (m_Ex g T, J, X)) := by
  have h0 := hb.1.1
  have p := hb.party hi.1 hi.2
  have t1 := p.2.2.2.2.2.1
  refine z_sem_of z_m232 m_ok_232 (Nat.le_of_ble_eq_true rfl) (fun Wp hs hv hS => ?_)
  refine w_232_0 hs ?_
  exact ⟨by omega, rfl, rfl⟩
theorem c_check (hb : y_base (J 149)) {i r : Int} (hi : 0 ≤ i ∧ i < J 149 3) (hr : 0 ≤ r ∧ r < J 149 1) : z_Sem l (d + 4) M_R_check [.inr (.inr (.ref 148)), .inl i, .inl r] (m_Ex g T, J, X) 0 0 (z_ret (.inl (y_check (J 149) i r)) (m_Ex g T, J, X)) := by
  have h1 := hb.1.2.1
  have p := hb.party hi.1 hi.2
  refine z_sem_of z_m222 m_ok_222 (Nat.le_of_ble_eq_true rfl) (fun Wp hs hv hS => ?_)
  refine w_222_0 hs ?_
  refine ⟨by omega, fun c => ?_, fun c => ⟨z_wi ?_, rfl⟩⟩
  · refine z_cI (c_hasActive hb) ?_
    refine ⟨fun c1 => ?_, fun c1 => ⟨z_wi ?_, rfl⟩⟩
    · rw [y_b_0] at c1
      refine z_cI (c_activeOf hb) ⟨by omega, fun c2 => ⟨z_wi ?_, rfl⟩, fun c2 => ?_⟩
      · rw [y_check, if_neg c, if_neg (by rw [c1]; decide), if_pos (Or.inl c2)]
      · refine z_cI (c_isPausing hb hi) ⟨fun c3 => ⟨z_wi ?_, rfl⟩, fun c3 => ⟨z_wi ?_, rfl⟩⟩
        · rw [y_b_0] at c3
          rw [y_check, if_neg c, if_neg (by rw [c1]; decide), if_neg (by rw [c3]; rintro (h9 | h9) <;> first | omega | cases h9)]
        · rw [y_b_1] at c3
          rw [y_check, if_neg c, if_neg (by rw [c1]; decide), if_pos (Or.inr c3)]
    · rw [y_b_1] at c1
      rw [y_check, if_neg c, if_pos c1]
  · rw [y_check, if_pos c]
theorem c_isFree {s n : Int} (hs1 : 0 ≤ s) (hn : 0 ≤ n) (hsn : s + n ≤ 256) : z_Sem l (d + 1) M_R_isFree [.inr (.inr (.ref 148)), .inl s, .inl n] (m_Ex g T, J, X) 0 0 (z_ret (.inl (y_b (y_clear (J 152) s n))) (m_Ex g T, J, X)) := by
  refine z_sem_of z_m236 m_ok_236 (Nat.le_of_ble_eq_true rfl) (fun Wp hs hv hS => ?_)
  have loop : ∀ (m k : Nat), (k : Int) + m = n → y_any (fun k => decide (J 152 (s + k) ≠ 0)) k = false → Wp 2 [some (.inr (.inr (.ref 148))), some (.inl s), some (.inl n), some (.inl (s + k))] [] (m_Ex g T, J, X) 0 0 := by
    intro m
    induction m with
    | zero =>
      intro k hk ha
      refine w_236_2 hs ?_
      refine ⟨by omega, fun c => ⟨z_wi ?_, rfl⟩, fun c => by omega⟩
      rw [y_clear, show n.toNat = k by omega, ha]; rfl
    | succ m ih =>
      intro k hk ha
      refine w_236_2 hs ?_
      refine ⟨by omega, fun c => by omega, fun c => ⟨by omega, fun c1 => ⟨by omega, ?_⟩, fun c1 => ⟨z_wi ?_, rfl⟩⟩⟩
      · have := ih (k + 1) (by omega) (by simp only [y_any, ha, Bool.false_or, decide_eq_false_iff_not]; omega)
        rw [show s + ((k + 1 : Nat) : Int) = s + k + 1 by omega] at this
        exact this
      · have : y_any (fun k => decide (J 152 (s + k) ≠ 0)) n.toNat = true := y_any_iff.mpr ⟨k, by omega, by simp only [decide_eq_true_eq]; exact c1⟩
        rw [y_clear, this]; rfl
  refine w_236_0 hs ?_
  have := loop n.toNat 0 (by omega) rfl
  rw [show s + ((0 : Nat) : Int) = s by omega] at this
  exact this
end R2
