/-! the reference: its rows of free and blocked slots, and the first window -/
theorem y_base.ride {q : Int → Int} (h : y_base q) {r : Int} (h0 : 0 ≤ r) (h1 : r < q 1) : y_ride q r := (h.2.1 r h0 h1).1
theorem y_planned_b {q : Int → Int} {r s : Int} (h : y_ride q r) : 0 ≤ y_planned q r s ∧ y_planned q r s ≤ 200 := y_pw_b h h.2.1
/-- the window for a party, or -4 -/
def y_size (q : Int → Int) (i : Int) : Int := q (138 + 3 * i + 1)
def y_late (q : Int → Int) (i : Int) : Int := q 0 + q (122 + 4 * q (138 + 3 * i + 0) + 1)
def y_free (q : Int → Int) (r : Int) : Int → Int := fun s => y_planned q r s - y_charged q r s
def y_taken (q : Int → Int) (i : Int) : Int → Int := fun s => y_b (y_blk q i s)
def y_4 (x : Int) : Int := if x = -1 then -4 else x
def y_slot (q : Int → Int) (i r e : Int) : Int := y_4 (y_win (y_free q r) (y_taken q i) (y_size q i) (q (10 + 14 * r + 2)) (max e (q 0)) (min (y_late q i) (q (10 + 14 * r + 4))))
def y_wf (q : Int → Int) (i r e : Int) : Int := if y_check q i r = 0 then (if q 5 = 150 then -6 else y_slot q i r e) else y_check q i r
theorem y_any_false {f : Int → Bool} {n : Nat} : y_any f n = false ↔ ∀ k : Nat, k < n → f k = false := by
  constructor
  · intro h k hk
    cases hf : f k with
    | false => rfl
    | true => rw [y_any_iff.mpr ⟨k, hk, hf⟩] at h; cases h
  · intro h
    cases ha : y_any f n with
    | false => rfl
    | true =>
      obtain ⟨k, hk, hf⟩ := y_any_iff.mp ha
      rw [h k hk] at hf; cases hf
theorem y_clear_congr {f g : Int → Int} {s n : Int} (h : ∀ k, s ≤ k → k < s + n → f k = g k) : y_clear f s n = y_clear g s n := by
  unfold y_clear
  rw [y_any_congr (f := fun k => decide (f (s + k) ≠ 0)) (g := fun k => decide (g (s + k) ≠ 0)) (fun k hk => by rw [h (s + k) (by omega) (by omega)])]
theorem y_win_congr {L L' B B' : Int → Int} {w n lo hi : Int} (hL : ∀ s, lo ≤ s → s ≤ hi → L s = L' s) (hB : ∀ s, lo ≤ s → s < hi + n → B s = B' s) : y_win L B w n lo hi = y_win L' B' w n lo hi := by
  have : y_first (y_wn L B w n lo) (hi - lo + 1).toNat = y_first (y_wn L' B' w n lo) (hi - lo + 1).toNat := by
    refine y_first_congr (fun k hk => ?_)
    unfold y_wn
    rw [hL (lo + k) (by omega) (by omega), y_clear_congr (f := B) (g := B') (fun j h1 h2 => hB j (by omega) (by omega))]
  unfold y_win
  rw [this]
section R3
variable {l : Launch} {d : Nat} {g : List (Option Nat)} {T : m_E} {J : z_J} {X : z_X}
theorem c_layLeft (hb : y_base (J 149)) : z_Sem l (d + 4) M_R_layLeft [.inr (.inr (.ref 148))] (m_Ex g T, J, X) 0 0 (z_vq (m_Ex g T) (fun J' X' => X' = X ∧ ∃ f, J' = z_row J 151 f ∧ ∀ r s, 0 ≤ r → r < J 149 1 → 0 ≤ s → s < 144 → f (144 * r + s) = y_free (J 149) r s)) := by
  have h5 := hb.1.2.2.2.2.2
  have h1 := hb.1.2.1
  refine z_sem_of z_m229 m_ok_229 (Nat.le_of_ble_eq_true rfl) (fun Wp hs hv hS => ?_)
  have L3 : ∀ (n k : Nat) (f : Int → Int), (k : Int) + n = J 149 5 → (∀ r s, 0 ≤ r → r < J 149 1 → 0 ≤ s → s < 144 → f (144 * r + s) = y_planned (J 149) r s - y_sum (y_ch (J 149) r s) k) → Wp 53 [some (.inr (.inr (.ref 148))), some (.inl k), none] [] (m_Ex g T, z_row J 151 f, X) 0 0 := by
    intro n
    induction n with
    | zero =>
      intro k f hk hf
      refine w_229_53 hs ?_
      simp only [show (z_row J 151 f) 149 = J 149 from rfl, z_row_eq]
      refine ⟨fun c => ⟨_, _, rfl, rfl, rfl, f, rfl, fun r s a1 a2 a3 a4 => ?_⟩, fun c => by omega⟩
      rw [hf r s a1 a2 a3 a4, y_free, y_charged, show (J 149 5).toNat = k by omega]
    | succ n ih =>
      intro k f hk hf
      have b := hb.tk (t := k) (by omega) (by omega)
      obtain ⟨k1, k2, -⟩ := hb.2.2.2.2 k (by omega) (by omega)
      have e1 := hf (J 149 (288 + 6 * k + 1)) (J 149 (288 + 6 * k + 2)) (by omega) k2.2 (by omega) (by omega)
      have b1 := y_planned_b (s := J 149 (288 + 6 * k + 2)) (hb.ride k2.1 k2.2)
      have b2 := y_chs_b hb (r := J 149 (288 + 6 * k + 1)) (s := J 149 (288 + 6 * k + 2)) (n := k) (by omega)
      refine w_229_53 hs ?_
      simp only [show (z_row J 151 f) 149 = J 149 from rfl, z_row_eq, z_u_zrow]
      refine ⟨fun c => by omega, fun c => ⟨by omega, fun c1 => ⟨by omega, ih (k + 1) f (by omega) (fun r s a1 a2 a3 a4 => ?_)⟩, fun c1 => ⟨by omega, ih (k + 1) _ (by omega) (fun r s a1 a2 a3 a4 => ?_)⟩⟩⟩
      · rw [hf r s a1 a2 a3 a4, y_sum, y_ch, if_neg (by omega)]; omega
      · have e2 := hf r s a1 a2 a3 a4
        rw [y_sum]
        by_cases h9 : J 149 (288 + 6 * k + 1) = r ∧ J 149 (288 + 6 * k + 2) = s
        · obtain ⟨rfl, rfl⟩ := h9
          rw [z_up_eq rfl, e1]
          simp only [y_ch]
          rw [if_pos ⟨trivial, trivial, c1⟩]; omega
        · rw [z_up_ne (by omega), e2, y_ch, if_neg (by omega)]; omega
  have L2 : ∀ (n k r : Nat) (f : Int → Int), (k : Int) + n = 144 → (r : Int) < J 149 1 → (∀ r' s' : Int, 0 ≤ r' → 0 ≤ s' → s' < 144 → (r' < r ∨ (r' = r ∧ s' < k)) → f (144 * r' + s') = y_planned (J 149) r' s') → (∀ f', (∀ r' s' : Int, 0 ≤ r' → 0 ≤ s' → s' < 144 → r' < ((r + 1 : Nat) : Int) → f' (144 * r' + s') = y_planned (J 149) r' s') → Wp 2 [some (.inr (.inr (.ref 148))), some (.inl ((r + 1 : Nat) : Int)), none] [] (m_Ex g T, z_row J 151 f', X) 0 0) → Wp 14 [some (.inr (.inr (.ref 148))), some (.inl r), some (.inl k)] [] (m_Ex g T, z_row J 151 f, X) 0 0 := by
    intro n
    induction n with
    | zero =>
      intro k r f hk hr hf hn
      refine w_229_14 hs ?_
      refine ⟨fun c => ⟨by omega, hn f (fun r' s' a1 a2 a3 a4 => hf r' s' a1 a2 a3 (by omega))⟩, fun c => by omega⟩
    | succ n ih =>
      intro k r f hk hr hf hn
      refine w_229_14 hs ?_
      refine ⟨fun c => by omega, fun c => ⟨by omega, z_cI (c_plannedIn (J := z_row J 151 f) hb (r := r) (s := k) ⟨by omega, hr⟩) ⟨by omega, ?_⟩⟩⟩
      rw [z_u_zrow]
      refine ih (k + 1) r _ (by omega) hr (fun r' s' a1 a2 a3 a4 => ?_) hn
      by_cases h9 : r' = r ∧ s' = k
      · obtain ⟨rfl, rfl⟩ := h9
        rw [z_up_eq rfl]; rfl
      · rw [z_up_ne (by omega)]
        exact hf r' s' a1 a2 a3 (by omega)
  have L1 : ∀ (n r : Nat) (f : Int → Int), (r : Int) + n = J 149 1 → (∀ r' s' : Int, 0 ≤ r' → 0 ≤ s' → s' < 144 → r' < (r : Int) → f (144 * r' + s') = y_planned (J 149) r' s') → Wp 2 [some (.inr (.inr (.ref 148))), some (.inl r), none] [] (m_Ex g T, z_row J 151 f, X) 0 0 := by
    intro n
    induction n with
    | zero =>
      intro r f hr hf
      refine w_229_2 hs ?_
      simp only [show (z_row J 151 f) 149 = J 149 from rfl]
      refine ⟨fun c => L3 (J 149 5).toNat 0 f (by omega) (fun r' s' a1 a2 a3 a4 => ?_), fun c => by omega⟩
      rw [hf r' s' a1 a3 a4 (by omega), y_sum]; omega
    | succ n ih =>
      intro r f hr hf
      refine w_229_2 hs ?_
      simp only [show (z_row J 151 f) 149 = J 149 from rfl]
      refine ⟨fun c => by omega, fun c => L2 144 0 r f (by omega) (by omega) (fun r' s' a1 a2 a3 a4 => hf r' s' a1 a2 a3 (by omega)) (fun f' hf' => ih (r + 1) f' (by omega) hf')⟩
  refine w_229_0 hs ?_
  have := L1 (J 149 1).toNat 0 (J 151) (by omega) (fun r' s' a1 a2 a3 a4 => by omega)
  rw [z_row_self] at this
  exact this
theorem c_addBlocked (hb : y_base (J 149)) {i : Int} : z_Sem l (d + 3) M_R_addBlocked [.inr (.inr (.ref 148)), .inl i] (m_Ex g T, J, X) 0 0 (z_vq (m_Ex g T) (fun J' X' => X' = X ∧ ∃ f, J' = z_row J 152 f ∧ ∀ s, 0 ≤ s → s < 256 → f s = if y_blk (J 149) i s = true then 1 else J 152 s)) := by
  have h5 := hb.1.2.2.2.2.2
  refine z_sem_of z_m231 m_ok_231 (Nat.le_of_ble_eq_true rfl) (fun Wp hs hv hS => ?_)
  have L2 : ∀ (n : Nat) (k : Nat) (s : Int) (f : Int → Int), (k : Int) < J 149 5 → s + n = J 149 (288 + 6 * k + 3) + 1 → J 149 (288 + 6 * k + 2) ≤ s → J 149 (288 + 6 * k + 0) = i ∧ J 149 (288 + 6 * k + 5) = 0 → (∀ u, 0 ≤ u → u < 256 → f u = if y_any (y_bk (J 149) i u) k = true ∨ (J 149 (288 + 6 * k + 2) ≤ u ∧ u < s) then 1 else J 152 u) → (∀ f', (∀ u, 0 ≤ u → u < 256 → f' u = if y_any (y_bk (J 149) i u) (k + 1) = true then 1 else J 152 u) → Wp 2 [some (.inr (.inr (.ref 148))), some (.inl i), some (.inl ((k + 1 : Nat) : Int)), none] [] (m_Ex g T, z_row J 152 f', X) 0 0) → Wp 31 [some (.inr (.inr (.ref 148))), some (.inl i), some (.inl k), some (.inl s)] [] (m_Ex g T, z_row J 152 f, X) 0 0 := by
    intro n
    induction n with
    | zero =>
      intro k s f hk hs0 hs1 ha hf hn
      have b := hb.tk (t := k) (by omega) (by omega)
      refine w_231_31 hs ?_
      simp only [show (z_row J 152 f) 149 = J 149 from rfl]
      refine ⟨by omega, fun c => ⟨by omega, hn f (fun u a1 a2 => ?_)⟩, fun c => by omega⟩
      rw [hf u a1 a2]
      have : (y_any (y_bk (J 149) i u) (k + 1) = true) ↔ (y_any (y_bk (J 149) i u) k = true ∨ (J 149 (288 + 6 * k + 2) ≤ u ∧ u < s)) := by
        rw [y_any, Bool.or_eq_true]
        exact or_congr_right (by simp only [y_bk, decide_eq_true_eq]; omega)
      simp only [this]
    | succ n ih =>
      intro k s f hk hs0 hs1 ha hf hn
      have b := hb.tk (t := k) (by omega) (by omega)
      refine w_231_31 hs ?_
      simp only [show (z_row J 152 f) 149 = J 149 from rfl, z_u_zrow]
      refine ⟨by omega, fun c => by omega, fun c => ⟨by omega, ih k (s + 1) _ hk (by omega) (by omega) ha (fun u a1 a2 => ?_) hn⟩⟩
      by_cases hu : u = s
      · subst hu
        rw [z_up_eq rfl, if_pos (Or.inr ⟨hs1, by omega⟩)]
      · rw [z_up_ne hu, hf u a1 a2]
        have : (y_any (y_bk (J 149) i u) k = true ∨ (J 149 (288 + 6 * k + 2) ≤ u ∧ u < s)) ↔ (y_any (y_bk (J 149) i u) k = true ∨ (J 149 (288 + 6 * k + 2) ≤ u ∧ u < s + 1)) := or_congr_right (by omega)
        simp only [this]
  have L1 : ∀ (n k : Nat) (f : Int → Int), (k : Int) + n = J 149 5 → (∀ u, 0 ≤ u → u < 256 → f u = if y_any (y_bk (J 149) i u) k = true then 1 else J 152 u) → Wp 2 [some (.inr (.inr (.ref 148))), some (.inl i), some (.inl k), none] [] (m_Ex g T, z_row J 152 f, X) 0 0 := by
    intro n
    induction n with
    | zero =>
      intro k f hk hf
      refine w_231_2 hs ?_
      simp only [show (z_row J 152 f) 149 = J 149 from rfl]
      refine ⟨fun c => ⟨_, _, rfl, rfl, rfl, f, rfl, fun u a1 a2 => ?_⟩, fun c => by omega⟩
      rw [hf u a1 a2, y_blk, show (J 149 5).toNat = k by omega]
    | succ n ih =>
      intro k f hk hf
      have b := hb.tk (t := k) (by omega) (by omega)
      have no : ¬ (J 149 (288 + 6 * k + 0) = i ∧ J 149 (288 + 6 * k + 5) = 0) → ∀ u, 0 ≤ u → u < 256 → f u = if y_any (y_bk (J 149) i u) (k + 1) = true then 1 else J 152 u := by
        intro hc u a1 a2
        rw [hf u a1 a2]
        have : (y_any (y_bk (J 149) i u) (k + 1) = true) ↔ (y_any (y_bk (J 149) i u) k = true) := by
          rw [y_any, Bool.or_eq_true]
          exact ⟨fun h => h.elim id (fun z => absurd z (by simp only [y_bk, decide_eq_true_eq]; omega)), Or.inl⟩
        simp only [this]
      refine w_231_2 hs ?_
      simp only [show (z_row J 152 f) 149 = J 149 from rfl]
      refine ⟨fun c => by omega, fun c => ⟨by omega, fun c1 => ⟨by omega, ih (k + 1) f (by omega) (no (by omega))⟩, fun c1 => ⟨by omega, fun c2 => ⟨by omega, ih (k + 1) f (by omega) (no (by omega))⟩, fun c2 => ⟨by omega, L2 (J 149 (288 + 6 * k + 3) + 1 - J 149 (288 + 6 * k + 2)).toNat k _ f (by omega) (by omega) (by omega) ⟨c1, c2⟩ (fun u a1 a2 => ?_) (fun f' hf' => ih (k + 1) f' (by omega) hf')⟩⟩⟩⟩
      rw [hf u a1 a2]
      have : (y_any (y_bk (J 149) i u) k = true ∨ (J 149 (288 + 6 * k + 2) ≤ u ∧ u < J 149 (288 + 6 * k + 2))) ↔ (y_any (y_bk (J 149) i u) k = true) := ⟨fun h => h.elim id (fun z => absurd z (by omega)), Or.inl⟩
      simp only [this]
  refine w_231_0 hs ?_
  have := L1 (J 149 5).toNat 0 (J 152) (by omega) (fun u a1 a2 => by rw [y_any, if_neg (by decide)])
  rw [z_row_self] at this
  exact this
theorem c_layBlocked (hb : y_base (J 149)) {i : Int} : z_Sem l (d + 4) M_R_layBlocked [.inr (.inr (.ref 148)), .inl i] (m_Ex g T, J, X) 0 0 (z_vq (m_Ex g T) (fun J' X' => X' = X ∧ ∃ f, J' = z_row J 152 f ∧ ∀ s, 0 ≤ s → s < 256 → f s = y_taken (J 149) i s)) := by
  refine z_sem_of z_m230 m_ok_230 (Nat.le_of_ble_eq_true rfl) (fun Wp hs hv hS => ?_)
  have loop : ∀ (n k : Nat) (f : Int → Int), (k : Int) + n = 256 → (∀ u : Int, 0 ≤ u → u < k → f u = 0) → Wp 2 [some (.inr (.inr (.ref 148))), some (.inl i), some (.inl k)] [] (m_Ex g T, z_row J 152 f, X) 0 0 := by
    intro n
    induction n with
    | zero =>
      intro k f hk hf
      refine w_230_2 hs ?_
      refine ⟨fun c => z_cVq (c_addBlocked (J := z_row J 152 f) hb) ?_, fun c => by omega⟩
      rintro J' X' ⟨rfl, f', rfl, h9⟩
      rw [z_row_row]
      refine ⟨_, _, rfl, rfl, rfl, f', rfl, fun s a1 a2 => ?_⟩
      rw [h9 s a1 a2]
      show (if y_blk (J 149) i s = true then 1 else (z_row J 152 f) 152 s) = y_taken (J 149) i s
      rw [z_row_eq, hf s a1 (by omega)]; rfl
    | succ n ih =>
      intro k f hk hf
      refine w_230_2 hs ?_
      refine ⟨fun c => by omega, fun c => ⟨by omega, ?_⟩⟩
      rw [z_u_zrow]
      refine ih (k + 1) _ (by omega) (fun u a1 a2 => ?_)
      by_cases hu : u = k
      · rw [z_up_eq hu]
      · rw [z_up_ne hu, hf u a1 (by omega)]
  refine w_230_0 hs ?_
  have := loop 256 0 (J 152) (by omega) (fun u a1 a2 => by omega)
  rw [z_row_self] at this
  exact this
theorem c_firstWindow (hb : y_base (J 149)) {w r e la : Int} (hr : 0 ≤ r ∧ r < J 149 1) (he : 0 ≤ e) : z_Sem l (d + 2) M_R_firstWindow [.inr (.inr (.ref 148)), .inl w, .inl r, .inl e, .inl la] (m_Ex g T, J, X) 0 0 (z_ret (.inl (y_win (fun s => J 151 (144 * r + s)) (J 152) w (J 149 (10 + 14 * r + 2)) (max e (J 149 0)) (min la (J 149 (10 + 14 * r + 4))))) (m_Ex g T, J, X)) := by
  have h1 := hb.1.2.1
  have h0 := hb.1.1
  obtain ⟨-, -, r2, r3, -⟩ := hb.ride hr.1 hr.2
  refine z_sem_of z_m233 m_ok_233 (Nat.le_of_ble_eq_true rfl) (fun Wp hs hv hS => ?_)
  have loop : ∀ (n k : Nat), max e (J 149 0) + (k : Int) + n = max (min la (J 149 (10 + 14 * r + 4)) + 1) (max e (J 149 0)) → y_any (y_wn (fun s => J 151 (144 * r + s)) (J 152) w (J 149 (10 + 14 * r + 2)) (max e (J 149 0))) k = false → Wp 12 [some (.inr (.inr (.ref 148))), some (.inl w), some (.inl r), some (.inl e), some (.inl la), some (.inl (max e (J 149 0) + k))] [] (m_Ex g T, J, X) 0 0 := by
    intro n
    induction n with
    | zero =>
      intro k hk ha
      refine w_233_12 hs ?_
      refine ⟨by omega, fun c => ⟨z_wi ?_, rfl⟩, fun c => by omega⟩
      rw [y_win, show (min la (J 149 (10 + 14 * r + 4)) - max e (J 149 0) + 1).toNat = k by omega, y_first_none ha, if_pos rfl]
    | succ n ih =>
      intro k hk ha
      have nxt : y_wn (fun s => J 151 (144 * r + s)) (J 152) w (J 149 (10 + 14 * r + 2)) (max e (J 149 0)) k = false → Wp 12 [some (.inr (.inr (.ref 148))), some (.inl w), some (.inl r), some (.inl e), some (.inl la), some (.inl (max e (J 149 0) + k + 1))] [] (m_Ex g T, J, X) 0 0 := by
        intro hc
        have := ih (k + 1) (by omega) (by rw [y_any, ha, hc]; rfl)
        rw [show max e (J 149 0) + ((k + 1 : Nat) : Int) = max e (J 149 0) + k + 1 by omega] at this
        exact this
      refine w_233_12 hs ?_
      refine ⟨by omega, fun c => by omega, fun c => ⟨by omega, fun c1 => ⟨by omega, nxt ?_⟩, fun c1 => ⟨by omega, z_cI (c_isFree (by omega) (by omega) (by omega)) ⟨fun c2 => ⟨by omega, nxt ?_⟩, fun c2 => ⟨z_wi ?_, rfl⟩⟩⟩⟩⟩
      · rw [y_wn, decide_eq_false (by omega)]; rfl
      · rw [y_b_0] at c2
        rw [y_wn, c2, Bool.and_false]
      · rw [y_b_1] at c2
        have h9 : y_wn (fun s => J 151 (144 * r + s)) (J 152) w (J 149 (10 + 14 * r + 2)) (max e (J 149 0)) k = true := by
          rw [y_wn, c2, Bool.and_true, decide_eq_true_eq]; exact c1
        rw [y_win, y_first_at (k := k) (by omega) ha h9, if_neg (by omega)]
  refine w_233_0 hs ?_
  by_cases hc : min la (J 149 (10 + 14 * r + 4)) + 1 ≤ max e (J 149 0)
  · have := loop 0 0 (by omega) rfl
    rw [show max e (J 149 0) + ((0 : Nat) : Int) = max e (J 149 0) by omega] at this
    exact this
  · have := loop (min la (J 149 (10 + 14 * r + 4)) + 1 - max e (J 149 0)).toNat 0 (by omega) rfl
    rw [show max e (J 149 0) + ((0 : Nat) : Int) = max e (J 149 0) by omega] at this
    exact this
theorem c_slotFor (hb : y_base (J 149)) {i r e : Int} (hi : 0 ≤ i ∧ i < J 149 3) (hr : 0 ≤ r ∧ r < J 149 1) (he : 0 ≤ e) : z_Sem l (d + 5) M_R_slotFor [.inr (.inr (.ref 148)), .inl i, .inl r, .inl e] (m_Ex g T, J, X) 0 0 (z_rq (m_Ex g T) (fun v J' X' => X' = X ∧ (∃ f f', J' = z_row (z_row J 151 f) 152 f') ∧ v = y_slot (J 149) i r e)) := by
  have h0 := hb.1.1
  have h1 := hb.1.2.1
  have p := hb.party hi.1 hi.2
  obtain ⟨-, -, r2, r3, -⟩ := hb.ride hr.1 hr.2
  refine z_sem_of z_m228 m_ok_228 (Nat.le_of_ble_eq_true rfl) (fun Wp hs hv hS => ?_)
  refine w_228_0 hs ?_
  refine z_cVq (c_layLeft hb) ?_
  rintro J2 X2 ⟨rfl, f, rfl, hf⟩
  refine z_cVq (c_layBlocked (J := z_row J 151 f) hb) ?_
  rintro J3 X3 ⟨rfl, f', rfl, hf'⟩
  refine ⟨by omega, z_cI (c_latest (J := z_row (z_row J 151 f) 152 f') hb hi) ?_⟩
  refine z_cI (c_firstWindow (J := z_row (z_row J 151 f) 152 f') hb hr he) ?_
  have key : y_win (fun s => (z_row (z_row J 151 f) 152 f') 151 (144 * r + s)) ((z_row (z_row J 151 f) 152 f') 152) (J 149 (138 + 3 * i + 1)) (J 149 (10 + 14 * r + 2)) (max e (J 149 0)) (min (J 149 0 + J 149 (122 + 4 * J 149 (138 + 3 * i + 0) + 1)) (J 149 (10 + 14 * r + 4))) = y_win (y_free (J 149) r) (y_taken (J 149) i) (y_size (J 149) i) (J 149 (10 + 14 * r + 2)) (max e (J 149 0)) (min (y_late (J 149) i) (J 149 (10 + 14 * r + 4))) := by
    refine y_win_congr (fun s a1 a2 => ?_) (fun s a1 a2 => ?_)
    · exact hf r s hr.1 hr.2 (by omega) (by omega)
    · rw [z_row_eq]
      exact hf' s (by omega) (by omega)
  refine ⟨fun c => ⟨_, _, _, rfl, rfl, rfl, ⟨f, f', rfl⟩, ?_⟩, fun c => ⟨_, _, _, rfl, rfl, rfl, ⟨f, f', rfl⟩, ?_⟩⟩
  · have c : ¬ (y_win (fun s => (z_row (z_row J 151 f) 152 f') 151 (144 * r + s)) ((z_row (z_row J 151 f) 152 f') 152) (J 149 (138 + 3 * i + 1)) (J 149 (10 + 14 * r + 2)) (max e (J 149 0)) (min (J 149 0 + J 149 (122 + 4 * J 149 (138 + 3 * i + 0) + 1)) (J 149 (10 + 14 * r + 4))) = -1) := c
    rw [key] at c
    rw [y_slot, y_4, if_neg c]
    exact key
  · have c : y_win (fun s => (z_row (z_row J 151 f) 152 f') 151 (144 * r + s)) ((z_row (z_row J 151 f) 152 f') 152) (J 149 (138 + 3 * i + 1)) (J 149 (10 + 14 * r + 2)) (max e (J 149 0)) (min (J 149 0 + J 149 (122 + 4 * J 149 (138 + 3 * i + 0) + 1)) (J 149 (10 + 14 * r + 4))) = -1 := c
    rw [key] at c
    rw [y_slot, y_4, if_pos c]
theorem c_windowFor (hb : y_base (J 149)) {i r e : Int} (hi : 0 ≤ i ∧ i < J 149 3) (hr : 0 ≤ r ∧ r < J 149 1) (he : 0 ≤ e) : z_Sem l (d + 6) M_R_windowFor [.inr (.inr (.ref 148)), .inl i, .inl r, .inl e] (m_Ex g T, J, X) 0 0 (z_rq (m_Ex g T) (fun v J' X' => X' = X ∧ (∃ f f', J' = z_row (z_row J 151 f) 152 f') ∧ v = y_wf (J 149) i r e)) := by
  have triv : ∃ f f', J = z_row (z_row J 151 f) 152 f' := ⟨J 151, J 152, by rw [z_row_self, z_row_self]⟩
  refine z_sem_of z_m221 m_ok_221 (Nat.le_of_ble_eq_true rfl) (fun Wp hs hv hS => ?_)
  refine w_221_0 hs ?_
  refine z_cI (c_check hb hi hr) ⟨fun c => ⟨fun c1 => ?_, fun c1 => ⟨_, _, _, rfl, rfl, rfl, triv, ?_⟩⟩, fun c => ⟨_, _, _, rfl, rfl, rfl, triv, ?_⟩⟩
  · refine z_cIq (c_slotFor hb hi hr he) ?_
    rintro v J' X' ⟨rfl, h1, rfl⟩
    refine ⟨_, _, _, rfl, rfl, rfl, h1, ?_⟩
    rw [y_wf, if_pos c, if_neg c1]
  · rw [y_wf, if_pos c, if_pos c1]
  · rw [y_wf, if_neg c]
end R3
