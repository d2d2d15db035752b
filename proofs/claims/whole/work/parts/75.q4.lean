/-! the class: taken slots, first start, refusals (written by wip/whole/gen75.py) -/
section Q4
variable {l : Launch} {d : Nat} {g : List (Option Nat)} {T : m_E} {J : z_J} {X : z_X} {q : Int → Int}
theorem e_fillTakena (hb : y_base q) (h : x_day 36 q J) {i j ex : Int} : z_Sem l (d + 2) M_Day_fillTaken [.inr (.inr (.ref 36)), .inr (.inr (.ref 127)), .inl i, .inl j, .inl ex] (m_Ex g T, J, X) 0 0 (z_vq (m_Ex g T) (fun J' X' => X' = X ∧ ∃ f, J' = z_row J 127 f ∧ ∀ s, 0 ≤ s → s < 168 → f s = y_takenX q i j ex s)) := by
  have h5 := hb.1.2.2.2.2.2
  have d5 := h.hd.2.2.2.2.2
  refine z_sem_of z_m6 m_ok_6 (Nat.le_of_ble_eq_true rfl) (fun Wp hs hv hS => ?_)
  have L3 : ∀ (n : Nat) (k : Nat) (s : Int) (f : Int → Int), (k : Int) < q 5 → s + n = max (min (q (288 + 6 * k + 3)) 167 + 1) (q (288 + 6 * k + 2)) → q (288 + 6 * k + 2) ≤ s → ((k : Int) ≠ ex ∧ (q (288 + 6 * k + 0) = i ∨ q (288 + 6 * k + 0) = j) ∧ q (288 + 6 * k + 5) = 0) → (∀ u, 0 ≤ u → u < 168 → f u = if y_any (y_tx q i j ex u) k = true ∨ (q (288 + 6 * k + 2) ≤ u ∧ u < s) then 1 else 0) → (∀ f', (∀ u, 0 ≤ u → u < 168 → f' u = if y_any (y_tx q i j ex u) (k + 1) = true then 1 else 0) → Wp 24 [some (.inr (.inr (.ref 36))), some (.inr (.inr (.ref 127))), some (.inl i), some (.inl j), some (.inl ex), some (.inl ((k + 1 : Nat) : Int)), none, none, none] [] (m_Ex g T, z_row J 127 f', X) 0 0) → Wp 116 [some (.inr (.inr (.ref 36))), some (.inr (.inr (.ref 127))), some (.inl i), some (.inl j), some (.inl ex), some (.inl k), some (.inl 1), some (.inl (min (q (288 + 6 * k + 3)) 167)), some (.inl s)] [] (m_Ex g T, z_row J 127 f, X) 0 0 := by
    intro n
    induction n with
    | zero =>
      intro k s f hk hs0 hs1 ha hf hn
      have b := hb.tk (t := k) (by omega) (by omega)
      refine w_6a_116 hs ?_
      refine ⟨fun c => ⟨by omega, hn f (fun u a1 a2 => ?_)⟩, fun c => by omega⟩
      rw [hf u a1 a2]
      have : (y_any (y_tx q i j ex u) (k + 1) = true) ↔ (y_any (y_tx q i j ex u) k = true ∨ (q (288 + 6 * k + 2) ≤ u ∧ u < s)) := by
        rw [y_any, Bool.or_eq_true]
        exact or_congr_right (by simp only [y_tx, decide_eq_true_eq]; omega)
      simp only [this]
    | succ n ih =>
      intro k s f hk hs0 hs1 ha hf hn
      have b := hb.tk (t := k) (by omega) (by omega)
      refine w_6a_116 hs ?_
      rw [z_u_zrow]
      refine ⟨fun c => by omega, fun c => ⟨by omega, ih k (s + 1) _ hk (by omega) (by omega) ha (fun u a1 a2 => ?_) hn⟩⟩
      by_cases hu : u = s
      · subst hu
        rw [z_up_eq rfl, if_pos (Or.inr ⟨hs1, by omega⟩)]
      · rw [z_up_ne hu, hf u a1 a2]
        have : (y_any (y_tx q i j ex u) k = true ∨ (q (288 + 6 * k + 2) ≤ u ∧ u < s)) ↔ (y_any (y_tx q i j ex u) k = true ∨ (q (288 + 6 * k + 2) ≤ u ∧ u < s + 1)) := or_congr_right (by omega)
        simp only [this]
  have L2 : ∀ (n k : Nat) (f : Int → Int), (k : Int) + n = q 5 → (∀ u, 0 ≤ u → u < 168 → f u = if y_any (y_tx q i j ex u) k = true then 1 else 0) → Wp 24 [some (.inr (.inr (.ref 36))), some (.inr (.inr (.ref 127))), some (.inl i), some (.inl j), some (.inl ex), some (.inl k), none, none, none] [] (m_Ex g T, z_row J 127 f, X) 0 0 := by
    intro n
    induction n with
    | zero =>
      intro k f hk hf
      refine w_6a_24 hs ?_
      simp only [show (z_row J 127 f) 57 = J 57 from rfl, d5]
      refine ⟨fun c => ⟨_, _, rfl, rfl, rfl, f, rfl, fun u a1 a2 => ?_⟩, fun c => by omega⟩
      rw [hf u a1 a2, y_takenX, show (q 5).toNat = k by omega]; rfl
    | succ n ih =>
      intro k f hk hf
      have t0 := h.tk (t := k) (by omega) (by omega)
      have b := hb.tk (t := k) (by omega) (by omega)
      have nxt : ¬ ((k : Int) ≠ ex ∧ (q (288 + 6 * k + 0) = i ∨ q (288 + 6 * k + 0) = j) ∧ q (288 + 6 * k + 5) = 0) → Wp 24 [some (.inr (.inr (.ref 36))), some (.inr (.inr (.ref 127))), some (.inl i), some (.inl j), some (.inl ex), some (.inl (k + 1)), none, none, none] [] (m_Ex g T, z_row J 127 f, X) 0 0 := by
        intro hc
        refine ih (k + 1) f (by omega) (fun u a1 a2 => ?_)
        rw [hf u a1 a2]
        have : (y_any (y_tx q i j ex u) (k + 1) = true) ↔ (y_any (y_tx q i j ex u) k = true) := by
          rw [y_any, Bool.or_eq_true]
          exact ⟨fun h => h.elim id (fun z => absurd z (by simp only [y_tx, decide_eq_true_eq]; omega)), Or.inl⟩
        simp only [this]
      have inn : ((k : Int) ≠ ex ∧ (q (288 + 6 * k + 0) = i ∨ q (288 + 6 * k + 0) = j) ∧ q (288 + 6 * k + 5) = 0) → Wp 116 [some (.inr (.inr (.ref 36))), some (.inr (.inr (.ref 127))), some (.inl i), some (.inl j), some (.inl ex), some (.inl k), some (.inl 1), some (.inl (min (q (288 + 6 * k + 3)) 167)), some (.inl (max (q (288 + 6 * k + 2)) 0))] [] (m_Ex g T, z_row J 127 f, X) 0 0 := by
        intro hc
        rw [show max (q (288 + 6 * k + 2)) 0 = q (288 + 6 * k + 2) by omega]
        refine L3 (max (min (q (288 + 6 * k + 3)) 167 + 1) (q (288 + 6 * k + 2)) - q (288 + 6 * k + 2)).toNat k _ f (by omega) (by omega) (by omega) hc (fun u a1 a2 => ?_) (fun f' hf' => ih (k + 1) f' (by omega) hf')
        rw [hf u a1 a2]
        have : (y_any (y_tx q i j ex u) k = true ∨ (q (288 + 6 * k + 2) ≤ u ∧ u < q (288 + 6 * k + 2))) ↔ (y_any (y_tx q i j ex u) k = true) := ⟨fun h => h.elim id (fun z => absurd z (by omega)), Or.inl⟩
        simp only [this]
      refine w_6a_24 hs ?_
      simp only [show (z_row J 127 f) 57 = J 57 from rfl, show (z_row J 127 f) 58 = J 58 from rfl, show (z_row J 127 f) 60 = J 60 from rfl, show (z_row J 127 f) 61 = J 61 from rfl, show (z_row J 127 f) 62 = J 62 from rfl, d5, t0.1, t0.2.2.1, t0.2.2.2.1, t0.2.2.2.2.1]
      refine ⟨fun c => by omega, fun c => ⟨by omega, ?_⟩⟩
      refine ⟨fun c1 => ⟨by omega, fun c2 => ⟨by omega, nxt (by omega)⟩, fun c2 => by omega⟩, fun c1 => ⟨by omega, fun c2 => ⟨by omega, fun c3 => by omega, fun c3 => ⟨by omega, fun c4 => ⟨by omega, nxt (by omega)⟩, fun c4 => ⟨fun c5 => ⟨by omega, nxt (by omega)⟩, fun c5 => ⟨by omega, inn (by omega)⟩⟩⟩⟩, fun c2 => ⟨fun c3 => ⟨by omega, nxt (by omega)⟩, fun c3 => ⟨by omega, inn (by omega)⟩⟩⟩⟩
  have L1 : ∀ (n k : Nat) (f : Int → Int), k + n = 168 → (∀ u, 0 ≤ u → u < (k : Int) → f u = 0) → Wp 3 [some (.inr (.inr (.ref 36))), some (.inr (.inr (.ref 127))), some (.inl i), some (.inl j), some (.inl ex), some (.inl k), none, none, none] [] (m_Ex g T, z_row J 127 f, X) 0 0 := by
    intro n
    induction n with
    | zero =>
      intro k f hk hf
      refine w_6a_3 hs ?_
      refine ⟨fun c => L2 (q 5).toNat 0 f (by omega) (fun u a1 a2 => ?_), fun c => by omega⟩
      rw [hf u a1 (by omega), y_any, if_neg (by decide)]
    | succ n ih =>
      intro k f hk hf
      refine w_6a_3 hs ?_
      rw [z_u_zrow]
      refine ⟨fun c => by omega, fun c => ⟨by omega, ih (k + 1) _ (by omega) (fun u a1 a2 => ?_)⟩⟩
      by_cases hu : u = k
      · rw [z_up_eq hu]
      · rw [z_up_ne hu]; exact hf u a1 (by omega)
  refine w_6a_0 hs ?_
  have := L1 168 0 (J 127) (by omega) (fun s a1 a2 => by omega)
  rw [z_row_self] at this
  exact this
theorem e_fillTakenb (hb : y_base q) (h : x_day 36 q J) {i j ex : Int} : z_Sem l (d + 2) M_Day_fillTaken [.inr (.inr (.ref 36)), .inr (.inr (.ref 130)), .inl i, .inl j, .inl ex] (m_Ex g T, J, X) 0 0 (z_vq (m_Ex g T) (fun J' X' => X' = X ∧ ∃ f, J' = z_row J 130 f ∧ ∀ s, 0 ≤ s → s < 168 → f s = y_takenX q i j ex s)) := by
  have h5 := hb.1.2.2.2.2.2
  have d5 := h.hd.2.2.2.2.2
  refine z_sem_of z_m6 m_ok_6 (Nat.le_of_ble_eq_true rfl) (fun Wp hs hv hS => ?_)
  have L3 : ∀ (n : Nat) (k : Nat) (s : Int) (f : Int → Int), (k : Int) < q 5 → s + n = max (min (q (288 + 6 * k + 3)) 167 + 1) (q (288 + 6 * k + 2)) → q (288 + 6 * k + 2) ≤ s → ((k : Int) ≠ ex ∧ (q (288 + 6 * k + 0) = i ∨ q (288 + 6 * k + 0) = j) ∧ q (288 + 6 * k + 5) = 0) → (∀ u, 0 ≤ u → u < 168 → f u = if y_any (y_tx q i j ex u) k = true ∨ (q (288 + 6 * k + 2) ≤ u ∧ u < s) then 1 else 0) → (∀ f', (∀ u, 0 ≤ u → u < 168 → f' u = if y_any (y_tx q i j ex u) (k + 1) = true then 1 else 0) → Wp 24 [some (.inr (.inr (.ref 36))), some (.inr (.inr (.ref 130))), some (.inl i), some (.inl j), some (.inl ex), some (.inl ((k + 1 : Nat) : Int)), none, none, none] [] (m_Ex g T, z_row J 130 f', X) 0 0) → Wp 116 [some (.inr (.inr (.ref 36))), some (.inr (.inr (.ref 130))), some (.inl i), some (.inl j), some (.inl ex), some (.inl k), some (.inl 1), some (.inl (min (q (288 + 6 * k + 3)) 167)), some (.inl s)] [] (m_Ex g T, z_row J 130 f, X) 0 0 := by
    intro n
    induction n with
    | zero =>
      intro k s f hk hs0 hs1 ha hf hn
      have b := hb.tk (t := k) (by omega) (by omega)
      refine w_6b_116 hs ?_
      refine ⟨fun c => ⟨by omega, hn f (fun u a1 a2 => ?_)⟩, fun c => by omega⟩
      rw [hf u a1 a2]
      have : (y_any (y_tx q i j ex u) (k + 1) = true) ↔ (y_any (y_tx q i j ex u) k = true ∨ (q (288 + 6 * k + 2) ≤ u ∧ u < s)) := by
        rw [y_any, Bool.or_eq_true]
        exact or_congr_right (by simp only [y_tx, decide_eq_true_eq]; omega)
      simp only [this]
    | succ n ih =>
      intro k s f hk hs0 hs1 ha hf hn
      have b := hb.tk (t := k) (by omega) (by omega)
      refine w_6b_116 hs ?_
      rw [z_u_zrow]
      refine ⟨fun c => by omega, fun c => ⟨by omega, ih k (s + 1) _ hk (by omega) (by omega) ha (fun u a1 a2 => ?_) hn⟩⟩
      by_cases hu : u = s
      · subst hu
        rw [z_up_eq rfl, if_pos (Or.inr ⟨hs1, by omega⟩)]
      · rw [z_up_ne hu, hf u a1 a2]
        have : (y_any (y_tx q i j ex u) k = true ∨ (q (288 + 6 * k + 2) ≤ u ∧ u < s)) ↔ (y_any (y_tx q i j ex u) k = true ∨ (q (288 + 6 * k + 2) ≤ u ∧ u < s + 1)) := or_congr_right (by omega)
        simp only [this]
  have L2 : ∀ (n k : Nat) (f : Int → Int), (k : Int) + n = q 5 → (∀ u, 0 ≤ u → u < 168 → f u = if y_any (y_tx q i j ex u) k = true then 1 else 0) → Wp 24 [some (.inr (.inr (.ref 36))), some (.inr (.inr (.ref 130))), some (.inl i), some (.inl j), some (.inl ex), some (.inl k), none, none, none] [] (m_Ex g T, z_row J 130 f, X) 0 0 := by
    intro n
    induction n with
    | zero =>
      intro k f hk hf
      refine w_6b_24 hs ?_
      simp only [show (z_row J 130 f) 57 = J 57 from rfl, d5]
      refine ⟨fun c => ⟨_, _, rfl, rfl, rfl, f, rfl, fun u a1 a2 => ?_⟩, fun c => by omega⟩
      rw [hf u a1 a2, y_takenX, show (q 5).toNat = k by omega]; rfl
    | succ n ih =>
      intro k f hk hf
      have t0 := h.tk (t := k) (by omega) (by omega)
      have b := hb.tk (t := k) (by omega) (by omega)
      have nxt : ¬ ((k : Int) ≠ ex ∧ (q (288 + 6 * k + 0) = i ∨ q (288 + 6 * k + 0) = j) ∧ q (288 + 6 * k + 5) = 0) → Wp 24 [some (.inr (.inr (.ref 36))), some (.inr (.inr (.ref 130))), some (.inl i), some (.inl j), some (.inl ex), some (.inl (k + 1)), none, none, none] [] (m_Ex g T, z_row J 130 f, X) 0 0 := by
        intro hc
        refine ih (k + 1) f (by omega) (fun u a1 a2 => ?_)
        rw [hf u a1 a2]
        have : (y_any (y_tx q i j ex u) (k + 1) = true) ↔ (y_any (y_tx q i j ex u) k = true) := by
          rw [y_any, Bool.or_eq_true]
          exact ⟨fun h => h.elim id (fun z => absurd z (by simp only [y_tx, decide_eq_true_eq]; omega)), Or.inl⟩
        simp only [this]
      have inn : ((k : Int) ≠ ex ∧ (q (288 + 6 * k + 0) = i ∨ q (288 + 6 * k + 0) = j) ∧ q (288 + 6 * k + 5) = 0) → Wp 116 [some (.inr (.inr (.ref 36))), some (.inr (.inr (.ref 130))), some (.inl i), some (.inl j), some (.inl ex), some (.inl k), some (.inl 1), some (.inl (min (q (288 + 6 * k + 3)) 167)), some (.inl (max (q (288 + 6 * k + 2)) 0))] [] (m_Ex g T, z_row J 130 f, X) 0 0 := by
        intro hc
        rw [show max (q (288 + 6 * k + 2)) 0 = q (288 + 6 * k + 2) by omega]
        refine L3 (max (min (q (288 + 6 * k + 3)) 167 + 1) (q (288 + 6 * k + 2)) - q (288 + 6 * k + 2)).toNat k _ f (by omega) (by omega) (by omega) hc (fun u a1 a2 => ?_) (fun f' hf' => ih (k + 1) f' (by omega) hf')
        rw [hf u a1 a2]
        have : (y_any (y_tx q i j ex u) k = true ∨ (q (288 + 6 * k + 2) ≤ u ∧ u < q (288 + 6 * k + 2))) ↔ (y_any (y_tx q i j ex u) k = true) := ⟨fun h => h.elim id (fun z => absurd z (by omega)), Or.inl⟩
        simp only [this]
      refine w_6b_24 hs ?_
      simp only [show (z_row J 130 f) 57 = J 57 from rfl, show (z_row J 130 f) 58 = J 58 from rfl, show (z_row J 130 f) 60 = J 60 from rfl, show (z_row J 130 f) 61 = J 61 from rfl, show (z_row J 130 f) 62 = J 62 from rfl, d5, t0.1, t0.2.2.1, t0.2.2.2.1, t0.2.2.2.2.1]
      refine ⟨fun c => by omega, fun c => ⟨by omega, ?_⟩⟩
      refine ⟨fun c1 => ⟨by omega, fun c2 => ⟨by omega, nxt (by omega)⟩, fun c2 => by omega⟩, fun c1 => ⟨by omega, fun c2 => ⟨by omega, fun c3 => by omega, fun c3 => ⟨by omega, fun c4 => ⟨by omega, nxt (by omega)⟩, fun c4 => ⟨fun c5 => ⟨by omega, nxt (by omega)⟩, fun c5 => ⟨by omega, inn (by omega)⟩⟩⟩⟩, fun c2 => ⟨fun c3 => ⟨by omega, nxt (by omega)⟩, fun c3 => ⟨by omega, inn (by omega)⟩⟩⟩⟩
  have L1 : ∀ (n k : Nat) (f : Int → Int), k + n = 168 → (∀ u, 0 ≤ u → u < (k : Int) → f u = 0) → Wp 3 [some (.inr (.inr (.ref 36))), some (.inr (.inr (.ref 130))), some (.inl i), some (.inl j), some (.inl ex), some (.inl k), none, none, none] [] (m_Ex g T, z_row J 130 f, X) 0 0 := by
    intro n
    induction n with
    | zero =>
      intro k f hk hf
      refine w_6b_3 hs ?_
      refine ⟨fun c => L2 (q 5).toNat 0 f (by omega) (fun u a1 a2 => ?_), fun c => by omega⟩
      rw [hf u a1 (by omega), y_any, if_neg (by decide)]
    | succ n ih =>
      intro k f hk hf
      refine w_6b_3 hs ?_
      rw [z_u_zrow]
      refine ⟨fun c => by omega, fun c => ⟨by omega, ih (k + 1) _ (by omega) (fun u a1 a2 => ?_)⟩⟩
      by_cases hu : u = k
      · rw [z_up_eq hu]
      · rw [z_up_ne hu]; exact hf u a1 (by omega)
  refine w_6b_0 hs ?_
  have := L1 168 0 (J 130) (by omega) (fun s a1 a2 => by omega)
  rw [z_row_self] at this
  exact this
theorem e_mustPause (hb : y_base q) (h : x_day 36 q J) {i : Int} (hi : 0 ≤ i ∧ i < q 3) : z_Sem l (d + 1) M_Guests_mustPause [.inr (.inr (.ref 49)), .inl i, .inl (q 0)] (m_Ex g T, J, X) 0 0 (z_ret (.inl (y_b (y_pause q i))) (m_Ex g T, J, X)) := by
  have h0 := hb.1.1
  have p := hb.party hi.1 hi.2
  have f := h.party hi.1 hi.2
  have t := h.tier p.1.1 p.1.2.2
  refine z_sem_of z_m41 m_ok_41 (Nat.le_of_ble_eq_true rfl) (fun Wp hs hv hS => ?_)
  refine w_41_0 hs ?_
  rw [f.2.2, f.1, t.2.2.1]
  refine ⟨by omega, fun c => ⟨z_wi ?_, rfl⟩, fun c => ⟨by omega, fun c1 => ⟨z_wi ?_, rfl⟩, fun c1 => ⟨z_wi ?_, rfl⟩⟩⟩
  · have : y_pause q i = false := by unfold y_pause; simp only [decide_eq_false_iff_not]; omega
    rw [this]; rfl
  · have : y_pause q i = false := by unfold y_pause; simp only [decide_eq_false_iff_not]; omega
    rw [this]; rfl
  · have : y_pause q i = true := by unfold y_pause; simp only [decide_eq_true_eq]; omega
    rw [this]; rfl
theorem e_refusal (hb : y_base q) (h : x_day 36 q J) {i r : Int} (hi : 0 ≤ i ∧ i < q 3) (hr : 0 ≤ r ∧ r < q 1) : z_Sem l (d + 2) M_Desk_refusal [.inr (.inr (.ref 125)), .inr (.inr (.ref 36)), .inl i, .inl r] (m_Ex g T, J, X) 0 0 (z_ret (.inl (y_check q i r)) (m_Ex g T, J, X)) := by
  have h1 := hb.1.2.1
  have p := hb.party hi.1 hi.2
  have f := h.party hi.1 hi.2
  have t := h.tier p.1.1 p.1.2.2
  have rd := h.ride hr.1 hr.2
  have dn := (hb.ride hr.1 hr.2).2.2.2.2.1
  have d0 := h.hd.1
  refine z_sem_of z_m23 m_ok_23 (Nat.le_of_ble_eq_true rfl) (fun Wp hs hv hS => ?_)
  refine w_23_0 hs ?_
  rw [rd.2.2.2.2.2.1]
  refine ⟨by omega, fun c => z_cI (e_hasActive hb h) ⟨fun c1 => z_cI (e_countOf hb h) ?_, fun c1 => ⟨z_wi ?_, rfl⟩⟩, fun c => ⟨z_wi ?_, rfl⟩⟩
  · rw [y_b_0] at c1
    rw [f.1, t.1, d0]
    refine ⟨by omega, fun c2 => z_cI (e_mustPause hb h hi) ⟨fun c3 => ⟨z_wi ?_, rfl⟩, fun c3 => ⟨z_wi ?_, rfl⟩⟩, fun c2 => ⟨z_wi ?_, rfl⟩⟩
    · rw [y_b_0] at c3
      rw [y_check, if_neg (by omega), if_neg (by rw [c1]; decide), if_neg (by rw [c3]; rintro (z | z); exact absurd z (Int.not_le.mpr c2); cases z)]
    · rw [y_b_1] at c3
      rw [y_check, if_neg (by omega), if_neg (by rw [c1]; decide), if_pos (Or.inr c3)]
    · rw [y_check, if_neg (by omega), if_neg (by rw [c1]; decide), if_pos (Or.inl (show q (122 + 4 * q (138 + 3 * i + 0) + 0) ≤ y_act q i (q 5).toNat from c2))]
  · rw [y_b_1] at c1
    rw [y_check, if_neg (by omega), if_pos c1]
  · rw [y_check, if_pos (by omega)]
theorem e_firstStart (hb : y_base q) (h : x_day 36 q J) {r w e hz : Int} (hr : 0 ≤ r ∧ r < q 1) (he : 0 ≤ e) (hh : 0 ≤ hz ∧ hz ≤ 144) : z_Sem l (d + 2) M_Desk_firstStart [.inr (.inr (.ref 125)), .inr (.inr (.ref 36)), .inl r, .inl w, .inl e, .inl hz] (m_Ex g T, J, X) 0 0 (z_ret (.inl (y_4 (y_win (J 126) (J 127) w (q (10 + 14 * r + 2)) (max e (q 0)) (min (q 0 + hz) (q (10 + 14 * r + 4)))))) (m_Ex g T, J, X)) := by
  have h1 := hb.1.2.1
  have h0 := hb.1.1
  obtain ⟨-, -, r2, r3, -⟩ := hb.ride hr.1 hr.2
  have rd := h.ride hr.1 hr.2
  have d0 := h.hd.1
  refine z_sem_of z_m24 m_ok_24 (Nat.le_of_ble_eq_true rfl) (fun Wp hs hv hS => ?_)
  have loop : ∀ (n k : Nat), max e (q 0) + (k : Int) + n = max (min (q 0 + hz) (q (10 + 14 * r + 4)) + 1) (max e (q 0)) → y_any (y_wn (J 126) (J 127) w (q (10 + 14 * r + 2)) (max e (q 0))) k = false → Wp 36 [some (.inr (.inr (.ref 125))), some (.inr (.inr (.ref 36))), some (.inl r), some (.inl w), some (.inl e), some (.inl hz), some (.inl (max e (q 0))), some (.inl (min (q (10 + 14 * r + 4)) (q 0 + hz))), some (.inl (max e (q 0) + k))] [] (m_Ex g T, J, X) 0 0 := by
    intro n
    induction n with
    | zero =>
      intro k hk ha
      refine w_24_36 hs ?_
      refine ⟨fun c => ⟨z_wi ?_, rfl⟩, fun c => by omega⟩
      rw [y_4, y_win, show (min (q 0 + hz) (q (10 + 14 * r + 4)) - max e (q 0) + 1).toNat = k by omega, y_first_none ha, if_pos rfl]; rfl
    | succ n ih =>
      intro k hk ha
      have nxt : y_wn (J 126) (J 127) w (q (10 + 14 * r + 2)) (max e (q 0)) k = false → Wp 36 [some (.inr (.inr (.ref 125))), some (.inr (.inr (.ref 36))), some (.inl r), some (.inl w), some (.inl e), some (.inl hz), some (.inl (max e (q 0))), some (.inl (min (q (10 + 14 * r + 4)) (q 0 + hz))), some (.inl (max e (q 0) + k + 1))] [] (m_Ex g T, J, X) 0 0 := by
        intro hc
        have := ih (k + 1) (by omega) (by rw [y_any, ha, hc]; rfl)
        rw [show max e (q 0) + ((k + 1 : Nat) : Int) = max e (q 0) + k + 1 by omega] at this
        exact this
      refine w_24_36 hs ?_
      rw [rd.2.2.1]
      refine ⟨fun c => by omega, fun c => ⟨by omega, fun c1 => ⟨by omega, nxt ?_⟩, fun c1 => ⟨by omega, z_cI (e_isCleara (by omega) (by omega) (by omega)) ⟨fun c2 => ⟨by omega, nxt ?_⟩, fun c2 => ⟨z_wi ?_, rfl⟩⟩⟩⟩⟩
      · rw [y_wn, decide_eq_false (by omega)]; rfl
      · rw [y_b_0] at c2
        rw [y_wn, c2, Bool.and_false]
      · rw [y_b_1] at c2
        have h9 : y_wn (J 126) (J 127) w (q (10 + 14 * r + 2)) (max e (q 0)) k = true := by
          rw [y_wn, c2, Bool.and_true, decide_eq_true_eq]; exact c1
        rw [y_4, y_win, y_first_at (k := k) (by omega) ha h9, if_neg (by omega), if_neg (by omega)]
  refine w_24_0 hs ?_
  rw [d0, rd.2.2.2.2.1]
  refine ⟨by omega, ?_⟩
  by_cases hc : min (q 0 + hz) (q (10 + 14 * r + 4)) + 1 ≤ max e (q 0)
  · have := loop 0 0 (by omega) rfl
    rw [show max e (q 0) + ((0 : Nat) : Int) = max e (q 0) by omega] at this
    exact this
  · have := loop (min (q 0 + hz) (q (10 + 14 * r + 4)) + 1 - max e (q 0)).toNat 0 (by omega) rfl
    rw [show max e (q 0) + ((0 : Nat) : Int) = max e (q 0) by omega] at this
    exact this
theorem e_startFor (hb : y_base q) (h : x_day 36 q J) {i r e : Int} (hi : 0 ≤ i ∧ i < q 3) (hr : 0 ≤ r ∧ r < q 1) (he : 0 ≤ e) : z_Sem l (d + 3) M_Desk_startFor [.inr (.inr (.ref 125)), .inr (.inr (.ref 36)), .inl i, .inl r, .inl e] (m_Ex g T, J, X) 0 0 (z_rq (m_Ex g T) (fun v J' X' => X' = X ∧ x_sc J J' ∧ v = y_wf q i r e)) := by
  have h5 := hb.1.2.2.2.2.2
  have h1 := hb.1.2.1
  have h0 := hb.1.1
  have p := hb.party hi.1 hi.2
  have f := h.party hi.1 hi.2
  have t := h.tier p.1.1 p.1.2.2
  have d5 := h.hd.2.2.2.2.2
  have th := p.2.2.2.2.2.1
  obtain ⟨-, -, r2, r3, -⟩ := hb.ride hr.1 hr.2
  refine z_sem_of z_m22 m_ok_22 (Nat.le_of_ble_eq_true rfl) (fun Wp hs hv hS => ?_)
  refine w_22_0 hs ?_
  refine z_cI (e_refusal hb h hi hr) ⟨fun c => ⟨fun c1 => ?_, fun c1 => ⟨_, _, _, rfl, rfl, rfl, x_sc.rf, ?_⟩⟩, fun c => ⟨_, _, _, rfl, rfl, rfl, x_sc.rf, ?_⟩⟩
  · refine z_cVq (e_fillFreea hb h hr) ?_
    rintro J2 X2 ⟨rfl, f1, rfl, hf1⟩
    have h2 := h.row (a := 126) (by omega) h1.2 (f := f1)
    refine z_cVq (e_fillTakena (J := z_row J 126 f1) hb h2) ?_
    rintro J3 X3 ⟨rfl, f2, rfl, hf2⟩
    have h3 := h2.row (a := 127) (by omega) h1.2 (f := f2)
    simp only [show (z_row (z_row J 126 f1) 127 f2) 54 = J 54 from rfl, show (z_row (z_row J 126 f1) 127 f2) 55 = J 55 from rfl, show (z_row (z_row J 126 f1) 127 f2) 51 = J 51 from rfl, f.1, f.2.1, t.2.1]
    refine ⟨by omega, z_cI (e_firstStart (J := z_row (z_row J 126 f1) 127 f2) hb h3 hr he (by omega)) ⟨_, _, _, rfl, rfl, rfl, fun b hb9 => by rw [z_row_ne (by omega), z_row_ne (by omega)], ?_⟩⟩
    rw [y_wf, if_pos c, if_neg (by omega), y_slot]
    congr 1
    refine y_win_congr (fun s a1 a2 => ?_) (fun s a1 a2 => ?_)
    · show (z_row (z_row J 126 f1) 127 f2) 126 s = _
      rw [z_row_ne (by omega), z_row_eq, hf1 s (by omega) (by omega), y_freeX_none]
    · rw [z_row_eq, hf2 s (by omega) (by omega), y_takenX_none hb]
  · rw [y_wf, if_pos c, if_pos (by omega)]
  · rw [y_wf, if_neg c]
end Q4
