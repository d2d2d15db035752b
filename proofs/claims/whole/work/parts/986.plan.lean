/-! the best order of a party's rides: what it is; the reference finds it -/
theorem y_first_0 {f : Int → Bool} {n : Nat} : y_first f (n + 1) = if f 0 = true then 0 else if y_first (fun k => f (k + 1)) n = -1 then -1 else y_first (fun k => f (k + 1)) n + 1 := by
  by_cases h0 : f 0 = true
  · rw [if_pos h0]
    have := y_first_at (f := f) (n := n + 1) (k := 0) (by omega) rfl h0
    exact this
  · rw [if_neg h0]
    by_cases ha : y_any (fun k => f (k + 1)) n = true
    · have p := y_first_any ha
      have lt := y_first_lt (f := fun k => f (k + 1)) (n := n)
      obtain ⟨s1, s2⟩ := y_first_spec p
      rw [if_neg (by omega)]
      have e := y_first_at (f := f) (n := n + 1) (k := (y_first (fun k => f (k + 1)) n).toNat + 1) (by omega) (by
        cases e : y_any f ((y_first (fun k => f (k + 1)) n).toNat + 1) with
        | false => rfl
        | true =>
          obtain ⟨j, j1, j2⟩ := y_any_iff.mp e
          cases j with
          | zero => exact absurd j2 h0
          | succ j =>
            have : y_any (fun k => f (k + 1)) (y_first (fun k => f (k + 1)) n).toNat = true := y_any_iff.mpr ⟨j, by omega, j2⟩
            rw [this] at s2; cases s2) (by
        rw [show ((((y_first (fun k => f (k + 1)) n).toNat + 1 : Nat)) : Int) = y_first (fun k => f (k + 1)) n + 1 by omega]
        exact s1)
      rw [e]
      omega
    · have hz : y_any (fun k => f (k + 1)) n = false := by simpa using ha
      rw [y_first_none hz, if_pos rfl]
      refine y_first_none ?_
      cases e : y_any f (n + 1) with
      | false => rfl
      | true =>
        obtain ⟨j, j1, j2⟩ := y_any_iff.mp e
        cases j with
        | zero => exact absurd j2 h0
        | succ j =>
          have : y_any (fun k => f (k + 1)) n = true := y_any_iff.mpr ⟨j, by omega, j2⟩
          rw [this] at hz; cases hz
theorem y_win_s {L B : Int → Int} {w n lo hi : Int} (h : lo ≤ hi) (hlo : 0 ≤ lo) : y_win L B w n lo hi = if w ≤ L lo ∧ y_clear B lo n = true then lo else y_win L B w n (lo + 1) hi := by
  have lt := y_first_lt (f := y_wn L B w n (lo + 1)) (n := (hi - (lo + 1) + 1).toNat)
  have e1 : (fun k => y_wn L B w n lo (k + 1)) = y_wn L B w n (lo + 1) := by
    funext k
    unfold y_wn
    rw [show lo + (k + 1) = lo + 1 + k by omega]
  have e0 : y_wn L B w n lo 0 = true ↔ w ≤ L lo ∧ y_clear B lo n = true := by
    unfold y_wn
    rw [Bool.and_eq_true, decide_eq_true_eq, Int.add_zero]
  unfold y_win
  rw [show (hi - lo + 1).toNat = (hi - (lo + 1) + 1).toNat + 1 by omega, y_first_0, e1]
  by_cases c : w ≤ L lo ∧ y_clear B lo n = true
  · rw [if_pos (e0.mpr c), if_pos c, if_neg (by omega), Int.add_zero]
  · rw [if_neg (fun z => c (e0.mp z)), if_neg c]
    by_cases d : y_first (y_wn L B w n (lo + 1)) (hi - (lo + 1) + 1).toNat = -1
    · rw [if_pos d, if_pos rfl, if_pos d]
    · rw [if_neg d, if_neg (by omega), if_neg d]
      omega
theorem y_win_no {L B : Int → Int} {w n lo hi : Int} (h : hi < lo) : y_win L B w n lo hi = -1 := by
  unfold y_win
  rw [show (hi - lo + 1).toNat = 0 by omega]
  rfl
/-- the start of the first window for a party from a slot on -/
def y_ns (q : Int → Int) (i r lo : Int) : Int := y_win (y_free q r) (y_taken q i) (q (138 + 3 * i + 1)) (q (10 + 14 * r + 2)) lo (min 143 (q (10 + 14 * r + 4)))
/-- when the last window of an order ends -/
def y_fin (q : Int → Int) (i : Int) : List Nat → Int → Int
  | [], f => f - 1
  | r :: p, f => if y_ns q i r f = -1 then -1 else y_fin q i p (y_ns q i r f + q (10 + 14 * (r : Int) + 2))
def y_stp (acc : Int × List Nat) (o : List Nat) (e : Int) : Int × List Nat := if e ≠ -1 ∧ (acc.1 = -1 ∨ e < acc.1) then (e, o) else acc
def y_fx (q : Int → Int) (i : Int) (pre : List Nat) (f : Int) : List (List Nat) → Int × List Nat → Int × List Nat
  | [], acc => acc
  | p :: t, acc => y_fx q i pre f t (y_stp acc (pre ++ p) (y_fin q i p f))
theorem y_fx_app {q : Int → Int} {i : Int} {pre : List Nat} {f : Int} : ∀ {a b : List (List Nat)} {acc : Int × List Nat}, y_fx q i pre f (a ++ b) acc = y_fx q i pre f b (y_fx q i pre f a acc)
  | [], _, _ => rfl
  | p :: a, b, acc => by rw [List.cons_append, y_fx, y_fx, y_fx_app]
theorem y_fx_map {q : Int → Int} {i : Int} {pre : List Nat} {f : Int} {r : Nat} : ∀ {ps : List (List Nat)} {acc : Int × List Nat}, y_fx q i pre f (ps.map (fun p => r :: p)) acc = if y_ns q i r f = -1 then acc else y_fx q i (pre ++ [r]) (y_ns q i r f + q (10 + 14 * (r : Int) + 2)) ps acc
  | [], acc => by rw [List.map_nil, y_fx, y_fx]; split <;> rfl
  | p :: ps, acc => by
    rw [List.map_cons, y_fx, y_fx_map]
    by_cases h : y_ns q i r f = -1
    · rw [if_pos h, if_pos h, y_fin, if_pos h]
      unfold y_stp
      rw [if_neg (fun z => z.1 rfl)]
    · rw [if_neg h, if_neg h, y_fin, if_neg h, y_fx, List.append_assoc]
      rfl
/-- the best end and order of a set of rides -/
def y_plan (q : Int → Int) (i : Int) (m : Nat) : Int × List Nat := y_fx q i [] (q 0) (y_prm (y_bc m) (y_bl m 8)) (-1, [])
def o_bestFinish (q : Int → Int) (i m : Int) : Int × Int := y_need (0 ≤ i ∧ i < q 3) 1 (y_need (0 < m ∧ m < ((2 ^ (q 1).toNat : Nat) : Int) ∧ y_bc m.toNat ≤ 5) 2 (0, if (y_plan q i m.toNat).1 = -1 then -4 else (y_plan q i m.toNat).1))
def o_bestOrder (q : Int → Int) (i m x : Int) : Int × Int := y_need (0 ≤ i ∧ i < q 3) 1 (y_need (0 < m ∧ m < ((2 ^ (q 1).toNat : Nat) : Int) ∧ y_bc m.toNat ≤ 5) 2 (0, if (y_plan q i m.toNat).1 ≠ -1 ∧ 0 ≤ x ∧ x < y_bc m.toNat then ((y_plan q i m.toNat).2.getD x.toNat 0 : Nat) else -1))
/-- a row holds a list -/
def y_rp (f : Int → Int) (a : List Nat) : Prop := ∀ k : Nat, k < a.length → f k = (a.getD k 0 : Nat)
theorem y_getD_set {a : List Nat} {i j v : Nat} (hi : i < a.length) : (a.set i v).getD j 0 = if j = i then v else a.getD j 0 := by
  rw [List.getD_eq_getElem?_getD, List.getD_eq_getElem?_getD, List.getElem?_set]
  by_cases c : i = j
  · subst c; rw [if_pos rfl, if_pos hi, if_pos rfl]; rfl
  · rw [if_neg c, if_neg (fun z => c z.symm)]
theorem y_rp_swp {f : Int → Int} {a : List Nat} {i j : Nat} (h : y_rp f a) (hi : i < a.length) (hj : j < a.length) : y_rp (z_up (z_up f i (f j)) j (f i)) (y_swp a i j) := by
  intro k hk
  rw [y_swp_len] at hk
  unfold y_swp
  rw [y_getD_set (by rw [List.length_set]; exact hj), y_getD_set hi]
  by_cases c1 : k = j
  · rw [z_up_eq (by omega), if_pos c1]; exact h i hi
  · rw [z_up_ne (by omega), if_neg c1]
    by_cases c2 : k = i
    · rw [z_up_eq (by omega), if_pos c2]; exact h j hj
    · rw [z_up_ne (by omega), if_neg c2]; exact h k hk
theorem z_u2_155 {J : z_J} {f : Int → Int} {i j x y : Int} : z_u (z_u (z_row J 155 f) 155 i x) 155 j y = z_row J 155 (z_up (z_up f i x) j y) := by
  rw [z_u_zrow, z_u_zrow]
theorem y_bc_pos_f : ∀ x : Fin 256, x.val ≠ 0 → 1 ≤ y_bc x.val := by decide +kernel
theorem y_bl_st {m k : Nat} (h : m < 2 ^ k) : ∀ j : Nat, y_bl m (k + j) = y_bl m k
  | 0 => rfl
  | j + 1 => by
    have b : 2 ^ k ≤ 2 ^ (k + j) := Nat.pow_le_pow_right (by omega) (by omega)
    rw [show k + (j + 1) = k + j + 1 by omega, y_bl, Nat.testBit_lt_two_pow (by omega), if_neg (by decide), List.append_nil, y_bl_st h j]
theorem y_bl_len {m k : Nat} : ∀ j : Nat, (y_bl m k).length ≤ (y_bl m (k + j)).length
  | 0 => Nat.le_refl _
  | j + 1 => by
    have := y_bl_len (m := m) (k := k) j
    rw [show k + (j + 1) = k + j + 1 by omega, y_bl, List.length_append]
    omega
section R21
variable {l : Launch} {d : Nat} {g : List (Option Nat)} {T : m_E} {J : z_J} {X : z_X}
theorem c_permute {f : Int → Int} {a : List Nat} (hn : J 148 9 = a.length) (h1 : 1 ≤ a.length ∧ a.length ≤ 5) (hf : y_rp f a) : z_Sem l (d + 2) M_R_permute [.inr (.inr (.ref 148))] (m_Ex g T, z_row J 155 f, X) 0 0 (z_rq (m_Ex g T) (fun v J' X' => X' = X ∧ ((y_np a = none ∧ v = 0 ∧ J' = z_row J 155 f) ∨ (∃ b f', y_np a = some b ∧ v = 1 ∧ J' = z_row J 155 f' ∧ y_rp f' b)))) := by
  have e9 : ∀ f : Int → Int, (z_row J 155 f) 148 9 = a.length := fun f => by rw [z_row_ne (by omega)]; exact hn
  refine z_sem_of z_m302 m_ok_302 (Nat.le_of_ble_eq_true rfl) (fun Wp hs hv hS => ?_)
  have revl : ∀ (n lo hi : Nat) (i9 j9 : Int) (b : List Nat) (f2 : Int → Int), hi < b.length → b.length ≤ 5 → y_rp f2 b → hi ≤ lo + 2 * n → y_np a = some (y_rev n b lo hi) → Wp 86 [some (.inr (.inr (.ref 148))), some (.inl i9), some (.inl j9), some (.inl lo), some (.inl hi)] [] (m_Ex g T, z_row J 155 f2, X) 0 0 := by
    intro n
    induction n with
    | zero =>
      intro lo hi i9 j9 b f2 hh h5 hr hn9 he
      refine w_302_86 hs ?_
      exact ⟨fun c => ⟨_, _, _, rfl, rfl, rfl, Or.inr ⟨_, _, he, rfl, rfl, hr⟩⟩, fun c => by omega⟩
    | succ n ih =>
      intro lo hi i9 j9 b f2 hh h5 hr hn9 he
      rw [y_rev] at he
      refine w_302_86 hs ?_
      simp only [z_row_eq, z_u2_155]
      refine ⟨fun c => ?_, fun c => ⟨by omega, ?_⟩⟩
      · rw [if_neg (by omega)] at he
        exact ⟨_, _, _, rfl, rfl, rfl, Or.inr ⟨_, _, he, rfl, rfl, hr⟩⟩
      · rw [if_pos (by omega)] at he
        have := ih (lo + 1) (hi - 1) i9 j9 (y_swp b lo hi) _ (by rw [y_swp_len]; omega) (by rw [y_swp_len]; exact h5) (y_rp_swp hr (by omega) hh) (by omega) he
        rw [show ((hi - 1 : Nat) : Int) = (hi : Int) + -1 by omega] at this
        exact this
  have jl : ∀ (i : Nat), i + 1 < a.length → a.getD i 0 ≤ a.getD (i + 1) 0 → ∀ (k j : Nat), i + 1 + k = j → j < a.length → y_np a = some (y_rev 5 (y_swp a i (y_faj a i j)) (i + 1) (a.length - 1)) → Wp 47 [some (.inr (.inr (.ref 148))), some (.inl i), some (.inl j), none, none] [] (m_Ex g T, z_row J 155 f, X) 0 0 := by
    intro i hi hle k
    have stop : ∀ j : Nat, i < j → j < a.length → ¬ a.getD j 0 < a.getD i 0 → y_np a = some (y_rev 5 (y_swp a i j) (i + 1) (a.length - 1)) → Wp 47 [some (.inr (.inr (.ref 148))), some (.inl i), some (.inl j), none, none] [] (m_Ex g T, z_row J 155 f, X) 0 0 := by
      intro j hj hj2 hnl he
      have fi := hf i (by omega)
      have fj := hf j hj2
      refine w_302_47 hs ?_
      rw [e9]
      simp only [z_row_eq, z_u2_155]
      refine ⟨by omega, fun c => ⟨by omega, ?_⟩, fun c => by omega⟩
      have := revl 5 (i + 1) (a.length - 1) i j (y_swp a i j) _ (by rw [y_swp_len]; omega) (by rw [y_swp_len]; omega) (y_rp_swp hf (by omega) hj2) (by omega) he
      rw [show ((a.length - 1 : Nat) : Int) = (a.length : Int) - 1 by omega] at this
      exact this
    induction k with
    | zero =>
      intro j hj hj2 he
      have ej : j = i + 1 := by omega
      subst ej
      rw [y_faj, if_neg (by omega)] at he
      exact stop (i + 1) (by omega) hi (by omega) he
    | succ k ih =>
      intro j hj hj2 he
      obtain ⟨j', rfl⟩ : ∃ j', j = j' + 1 := ⟨j - 1, by omega⟩
      rw [y_faj] at he
      by_cases c : a.getD (j' + 1) 0 < a.getD i 0
      · rw [if_pos c] at he
        have fi := hf i (by omega)
        have fj := hf (j' + 1) hj2
        refine w_302_47 hs ?_
        simp only [z_row_eq]
        refine ⟨by omega, fun c1 => by omega, fun c1 => ⟨by omega, ?_⟩⟩
        rw [show ((j' + 1 : Nat) : Int) + -1 = j' by omega]
        exact ih j' (by omega) (by omega) he
      · rw [if_neg c] at he
        exact stop (j' + 1) (by omega) hj2 c he
  have il : ∀ k : Nat, k < a.length → y_fai a k = y_fai a (a.length - 1) → Wp 7 [some (.inr (.inr (.ref 148))), some (.inl ((k : Int) - 1)), none, none, none] [] (m_Ex g T, z_row J 155 f, X) 0 0 := by
    intro k
    induction k with
    | zero =>
      intro hk he
      refine w_302_7 hs ?_
      refine ⟨fun c => ⟨fun c1 => by omega, fun c1 => ⟨_, _, _, rfl, rfl, rfl, Or.inl ⟨?_, rfl, rfl⟩⟩⟩, fun c => by omega⟩
      unfold y_np
      rw [← he]
      rfl
    | succ k ih =>
      intro hk he
      rw [y_fai] at he
      have f0 := hf k (by omega)
      have f1 := hf (k + 1) hk
      rw [show ((k + 1 : Nat) : Int) = (k : Int) + 1 from rfl] at f1
      rw [show ((k + 1 : Nat) : Int) - 1 = k by omega]
      refine w_302_7 hs ?_
      rw [e9]
      simp only [z_row_eq]
      rw [f0, f1]
      refine ⟨fun c => by omega, fun c => ⟨by omega, fun c1 => ⟨fun c2 => ⟨by omega, ?_⟩, fun c2 => by omega⟩, fun c1 => ⟨by omega, ?_⟩⟩⟩
      · rw [if_neg (by omega)] at he
        have np : y_np a = some (y_rev 5 (y_swp a k (y_faj a k (a.length - 1))) (k + 1) (a.length - 1)) := by
          unfold y_np
          rw [← he]
        have := jl k hk (by omega) (a.length - 1 - (k + 1)) (a.length - 1) (by omega) (by omega) np
        rw [show ((a.length - 1 : Nat) : Int) = (a.length : Int) - 1 by omega] at this
        exact this
      · rw [if_pos (by omega)] at he
        have := ih (by omega) he
        rw [show (k : Int) + -1 = k - 1 by omega]
        exact this
  refine w_302_0 hs ?_
  rw [e9]
  refine ⟨by omega, ?_⟩
  have := il (a.length - 1) (by omega) rfl
  rw [show ((a.length - 1 : Nat) : Int) - 1 = (a.length : Int) - 2 by omega] at this
  exact this
theorem y_ns_b {q : Int → Int} (hb : y_base q) {i r lo : Int} (hr : 0 ≤ r ∧ r < q 1) (hlo : 0 ≤ lo) (h : y_ns q i r lo ≠ -1) : lo ≤ y_ns q i r lo ∧ y_ns q i r lo ≤ 143 := by
  have := y_win_spec h hlo
  unfold y_ns at *
  omega
theorem c_finish (hb : y_base (J 149)) {i : Int} {a : List Nat} (hi : 0 ≤ i ∧ i < J 149 3) (hn : J 148 9 = a.length) (h5 : a.length ≤ 5) (ha : ∀ x, x ∈ a → (x : Int) < J 149 1) (hf : y_rp (J 155) a) (hL : ∀ r s, 0 ≤ r → r < J 149 1 → 0 ≤ s → s < 144 → J 151 (144 * r + s) = y_free (J 149) r s) (hB : ∀ s, 0 ≤ s → s < 256 → J 152 s = y_taken (J 149) i s) : z_Sem l (d + 3) M_R_finish [.inr (.inr (.ref 148)), .inl i] (m_Ex g T, J, X) 0 0 (z_ret (.inl (y_fin (J 149) i a (J 149 0))) (m_Ex g T, J, X)) := by
  have h0 := hb.1.1
  have h1 := hb.1.2.1
  have h3 := hb.1.2.2.2.1
  refine z_sem_of z_m301 m_ok_301 (Nat.le_of_ble_eq_true rfl) (fun Wp hs hv hS => ?_)
  have loop : ∀ (rest : List Nat) (k : Nat) (fr : Int), k + rest.length = a.length → (∀ j, j < rest.length → a.getD (k + j) 0 = rest.getD j 0) → (J 149 0 ≤ fr ∧ fr ≤ 1000) → y_fin (J 149) i rest fr = y_fin (J 149) i a (J 149 0) → Wp 9 [some (.inr (.inr (.ref 148))), some (.inl i), some (.inl fr), some (.inl k), none] [] (m_Ex g T, J, X) 0 0 := by
    intro rest
    induction rest with
    | nil =>
      intro k fr hk hj hfr he
      rw [List.length_nil] at hk
      refine w_301_9 hs ?_
      rw [hn]
      refine ⟨fun c => ⟨by omega, z_wi ?_, rfl⟩, fun c => by omega⟩
      rw [← he]; rfl
    | cons x rest ih =>
      intro k fr hk hj hfr he
      rw [List.length_cons] at hk
      have ex : a.getD k 0 = x := by
        have := hj 0 (by rw [List.length_cons]; omega)
        rw [Nat.add_zero, List.getD_cons_zero] at this
        exact this
      have xa : x ∈ a := by rw [← ex]; exact y_getD_mem (by omega)
      have xr := ha x xa
      have fx : J 155 k = x := by rw [hf k (by omega), ex]
      have rd := hb.ride (r := x) (by omega) xr
      have r2 := rd.2.2.1
      have r3 := rd.2.2.2.1
      have fw := c_firstWindow (l := l) (d := d) (g := g) (T := T) (J := J) (X := X) (w := J 149 (138 + 3 * i + 1)) (r := x) (e := fr) (la := 143) hb ⟨by omega, xr⟩ (by omega)
      rw [show max fr (J 149 0) = fr by omega] at fw
      have ew : y_win (fun s => J 151 (144 * (x : Int) + s)) (J 152) (J 149 (138 + 3 * i + 1)) (J 149 (10 + 14 * (x : Int) + 2)) fr (min 143 (J 149 (10 + 14 * (x : Int) + 4))) = y_ns (J 149) i x fr := by
        unfold y_ns
        exact y_win_congr (fun s a1 a2 => hL x s (by omega) xr (by omega) (by omega)) (fun s a1 a2 => hB s (by omega) (by omega))
      rw [ew] at fw
      rw [y_fin] at he
      refine w_301_9 hs ?_
      rw [hn, fx]
      refine ⟨fun c => by omega, fun c => ⟨by omega, z_cI fw ⟨fun c1 => ?_, fun c1 => ⟨z_wi ?_, rfl⟩⟩⟩⟩
      · rw [if_neg c1] at he
        have nb := y_ns_b hb (i := i) (r := x) (lo := fr) ⟨by omega, xr⟩ (by omega) c1
        rw [fx]
        refine ⟨by omega, ih (k + 1) _ (by omega) (fun j hj9 => ?_) (by omega) he⟩
        have := hj (j + 1) (by rw [List.length_cons]; omega)
        rw [List.getD_cons_succ] at this
        rw [show k + 1 + j = k + (j + 1) by omega]
        exact this
      · rw [if_pos c1] at he
        exact he
  refine w_301_0 hs ?_
  exact loop a 0 (J 149 0) (by omega) (fun j hj => by rw [Nat.zero_add]) (by omega) rfl
theorem c_findOrder (hb : y_base (J 149)) {i : Int} {m : Nat} (hi : 0 ≤ i ∧ i < J 149 3) (hm : m < 2 ^ (J 149 1).toNat) (m0 : m ≠ 0) (m5 : y_bc m ≤ 5) : z_Sem l (d + 5) M_R_findOrder [.inr (.inr (.ref 148)), .inl i, .inl m] (m_Ex g T, J, X) 0 0 (z_rq (m_Ex g T) (fun v J' X' => X' = X ∧ J' 149 = J 149 ∧ J' 148 9 = y_bc m ∧ (∀ k, k ≠ 9 → J' 148 k = J 148 k) ∧ (∀ b, b ≠ 148 → b ≠ 149 → (b < 151 ∨ 156 < b) → J' b = J b) ∧ v = (y_plan (J 149) i m).1 ∧ (v ≠ -1 → y_rp (J' 156) (y_plan (J 149) i m).2 ∧ (y_plan (J 149) i m).2.length = y_bc m))) := by
  have h0 := hb.1.1
  have h1 := hb.1.2.1
  have b8 := y_pow8 (show (J 149 1).toNat ≤ 8 by omega)
  have fb := y_bl_f ⟨m, by omega⟩
  rw [Bool.and_eq_true] at fb
  have fl : (y_bl m 8).length = y_bc m := Nat.eq_of_beq_eq_true fb.2
  obtain ⟨o1, o2⟩ := y_orders (m := m) (by omega) m0 m5
  have inr : ∀ x, x ∈ y_bl m 8 → (x : Int) < J 149 1 := fun x hx => by
    have := y_bit_lt hm (y_bl_mem.mp hx).2
    omega
  refine z_sem_of z_m300 m_ok_300 (Nat.le_of_ble_eq_true rfl) (fun Wp hs hv hS => ?_)
  have n1 : 1 ≤ y_bc m := y_bc_pos_f ⟨m, by omega⟩ m0
  -- what stays so
  have main : ∀ (J0 : z_J), J0 149 = J 149 → J0 148 9 = y_bc m → (∀ k, k ≠ 9 → J0 148 k = J 148 k) → (∀ b, b ≠ 148 → b ≠ 149 → (b < 151 ∨ 156 < b) → J0 b = J b) → (∀ r s, 0 ≤ r → r < J 149 1 → 0 ≤ s → s < 144 → J0 151 (144 * r + s) = y_free (J 149) r s) → (∀ s, 0 ≤ s → s < 256 → J0 152 s = y_taken (J 149) i s) → ∀ (ps : List (List Nat)) (a : List Nat) (f f6 : Int → Int) (acc : Int × List Nat), y_chn (y_bc m) (y_bl m 8) (a :: ps) → y_rp f a → (acc.1 ≠ -1 → y_rp f6 acc.2 ∧ acc.2.length = y_bc m) → y_fx (J 149) i [] (J 149 0) (a :: ps) acc = y_plan (J 149) i m → Wp 68 [some (.inr (.inr (.ref 148))), some (.inl i), some (.inl m), some (.inl acc.1), some (.inl 1), none, none] [] (m_Ex g T, z_row (z_row J0 155 f) 156 f6, X) 0 0 := by
    intro J0 j149 j9 j148 jo jL jB
    have eJ : ∀ (f f6 : Int → Int), z_row (z_row J0 155 f) 156 f6 = z_row (z_row J0 156 f6) 155 f := fun f f6 => by
      funext b
      by_cases b1 : b = 155
      · subst b1; rw [z_row_ne (by omega), z_row_eq, z_row_eq]
      · rw [z_row_ne (a := 155) b1]
        by_cases b2 : b = 156
        · subst b2; rw [z_row_eq, z_row_eq]
        · rw [z_row_ne b2, z_row_ne b2, z_row_ne b1]
    have oJ : ∀ (f f6 : Int → Int) (b : Nat), b ≠ 155 → b ≠ 156 → (z_row (z_row J0 155 f) 156 f6) b = J0 b := fun f f6 b b1 b2 => by rw [z_row_ne b2, z_row_ne b1]
    -- behind the last order
    have stop : ∀ (f f6 : Int → Int) (acc : Int × List Nat), (acc.1 ≠ -1 → y_rp f6 acc.2 ∧ acc.2.length = y_bc m) → acc = y_plan (J 149) i m → Wp 68 [some (.inr (.inr (.ref 148))), some (.inl i), some (.inl m), some (.inl acc.1), some (.inl 0), none, none] [] (m_Ex g T, z_row (z_row J0 155 f) 156 f6, X) 0 0 := by
      intro f f6 acc ha he
      refine w_300_68 hs ?_
      refine ⟨fun c => ⟨_, _, _, rfl, rfl, rfl, ?_, ?_, fun k hk => ?_, fun b b1 b2 b3 => ?_, ?_, fun hv => ?_⟩, fun c => absurd rfl c⟩
      · rw [oJ f f6 149 (by omega) (by omega)]; exact j149
      · rw [oJ f f6 148 (by omega) (by omega)]; exact j9
      · rw [oJ f f6 148 (by omega) (by omega)]; exact j148 k hk
      · rw [oJ f f6 b (by omega) (by omega)]; exact jo b b1 b2 b3
      · rw [← he]
      · rw [z_row_eq, ← he]; exact ha hv
    have step : ∀ (ps : List (List Nat)) (a : List Nat) (f f6 : Int → Int) (acc : Int × List Nat), y_chn (y_bc m) (y_bl m 8) (a :: ps) → y_rp f a → (acc.1 ≠ -1 → y_rp f6 acc.2 ∧ acc.2.length = y_bc m) → y_fx (J 149) i [] (J 149 0) (a :: ps) acc = y_plan (J 149) i m → (∀ (b : List Nat) (t : List (List Nat)), ps = b :: t → ∀ (f f6 : Int → Int) (acc : Int × List Nat), y_rp f b → (acc.1 ≠ -1 → y_rp f6 acc.2 ∧ acc.2.length = y_bc m) → y_fx (J 149) i [] (J 149 0) (b :: t) acc = y_plan (J 149) i m → Wp 68 [some (.inr (.inr (.ref 148))), some (.inl i), some (.inl m), some (.inl acc.1), some (.inl 1), none, none] [] (m_Ex g T, z_row (z_row J0 155 f) 156 f6, X) 0 0) → Wp 68 [some (.inr (.inr (.ref 148))), some (.inl i), some (.inl m), some (.inl acc.1), some (.inl 1), none, none] [] (m_Ex g T, z_row (z_row J0 155 f) 156 f6, X) 0 0 := by
      intro ps a f f6 acc hch hf hacc he K
      obtain ⟨c1, c2, c3, -⟩ := hch
      have he' : y_fx (J 149) i [] (J 149 0) ps (y_stp acc a (y_fin (J 149) i a (J 149 0))) = y_plan (J 149) i m := he
      have perm : ∀ (f6 : Int → Int) (acc : Int × List Nat) (R9 : String → z_J → z_X → Nat → Nat → Prop), (acc.1 ≠ -1 → y_rp f6 acc.2 ∧ acc.2.length = y_bc m) → y_fx (J 149) i [] (J 149 0) ps acc = y_plan (J 149) i m → z_CallI l (d + 4) M_R_permute [.inr (.inr (.ref 148))] (m_Ex g T) (z_row (z_row J0 155 f) 156 f6) X 0 0 (fun v J9 X10 c11 s12 => Wp 68 [some (.inr (.inr (.ref 148))), some (.inl i), some (.inl m), some (.inl acc.1), some (.inl v), none, none] [] (m_Ex g T, J9, X10) c11 s12) R9 := by
        intro f6 acc R9 hacc he
        have cp := c_permute (l := l) (d := d + 2) (g := g) (T := T) (J := z_row J0 156 f6) (X := X) (f := f) (a := a) (by rw [z_row_ne (by omega), j9, c2]) (by omega) hf
        rw [← eJ] at cp
        refine z_cIq cp ?_
        rintro v J9 X9 ⟨rfl, ⟨h1, rfl, rfl⟩ | ⟨b, f', h1, rfl, rfl, hb'⟩⟩
        · rw [h1] at c3
          cases ps with
          | nil => exact stop f f6 acc hacc he
          | cons b t => cases c3
        · rw [h1] at c3
          cases ps with
          | nil => cases c3
          | cons b2 t =>
            rw [List.head?_cons] at c3
            cases c3
            rw [← eJ]
            exact K b t rfl f' f6 acc hb' hacc he
      have copy : y_fin (J 149) i a (J 149 0) ≠ -1 → y_stp acc a (y_fin (J 149) i a (J 149 0)) = (y_fin (J 149) i a (J 149 0), a) → ∀ (n k : Nat) (f6 : Int → Int), k + n = y_bc m → (∀ j : Nat, j < k → f6 j = (a.getD j 0 : Nat)) → Wp 103 [some (.inr (.inr (.ref 148))), some (.inl i), some (.inl m), some (.inl (y_fin (J 149) i a (J 149 0))), some (.inl 1), some (.inl (y_fin (J 149) i a (J 149 0))), some (.inl k)] [] (m_Ex g T, z_row (z_row J0 155 f) 156 f6, X) 0 0 := by
        intro hne hst n
        induction n with
        | zero =>
          intro k f6 hk hcp
          have e9 : (z_row (z_row J0 155 f) 156 f6) 148 9 = y_bc m := by rw [oJ f f6 148 (by omega) (by omega)]; exact j9
          refine w_300_103 hs ?_
          rw [e9]
          refine ⟨fun c => ?_, fun c => by omega⟩
          have := perm f6 (y_fin (J 149) i a (J 149 0), a) (fun x J9 X9 _ _ => z_rq (m_Ex g T) (fun v J' X' => X' = X ∧ J' 149 = J 149 ∧ J' 148 9 = y_bc m ∧ (∀ k, k ≠ 9 → J' 148 k = J 148 k) ∧ (∀ b, b ≠ 148 → b ≠ 149 → (b < 151 ∨ 156 < b) → J' b = J b) ∧ v = (y_plan (J 149) i m).1 ∧ (v ≠ -1 → y_rp (J' 156) (y_plan (J 149) i m).2 ∧ (y_plan (J 149) i m).2.length = y_bc m)) (.inr x) (m_Ex g T, J9, X9)) (fun _ => ⟨fun j hj => hcp j (by have hj : j < a.length := hj; omega), c2⟩) (by rw [hst] at he'; exact he')
          exact this
        | succ n ih =>
          intro k f6 hk hcp
          have e9 : (z_row (z_row J0 155 f) 156 f6) 148 9 = y_bc m := by rw [oJ f f6 148 (by omega) (by omega)]; exact j9
          have e155 : (z_row (z_row J0 155 f) 156 f6) 155 k = (a.getD k 0 : Nat) := by rw [z_row_ne (by omega), z_row_eq]; exact hf k (by omega)
          refine w_300_103 hs ?_
          rw [e9, e155, z_u_zrow]
          refine ⟨fun c => by omega, fun c => ⟨by omega, ih (k + 1) _ (by omega) (fun j hj => ?_)⟩⟩
          by_cases z : j = k
          · subst z; rw [z_up_eq rfl]
          · rw [z_up_ne (by omega)]; exact hcp j (by omega)
      have e149 : (z_row (z_row J0 155 f) 156 f6) 149 = J 149 := by rw [oJ f f6 149 (by omega) (by omega)]; exact j149
      have cf := c_finish (l := l) (d := d + 1) (g := g) (T := T) (J := z_row (z_row J0 155 f) 156 f6) (X := X) (i := i) (a := a) (by rw [e149]; exact hb) (by rw [e149]; exact hi) (by rw [oJ f f6 148 (by omega) (by omega), j9, c2]) (by omega) (by rw [e149]; exact fun x hx => inr x (c1 x hx)) (by rw [z_row_ne (by omega), z_row_eq]; exact hf) (by rw [e149, oJ f f6 151 (by omega) (by omega)]; exact jL) (by rw [e149, oJ f f6 152 (by omega) (by omega)]; exact jB)
      rw [e149] at cf
      refine w_300_68 hs ?_
      refine ⟨fun c => absurd c (by decide), fun c => z_cI cf ⟨fun c2 => ?_, fun c2 => ⟨fun c3 => ?_, fun c3 => ⟨fun c4 => ?_, fun c4 => ?_⟩⟩⟩⟩
      · refine perm f6 acc _ hacc ?_
        have hst : y_stp acc a (y_fin (J 149) i a (J 149 0)) = acc := by unfold y_stp; rw [if_neg (fun z => z.1 c2)]
        rw [hst] at he'; exact he'
      · exact copy c2 (by unfold y_stp; rw [if_pos ⟨c2, Or.inl c3⟩]) (y_bc m) 0 f6 (by omega) (fun j hj => by omega)
      · refine perm f6 acc _ hacc ?_
        have hst : y_stp acc a (y_fin (J 149) i a (J 149 0)) = acc := by unfold y_stp; rw [if_neg (fun z => by omega)]
        rw [hst] at he'; exact he'
      · exact copy c2 (by unfold y_stp; rw [if_pos ⟨c2, Or.inr c4⟩]) (y_bc m) 0 f6 (by omega) (fun j hj => by omega)
    intro ps
    induction ps with
    | nil => exact fun a f f6 acc hch hf hacc he => step [] a f f6 acc hch hf hacc he (fun b t z => by cases z)
    | cons b ps ih =>
      intro a f f6 acc hch hf hacc he
      refine step (b :: ps) a f f6 acc hch hf hacc he (fun b2 t z f f6 acc h1 h2 h3 => ?_)
      cases z
      exact ih b f f6 acc hch.2.2.2 h1 h2 h3
  have fill : ∀ (n k : Nat) (f : Int → Int), k + n = (J 149 1).toNat → y_rp f (y_bl m k) → Wp 7 [some (.inr (.inr (.ref 148))), some (.inl i), some (.inl m), some (.inl k), none, none, none] [] (m_Ex g T, z_row (z_u J 148 9 ((y_bl m k).length : Nat)) 155 f, X) 0 0 := by
    intro n
    induction n with
    | zero =>
      intro k f hk hf
      have ek : y_bl m k = y_bl m 8 := by
        have := y_bl_st (m := m) (k := k) (by rw [show k = (J 149 1).toNat by omega]; exact hm) (8 - k)
        rw [show k + (8 - k) = 8 by omega] at this
        exact this.symm
      have e149 : (z_row (z_u J 148 9 ((y_bl m k).length : Nat)) 155 f) 149 = J 149 := by rw [z_row_ne (by omega), z_u_ne (by omega)]
      have cl := c_layLeft (l := l) (d := d) (g := g) (T := T) (J := z_row (z_u J 148 9 ((y_bl m k).length : Nat)) 155 f) (X := X) (by rw [e149]; exact hb)
      rw [e149] at cl
      refine w_300_7 hs ?_
      rw [e149]
      refine ⟨fun c => z_cVq cl ?_, fun c => by omega⟩
      rintro J2 X2 ⟨rfl, fL, rfl, hL⟩
      have e149' : (z_row (z_row (z_u J 148 9 ((y_bl m k).length : Nat)) 155 f) 151 fL) 149 = J 149 := by rw [z_row_ne (by omega), e149]
      have cb := c_layBlocked (l := l) (d := d) (g := g) (T := T) (J := z_row (z_row (z_u J 148 9 ((y_bl m k).length : Nat)) 155 f) 151 fL) (X := X2) (i := i) (by rw [e149']; exact hb)
      rw [e149'] at cb
      refine z_cVq cb ?_
      rintro J3 X3 ⟨rfl, fB, rfl, hB⟩
      have O : ∀ b, b ≠ 155 → b ≠ 151 → b ≠ 152 → (z_row (z_row (z_row (z_u J 148 9 ((y_bl m k).length : Nat)) 155 f) 151 fL) 152 fB) b = (z_u J 148 9 ((y_bl m k).length : Nat)) b := fun b b1 b2 b3 => by rw [z_row_ne b3, z_row_ne b2, z_row_ne b1]
      cases e : y_prm (y_bc m) (y_bl m 8) with
      | nil => rw [e] at o2; cases o2
      | cons a ps =>
        rw [e] at o1 o2
        rw [List.head?_cons] at o2
        cases o2
        have key := main (z_row (z_row (z_row (z_u J 148 9 ((y_bl m k).length : Nat)) 155 f) 151 fL) 152 fB) (by rw [O 149 (by omega) (by omega) (by omega), z_u_ne (by omega)]) (by rw [O 148 (by omega) (by omega) (by omega), z_u_at rfl, ek, fl]) (fun k hk => by rw [O 148 (by omega) (by omega) (by omega), z_u_off hk]) (fun b b1 b2 b3 => by rw [O b (by omega) (by omega) (by omega), z_u_ne b1]) (fun r s a1 a2 a3 a4 => by rw [z_row_ne (by omega), z_row_eq]; exact hL r s a1 a2 a3 a4) (fun s a1 a2 => by rw [z_row_eq]; exact hB s a1 a2) ps (y_bl m 8) f (J 156) (-1, []) o1 (by rw [← ek]; exact hf) (fun z => absurd rfl z) (by rw [← e]; rfl)
        have eJ : z_row (z_row (z_row (z_row (z_row (z_u J 148 9 ((y_bl m k).length : Nat)) 155 f) 151 fL) 152 fB) 155 f) 156 (J 156) = z_row (z_row (z_row (z_u J 148 9 ((y_bl m k).length : Nat)) 155 f) 151 fL) 152 fB := by
          funext b
          by_cases b1 : b = 156
          · subst b1; rw [z_row_eq, O 156 (by omega) (by omega) (by omega), z_u_ne (by omega)]
          · rw [z_row_ne b1]
            by_cases b2 : b = 155
            · subst b2; rw [z_row_eq, z_row_ne (by omega), z_row_ne (by omega), z_row_eq]
            · rw [z_row_ne b2]
        rw [eJ] at key
        exact key
    | succ n ih =>
      intro k f hk hf
      have e149 : (z_row (z_u J 148 9 ((y_bl m k).length : Nat)) 155 f) 149 = J 149 := by rw [z_row_ne (by omega), z_u_ne (by omega)]
      have e9 : (z_row (z_u J 148 9 ((y_bl m k).length : Nat)) 155 f) 148 9 = ((y_bl m k).length : Nat) := by rw [z_row_ne (by omega), z_u_at rfl]
      have bt := z_bit_n (a := m) (k := k) (by omega) (by omega)
      have nx := ih (k + 1)
      rw [y_bl] at nx
      refine w_300_7 hs ?_
      rw [e149, e9, bt]
      refine ⟨fun c => by omega, fun c => ⟨fun c1 => ?_, fun c1 => ?_⟩⟩
      · have e : m.testBit k = true := by
          cases h : m.testBit k
          · rw [h] at c1; exact absurd rfl c1
          · rfl
        rw [if_pos e, List.length_append, List.length_singleton] at nx
        have l1 := y_bl_len (m := m) (k := k + 1) (8 - (k + 1))
        rw [show k + 1 + (8 - (k + 1)) = 8 by omega, fl, y_bl, if_pos e, List.length_append, List.length_singleton] at l1
        refine ⟨by omega, ?_⟩
        have eJ : z_u (z_u (z_row (z_u J 148 9 ((y_bl m k).length : Nat)) 155 f) 155 ((y_bl m k).length : Nat) k) 148 9 (((y_bl m k).length : Nat) + 1) = z_row (z_u J 148 9 (((y_bl m k).length + 1 : Nat) : Int)) 155 (z_up f ((y_bl m k).length : Nat) k) := by
          funext b j
          by_cases b1 : b = 148
          · subst b1
            by_cases j1 : j = 9
            · rw [z_u_at j1, z_row_ne (by omega), z_u_at j1]; rfl
            · rw [z_u_off j1, z_u_ne (by omega), z_row_ne (by omega), z_row_ne (by omega), z_u_off j1, z_u_off j1]
          · rw [z_u_ne b1]
            by_cases b2 : b = 155
            · subst b2; rw [z_u_row, z_row_eq, z_row_eq]
            · rw [z_u_ne b2, z_row_ne b2, z_row_ne b2, z_u_ne b1, z_u_ne b1]
        rw [eJ]
        refine nx _ (by omega) (fun j hj => ?_)
        rw [List.length_append, List.length_singleton] at hj
        by_cases z : j = (y_bl m k).length
        · rw [z_up_eq (by omega), List.getD_eq_getElem?_getD, List.getElem?_append_right (by omega), z, Nat.sub_self]
          rfl
        · rw [z_up_ne (by omega), hf j (by omega), List.getD_eq_getElem?_getD, List.getD_eq_getElem?_getD, List.getElem?_append_left (by omega)]
      · have e : m.testBit k = false := by
          cases h : m.testBit k
          · rfl
          · rw [h] at c1; exact absurd c1 (by decide)
        rw [if_neg (by rw [e]; decide), List.append_nil] at nx
        exact ⟨by omega, nx f (by omega) hf⟩
  refine w_300_0 hs ?_
  have := fill (J 149 1).toNat 0 (J 155) (by omega) (fun j hj => absurd hj (by show ¬ j < 0; omega))
  have e : z_row (z_u J 148 9 ((y_bl m 0).length : Nat)) 155 (J 155) = z_u J 148 9 0 := z_row_self (J := z_u J 148 9 0) (a := 155)
  rw [e] at this
  exact this
theorem c_isSet (h1 : 0 ≤ J 149 1 ∧ J 149 1 ≤ 8) : z_shl 1 (J 149 1) = ((2 ^ (J 149 1).toNat : Nat) : Int) := by
  have := z_shl_n (k := (J 149 1).toNat) (by omega)
  rw [show (((J 149 1).toNat : Nat) : Int) = J 149 1 by omega] at this
  exact this
theorem p_bestFinish (hb : y_base (J 149)) {i m : Int} : z_Sem l (d + 6) M_R_bestFinish [.inr (.inr (.ref 148)), .inl i, .inl m] (m_Ex g T, J, X) 0 0 (z_rq (m_Ex g T) (fun v J' X' => X' = X ∧ y_tp J (J 149) (o_bestFinish (J 149) i m).1 J' ∧ v = (o_bestFinish (J 149) i m).2)) := by
  obtain ⟨h0, h1, h2, h3, h4, h5⟩ := hb.1
  have b8 := y_pow8 (show (J 149 1).toNat ≤ 8 by omega)
  have sh := c_isSet h1
  have bad : ∀ th : Int, o_bestFinish (J 149) i m = (th, 0) → z_rq (m_Ex g T) (fun v J' X' => X' = X ∧ y_tp J (J 149) (o_bestFinish (J 149) i m).1 J' ∧ v = (o_bestFinish (J 149) i m).2) (.inl (some (.inl 0))) (m_Ex g T, z_u (z_u J 148 2 0) 148 2 th, X) := by
    intro th ho
    rw [ho]
    exact ⟨_, _, _, rfl, rfl, rfl, y_tp.th, rfl⟩
  have t1 : ¬ (0 ≤ i ∧ i < J 149 3) → o_bestFinish (J 149) i m = (1, 0) := fun hn => by rw [o_bestFinish, y_need_n hn]
  have t2 : (0 ≤ i ∧ i < J 149 3) → ¬ (0 < m ∧ m < ((2 ^ (J 149 1).toNat : Nat) : Int) ∧ y_bc m.toNat ≤ 5) → o_bestFinish (J 149) i m = (2, 0) := fun hp hn => by rw [o_bestFinish, y_need_2 hp, y_need_n hn]
  refine z_sem_of z_m298 m_ok_298 (Nat.le_of_ble_eq_true rfl) (fun Wp hs hv hS => ?_)
  refine w_298_0 hs ?_
  rw [sh]
  refine ⟨by omega, fun c => bad 1 (t1 (by omega)), fun c => ⟨fun c1 => bad 1 (t1 (by omega)), fun c1 => ⟨fun c2 => bad 2 (t2 (by omega) (by omega)), fun c2 => ⟨fun c3 => bad 2 (t2 (by omega) (by omega)), fun c3 => ?_⟩⟩⟩⟩
  have cb := c_bitCount (l := l) (d := d + 3) (g := g) (T := T) (J := z_u J 148 2 0) (X := X) (x := m.toNat) (by omega)
  rw [show ((m.toNat : Nat) : Int) = m by omega] at cb
  refine z_cI cb ⟨fun c4 => bad 2 (t2 (by omega) (by omega)), fun c4 => ?_⟩
  have cf := c_findOrder (l := l) (d := d) (g := g) (T := T) (J := z_u J 148 2 0) (X := X) (i := i) (m := m.toNat) hb (by show 0 ≤ i ∧ i < J 149 3; omega) (by show m.toNat < 2 ^ (J 149 1).toNat; omega) (by omega) (by omega)
  rw [show ((m.toNat : Nat) : Int) = m by omega] at cf
  refine z_cIq cf ?_
  rintro v J2 X2 ⟨rfl, k1, k2, k3, k4, rfl, k6⟩
  have ho : o_bestFinish (J 149) i m = (0, if (y_plan (J 149) i m.toNat).1 = -1 then -4 else (y_plan (J 149) i m.toNat).1) := by rw [o_bestFinish, y_need_2 (by omega), y_need_2 (by omega)]
  have tp : y_tp J (J 149) 0 J2 := ⟨k1, by rw [k3 2 (by omega), z_u_at rfl], fun k a1 a2 => by rw [k3 k a2, z_u_off a1], fun b a1 a2 a3 => by rw [k4 b a1 a2 a3, z_u_ne a1]⟩
  rw [ho]
  refine ⟨fun c5 => ?_, fun c5 => ?_⟩
  · have c5 : (y_plan (J 149) i m.toNat).1 ≠ -1 := c5
    rw [if_neg c5]
    exact ⟨_, _, _, rfl, rfl, rfl, tp, rfl⟩
  · have c5 : (y_plan (J 149) i m.toNat).1 = -1 := c5
    rw [if_pos c5]
    exact ⟨_, _, _, rfl, rfl, rfl, tp, rfl⟩
theorem p_bestOrder (hb : y_base (J 149)) {i m x : Int} : z_Sem l (d + 6) M_R_bestOrder [.inr (.inr (.ref 148)), .inl i, .inl m, .inl x] (m_Ex g T, J, X) 0 0 (z_rq (m_Ex g T) (fun v J' X' => X' = X ∧ y_tp J (J 149) (o_bestOrder (J 149) i m x).1 J' ∧ v = (o_bestOrder (J 149) i m x).2)) := by
  obtain ⟨h0, h1, h2, h3, h4, h5⟩ := hb.1
  have b8 := y_pow8 (show (J 149 1).toNat ≤ 8 by omega)
  have sh := c_isSet h1
  have bad : ∀ th : Int, o_bestOrder (J 149) i m x = (th, 0) → z_rq (m_Ex g T) (fun v J' X' => X' = X ∧ y_tp J (J 149) (o_bestOrder (J 149) i m x).1 J' ∧ v = (o_bestOrder (J 149) i m x).2) (.inl (some (.inl 0))) (m_Ex g T, z_u (z_u J 148 2 0) 148 2 th, X) := by
    intro th ho
    rw [ho]
    exact ⟨_, _, _, rfl, rfl, rfl, y_tp.th, rfl⟩
  have t1 : ¬ (0 ≤ i ∧ i < J 149 3) → o_bestOrder (J 149) i m x = (1, 0) := fun hn => by rw [o_bestOrder, y_need_n hn]
  have t2 : (0 ≤ i ∧ i < J 149 3) → ¬ (0 < m ∧ m < ((2 ^ (J 149 1).toNat : Nat) : Int) ∧ y_bc m.toNat ≤ 5) → o_bestOrder (J 149) i m x = (2, 0) := fun hp hn => by rw [o_bestOrder, y_need_2 hp, y_need_n hn]
  refine z_sem_of z_m304 m_ok_304 (Nat.le_of_ble_eq_true rfl) (fun Wp hs hv hS => ?_)
  refine w_304_0 hs ?_
  rw [sh]
  refine ⟨by omega, fun c => bad 1 (t1 (by omega)), fun c => ⟨fun c1 => bad 1 (t1 (by omega)), fun c1 => ⟨fun c2 => bad 2 (t2 (by omega) (by omega)), fun c2 => ⟨fun c3 => bad 2 (t2 (by omega) (by omega)), fun c3 => ?_⟩⟩⟩⟩
  have cb := c_bitCount (l := l) (d := d + 3) (g := g) (T := T) (J := z_u J 148 2 0) (X := X) (x := m.toNat) (by omega)
  rw [show ((m.toNat : Nat) : Int) = m by omega] at cb
  refine z_cI cb ⟨fun c4 => bad 2 (t2 (by omega) (by omega)), fun c4 => ?_⟩
  have cf := c_findOrder (l := l) (d := d) (g := g) (T := T) (J := z_u J 148 2 0) (X := X) (i := i) (m := m.toNat) hb (by show 0 ≤ i ∧ i < J 149 3; omega) (by show m.toNat < 2 ^ (J 149 1).toNat; omega) (by omega) (by omega)
  rw [show ((m.toNat : Nat) : Int) = m by omega] at cf
  refine z_cIq cf ?_
  rintro v J2 X2 ⟨rfl, k1, k2, k3, k4, rfl, k6⟩
  have ho : o_bestOrder (J 149) i m x = (0, if (y_plan (J 149) i m.toNat).1 ≠ -1 ∧ 0 ≤ x ∧ x < y_bc m.toNat then (((y_plan (J 149) i m.toNat).2.getD x.toNat 0 : Nat) : Int) else -1) := by rw [o_bestOrder, y_need_2 (by omega), y_need_2 (by omega)]
  have tp : y_tp J (J 149) 0 J2 := ⟨k1, by rw [k3 2 (by omega), z_u_at rfl], fun k a1 a2 => by rw [k3 k a2, z_u_off a1], fun b a1 a2 a3 => by rw [k4 b a1 a2 a3, z_u_ne a1]⟩
  have no : ¬ ((y_plan (J 149) i m.toNat).1 ≠ -1 ∧ 0 ≤ x ∧ x < y_bc m.toNat) → z_rq (m_Ex g T) (fun v J' X' => X' = X2 ∧ y_tp J (J 149) (o_bestOrder (J 149) i m x).1 J' ∧ v = (o_bestOrder (J 149) i m x).2) (.inl (some (.inl (-1)))) (m_Ex g T, J2, X2) := fun hn => by
    rw [ho, if_neg hn]
    exact ⟨_, _, _, rfl, rfl, rfl, tp, rfl⟩
  rw [k2]
  refine ⟨fun c5 => no (fun z => z.1 c5), fun c5 => ⟨by omega, fun c6 => no (fun z => by omega), fun c6 => ⟨fun c7 => no (fun z => by omega), fun c7 => ⟨by omega, ?_⟩⟩⟩⟩
  obtain ⟨k7, k8⟩ := k6 c5
  have := k7 x.toNat (by show x.toNat < (y_plan (J 149) i m.toNat).2.length; have k8 : (y_plan (J 149) i m.toNat).2.length = y_bc m.toNat := k8; omega)
  rw [show ((x.toNat : Nat) : Int) = x by omega] at this
  rw [this, ho, if_pos ⟨c5, c6, by omega⟩]
  exact ⟨_, _, _, rfl, rfl, rfl, tp, rfl⟩
end R21
