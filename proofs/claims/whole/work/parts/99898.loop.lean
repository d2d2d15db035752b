/-! the law's loop and its start (written by wip/whole/gen99897.py) -/
section L4
variable {l : Launch} {L : Nat} {xs : Nat → Int32} {Wp : Nat → z_C}
theorem c_call {g : List (Option Nat)} {T : m_E} {J : z_J} {X : z_X} {bc bs n : Nat} {i : Int} (A : z_LC l L xs Wp) (hI : x_I g T J) (h0 : 0 ≤ i) (h1 : i + 6 ≤ L) (hL : L ≤ 3072) (hx : ∀ k : Nat, J 2000000 k = (xs k).toInt) (hJ : (J 2000001 0).toNat = L) (hE : (m_Ex g T)[2000000]? = none) (hS : z_okS (m_Ex g T, J, X)) (hb : 4 * (n + 1) + 300 * x_nn g ≤ bc) (hb2 : 24 * (n + 1) + 30000 * x_nn g ≤ bs) (K : z_LK Wp i n) : ∀ k : Nat, k < 64 → Wp 45 (z_loc i) [.inl (k : Int)] (m_Ex g T, J, X) bc bs
  | 0, _ => c_sw0 A (c_law0 A hI h0 h1 hL hx hJ hE hS hb hb2 K)
  | 1, _ => c_sw1 A (c_law1 A hI h0 h1 hL hx hJ hE hS hb hb2 K)
  | 2, _ => c_sw2 A (c_law2 A hI h0 h1 hL hx hJ hE hS hb hb2 K)
  | 3, _ => c_sw3 A (c_law3 A hI h0 h1 hL hx hJ hE hS hb hb2 K)
  | 4, _ => c_sw4 A (c_law4 A hI h0 h1 hL hx hJ hE hS hb hb2 K)
  | 5, _ => c_sw5 A (c_law5 A hI h0 h1 hL hx hJ hE hS hb hb2 K)
  | 6, _ => c_sw6 A (c_law6 A hI h0 h1 hL hx hJ hE hS hb hb2 K)
  | 7, _ => c_sw7 A (c_law7 A hI h0 h1 hL hx hJ hE hS hb hb2 K)
  | 8, _ => c_sw8 A (c_law8 A hI h0 h1 hL hx hJ hE hS hb hb2 K)
  | 9, _ => c_sw9 A (c_law9 A hI h0 h1 hL hx hJ hE hS hb hb2 K)
  | 10, _ => c_sw10 A (c_law10 A hI h0 h1 hL hx hJ hE hS hb hb2 K)
  | 11, _ => c_sw11 A (c_law11 A hI h0 h1 hL hx hJ hE hS hb hb2 K)
  | 12, _ => c_sw12 A (c_law12 A hI h0 h1 hL hx hJ hE hS hb hb2 K)
  | 13, _ => c_sw13 A (c_law13 A hI h0 h1 hL hx hJ hE hS hb hb2 K)
  | 14, _ => c_sw14 A (c_law14 A hI h0 h1 hL hx hJ hE hS hb hb2 K)
  | 15, _ => c_sw15 A (c_law15 A hI h0 h1 hL hx hJ hE hS hb hb2 K)
  | 16, _ => c_sw16 A (c_law16 A hI h0 h1 hL hx hJ hE hS hb hb2 K)
  | 17, _ => c_sw17 A (c_law17 A hI h0 h1 hL hx hJ hE hS hb hb2 K)
  | 18, _ => c_sw18 A (c_law18 A hI h0 h1 hL hx hJ hE hS hb hb2 K)
  | 19, _ => c_sw19 A (c_law19 A hI h0 h1 hL hx hJ hE hS hb hb2 K)
  | 20, _ => c_sw20 A (c_law20 A hI h0 h1 hL hx hJ hE hS hb hb2 K)
  | 21, _ => c_sw21 A (c_law21 A hI h0 h1 hL hx hJ hE hS hb hb2 K)
  | 22, _ => c_sw22 A (c_law22 A hI h0 h1 hL hx hJ hE hS hb hb2 K)
  | 23, _ => c_sw23 A (c_law23 A hI h0 h1 hL hx hJ hE hS hb hb2 K)
  | 24, _ => c_sw24 A (c_law24 A hI h0 h1 hL hx hJ hE hS hb hb2 K)
  | 25, _ => c_sw25 A (c_law25 A hI h0 h1 hL hx hJ hE hS hb hb2 K)
  | 26, _ => c_sw26 A (c_law26 A hI h0 h1 hL hx hJ hE hS hb hb2 K)
  | 27, _ => c_sw27 A (c_law27 A hI h0 h1 hL hx hJ hE hS hb hb2 K)
  | 28, _ => c_sw28 A (c_law28 A hI h0 h1 hL hx hJ hE hS hb hb2 K)
  | 29, _ => c_sw29 A (c_law29 A hI h0 h1 hL hx hJ hE hS hb hb2 K)
  | 30, _ => c_sw30 A (c_law30 A hI h0 h1 hL hx hJ hE hS hb hb2 K)
  | 31, _ => c_sw31 A (c_law31 A hI h0 h1 hL hx hJ hE hS hb hb2 K)
  | 32, _ => c_sw32 A (c_law32 A hI h0 h1 hL hx hJ hE hS hb hb2 K)
  | 33, _ => c_sw33 A (c_law33 A hI h0 h1 hL hx hJ hE hS hb hb2 K)
  | 34, _ => c_sw34 A (c_law34 A hI h0 h1 hL hx hJ hE hS hb hb2 K)
  | 35, _ => c_sw35 A (c_law35 A hI h0 h1 hL hx hJ hE hS hb hb2 K)
  | 36, _ => c_sw36 A (c_law36 A hI h0 h1 hL hx hJ hE hS hb hb2 K)
  | 37, _ => c_sw37 A (c_law37 A hI h0 h1 hL hx hJ hE hS hb hb2 K)
  | 38, _ => c_sw38 A (c_law38 A hI h0 h1 hL hx hJ hE hS hb hb2 K)
  | 39, _ => c_sw39 A (c_law39 A hI h0 h1 hL hx hJ hE hS hb hb2 K)
  | 40, _ => c_sw40 A (c_law40 A hI h0 h1 hL hx hJ hE hS hb hb2 K)
  | 41, _ => c_sw41 A (c_law41 A hI h0 h1 hL hx hJ hE hS hb hb2 K)
  | 42, _ => c_sw42 A (c_law42 A hI h0 h1 hL hx hJ hE hS hb hb2 K)
  | 43, _ => c_sw43 A (c_law43 A hI h0 h1 hL hx hJ hE hS hb hb2 K)
  | 44, _ => c_sw44 A (c_law44 A hI h0 h1 hL hx hJ hE hS hb hb2 K)
  | 45, _ => c_sw45 A (c_law45 A hI h0 h1 hL hx hJ hE hS hb hb2 K)
  | 46, _ => c_sw46 A (c_law46 A hI h0 h1 hL hx hJ hE hS hb hb2 K)
  | 47, _ => c_sw47 A (c_law47 A hI h0 h1 hL hx hJ hE hS hb hb2 K)
  | 48, _ => c_sw48 A (c_law48 A hI h0 h1 hL hx hJ hE hS hb hb2 K)
  | 49, _ => c_sw49 A (c_law49 A hI h0 h1 hL hx hJ hE hS hb hb2 K)
  | 50, _ => c_sw50 A (c_law50 A hI h0 h1 hL hx hJ hE hS hb hb2 K)
  | 51, _ => c_sw51 A (c_law51 A hI h0 h1 hL hx hJ hE hS hb hb2 K)
  | 52, _ => c_sw52 A (c_law52 A hI h0 h1 hL hx hJ hE hS hb hb2 K)
  | 53, _ => c_sw53 A (c_law53 A hI h0 h1 hL hx hJ hE hS hb hb2 K)
  | 54, _ => c_sw54 A (c_law54 A hI h0 h1 hL hx hJ hE hS hb hb2 K)
  | 55, _ => c_sw55 A (c_law55 A hI h0 h1 hL hx hJ hE hS hb hb2 K)
  | 56, _ => c_sw56 A (c_law56 A hI h0 h1 hL hx hJ hE hS hb hb2 K)
  | 57, _ => c_sw57 A (c_law57 A hI h0 h1 hL hx hJ hE hS hb hb2 K)
  | 58, _ => c_sw58 A (c_law58 A hI h0 h1 hL hx hJ hE hS hb hb2 K)
  | 59, _ => c_sw59 A (c_law59 A hI h0 h1 hL hx hJ hE hS hb hb2 K)
  | 60, _ => c_sw60 A (c_law60 A hI h0 h1 hL hx hJ hE hS hb hb2 K)
  | 61, _ => c_sw61 A (c_law61 A hI h0 h1 hL hx hJ hE hS hb hb2 K)
  | 62, _ => c_sw62 A (c_law62 A hI h0 h1 hL hx hJ hE hS hb hb2 K)
  | 63, _ => c_sw63 A (K g T J X bc bs hI (by omega) (by omega))
  | k + 64, h => absurd h (by omega)
theorem c_and63 (x : Int) : ∃ k : Nat, k < 64 ∧ (Int32.ofInt x &&& Int32.ofInt 63).toInt = (k : Int) := by
  obtain ⟨j, hj, e⟩ := pk_andE (Int32.ofInt x) (m := Int32.ofInt 63) 6 (by decide)
  refine ⟨j, hj, ?_⟩
  rw [e]
  have hj : j < 64 := hj
  have h2 : (nI j).toInt = (j : Int) := by
    show (Int32.ofNat j).toInt = (j : Int)
    exact Int32.toInt_ofNat_of_lt (by omega)
  exact h2
/-- the loop, with room for n calls -/
theorem c_loop (A : z_LC l L xs Wp) (hL : L ≤ 3072) : ∀ (n : Nat) (i : Int) (g : List (Option Nat)) (T : m_E) (J : z_J) (X : z_X) (bc bs : Nat), 0 ≤ i → i ≤ 3072 → L < i + 6 * (n + 1) → x_I g T J → 4 * n + 300 * x_nn g ≤ bc → 24 * n + 30000 * x_nn g ≤ bs → Wp 28 (z_loc i) [] (m_Ex g T, J, X) bc bs := by
  intro n
  induction n with
  | zero =>
    intro i g T J X bc bs h0 h3 h1 hI hb hb2
    obtain ⟨hs, hw, hsc, he⟩ := A
    refine hsc _ _ _ _ _ _ (fun hx hJ hE hS => ?_)
    have hlen : z_isA (m_Ex g T, J, X) 2000000 (fun _ n' => n' = L ∧ L < 2000000000) := Or.inr ⟨hE, rfl, hJ, by omega⟩
    refine hs m_lw_1 m_sl_1 400 [(3716, 6), (45, 6)] [] 28 _ _ _ _ _ (⟨L, hlen, ⟨rfl, ⟨(show -2147483648 ≤ (L : Int) - 6 ∧ (L : Int) - 6 ≤ 2147483647 by omega), ⟨fun _ => ?_, fun c => absurd (show i ≤ (L : Int) - 6 from c) (by omega)⟩⟩⟩⟩)
    exact hs m_lw_65 m_sl_65 400 [(3717, 6)] [] 3716 _ _ _ _ _ (⟨rfl, he _ _ _ _⟩)
  | succ n ih =>
    intro i g T J X bc bs h0 h3 h1 hI hb hb2
    have A' := A
    obtain ⟨hs, hw, hsc, he⟩ := A
    refine hsc _ _ _ _ _ _ (fun hx hJ hE hS => ?_)
    have hlen : z_isA (m_Ex g T, J, X) 2000000 (fun _ n' => n' = L ∧ L < 2000000000) := Or.inr ⟨hE, rfl, hJ, by omega⟩
    refine hs m_lw_1 m_sl_1 400 [(3716, 6), (45, 6)] [] 28 _ _ _ _ _ (⟨L, hlen, ⟨rfl, ⟨(show -2147483648 ≤ (L : Int) - 6 ∧ (L : Int) - 6 ≤ 2147483647 by omega), ⟨fun _ => ?_, fun c => ⟨z_scr hE hJ h0 (by have c : i ≤ (L : Int) - 6 := c; omega), ⟨rfl, ?_⟩⟩⟩⟩⟩⟩)
    · exact hs m_lw_65 m_sl_65 400 [(3717, 6)] [] 3716 _ _ _ _ _ (⟨rfl, he _ _ _ _⟩)
    · show Wp 45 (z_loc i) [.inl (Int32.ofInt (J 2000000 i) &&& Int32.ofInt 63).toInt] (m_Ex g T, J, X) bc bs
      obtain ⟨k, hk, e⟩ := c_and63 (J 2000000 i)
      rw [e]
      have c : i ≤ (L : Int) - 6 := c
      refine c_call A' hI h0 (by omega) hL hx hJ hE hS (n := n) (by omega) (by omega) (fun g2 T2 J2 X2 bc2 bs2 hI2 hb3 hb4 => ?_) k hk
      refine hs m_lw_65 m_sl_65 400 [(28, 6)] [] 3710 _ _ _ _ _ (⟨rfl, ⟨(show -2147483648 ≤ i + 6 ∧ i + 6 ≤ 2147483647 by omega), ?_⟩⟩)
      exact ih (i + 6) g2 T2 J2 X2 bc2 bs2 (by omega) (by omega) (by omega) hI2 hb3 hb4
end L4
