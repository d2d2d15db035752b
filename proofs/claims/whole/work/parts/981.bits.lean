/-! bits of small numbers; which sets of parties find windows -/
theorem z_nat {a : Nat} : (Int32.ofInt (a : Int)).toBitVec = BitVec.ofNat 32 a := by
  rw [Int32.toBitVec_ofInt, BitVec.ofInt_natCast]
theorem z_ofb {b : BitVec 32} (h : b.toNat < 2147483648) : b.toInt = b.toNat := BitVec.toInt_eq_toNat_of_lt (by omega)
theorem z_and_n {a b : Nat} (ha : a < 2147483648) (hb : b < 2147483648) : z_and a b = ((a &&& b : Nat) : Int) := by
  have e : (BitVec.ofNat 32 a &&& BitVec.ofNat 32 b).toNat = a &&& b := by
    rw [BitVec.toNat_and, BitVec.toNat_ofNat, BitVec.toNat_ofNat, Nat.mod_eq_of_lt (by omega), Nat.mod_eq_of_lt (by omega)]
  have l : a &&& b ≤ a := Nat.and_le_left
  unfold z_and
  rw [← Int32.toInt_toBitVec, Int32.toBitVec_and, z_nat, z_nat, z_ofb (by rw [e]; omega), e]
theorem z_xor_n {a b : Nat} (ha : a < 2147483648) (hb : b < 2147483648) : z_xor a b = ((a ^^^ b : Nat) : Int) := by
  have e : (BitVec.ofNat 32 a ^^^ BitVec.ofNat 32 b).toNat = a ^^^ b := by
    rw [BitVec.toNat_xor, BitVec.toNat_ofNat, BitVec.toNat_ofNat, Nat.mod_eq_of_lt (by omega), Nat.mod_eq_of_lt (by omega)]
  have l : a ^^^ b < 2 ^ 31 := Nat.xor_lt_two_pow (by omega) (by omega)
  unfold z_xor
  rw [← Int32.toInt_toBitVec, Int32.toBitVec_xor, z_nat, z_nat, z_ofb (by rw [e]; omega), e]
theorem z_or_n {a b : Nat} (ha : a < 2147483648) (hb : b < 2147483648) : z_or a b = ((a ||| b : Nat) : Int) := by
  have e : (BitVec.ofNat 32 a ||| BitVec.ofNat 32 b).toNat = a ||| b := by
    rw [BitVec.toNat_or, BitVec.toNat_ofNat, BitVec.toNat_ofNat, Nat.mod_eq_of_lt (by omega), Nat.mod_eq_of_lt (by omega)]
  have l : a ||| b < 2 ^ 31 := Nat.or_lt_two_pow (by omega) (by omega)
  unfold z_or
  rw [← Int32.toInt_toBitVec, Int32.toBitVec_or, z_nat, z_nat, z_ofb (by rw [e]; omega), e]
theorem z_shl_f : ∀ k : Fin 9, z_shl 1 (k.val : Int) = ((2 ^ k.val : Nat) : Int) := by decide +kernel
theorem z_shl2_f : ∀ k : Fin 8, z_shl 2 (k.val : Int) = ((2 ^ (k.val + 1) : Nat) : Int) := by decide +kernel
theorem z_bit_f : ∀ a : Fin 256, ∀ k : Fin 8, z_and (z_shr (a.val : Int) (k.val : Int)) 1 = if a.val.testBit k.val = true then 1 else 0 := by decide +kernel
theorem z_shl_n {k : Nat} (h : k ≤ 8) : z_shl 1 k = ((2 ^ k : Nat) : Int) := z_shl_f ⟨k, by omega⟩
theorem z_shl2_n {k : Nat} (h : k < 8) : z_shl 2 k = ((2 ^ (k + 1) : Nat) : Int) := z_shl2_f ⟨k, h⟩
theorem z_bit_n {a k : Nat} (h : a < 256) (hk : k < 8) : z_and (z_shr a k) 1 = if a.testBit k = true then 1 else 0 := z_bit_f ⟨a, h⟩ ⟨k, hk⟩
theorem y_pow8 {n : Nat} (h : n ≤ 8) : 1 ≤ 2 ^ n ∧ 2 ^ n ≤ 256 := ⟨Nat.one_le_two_pow, Nat.pow_le_pow_right (by omega) (show n ≤ 8 from h)⟩
/-- the next smaller part of a set -/
theorem y_sub_next : ∀ (t s p : Nat), t &&& s = t → p &&& s = p → p < t → p ≤ (t - 1) &&& s := by
  intro t
  induction t using Nat.strongRecOn with
  | ind t ih =>
    intro s p ht hp hlt
    have ht2 : (t / 2) &&& (s / 2) = t / 2 := by rw [← Nat.and_div_two, ht]
    have hp2 : (p / 2) &&& (s / 2) = p / 2 := by rw [← Nat.and_div_two, hp]
    have d1 : ((t - 1) &&& s) / 2 = ((t - 1) / 2) &&& (s / 2) := Nat.and_div_two
    have m1 : ((t - 1) &&& s) % 2 = 1 ↔ (t - 1) % 2 = 1 ∧ s % 2 = 1 := Nat.and_mod_two_eq_one
    have m2 : (p &&& s) % 2 = 1 ↔ p % 2 = 1 ∧ s % 2 = 1 := Nat.and_mod_two_eq_one
    rw [hp] at m2
    by_cases d : t % 2 = 1
    · rw [show (t - 1) / 2 = t / 2 by omega, ht2] at d1
      omega
    · rw [show (t - 1) / 2 = t / 2 - 1 by omega] at d1
      have := ih (t / 2) (by omega) (s / 2) (p / 2) ht2 hp2 (by omega)
      omega
/-- S can be served in the first n slots; ok n p: the set p fits in slot n -/
def y_V (ok : Nat → Nat → Prop) : Nat → Nat → Prop
  | 0, S => S = 0
  | n + 1, S => y_V ok n S ∨ ∃ p, p ≠ 0 ∧ p &&& S = p ∧ y_V ok n (S ^^^ p) ∧ ok n p
theorem y_V_mono {ok : Nat → Nat → Prop} {S : Nat} : ∀ (m n : Nat), y_V ok n S → y_V ok (n + m) S
  | 0, _, h => h
  | m + 1, n, h => Or.inl (y_V_mono m n h)
def y_bit (m : Nat) : Int → Int := fun k => if m.testBit k.toNat = true then 1 else 0
def y_card (m : Nat) : Int := y_sum (y_bit m) 8
theorem y_bit_b {m : Nat} {k : Int} : 0 ≤ y_bit m k ∧ y_bit m k ≤ 1 := by unfold y_bit; split <;> omega
theorem y_card_nn {m : Nat} : 0 ≤ y_card m := y_sum_nn (fun _ _ => y_bit_b.1)
theorem y_sum_lt1 {f g : Int → Int} {t : Nat} : ∀ {n : Nat}, (∀ k : Nat, k < n → f k ≤ g k) → t < n → f t + 1 ≤ g t → y_sum f n + 1 ≤ y_sum g n
  | 0, _, h, _ => by omega
  | n + 1, h, ht, h1 => by
    have hn := h n (by omega)
    rw [y_sum, y_sum]
    by_cases e : t = n
    · subst e
      have := y_sum_mono (f := f) (g := g) (n := t) (fun k hk => h k (by omega))
      omega
    · have := y_sum_lt1 (f := f) (g := g) (n := n) (fun k hk => h k (by omega)) (by omega) h1
      omega
theorem y_card_sub {Q r : Nat} (hr : r ≠ 0) (h8 : r < 256) (hs : r &&& Q = r) : y_card (Q ^^^ r) + 1 ≤ y_card Q := by
  obtain ⟨i, hi⟩ := Nat.exists_testBit_of_ne_zero hr
  have i8 : i < 8 := by
    by_cases c : i < 8
    · exact c
    · have a := Nat.ge_two_pow_of_testBit hi
      have b : 2 ^ 8 ≤ 2 ^ i := Nat.pow_le_pow_right (by omega) (by omega)
      omega
  have imp : ∀ k, r.testBit k = true → Q.testBit k = true := by
    intro k hk
    have : (r &&& Q).testBit k = true := by rw [hs]; exact hk
    rw [Nat.testBit_and, Bool.and_eq_true] at this
    exact this.2
  refine y_sum_lt1 (t := i) (fun k _ => ?_) i8 ?_
  · unfold y_bit
    rw [Nat.testBit_xor]
    have := imp (k : Int).toNat
    cases h1 : Q.testBit (k : Int).toNat <;> cases h2 : r.testBit (k : Int).toNat <;> simp_all
  · unfold y_bit
    rw [Nat.testBit_xor, show ((i : Int)).toNat = i by omega, imp i hi, hi]
    decide
theorem y_card_le_f : ∀ n : Fin 9, y_sum (fun k => if k < (n.val : Int) then 1 else 0) 8 = (n.val : Int) := by decide +kernel
theorem y_card_le {S n : Nat} (hn : n ≤ 8) (h : S < 2 ^ n) : y_card S ≤ n := by
  rw [← y_card_le_f ⟨n, by omega⟩]
  refine y_sum_mono (fun k hk => ?_)
  unfold y_bit
  show (if _ then (1 : Int) else 0) ≤ if (k : Int) < (n : Int) then 1 else 0
  by_cases c : (k : Int) < (n : Int)
  · rw [if_pos c]
    split <;> omega
  · rw [if_neg c, if_neg]
    · exact Int.le_refl _
    · intro z
      have a := Nat.ge_two_pow_of_testBit z
      have b : 2 ^ n ≤ 2 ^ ((k : Int).toNat) := Nat.pow_le_pow_right (by omega) (by omega)
      omega
theorem y_V_ins {ok : Nat → Nat → Prop} {p : Nat} (hp : p ≠ 0) {g : Int → Int} (hg : ∀ k : Nat, g k = 0 ∨ g k = 1) : ∀ (n Q : Nat), Q < 256 → p &&& Q = 0 → (∀ t : Nat, t < n → g t = 1 → ok t p) → y_card Q < y_sum g n → y_V ok n Q → y_V ok n (Q ^^^ p)
  | 0, Q, _, _, _, h, _ => by
    have := y_card_nn (m := Q)
    simp only [y_sum] at h
    omega
  | n + 1, Q, h8, hd, hok, hc, hV => by
    have ok' : ∀ t : Nat, t < n → g t = 1 → ok t p := fun t ht => hok t (by omega)
    rw [y_sum] at hc
    have gn := hg n
    rcases hV with hV | ⟨r, r0, rQ, hV, rok⟩
    · by_cases c : g n = 1
      · refine Or.inr ⟨p, hp, ?_, ?_, hok n (by omega) c⟩
        · rw [Nat.and_xor_distrib_left, hd, Nat.and_self, Nat.zero_xor]
        · rw [Nat.xor_assoc, Nat.xor_self, Nat.xor_zero]; exact hV
      · exact Or.inl (y_V_ins hp hg n Q h8 hd ok' (by omega) hV)
    · have r8 : r ≤ Q := by rw [← rQ]; exact Nat.and_le_right
      have cs := y_card_sub r0 (by omega) rQ
      have pr : p &&& r = 0 := by rw [← rQ, Nat.and_comm r Q, ← Nat.and_assoc, hd, Nat.zero_and]
      have x8 : Q ^^^ r < 2 ^ 8 := Nat.xor_lt_two_pow (by omega) (by omega)
      have := y_V_ins hp hg n (Q ^^^ r) (by omega) (by rw [Nat.and_xor_distrib_left, hd, pr]; rfl) ok' (by omega) hV
      refine Or.inr ⟨r, r0, ?_, ?_, rok⟩
      · rw [Nat.and_xor_distrib_left, rQ, Nat.and_comm r p, pr, Nat.xor_zero]
      · rw [Nat.xor_assoc, Nat.xor_comm p r, ← Nat.xor_assoc]; exact this
/-- a slot may be left out if as many others before it as there are parties have no less room -/
theorem y_V_skip {ok : Nat → Nat → Prop} {N n S : Nat} {g : Int → Int} (hN : N ≤ 8) (hS : S < 2 ^ N) (hg : ∀ k : Nat, g k = 0 ∨ g k = 1) (hc : (N : Int) ≤ y_sum g n) (hok : ∀ t : Nat, t < n → g t = 1 → ∀ p, ok n p → ok t p) (h : y_V ok (n + 1) S) : y_V ok n S := by
  rcases h with h | ⟨p, p0, pS, hV, pok⟩
  · exact h
  · have b := y_pow8 hN
    have p8 : p ≤ S := by rw [← pS]; exact Nat.and_le_right
    have cs := y_card_sub p0 (by omega) pS
    have cl := y_card_le hN hS
    have x8 : S ^^^ p < 2 ^ 8 := Nat.xor_lt_two_pow (by omega) (by omega)
    have := y_V_ins p0 hg n (S ^^^ p) (by omega) (by rw [Nat.and_xor_distrib_left, pS, Nat.and_self, Nat.xor_self]) (fun t ht hgt => hok t ht hgt p pok) (by omega) hV
    rw [Nat.xor_assoc, Nat.xor_self, Nat.xor_zero] at this
    exact this
/-- how many bits -/
def y_bcn : Nat → Nat → Nat
  | 0, _ => 0
  | n + 1, x => if x = 0 then 0 else y_bcn n (x &&& (x - 1)) + 1
def y_bc (x : Nat) : Nat := y_bcn 256 x
theorem y_bc_all_f : ∀ n : Fin 9, ∀ x : Fin 256, x.val < 2 ^ n.val - 1 → y_bc x.val < y_bc (2 ^ n.val - 1) := by decide +kernel
theorem y_bc_8_f : ∀ x : Fin 256, y_bc x.val ≤ 8 := by decide +kernel
/-- the first of the sets 1 to m with most bits -/
def y_bst (T : Int → Int) : Nat → Nat
  | 0 => 0
  | m + 1 => if T ((m + 1 : Nat) : Int) ≠ 0 ∧ y_bc (y_bst T m) < y_bc (m + 1) then m + 1 else y_bst T m
theorem y_bst_le {T : Int → Int} : ∀ {m : Nat}, y_bst T m ≤ m
  | 0 => Nat.le_refl _
  | m + 1 => by
    have := y_bst_le (T := T) (m := m)
    rw [y_bst]
    split <;> omega
theorem y_bst_cg {T T' : Int → Int} : ∀ {m : Nat}, (∀ k : Nat, k ≤ m → (T k ≠ 0 ↔ T' k ≠ 0)) → y_bst T m = y_bst T' m
  | 0, _ => rfl
  | m + 1, h => by
    rw [y_bst, y_bst, y_bst_cg (m := m) (fun k hk => h k (by omega))]
    by_cases c : T ((m + 1 : Nat) : Int) ≠ 0 ∧ y_bc (y_bst T' m) < y_bc (m + 1)
    · rw [if_pos c, if_pos ⟨(h (m + 1) (by omega)).mp c.1, c.2⟩]
    · rw [if_neg c, if_neg (fun z => c ⟨(h (m + 1) (by omega)).mpr z.1, z.2⟩)]
theorem y_bst_all {T : Int → Int} {n : Nat} (hn : n ≤ 8) (h : T ((2 ^ n - 1 : Nat) : Int) ≠ 0) : y_bst T (2 ^ n - 1) = 2 ^ n - 1 := by
  have b := y_pow8 hn
  cases e : 2 ^ n - 1 with
  | zero => rfl
  | succ m =>
    have le := y_bst_le (T := T) (m := m)
    have := y_bc_all_f ⟨n, by omega⟩ ⟨y_bst T m, by omega⟩ (by show y_bst T m < 2 ^ n - 1; omega)
    have this : y_bc (y_bst T m) < y_bc (2 ^ n - 1) := this
    rw [e] at this h
    rw [y_bst, if_pos ⟨h, this⟩]
/-- a table of the sets that can be served in the first n slots -/
def y_tab (ok : Nat → Nat → Prop) (N n : Nat) (T : Int → Int) : Prop := ∀ S : Nat, S < 2 ^ N → (T S = 1 ∧ y_V ok n S) ∨ (T S = 0 ∧ ¬ y_V ok n S)
