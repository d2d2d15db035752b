/-! orders of rides: all of them, in their order; the next one -/
def y_rmv : List Nat → Nat → List Nat
  | [], _ => []
  | x :: l, r => if x = r then y_rmv l r else x :: y_rmv l r
def y_pk (F : List Nat → List (List Nat)) (full : List Nat) : List Nat → List (List Nat)
  | [] => []
  | r :: t => (F (y_rmv full r)).map (fun p => r :: p) ++ y_pk F full t
/-- all orders of k rides -/
def y_prm : Nat → List Nat → List (List Nat)
  | 0, _ => [[]]
  | k + 1, l => y_pk (y_prm k) l l
/-- the rides of a set below k -/
def y_bl (m : Nat) : Nat → List Nat
  | 0 => []
  | k + 1 => y_bl m k ++ (if m.testBit k = true then [k] else [])
def y_fai (a : List Nat) : Nat → Option Nat
  | 0 => none
  | k + 1 => if a.getD (k + 1) 0 < a.getD k 0 then y_fai a k else some k
def y_faj (a : List Nat) (i : Nat) : Nat → Nat
  | 0 => 0
  | j + 1 => if a.getD (j + 1) 0 < a.getD i 0 then y_faj a i j else j + 1
def y_swp (a : List Nat) (i j : Nat) : List Nat := (a.set i (a.getD j 0)).set j (a.getD i 0)
def y_rev : Nat → List Nat → Nat → Nat → List Nat
  | 0, a, _, _ => a
  | f + 1, a, lo, hi => if lo < hi then y_rev f (y_swp a lo hi) (lo + 1) (hi - 1) else a
/-- the next order -/
def y_np (a : List Nat) : Option (List Nat) := match y_fai a (a.length - 1) with
  | none => none
  | some i => some (y_rev 5 (y_swp a i (y_faj a i (a.length - 1))) (i + 1) (a.length - 1))
def y_leq : List Nat → List Nat → Bool
  | [], [] => true
  | x :: a, y :: b => Nat.beq x y && y_leq a b
  | _, _ => false
theorem y_leq_eq : ∀ {a b : List Nat}, y_leq a b = true → a = b
  | [], [], _ => rfl
  | x :: a, y :: b, h => by
    rw [y_leq, Bool.and_eq_true] at h
    rw [Nat.eq_of_beq_eq_true h.1, y_leq_eq h.2]
  | [], _ :: _, h => by cases h
  | _ :: _, [], h => by cases h
def y_inl (n : Nat) : List Nat → Bool
  | [] => true
  | x :: a => Nat.blt x n && y_inl n a
theorem y_inl_m {n : Nat} : ∀ {a : List Nat}, y_inl n a = true → ∀ x, x ∈ a → x < n
  | [], _, _, h => by cases h
  | y :: a, h, x, hx => by
    rw [y_inl, Bool.and_eq_true] at h
    rcases List.mem_cons.mp hx with e | e
    · subst e; exact Nat.blt_eq.mp h.1
    · exact y_inl_m h.2 x e
def y_nxt (a : List Nat) : List (List Nat) → Bool
  | [] => (match y_np a with
    | none => true
    | some _ => false)
  | b :: _ => (match y_np a with
    | none => false
    | some c => y_leq c b)
def y_chk (n : Nat) : List (List Nat) → Bool
  | [] => true
  | a :: t => y_inl n a && Nat.beq a.length n && y_nxt a t && y_chk n t
def y_hd (n : Nat) : List (List Nat) → Bool
  | [] => false
  | a :: _ => y_leq a (List.range n)
theorem y_chk_f : ∀ n : Fin 6, n.val ≠ 0 → (y_chk n.val (y_prm n.val (List.range n.val)) && y_hd n.val (y_prm n.val (List.range n.val))) = true := by decide +kernel
/-- orders that follow each other -/
def y_chn (n : Nat) (L : List Nat) : List (List Nat) → Prop
  | [] => True
  | a :: t => (∀ x, x ∈ a → x ∈ L) ∧ a.length = n ∧ y_np a = t.head? ∧ y_chn n L t
section PM
variable {φ : Nat → Nat} {n : Nat}
theorem y_getD_map {a : List Nat} {k : Nat} (h : k < a.length) : (a.map φ).getD k 0 = φ (a.getD k 0) := by
  rw [List.getD_eq_getElem?_getD, List.getD_eq_getElem?_getD, List.getElem?_map, List.getElem?_eq_getElem h]
  rfl
theorem y_getD_mem {a : List Nat} {k : Nat} (h : k < a.length) : a.getD k 0 ∈ a := by
  rw [List.getD_eq_getElem?_getD, List.getElem?_eq_getElem h]
  exact List.getElem_mem h
theorem y_fai_map (hφ : ∀ x y, x < n → y < n → (φ x < φ y ↔ x < y)) {a : List Nat} (ha : ∀ x, x ∈ a → x < n) : ∀ k : Nat, k < a.length → y_fai (a.map φ) k = y_fai a k
  | 0, _ => rfl
  | k + 1, h => by
    rw [y_fai, y_fai, y_getD_map h, y_getD_map (show k < a.length by omega), y_fai_map hφ ha k (by omega)]
    have := hφ _ _ (ha _ (y_getD_mem h)) (ha _ (y_getD_mem (show k < a.length by omega)))
    by_cases c : a.getD (k + 1) 0 < a.getD k 0
    · rw [if_pos c, if_pos (this.mpr c)]
    · rw [if_neg c, if_neg (fun z => c (this.mp z))]
theorem y_faj_map (hφ : ∀ x y, x < n → y < n → (φ x < φ y ↔ x < y)) {a : List Nat} (ha : ∀ x, x ∈ a → x < n) {i : Nat} (hi : i < a.length) : ∀ k : Nat, k < a.length → y_faj (a.map φ) i k = y_faj a i k
  | 0, _ => rfl
  | k + 1, h => by
    rw [y_faj, y_faj, y_getD_map h, y_getD_map hi, y_faj_map hφ ha hi k (by omega)]
    have := hφ _ _ (ha _ (y_getD_mem h)) (ha _ (y_getD_mem hi))
    by_cases c : a.getD (k + 1) 0 < a.getD i 0
    · rw [if_pos c, if_pos (this.mpr c)]
    · rw [if_neg c, if_neg (fun z => c (this.mp z))]
theorem y_swp_len {a : List Nat} {i j : Nat} : (y_swp a i j).length = a.length := by
  unfold y_swp; rw [List.length_set, List.length_set]
theorem y_swp_map {a : List Nat} {i j : Nat} (hi : i < a.length) (hj : j < a.length) : y_swp (a.map φ) i j = (y_swp a i j).map φ := by
  unfold y_swp
  rw [y_getD_map hi, y_getD_map hj, List.map_set, List.map_set]
theorem y_rev_map : ∀ (f : Nat) {a : List Nat} {lo hi : Nat}, hi < a.length → y_rev f (a.map φ) lo hi = (y_rev f a lo hi).map φ
  | 0, _, _, _, _ => rfl
  | f + 1, a, lo, hi, h => by
    rw [y_rev, y_rev]
    by_cases c : lo < hi
    · rw [if_pos c, if_pos c, y_swp_map (by omega) h, y_rev_map f (by rw [y_swp_len]; omega)]
    · rw [if_neg c, if_neg c]
theorem y_fai_lt {a : List Nat} : ∀ {k i : Nat}, y_fai a k = some i → i < k
  | 0, i, h => by cases h
  | k + 1, i, h => by
    rw [y_fai] at h
    by_cases c : a.getD (k + 1) 0 < a.getD k 0
    · rw [if_pos c] at h
      have := y_fai_lt h
      omega
    · rw [if_neg c] at h
      cases h
      omega
theorem y_faj_le {a : List Nat} {i : Nat} : ∀ {k : Nat}, y_faj a i k ≤ k
  | 0 => Nat.le_refl _
  | k + 1 => by
    have := y_faj_le (a := a) (i := i) (k := k)
    rw [y_faj]
    split <;> omega
theorem y_np_map (hφ : ∀ x y, x < n → y < n → (φ x < φ y ↔ x < y)) {a : List Nat} (ha : ∀ x, x ∈ a → x < n) (h0 : 0 < a.length) : y_np (a.map φ) = (y_np a).map (fun p => p.map φ) := by
  unfold y_np
  rw [List.length_map, y_fai_map hφ ha _ (by omega)]
  cases e : y_fai a (a.length - 1) with
  | none => rfl
  | some i =>
    have il := y_fai_lt e
    have jl := y_faj_le (a := a) (i := i) (k := a.length - 1)
    simp only [Option.map_some]
    rw [y_faj_map hφ ha (by omega) _ (by omega), y_swp_map (by omega) (by omega), y_rev_map 5 (by rw [y_swp_len]; omega)]
theorem y_rmv_mem {l : List Nat} {r x : Nat} : x ∈ y_rmv l r → x ∈ l := by
  induction l with
  | nil => intro h; cases h
  | cons y l ih =>
    intro h
    rw [y_rmv] at h
    by_cases c : y = r
    · rw [if_pos c] at h
      exact List.mem_cons_of_mem _ (ih h)
    · rw [if_neg c] at h
      rcases List.mem_cons.mp h with e | e
      · subst e; exact List.mem_cons_self
      · exact List.mem_cons_of_mem _ (ih e)
theorem y_rmv_map {l : List Nat} {r : Nat} (hi : ∀ x, x ∈ l → (φ x = φ r ↔ x = r)) : y_rmv (l.map φ) (φ r) = (y_rmv l r).map φ := by
  induction l with
  | nil => rfl
  | cons y l ih =>
    rw [List.map_cons, y_rmv, y_rmv, ih (fun x hx => hi x (List.mem_cons_of_mem _ hx))]
    have := hi y List.mem_cons_self
    by_cases c : y = r
    · rw [if_pos c, if_pos (this.mpr c)]
    · rw [if_neg c, if_neg (fun z => c (this.mp z)), List.map_cons]
theorem y_prm_map : ∀ (k : Nat) {l : List Nat}, (∀ x y, x ∈ l → y ∈ l → (φ x = φ y ↔ x = y)) → y_prm k (l.map φ) = (y_prm k l).map (fun p => p.map φ)
  | 0, _, _ => rfl
  | k + 1, l, hi => by
    rw [y_prm, y_prm]
    have key : ∀ t : List Nat, (∀ x, x ∈ t → x ∈ l) → y_pk (y_prm k) (l.map φ) (t.map φ) = (y_pk (y_prm k) l t).map (fun p => p.map φ) := by
      intro t
      induction t with
      | nil => intro _; rfl
      | cons r t ih =>
        intro ht
        have hr := ht r List.mem_cons_self
        rw [List.map_cons, y_pk, y_pk, ih (fun x hx => ht x (List.mem_cons_of_mem _ hx)), y_rmv_map (fun x hx => hi x r hx hr), y_prm_map k (fun x y hx hy => hi x y (y_rmv_mem hx) (y_rmv_mem hy)), List.map_append, List.map_map, List.map_map]
        rfl
    exact key l (fun _ h => h)
theorem y_ch_of (hn : 0 < n) (hφ : ∀ x y, x < n → y < n → (φ x < φ y ↔ x < y)) : ∀ {ps : List (List Nat)}, y_chk n ps = true → y_chn n ((List.range n).map φ) (ps.map (fun p => p.map φ))
  | [], _ => trivial
  | a :: t, h => by
    rw [y_chk, Bool.and_eq_true, Bool.and_eq_true, Bool.and_eq_true] at h
    obtain ⟨⟨⟨h1, h2⟩, h3⟩, h4⟩ := h
    have ha := y_inl_m h1
    have hl := Nat.eq_of_beq_eq_true h2
    refine ⟨fun x hx => ?_, by rw [List.length_map]; exact hl, ?_, y_ch_of hn hφ h4⟩
    · obtain ⟨y, y1, y2⟩ := List.mem_map.mp hx
      exact List.mem_map.mpr ⟨y, List.mem_range.mpr (ha y y1), y2⟩
    · show y_np (a.map φ) = _
      rw [y_np_map hφ ha (by omega)]
      cases t with
      | nil =>
        unfold y_nxt at h3
        cases e : y_np a with
        | none => rfl
        | some c => rw [e] at h3; cases h3
      | cons b t =>
        unfold y_nxt at h3
        cases e : y_np a with
        | none => rw [e] at h3; cases h3
        | some c =>
          rw [e] at h3
          rw [y_leq_eq h3]
          rfl
end PM
def y_inc : List Nat → Bool
  | [] => true
  | x :: t => (match t with
    | [] => true
    | y :: _ => Nat.blt x y) && y_inc t
theorem y_inc_h : ∀ {x : Nat} {t : List Nat}, y_inc (x :: t) = true → ∀ y, y ∈ t → x < y
  | x, [], _, y, h => by cases h
  | x, z :: t, h, y, hy => by
    rw [y_inc, Bool.and_eq_true] at h
    have h1 : x < z := Nat.blt_eq.mp h.1
    rcases List.mem_cons.mp hy with e | e
    · subst e; exact h1
    · have := y_inc_h h.2 y e
      omega
theorem y_inc_m : ∀ {l : List Nat}, y_inc l = true → ∀ {i j : Nat}, i < j → j < l.length → l.getD i 0 < l.getD j 0
  | [], _, i, j, _, h => by cases h
  | x :: t, h, i, j, hij, hj => by
    cases j with
    | zero => omega
    | succ j =>
      rw [List.length_cons] at hj
      cases i with
      | zero =>
        rw [List.getD_cons_zero, List.getD_cons_succ]
        exact y_inc_h h _ (y_getD_mem (by omega))
      | succ i =>
        rw [List.getD_cons_succ, List.getD_cons_succ]
        have h' : y_inc t = true := by
          cases t with
          | nil => rfl
          | cons y t =>
            rw [y_inc, Bool.and_eq_true] at h
            exact h.2
        exact y_inc_m h' (by omega) (by omega)
theorem y_bl_f : ∀ m : Fin 256, (y_inc (y_bl m.val 8) && Nat.beq (y_bl m.val 8).length (y_bc m.val)) = true := by decide +kernel
theorem y_bl_rm_f : ∀ m : Fin 256, ∀ r : Fin 8, m.val.testBit r.val = true → y_leq (y_bl (m.val ^^^ 2 ^ r.val) 8) (y_rmv (y_bl m.val 8) r.val) = true := by decide +kernel
theorem y_bl_mem {m x : Nat} : ∀ {k : Nat}, x ∈ y_bl m k ↔ x < k ∧ m.testBit x = true
  | 0 => ⟨fun h => (by cases h), fun h => (by omega)⟩
  | k + 1 => by
    rw [y_bl, List.mem_append, y_bl_mem]
    by_cases c : m.testBit k = true
    · rw [if_pos c]
      constructor
      · rintro (h | h)
        · exact ⟨by omega, h.2⟩
        · rw [List.mem_singleton] at h
          subst h; exact ⟨by omega, c⟩
      · rintro ⟨h1, h2⟩
        by_cases e : x = k
        · exact Or.inr (List.mem_singleton.mpr e)
        · exact Or.inl ⟨by omega, h2⟩
    · rw [if_neg c]
      constructor
      · rintro (h | h)
        · exact ⟨by omega, h.2⟩
        · cases h
      · rintro ⟨h1, h2⟩
        by_cases e : x = k
        · subst e; exact absurd h2 c
        · exact Or.inl ⟨by omega, h2⟩
theorem y_range_map {l : List Nat} : (List.range l.length).map (fun k => l.getD k 0) = l := by
  apply List.ext_getElem?
  intro i
  rw [List.getElem?_map]
  by_cases h : i < l.length
  · rw [List.getElem?_range h, List.getElem?_eq_getElem h, Option.map_some, List.getD_eq_getElem?_getD, List.getElem?_eq_getElem h]
    rfl
  · rw [List.getElem?_eq_none (by rw [List.length_range]; omega), List.getElem?_eq_none (by omega)]
    rfl
/-- the orders of a set: they follow each other, and begin with the set as it stands -/
theorem y_orders {m : Nat} (hm : m < 256) (h0 : m ≠ 0) (h5 : y_bc m ≤ 5) : y_chn (y_bc m) (y_bl m 8) (y_prm (y_bc m) (y_bl m 8)) ∧ (y_prm (y_bc m) (y_bl m 8)).head? = some (y_bl m 8) := by
  have f := y_bl_f ⟨m, hm⟩
  rw [Bool.and_eq_true] at f
  obtain ⟨f1, f2⟩ := f
  have f1 : y_inc (y_bl m 8) = true := f1
  have f2 : (y_bl m 8).length = y_bc m := Nat.eq_of_beq_eq_true f2
  have n0 : y_bc m ≠ 0 := by
    intro z
    have : y_bl m 8 = [] := List.eq_nil_of_length_eq_zero (by omega)
    obtain ⟨i, hi⟩ := Nat.exists_testBit_of_ne_zero h0
    have : i ∈ y_bl m 8 := y_bl_mem.mpr ⟨y_bit_lt (N := 8) (by omega) hi, hi⟩
    simp_all
  have c := y_chk_f ⟨y_bc m, by omega⟩ n0
  rw [Bool.and_eq_true] at c
  obtain ⟨c1, c2⟩ := c
  have c1 : y_chk (y_bc m) (y_prm (y_bc m) (List.range (y_bc m))) = true := c1
  have c2 : y_hd (y_bc m) (y_prm (y_bc m) (List.range (y_bc m))) = true := c2
  have mono : ∀ x y, x < y_bc m → y < y_bc m → ((fun k => (y_bl m 8).getD k 0) x < (fun k => (y_bl m 8).getD k 0) y ↔ x < y) := by
    intro x y hx hy
    show (y_bl m 8).getD x 0 < (y_bl m 8).getD y 0 ↔ x < y
    by_cases a : x < y
    · exact ⟨fun _ => a, fun _ => y_inc_m f1 a (by omega)⟩
    · by_cases b : y < x
      · have := y_inc_m f1 b (by omega)
        exact ⟨fun z => by omega, fun z => by omega⟩
      · have e : x = y := by omega
        subst e
        exact ⟨fun z => by omega, fun z => by omega⟩
  have e1 : (List.range (y_bc m)).map (fun k => (y_bl m 8).getD k 0) = y_bl m 8 := by rw [← f2]; exact y_range_map
  have e2 : y_prm (y_bc m) (y_bl m 8) = (y_prm (y_bc m) (List.range (y_bc m))).map (fun p => p.map (fun k => (y_bl m 8).getD k 0)) := by
    have := y_prm_map (φ := fun k => (y_bl m 8).getD k 0) (y_bc m) (l := List.range (y_bc m)) (fun x y hx hy => by
      rw [List.mem_range] at hx hy
      have a := mono x y hx hy
      have b := mono y x hy hx
      constructor
      · intro z
        have z : (y_bl m 8).getD x 0 = (y_bl m 8).getD y 0 := z
        have a : (y_bl m 8).getD x 0 < (y_bl m 8).getD y 0 ↔ x < y := a
        have b : (y_bl m 8).getD y 0 < (y_bl m 8).getD x 0 ↔ y < x := b
        omega
      · intro z; subst z; rfl)
    rw [e1] at this
    exact this
  have r1 := y_ch_of (φ := fun k => (y_bl m 8).getD k 0) (by omega) mono c1
  rw [e1, ← e2] at r1
  refine ⟨r1, ?_⟩
  rw [e2]
  cases e : y_prm (y_bc m) (List.range (y_bc m)) with
  | nil => rw [e] at c2; cases c2
  | cons a t =>
    rw [e] at c2
    have : a = List.range (y_bc m) := y_leq_eq c2
    rw [List.map_cons, List.head?_cons, this, e1]
