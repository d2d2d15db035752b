/-! constructors: what they leave (997991 to 997994: written by wip/whole/gen99799.py) -/
/-- m cells from n on hold f; the rest is as it was -/
def x_ctP (n m : Nat) (J : z_J) (f : Nat → Int → Int) (J' : z_J) : Prop := (∀ a, (a < n ∨ n + m ≤ a) → J' a = J a) ∧ ∀ k, k < m → J' (n + k) = f k
theorem x_ctP.put {n m k0 : Nat} {J J1 : z_J} {f : Nat → Int → Int} {i v : Int} (h : x_ctP n m J f J1) (hk : k0 < m) : x_ctP n m J (fun k => if k = k0 then z_up (f k0) i v else f k) (z_u J1 (n + k0) i v) := by
  refine ⟨fun a ha => by rw [z_u_ne (by omega), h.1 a ha], fun k hk2 => ?_⟩
  show _ = if k = k0 then z_up (f k0) i v else f k
  by_cases e : k = k0
  · subst e
    rw [if_pos rfl]
    unfold z_u
    rw [z_row_eq, h.2 k hk]
  · rw [if_neg e, z_u_ne (by omega), h.2 k hk2]
theorem x_ctP.arr {n m : Nat} {J J1 : z_J} {f : Nat → Int → Int} (h : x_ctP n m J f J1) (hf : f m = fun _ => 0) : x_ctP n (m + 1) J f (z_row J1 (n + m) (fun _ => 0)) := by
  refine ⟨fun a ha => by rw [z_row_ne (by omega), h.1 a (by omega)], fun k hk => ?_⟩
  by_cases e : k = m
  · subst e
    rw [z_row_eq, hf]
  · rw [z_row_ne (by omega), h.2 k (by omega)]
theorem x_ctP.arrs {n m c : Nat} {J J1 : z_J} {f : Nat → Int → Int} (h : x_ctP n m J f J1) (hf : ∀ k, k < c → f (m + k) = fun _ => 0) : x_ctP n (m + c) J f (z_zeros J1 (n + m) c) := by
  refine ⟨fun a ha => by show (if n + m ≤ a ∧ a < n + m + c then (fun _ => 0) else J1 a) = _; rw [if_neg (by omega), h.1 a (by omega)], fun k hk => ?_⟩
  show (if n + m ≤ n + k ∧ n + k < n + m + c then (fun _ => 0) else J1 (n + k)) = _
  by_cases e : k < m
  · rw [if_neg (by omega), h.2 k e]
  · rw [if_pos (by omega), show k = m + (k - m) by omega, hf (k - m) (by omega)]
theorem x_ctP.obj {n m m' : Nat} {J J1 J2 : z_J} {f f' : Nat → Int → Int} (h : x_ctP n m J f J1) (h2 : x_ctP (n + m) m' J1 f' J2) (hf : ∀ k, k < m' → f (m + k) = f' k) : x_ctP n (m + m') J f J2 := by
  refine ⟨fun a ha => by rw [h2.1 a (by omega), h.1 a (by omega)], fun k hk => ?_⟩
  by_cases e : k < m
  · rw [h2.1 _ (by omega), h.2 k e]
  · rw [show k = m + (k - m) by omega, hf (k - m) (by omega), ← h2.2 (k - m) (by omega), show n + (m + (k - m)) = n + m + (k - m) by omega]
theorem x_ctP.one {n : Nat} {J : z_J} : x_ctP n 1 J (fun _ _ => 0) (z_row J n (fun _ => 0)) := by
  refine ⟨fun a ha => by rw [z_row_ne (by omega)], fun k hk => ?_⟩
  rw [show n + k = n by omega, z_row_eq]
theorem x_ctP.ofNw {n m : Nat} {S S' : z_S} (h : x_nw n m S S') : x_ctP n m S.2.1 (fun _ _ => 0) S'.2.1 := ⟨fun a ha => (h.1 a ha).1, fun k hk => h.2 (n + k) (by omega) (by omega)⟩
theorem x_ctP.cg {n m : Nat} {J J' : z_J} {f f' : Nat → Int → Int} (h : x_ctP n m J f J') (e : ∀ k, k < m → f k = f' k) : x_ctP n m J f' J' := ⟨h.1, fun k hk => by rw [h.2 k hk, e k hk]⟩
/-- a constructor's call -/
theorem z_mkO {l : Launch} {d a n m : Nat} {ws : z_V} {S : z_S} {E0 L : m_E} {J : z_J} {f : Nat → Int → Int} {mc ms bc bs : Nat} {K : z_O → z_S → Nat → Nat → Prop}
    (h : z_Sem l d a ws S mc ms (fun o S' => o = .inl none ∧ S'.1 = E0 ++ L ∧ x_ctP n m J f S'.2.1))
    (hb : mc ≤ bc) (hb2 : ms ≤ bs) (hK : ∀ (J' : z_J) (X' : z_X), x_ctP n m J f J' → K (.inl none) (E0 ++ L, J', X') (bc - mc) (bs - ms)) : z_Call l d a ws S bc bs K := by
  refine ⟨mc, ms, _, h, hb, hb2, fun o S' _ hq => ?_⟩
  obtain ⟨rfl, h1, h2⟩ := hq
  obtain ⟨E', J', X'⟩ := S'
  have h1 : E' = _ := h1
  subst h1
  exact hK J' X' h2
