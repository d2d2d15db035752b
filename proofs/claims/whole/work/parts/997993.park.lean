set_option maxRecDepth 20000 in
theorem w_64i_0 {l : Launch} {d : Nat} {Q : z_O → z_S → Prop} {Wp : Nat → z_C} {E : m_E} {J : z_J} {X : z_X} {bc bs : Nat} {th : Nat}  (hs : z_Cl l d m_me_64 Q Wp)
    (h : Wp 4 [some (.inr (.inr (.ref th)))] [] (E, J, X) bc bs) : Wp 0 [some (.inr (.inr (.ref th)))] [] (E, J, X) bc bs :=
  hs 400 [(4, 1), (15, 1), (26, 1)] [] 0 _ _ _ _ _ (⟨rfl, h⟩)
set_option maxRecDepth 20000 in
theorem w_64i_4 {l : Launch} {d : Nat} {Q : z_O → z_S → Prop} {Wp : Nat → z_C} {E : m_E} {J : z_J} {X : z_X} {bc bs : Nat} {th : Nat}  (hs : z_Cl l d m_me_64 Q Wp)
    (hl : E.length < 1000) (hb : 1 ≤ bc) (hb2 : 12 ≤ bs) (hq : z_Call l d 78 [.inr (.inr (.ref E.length))] (E ++ [((.inl 7, [none, none, none, none, none, none, none, none, none, none, none, none]) : m_Sh × List (Option Nat))], z_row J E.length (fun _ => 0), (z_row X.1 E.length (fun _ => 0), m_rowX X.2 E.length (fun _ => 0))) (bc - 1) (bs - 12) (fun o S' bc' bs' => o = .inl none ∧ ∃ rs : List (Option Nat), S'.1[th]? = some (.inl 5, rs) ∧ E.length < S'.1.length ∧ Wp 15 [some (.inr (.inr (.ref th)))] [] (S'.1.set th (.inl 5, rs.set 0 (some E.length)), S'.2) bc' bs')) : Wp 4 [some (.inr (.inr (.ref th)))] [] (E, J, X) bc bs :=
  hs 400 [(4, 1), (15, 1), (26, 1)] [] 4 _ _ _ _ _ (⟨⟨hl, hb, hb2⟩, ⟨_, rfl, rfl, rfl, z_Call_mono hq (fun o S' bc' bs' hk => by obtain ⟨rfl, rs, h1, h2, h3⟩ := hk; exact ⟨rs, h1, h2, h3⟩)⟩⟩)
set_option maxRecDepth 20000 in
theorem w_64i_15 {l : Launch} {d : Nat} {Q : z_O → z_S → Prop} {Wp : Nat → z_C} {E : m_E} {J : z_J} {X : z_X} {bc bs : Nat} {th : Nat}  (hs : z_Cl l d m_me_64 Q Wp)
    (hl : E.length < 1000) (hb : 1 ≤ bc) (hb2 : 9 ≤ bs) (hq : z_Call l d 36 [.inr (.inr (.ref E.length))] (E ++ [((.inl 2, [none, none, none, none, none, none, none, none, none]) : m_Sh × List (Option Nat))], z_row J E.length (fun _ => 0), (z_row X.1 E.length (fun _ => 0), m_rowX X.2 E.length (fun _ => 0))) (bc - 1) (bs - 9) (fun o S' bc' bs' => o = .inl none ∧ ∃ rs : List (Option Nat), S'.1[th]? = some (.inl 5, rs) ∧ E.length < S'.1.length ∧ Wp 26 [some (.inr (.inr (.ref th)))] [] (S'.1.set th (.inl 5, rs.set 1 (some E.length)), S'.2) bc' bs')) : Wp 15 [some (.inr (.inr (.ref th)))] [] (E, J, X) bc bs :=
  hs 400 [(4, 1), (15, 1), (26, 1)] [] 15 _ _ _ _ _ (⟨⟨hl, hb, hb2⟩, ⟨_, rfl, rfl, rfl, z_Call_mono hq (fun o S' bc' bs' hk => by obtain ⟨rfl, rs, h1, h2, h3⟩ := hk; exact ⟨rs, h1, h2, h3⟩)⟩⟩)
set_option maxRecDepth 20000 in
theorem w_64i_26 {l : Launch} {d : Nat} {Q : z_O → z_S → Prop} {Wp : Nat → z_C} {E : m_E} {J : z_J} {X : z_X} {bc bs : Nat} {th : Nat}  (hs : z_Cl l d m_me_64 Q Wp)
    (h : Q (.inl none) (E, J, X)) : Wp 26 [some (.inr (.inr (.ref th)))] [] (E, J, X) bc bs :=
  hs 400 [(4, 1), (15, 1), (26, 1)] [] 26 _ _ _ _ _ (h)
def x_cPkd0 (b : Nat) : m_E := [(.inl 5, [none, none, none])]
def x_cPkd1 (b : Nat) : m_E := [(.inl 5, [some (b + 1), none, none]), (.inl 7, [some (b + 2), some (b + 3), some (b + 4), some (b + 5), some (b + 6), some (b + 7), some (b + 8), some (b + 9), some (b + 10), some (b + 11), some (b + 12), none]), (.inr (.int, 8), []), (.inr (.int, 8), []), (.inr (.int, 8), []), (.inr (.int, 8), []), (.inr (.int, 8), []), (.inr (.boolean, 8), []), (.inr (.int, 8), []), (.inr (.int, 8), []), (.inr (.int, 8), []), (.inr (.int, 8), []), (.inr (.int, 8), [])]
def x_cPkd2 (b : Nat) : m_E := [(.inl 5, [some (b + 1), some (b + 13), none]), (.inl 7, [some (b + 2), some (b + 3), some (b + 4), some (b + 5), some (b + 6), some (b + 7), some (b + 8), some (b + 9), some (b + 10), some (b + 11), some (b + 12), none]), (.inr (.int, 8), []), (.inr (.int, 8), []), (.inr (.int, 8), []), (.inr (.int, 8), []), (.inr (.int, 8), []), (.inr (.boolean, 8), []), (.inr (.int, 8), []), (.inr (.int, 8), []), (.inr (.int, 8), []), (.inr (.int, 8), []), (.inr (.int, 8), []), (.inl 2, [some (b + 14), some (b + 15), some (b + 16), some (b + 17), none, some (b + 18), some (b + 19), some (b + 20), none]), (.inr (.int, 4), []), (.inr (.int, 4), []), (.inr (.int, 4), []), (.inr (.int, 4), []), (.inr (.int, 50), []), (.inr (.int, 50), []), (.inr (.int, 50), [])]
def x_fPkd : Nat → Int → Int := fun _ _ => 0
section QcPkd
variable {l : Launch} {d : Nat} {E0 : m_E} {J : z_J} {X : z_X} {n bc bs : Nat}
set_option maxHeartbeats 1000000 in
set_option maxRecDepth 20000 in
theorem e_newPkd (hn : E0.length = n) (hl : n + 33 < 1000) (hb : 20 ≤ bc) (hb2 : 275 ≤ bs) : z_Sem l (d + 2) 64 [.inr (.inr (.ref n))] (E0 ++ [(.inl 5, [none, none, none])], z_row J n (fun _ => 0), (z_row X.1 n (fun _ => 0), m_rowX X.2 n (fun _ => 0))) bc bs (fun o S' => o = .inl none ∧ S'.1 = E0 ++ x_cPkd2 n ∧ x_ctP n 21 J x_fPkd S'.2.1) := by
  refine z_sem_of z_m64 m_ok_64 (Nat.le_of_ble_eq_true rfl) (fun Wp hs hv hS => ?_)
  have f0 : x_ctP n 1 J (fun _ _ => 0) (z_row J n (fun _ => 0)) := x_ctP.one
  generalize z_row J n (fun _ => 0) = J0 at f0 ⊢
  generalize ((z_row X.1 n (fun _ => 0), m_rowX X.2 n (fun _ => 0)) : z_X) = X0
  refine w_64i_0 hs ?_
  have h0 : (E0 ++ x_cPkd0 n)[n]? = some (.inl 5, [none, none, none]) := (z_ag (k := 0) hn).trans rfl
  have l0 : (E0 ++ x_cPkd0 n).length = n + 1 := z_al hn rfl
  refine w_64i_4 (E := E0 ++ x_cPkd0 n) (th := n) hs (by omega) (by omega) (by omega) ?_
  have t0 : ((E0 ++ x_cPkd0 n) ++ [((.inl 7, [none, none, none, none, none, none, none, none, none, none, none, none]) : m_Sh × List (Option Nat))]).length = n + 2 := by rw [List.length_append, l0]; rfl
  refine z_mkC (E := E0 ++ x_cPkd0 n) (m := 11) (c2 := (.inl 7, [some (n + 2), some (n + 3), some (n + 4), some (n + 5), some (n + 6), some (n + 7), some (n + 8), some (n + 9), some (n + 10), some (n + 11), some (n + 12), none])) (e_initRides (E := (E0 ++ x_cPkd0 n) ++ [(.inl 7, [none, none, none, none, none, none, none, none, none, none, none, none])]) z_aM (by omega) (Nat.le_refl _) (Nat.le_refl _)) (by omega) (by omega) (by rw [t0]) (fun J1 X1 g0 => ⟨rfl, _, z_aL h0, z_aT, ?_⟩)
  have g0 := x_ctP.ofNw g0
  rw [l0] at g0 ⊢
  have f1 := f0.obj g0 (fun _ _ => rfl)
  refine z_wpS (Wp := Wp) (E' := E0 ++ x_cPkd1 n) (J' := J1) (X' := X1) ?_ rfl rfl ?_
  · show ((E0 ++ x_cPkd0 n) ++ _).set (n + 0) _ = _
    rw [z_as hn]; rfl
  have h1 : (E0 ++ x_cPkd1 n)[n]? = some (.inl 5, [some (n + 1), none, none]) := (z_ag (k := 0) hn).trans rfl
  have l1 : (E0 ++ x_cPkd1 n).length = n + 13 := z_al hn rfl
  refine w_64i_15 (E := E0 ++ x_cPkd1 n) (th := n) hs (by omega) (by omega) (by omega) ?_
  have t1 : ((E0 ++ x_cPkd1 n) ++ [((.inl 2, [none, none, none, none, none, none, none, none, none]) : m_Sh × List (Option Nat))]).length = n + 14 := by rw [List.length_append, l1]; rfl
  refine z_mkC (E := E0 ++ x_cPkd1 n) (m := 7) (c2 := (.inl 2, [some (n + 14), some (n + 15), some (n + 16), some (n + 17), none, some (n + 18), some (n + 19), some (n + 20), none])) (e_initGuests (E := (E0 ++ x_cPkd1 n) ++ [(.inl 2, [none, none, none, none, none, none, none, none, none])]) z_aM (by omega) (Nat.le_refl _) (Nat.le_refl _)) (by omega) (by omega) (by rw [t1]) (fun J2 X2 g1 => ⟨rfl, _, z_aL h1, z_aT, ?_⟩)
  have g1 := x_ctP.ofNw g1
  rw [l1] at g1 ⊢
  have f2 := f1.obj g1 (fun _ _ => rfl)
  refine z_wpS (Wp := Wp) (E' := E0 ++ x_cPkd2 n) (J' := J2) (X' := X2) ?_ rfl rfl ?_
  · show ((E0 ++ x_cPkd1 n) ++ _).set (n + 0) _ = _
    rw [z_as hn]; rfl
  exact w_64i_26 hs ⟨rfl, rfl, f2⟩
end QcPkd
def x_fDay : Nat → Int → Int := fun k => if k = 0 then z_up (fun _ => 0) 1 6 else fun _ => 0
theorem z_mkDy {l : Launch} {d n : Nat} {E0 : m_E} {J : z_J} {X : z_X} {bc bs : Nat} {K : z_O → z_S → Nat → Nat → Prop} (hn : E0.length = n) (hl : n + 100 < 1000) (hb : 88 ≤ bc) (hb2 : 5100 ≤ bs)
    (hK : ∀ (J' : z_J) (X' : z_X), x_ctP n 89 J x_fDay J' → K (.inl none) (E0 ++ m_DayAt n, J', X') (bc - 88) (bs - 5100)) : z_Call l (d + 2) 0 [.inr (.inr (.ref n))] (E0 ++ [(.inl 0, [none, none, none, none, none, none, none, none])], z_row J n (fun _ => 0), (z_row X.1 n (fun _ => 0), m_rowX X.2 n (fun _ => 0))) bc bs K := by
  refine ⟨88, 5100, _, e_initDay (E0 := E0) hn hl (Nat.le_refl _) (Nat.le_refl _), hb, hb2, fun o S' _ hq => ?_⟩
  obtain ⟨rfl, h1, h2⟩ := hq
  obtain ⟨E', J', X'⟩ := S'
  have h1 : E' = _ := h1
  subst h1
  have e : ∀ a, a < n + 1 ∨ n + 1 + 88 ≤ a → J' a = z_u (z_row J n (fun _ => 0)) n 1 6 a := fun a ha => (h2.1 a ha).1
  refine hK J' X' ⟨fun a ha => ?_, fun k hk => ?_⟩
  · rw [e a (by omega), z_u_ne (by omega), z_row_ne (by omega)]
  · unfold x_fDay
    by_cases c : k = 0
    · subst c
      rw [if_pos rfl, e _ (by omega)]
      show z_u (z_row J n (fun _ => 0)) n 1 6 n = _
      unfold z_u
      rw [z_row_eq, z_row_eq]
    · rw [if_neg c]
      exact h2.2 (n + k) (by omega) (by omega)
