set_option maxRecDepth 20000 in
theorem w_44i_0 {l : Launch} {d : Nat} {Q : z_O → z_S → Prop} {Wp : Nat → z_C} {E : m_E} {J : z_J} {X : z_X} {bc bs : Nat} {th : Nat}  (hs : z_Cl l d m_me_44 Q Wp)
    (h : Wp 4 [some (.inr (.inr (.ref th)))] [] (E, J, X) bc bs) : Wp 0 [some (.inr (.inr (.ref th)))] [] (E, J, X) bc bs :=
  hs 400 [(4, 1), (13, 1), (18, 1)] [] 0 _ _ _ _ _ (⟨rfl, h⟩)
set_option maxRecDepth 20000 in
theorem w_44i_4 {l : Launch} {d : Nat} {Q : z_O → z_S → Prop} {Wp : Nat → z_C} {E : m_E} {J : z_J} {X : z_X} {bc bs : Nat} {th : Nat} {rs : List (Option Nat)} (hE : E[th]? = some (.inl 3, rs)) (hs : z_Cl l d m_me_44 Q Wp)
    (h : (E.length < 1000 ∧ 1 ≤ bc ∧ (1500 : Int) ≤ (bs : Int)) ∧ Wp 13 [some (.inr (.inr (.ref th)))] [] ((E ++ [((.inr (.byte, 1500), []) : m_Sh × List (Option Nat))]).set th (.inl 3, rs.set 0 (some E.length)), z_row J E.length (fun _ => 0), (z_row X.1 E.length (fun _ => 0), m_rowX X.2 E.length (fun _ => 0))) (bc - 1) (bs - 1500)) : Wp 4 [some (.inr (.inr (.ref th)))] [] (E, J, X) bc bs :=
  hs 400 [(4, 1), (13, 1), (18, 1)] [] 4 _ _ _ _ _ (⟨rfl, ⟨by decide, by decide, h.1.1, h.1.2.1, h.1.2.2⟩, ⟨_, z_apL hE, z_apT, h.2⟩⟩)
set_option maxRecDepth 20000 in
theorem w_44i_13 {l : Launch} {d : Nat} {Q : z_O → z_S → Prop} {Wp : Nat → z_C} {E : m_E} {J : z_J} {X : z_X} {bc bs : Nat} {th : Nat} {rs : List (Option Nat)} (hE : E[th]? = some (.inl 3, rs)) (hs : z_Cl l d m_me_44 Q Wp)
    (h : Wp 18 [some (.inr (.inr (.ref th)))] [] (E, z_u J th 7 (-1), X) bc bs) : Wp 13 [some (.inr (.inr (.ref th)))] [] (E, J, X) bc bs :=
  hs 400 [(4, 1), (13, 1), (18, 1)] [] 13 _ _ _ _ _ (⟨rfl, _, hE, h⟩)
set_option maxRecDepth 20000 in
theorem w_44i_18 {l : Launch} {d : Nat} {Q : z_O → z_S → Prop} {Wp : Nat → z_C} {E : m_E} {J : z_J} {X : z_X} {bc bs : Nat} {th : Nat}  (hs : z_Cl l d m_me_44 Q Wp)
    (h : Q (.inl none) (E, J, X)) : Wp 18 [some (.inr (.inr (.ref th)))] [] (E, J, X) bc bs :=
  hs 400 [(4, 1), (13, 1), (18, 1)] [] 18 _ _ _ _ _ (h)
def x_cInp0 (b : Nat) : m_E := [(.inl 3, [none, none, none, none, none, none, none, none])]
def x_cInp1 (b : Nat) : m_E := [(.inl 3, [some (b + 1), none, none, none, none, none, none, none]), (.inr (.byte, 1500), [])]
abbrev x_cInp2 : Nat → m_E := x_cInp1
def x_fInp : Nat → Int → Int := fun k => if k = 0 then z_up ((fun _ _ => 0 : Nat → Int → Int) 0) 7 (-1) else (fun _ _ => 0 : Nat → Int → Int) k
section QcInp
variable {l : Launch} {d : Nat} {E0 : m_E} {J : z_J} {X : z_X} {n bc bs : Nat}
set_option maxHeartbeats 1000000 in
set_option maxRecDepth 20000 in
theorem e_newInp (hn : E0.length = n) (hl : n + 14 < 1000) (hb : 1 ≤ bc) (hb2 : 1500 ≤ bs) : z_Sem l (d + 1) 44 [.inr (.inr (.ref n))] (E0 ++ [(.inl 3, [none, none, none, none, none, none, none, none])], z_row J n (fun _ => 0), (z_row X.1 n (fun _ => 0), m_rowX X.2 n (fun _ => 0))) bc bs (fun o S' => o = .inl none ∧ S'.1 = E0 ++ x_cInp2 n ∧ x_ctP n 2 J x_fInp S'.2.1) := by
  refine z_sem_of z_m44 m_ok_44 (Nat.le_of_ble_eq_true rfl) (fun Wp hs hv hS => ?_)
  have f0 : x_ctP n 1 J (fun _ _ => 0) (z_row J n (fun _ => 0)) := x_ctP.one
  generalize z_row J n (fun _ => 0) = J0 at f0 ⊢
  generalize ((z_row X.1 n (fun _ => 0), m_rowX X.2 n (fun _ => 0)) : z_X) = X0
  refine w_44i_0 hs ?_
  have h0 : (E0 ++ x_cInp0 n)[n]? = some (.inl 3, [none, none, none, none, none, none, none, none]) := (z_ag (k := 0) hn).trans rfl
  have l0 : (E0 ++ x_cInp0 n).length = n + 1 := z_al hn rfl
  refine w_44i_4 (E := E0 ++ x_cInp0 n) (th := n) h0 hs ⟨⟨by omega, by omega, by omega⟩, ?_⟩
  rw [l0]
  have f1 := f0.arr rfl
  generalize z_row J0 (n + 1) (fun _ => 0) = J1 at f1 ⊢
  generalize ((z_row X0.1 (n + 1) (fun _ => 0), m_rowX X0.2 (n + 1) (fun _ => 0)) : z_X) = X1
  refine z_wpS (Wp := Wp) (E' := E0 ++ x_cInp1 n) (J' := J1) (X' := X1) ?_ rfl rfl ?_
  · show ((E0 ++ x_cInp0 n) ++ _).set (n + 0) _ = _
    rw [z_as hn]; rfl
  have h1 : (E0 ++ x_cInp1 n)[n]? = some (.inl 3, [some (n + 1), none, none, none, none, none, none, none]) := (z_ag (k := 0) hn).trans rfl
  have l1 : (E0 ++ x_cInp1 n).length = n + 2 := z_al hn rfl
  refine w_44i_13 (E := E0 ++ x_cInp1 n) (th := n) h1 hs ?_
  have f2 := f1.put (k0 := 0) (i := 7) (v := -1) (by decide)
  rw [show n + 0 = n from rfl] at f2
  generalize z_u J1 n 7 (-1) = J2 at f2 ⊢
  refine z_wpS (Wp := Wp) (E' := E0 ++ x_cInp2 n) (J' := J2) (X' := X1) rfl rfl rfl ?_
  generalize X1 = X2
  exact w_44i_18 hs ⟨rfl, rfl, f2⟩
end QcInp
set_option maxRecDepth 20000 in
theorem w_86i_0 {l : Launch} {d : Nat} {Q : z_O → z_S → Prop} {Wp : Nat → z_C} {E : m_E} {J : z_J} {X : z_X} {bc bs : Nat} {th : Nat}  (hs : z_Cl l d m_me_86 Q Wp)
    (h : Wp 4 [some (.inr (.inr (.ref th)))] [] (E, J, X) bc bs) : Wp 0 [some (.inr (.inr (.ref th)))] [] (E, J, X) bc bs :=
  hs 400 [(4, 1), (12, 1), (20, 1), (28, 1), (36, 1), (44, 1)] [] 0 _ _ _ _ _ (⟨rfl, h⟩)
set_option maxRecDepth 20000 in
theorem w_86i_4 {l : Launch} {d : Nat} {Q : z_O → z_S → Prop} {Wp : Nat → z_C} {E : m_E} {J : z_J} {X : z_X} {bc bs : Nat} {th : Nat} {rs : List (Option Nat)} (hE : E[th]? = some (.inl 8, rs)) (hs : z_Cl l d m_me_86 Q Wp)
    (h : (E.length < 1000 ∧ 1 ≤ bc ∧ (40 : Int) ≤ (bs : Int)) ∧ Wp 12 [some (.inr (.inr (.ref th)))] [] ((E ++ [((.inr (.int, 40), []) : m_Sh × List (Option Nat))]).set th (.inl 8, rs.set 0 (some E.length)), z_row J E.length (fun _ => 0), (z_row X.1 E.length (fun _ => 0), m_rowX X.2 E.length (fun _ => 0))) (bc - 1) (bs - 40)) : Wp 4 [some (.inr (.inr (.ref th)))] [] (E, J, X) bc bs :=
  hs 400 [(4, 1), (12, 1), (20, 1), (28, 1), (36, 1), (44, 1)] [] 4 _ _ _ _ _ (⟨rfl, ⟨by decide, by decide, h.1.1, h.1.2.1, h.1.2.2⟩, ⟨_, z_apL hE, z_apT, h.2⟩⟩)
set_option maxRecDepth 20000 in
theorem w_86i_12 {l : Launch} {d : Nat} {Q : z_O → z_S → Prop} {Wp : Nat → z_C} {E : m_E} {J : z_J} {X : z_X} {bc bs : Nat} {th : Nat} {rs : List (Option Nat)} (hE : E[th]? = some (.inl 8, rs)) (hs : z_Cl l d m_me_86 Q Wp)
    (h : (E.length < 1000 ∧ 1 ≤ bc ∧ (40 : Int) ≤ (bs : Int)) ∧ Wp 20 [some (.inr (.inr (.ref th)))] [] ((E ++ [((.inr (.int, 40), []) : m_Sh × List (Option Nat))]).set th (.inl 8, rs.set 1 (some E.length)), z_row J E.length (fun _ => 0), (z_row X.1 E.length (fun _ => 0), m_rowX X.2 E.length (fun _ => 0))) (bc - 1) (bs - 40)) : Wp 12 [some (.inr (.inr (.ref th)))] [] (E, J, X) bc bs :=
  hs 400 [(4, 1), (12, 1), (20, 1), (28, 1), (36, 1), (44, 1)] [] 12 _ _ _ _ _ (⟨rfl, ⟨by decide, by decide, h.1.1, h.1.2.1, h.1.2.2⟩, ⟨_, z_apL hE, z_apT, h.2⟩⟩)
set_option maxRecDepth 20000 in
theorem w_86i_20 {l : Launch} {d : Nat} {Q : z_O → z_S → Prop} {Wp : Nat → z_C} {E : m_E} {J : z_J} {X : z_X} {bc bs : Nat} {th : Nat} {rs : List (Option Nat)} (hE : E[th]? = some (.inl 8, rs)) (hs : z_Cl l d m_me_86 Q Wp)
    (h : (E.length < 1000 ∧ 1 ≤ bc ∧ (40 : Int) ≤ (bs : Int)) ∧ Wp 28 [some (.inr (.inr (.ref th)))] [] ((E ++ [((.inr (.int, 40), []) : m_Sh × List (Option Nat))]).set th (.inl 8, rs.set 2 (some E.length)), z_row J E.length (fun _ => 0), (z_row X.1 E.length (fun _ => 0), m_rowX X.2 E.length (fun _ => 0))) (bc - 1) (bs - 40)) : Wp 20 [some (.inr (.inr (.ref th)))] [] (E, J, X) bc bs :=
  hs 400 [(4, 1), (12, 1), (20, 1), (28, 1), (36, 1), (44, 1)] [] 20 _ _ _ _ _ (⟨rfl, ⟨by decide, by decide, h.1.1, h.1.2.1, h.1.2.2⟩, ⟨_, z_apL hE, z_apT, h.2⟩⟩)
set_option maxRecDepth 20000 in
theorem w_86i_28 {l : Launch} {d : Nat} {Q : z_O → z_S → Prop} {Wp : Nat → z_C} {E : m_E} {J : z_J} {X : z_X} {bc bs : Nat} {th : Nat} {rs : List (Option Nat)} (hE : E[th]? = some (.inl 8, rs)) (hs : z_Cl l d m_me_86 Q Wp)
    (h : (E.length < 1000 ∧ 1 ≤ bc ∧ (40 : Int) ≤ (bs : Int)) ∧ Wp 36 [some (.inr (.inr (.ref th)))] [] ((E ++ [((.inr (.int, 40), []) : m_Sh × List (Option Nat))]).set th (.inl 8, rs.set 3 (some E.length)), z_row J E.length (fun _ => 0), (z_row X.1 E.length (fun _ => 0), m_rowX X.2 E.length (fun _ => 0))) (bc - 1) (bs - 40)) : Wp 28 [some (.inr (.inr (.ref th)))] [] (E, J, X) bc bs :=
  hs 400 [(4, 1), (12, 1), (20, 1), (28, 1), (36, 1), (44, 1)] [] 28 _ _ _ _ _ (⟨rfl, ⟨by decide, by decide, h.1.1, h.1.2.1, h.1.2.2⟩, ⟨_, z_apL hE, z_apT, h.2⟩⟩)
set_option maxRecDepth 20000 in
theorem w_86i_36 {l : Launch} {d : Nat} {Q : z_O → z_S → Prop} {Wp : Nat → z_C} {E : m_E} {J : z_J} {X : z_X} {bc bs : Nat} {th : Nat} {rs : List (Option Nat)} (hE : E[th]? = some (.inl 8, rs)) (hs : z_Cl l d m_me_86 Q Wp)
    (h : (E.length < 1000 ∧ 1 ≤ bc ∧ (40 : Int) ≤ (bs : Int)) ∧ Wp 44 [some (.inr (.inr (.ref th)))] [] ((E ++ [((.inr (.int, 40), []) : m_Sh × List (Option Nat))]).set th (.inl 8, rs.set 4 (some E.length)), z_row J E.length (fun _ => 0), (z_row X.1 E.length (fun _ => 0), m_rowX X.2 E.length (fun _ => 0))) (bc - 1) (bs - 40)) : Wp 36 [some (.inr (.inr (.ref th)))] [] (E, J, X) bc bs :=
  hs 400 [(4, 1), (12, 1), (20, 1), (28, 1), (36, 1), (44, 1)] [] 36 _ _ _ _ _ (⟨rfl, ⟨by decide, by decide, h.1.1, h.1.2.1, h.1.2.2⟩, ⟨_, z_apL hE, z_apT, h.2⟩⟩)
set_option maxRecDepth 20000 in
theorem w_86i_44 {l : Launch} {d : Nat} {Q : z_O → z_S → Prop} {Wp : Nat → z_C} {E : m_E} {J : z_J} {X : z_X} {bc bs : Nat} {th : Nat}  (hs : z_Cl l d m_me_86 Q Wp)
    (h : Q (.inl none) (E, J, X)) : Wp 44 [some (.inr (.inr (.ref th)))] [] (E, J, X) bc bs :=
  hs 400 [(4, 1), (12, 1), (20, 1), (28, 1), (36, 1), (44, 1)] [] 44 _ _ _ _ _ (h)
def x_cScr0 (b : Nat) : m_E := [(.inl 8, [none, none, none, none, none, none, none])]
def x_cScr1 (b : Nat) : m_E := [(.inl 8, [some (b + 1), none, none, none, none, none, none]), (.inr (.int, 40), [])]
def x_cScr2 (b : Nat) : m_E := [(.inl 8, [some (b + 1), some (b + 2), none, none, none, none, none]), (.inr (.int, 40), []), (.inr (.int, 40), [])]
def x_cScr3 (b : Nat) : m_E := [(.inl 8, [some (b + 1), some (b + 2), some (b + 3), none, none, none, none]), (.inr (.int, 40), []), (.inr (.int, 40), []), (.inr (.int, 40), [])]
def x_cScr4 (b : Nat) : m_E := [(.inl 8, [some (b + 1), some (b + 2), some (b + 3), some (b + 4), none, none, none]), (.inr (.int, 40), []), (.inr (.int, 40), []), (.inr (.int, 40), []), (.inr (.int, 40), [])]
def x_cScr5 (b : Nat) : m_E := [(.inl 8, [some (b + 1), some (b + 2), some (b + 3), some (b + 4), some (b + 5), none, none]), (.inr (.int, 40), []), (.inr (.int, 40), []), (.inr (.int, 40), []), (.inr (.int, 40), []), (.inr (.int, 40), [])]
def x_fScr : Nat → Int → Int := fun _ _ => 0
section QcScr
variable {l : Launch} {d : Nat} {E0 : m_E} {J : z_J} {X : z_X} {n bc bs : Nat}
set_option maxHeartbeats 1000000 in
set_option maxRecDepth 20000 in
theorem e_newScr (hn : E0.length = n) (hl : n + 18 < 1000) (hb : 5 ≤ bc) (hb2 : 200 ≤ bs) : z_Sem l (d + 1) 86 [.inr (.inr (.ref n))] (E0 ++ [(.inl 8, [none, none, none, none, none, none, none])], z_row J n (fun _ => 0), (z_row X.1 n (fun _ => 0), m_rowX X.2 n (fun _ => 0))) bc bs (fun o S' => o = .inl none ∧ S'.1 = E0 ++ x_cScr5 n ∧ x_ctP n 6 J x_fScr S'.2.1) := by
  refine z_sem_of z_m86 m_ok_86 (Nat.le_of_ble_eq_true rfl) (fun Wp hs hv hS => ?_)
  have f0 : x_ctP n 1 J (fun _ _ => 0) (z_row J n (fun _ => 0)) := x_ctP.one
  generalize z_row J n (fun _ => 0) = J0 at f0 ⊢
  generalize ((z_row X.1 n (fun _ => 0), m_rowX X.2 n (fun _ => 0)) : z_X) = X0
  refine w_86i_0 hs ?_
  have h0 : (E0 ++ x_cScr0 n)[n]? = some (.inl 8, [none, none, none, none, none, none, none]) := (z_ag (k := 0) hn).trans rfl
  have l0 : (E0 ++ x_cScr0 n).length = n + 1 := z_al hn rfl
  refine w_86i_4 (E := E0 ++ x_cScr0 n) (th := n) h0 hs ⟨⟨by omega, by omega, by omega⟩, ?_⟩
  rw [l0]
  have f1 := f0.arr rfl
  generalize z_row J0 (n + 1) (fun _ => 0) = J1 at f1 ⊢
  generalize ((z_row X0.1 (n + 1) (fun _ => 0), m_rowX X0.2 (n + 1) (fun _ => 0)) : z_X) = X1
  refine z_wpS (Wp := Wp) (E' := E0 ++ x_cScr1 n) (J' := J1) (X' := X1) ?_ rfl rfl ?_
  · show ((E0 ++ x_cScr0 n) ++ _).set (n + 0) _ = _
    rw [z_as hn]; rfl
  have h1 : (E0 ++ x_cScr1 n)[n]? = some (.inl 8, [some (n + 1), none, none, none, none, none, none]) := (z_ag (k := 0) hn).trans rfl
  have l1 : (E0 ++ x_cScr1 n).length = n + 2 := z_al hn rfl
  refine w_86i_12 (E := E0 ++ x_cScr1 n) (th := n) h1 hs ⟨⟨by omega, by omega, by omega⟩, ?_⟩
  rw [l1]
  have f2 := f1.arr rfl
  generalize z_row J1 (n + 2) (fun _ => 0) = J2 at f2 ⊢
  generalize ((z_row X1.1 (n + 2) (fun _ => 0), m_rowX X1.2 (n + 2) (fun _ => 0)) : z_X) = X2
  refine z_wpS (Wp := Wp) (E' := E0 ++ x_cScr2 n) (J' := J2) (X' := X2) ?_ rfl rfl ?_
  · show ((E0 ++ x_cScr1 n) ++ _).set (n + 0) _ = _
    rw [z_as hn]; rfl
  have h2 : (E0 ++ x_cScr2 n)[n]? = some (.inl 8, [some (n + 1), some (n + 2), none, none, none, none, none]) := (z_ag (k := 0) hn).trans rfl
  have l2 : (E0 ++ x_cScr2 n).length = n + 3 := z_al hn rfl
  refine w_86i_20 (E := E0 ++ x_cScr2 n) (th := n) h2 hs ⟨⟨by omega, by omega, by omega⟩, ?_⟩
  rw [l2]
  have f3 := f2.arr rfl
  generalize z_row J2 (n + 3) (fun _ => 0) = J3 at f3 ⊢
  generalize ((z_row X2.1 (n + 3) (fun _ => 0), m_rowX X2.2 (n + 3) (fun _ => 0)) : z_X) = X3
  refine z_wpS (Wp := Wp) (E' := E0 ++ x_cScr3 n) (J' := J3) (X' := X3) ?_ rfl rfl ?_
  · show ((E0 ++ x_cScr2 n) ++ _).set (n + 0) _ = _
    rw [z_as hn]; rfl
  have h3 : (E0 ++ x_cScr3 n)[n]? = some (.inl 8, [some (n + 1), some (n + 2), some (n + 3), none, none, none, none]) := (z_ag (k := 0) hn).trans rfl
  have l3 : (E0 ++ x_cScr3 n).length = n + 4 := z_al hn rfl
  refine w_86i_28 (E := E0 ++ x_cScr3 n) (th := n) h3 hs ⟨⟨by omega, by omega, by omega⟩, ?_⟩
  rw [l3]
  have f4 := f3.arr rfl
  generalize z_row J3 (n + 4) (fun _ => 0) = J4 at f4 ⊢
  generalize ((z_row X3.1 (n + 4) (fun _ => 0), m_rowX X3.2 (n + 4) (fun _ => 0)) : z_X) = X4
  refine z_wpS (Wp := Wp) (E' := E0 ++ x_cScr4 n) (J' := J4) (X' := X4) ?_ rfl rfl ?_
  · show ((E0 ++ x_cScr3 n) ++ _).set (n + 0) _ = _
    rw [z_as hn]; rfl
  have h4 : (E0 ++ x_cScr4 n)[n]? = some (.inl 8, [some (n + 1), some (n + 2), some (n + 3), some (n + 4), none, none, none]) := (z_ag (k := 0) hn).trans rfl
  have l4 : (E0 ++ x_cScr4 n).length = n + 5 := z_al hn rfl
  refine w_86i_36 (E := E0 ++ x_cScr4 n) (th := n) h4 hs ⟨⟨by omega, by omega, by omega⟩, ?_⟩
  rw [l4]
  have f5 := f4.arr rfl
  generalize z_row J4 (n + 5) (fun _ => 0) = J5 at f5 ⊢
  generalize ((z_row X4.1 (n + 5) (fun _ => 0), m_rowX X4.2 (n + 5) (fun _ => 0)) : z_X) = X5
  refine z_wpS (Wp := Wp) (E' := E0 ++ x_cScr5 n) (J' := J5) (X' := X5) ?_ rfl rfl ?_
  · show ((E0 ++ x_cScr4 n) ++ _).set (n + 0) _ = _
    rw [z_as hn]; rfl
  exact w_86i_44 hs ⟨rfl, rfl, f5⟩
end QcScr
set_option maxRecDepth 20000 in
theorem w_19i_0 {l : Launch} {d : Nat} {Q : z_O → z_S → Prop} {Wp : Nat → z_C} {E : m_E} {J : z_J} {X : z_X} {bc bs : Nat} {th : Nat}  (hs : z_Cl l d m_me_19 Q Wp)
    (h : Wp 4 [some (.inr (.inr (.ref th)))] [] (E, J, X) bc bs) : Wp 0 [some (.inr (.inr (.ref th)))] [] (E, J, X) bc bs :=
  hs 400 [(4, 1), (13, 1), (22, 1)] [] 0 _ _ _ _ _ (⟨rfl, h⟩)
set_option maxRecDepth 20000 in
theorem w_19i_4 {l : Launch} {d : Nat} {Q : z_O → z_S → Prop} {Wp : Nat → z_C} {E : m_E} {J : z_J} {X : z_X} {bc bs : Nat} {th : Nat} {rs : List (Option Nat)} (hE : E[th]? = some (.inl 1, rs)) (hs : z_Cl l d m_me_19 Q Wp)
    (h : (E.length < 1000 ∧ 1 ≤ bc ∧ (144 : Int) ≤ (bs : Int)) ∧ Wp 13 [some (.inr (.inr (.ref th)))] [] ((E ++ [((.inr (.int, 144), []) : m_Sh × List (Option Nat))]).set th (.inl 1, rs.set 0 (some E.length)), z_row J E.length (fun _ => 0), (z_row X.1 E.length (fun _ => 0), m_rowX X.2 E.length (fun _ => 0))) (bc - 1) (bs - 144)) : Wp 4 [some (.inr (.inr (.ref th)))] [] (E, J, X) bc bs :=
  hs 400 [(4, 1), (13, 1), (22, 1)] [] 4 _ _ _ _ _ (⟨rfl, ⟨by decide, by decide, h.1.1, h.1.2.1, h.1.2.2⟩, ⟨_, z_apL hE, z_apT, h.2⟩⟩)
set_option maxRecDepth 20000 in
theorem w_19i_13 {l : Launch} {d : Nat} {Q : z_O → z_S → Prop} {Wp : Nat → z_C} {E : m_E} {J : z_J} {X : z_X} {bc bs : Nat} {th : Nat} {rs : List (Option Nat)} (hE : E[th]? = some (.inl 1, rs)) (hs : z_Cl l d m_me_19 Q Wp)
    (h : (E.length < 1000 ∧ 1 ≤ bc ∧ (168 : Int) ≤ (bs : Int)) ∧ Wp 22 [some (.inr (.inr (.ref th)))] [] ((E ++ [((.inr (.boolean, 168), []) : m_Sh × List (Option Nat))]).set th (.inl 1, rs.set 1 (some E.length)), z_row J E.length (fun _ => 0), (z_row X.1 E.length (fun _ => 0), m_rowX X.2 E.length (fun _ => 0))) (bc - 1) (bs - 168)) : Wp 13 [some (.inr (.inr (.ref th)))] [] (E, J, X) bc bs :=
  hs 400 [(4, 1), (13, 1), (22, 1)] [] 13 _ _ _ _ _ (⟨rfl, ⟨by decide, by decide, h.1.1, h.1.2.1, h.1.2.2⟩, ⟨_, z_apL hE, z_apT, h.2⟩⟩)
set_option maxRecDepth 20000 in
theorem w_19i_22 {l : Launch} {d : Nat} {Q : z_O → z_S → Prop} {Wp : Nat → z_C} {E : m_E} {J : z_J} {X : z_X} {bc bs : Nat} {th : Nat}  (hs : z_Cl l d m_me_19 Q Wp)
    (h : Q (.inl none) (E, J, X)) : Wp 22 [some (.inr (.inr (.ref th)))] [] (E, J, X) bc bs :=
  hs 400 [(4, 1), (13, 1), (22, 1)] [] 22 _ _ _ _ _ (h)
def x_cDsk0 (b : Nat) : m_E := [(.inl 1, [none, none])]
def x_cDsk1 (b : Nat) : m_E := [(.inl 1, [some (b + 1), none]), (.inr (.int, 144), [])]
def x_cDsk2 (b : Nat) : m_E := [(.inl 1, [some (b + 1), some (b + 2)]), (.inr (.int, 144), []), (.inr (.boolean, 168), [])]
def x_fDsk : Nat → Int → Int := fun _ _ => 0
section QcDsk
variable {l : Launch} {d : Nat} {E0 : m_E} {J : z_J} {X : z_X} {n bc bs : Nat}
set_option maxHeartbeats 1000000 in
set_option maxRecDepth 20000 in
theorem e_newDsk (hn : E0.length = n) (hl : n + 15 < 1000) (hb : 2 ≤ bc) (hb2 : 312 ≤ bs) : z_Sem l (d + 1) 19 [.inr (.inr (.ref n))] (E0 ++ [(.inl 1, [none, none])], z_row J n (fun _ => 0), (z_row X.1 n (fun _ => 0), m_rowX X.2 n (fun _ => 0))) bc bs (fun o S' => o = .inl none ∧ S'.1 = E0 ++ x_cDsk2 n ∧ x_ctP n 3 J x_fDsk S'.2.1) := by
  refine z_sem_of z_m19 m_ok_19 (Nat.le_of_ble_eq_true rfl) (fun Wp hs hv hS => ?_)
  have f0 : x_ctP n 1 J (fun _ _ => 0) (z_row J n (fun _ => 0)) := x_ctP.one
  generalize z_row J n (fun _ => 0) = J0 at f0 ⊢
  generalize ((z_row X.1 n (fun _ => 0), m_rowX X.2 n (fun _ => 0)) : z_X) = X0
  refine w_19i_0 hs ?_
  have h0 : (E0 ++ x_cDsk0 n)[n]? = some (.inl 1, [none, none]) := (z_ag (k := 0) hn).trans rfl
  have l0 : (E0 ++ x_cDsk0 n).length = n + 1 := z_al hn rfl
  refine w_19i_4 (E := E0 ++ x_cDsk0 n) (th := n) h0 hs ⟨⟨by omega, by omega, by omega⟩, ?_⟩
  rw [l0]
  have f1 := f0.arr rfl
  generalize z_row J0 (n + 1) (fun _ => 0) = J1 at f1 ⊢
  generalize ((z_row X0.1 (n + 1) (fun _ => 0), m_rowX X0.2 (n + 1) (fun _ => 0)) : z_X) = X1
  refine z_wpS (Wp := Wp) (E' := E0 ++ x_cDsk1 n) (J' := J1) (X' := X1) ?_ rfl rfl ?_
  · show ((E0 ++ x_cDsk0 n) ++ _).set (n + 0) _ = _
    rw [z_as hn]; rfl
  have h1 : (E0 ++ x_cDsk1 n)[n]? = some (.inl 1, [some (n + 1), none]) := (z_ag (k := 0) hn).trans rfl
  have l1 : (E0 ++ x_cDsk1 n).length = n + 2 := z_al hn rfl
  refine w_19i_13 (E := E0 ++ x_cDsk1 n) (th := n) h1 hs ⟨⟨by omega, by omega, by omega⟩, ?_⟩
  rw [l1]
  have f2 := f1.arr rfl
  generalize z_row J1 (n + 2) (fun _ => 0) = J2 at f2 ⊢
  generalize ((z_row X1.1 (n + 2) (fun _ => 0), m_rowX X1.2 (n + 2) (fun _ => 0)) : z_X) = X2
  refine z_wpS (Wp := Wp) (E' := E0 ++ x_cDsk2 n) (J' := J2) (X' := X2) ?_ rfl rfl ?_
  · show ((E0 ++ x_cDsk1 n) ++ _).set (n + 0) _ = _
    rw [z_as hn]; rfl
  exact w_19i_22 hs ⟨rfl, rfl, f2⟩
end QcDsk
set_option maxRecDepth 20000 in
theorem w_70i_0 {l : Launch} {d : Nat} {Q : z_O → z_S → Prop} {Wp : Nat → z_C} {E : m_E} {J : z_J} {X : z_X} {bc bs : Nat} {th : Nat}  (hs : z_Cl l d m_me_70 Q Wp)
    (h : Wp 4 [some (.inr (.inr (.ref th)))] [] (E, J, X) bc bs) : Wp 0 [some (.inr (.inr (.ref th)))] [] (E, J, X) bc bs :=
  hs 400 [(4, 1), (13, 1), (22, 1), (35, 1), (42, 1), (49, 1), (57, 1), (66, 1), (75, 1)] [] 0 _ _ _ _ _ (⟨rfl, h⟩)
set_option maxRecDepth 20000 in
theorem w_70i_4 {l : Launch} {d : Nat} {Q : z_O → z_S → Prop} {Wp : Nat → z_C} {E : m_E} {J : z_J} {X : z_X} {bc bs : Nat} {th : Nat} {rs : List (Option Nat)} (hE : E[th]? = some (.inl 6, rs)) (hs : z_Cl l d m_me_70 Q Wp)
    (h : (E.length < 1000 ∧ 1 ≤ bc ∧ (144 : Int) ≤ (bs : Int)) ∧ Wp 13 [some (.inr (.inr (.ref th)))] [] ((E ++ [((.inr (.int, 144), []) : m_Sh × List (Option Nat))]).set th (.inl 6, rs.set 0 (some E.length)), z_row J E.length (fun _ => 0), (z_row X.1 E.length (fun _ => 0), m_rowX X.2 E.length (fun _ => 0))) (bc - 1) (bs - 144)) : Wp 4 [some (.inr (.inr (.ref th)))] [] (E, J, X) bc bs :=
  hs 400 [(4, 1), (13, 1), (22, 1), (35, 1), (42, 1), (49, 1), (57, 1), (66, 1), (75, 1)] [] 4 _ _ _ _ _ (⟨rfl, ⟨by decide, by decide, h.1.1, h.1.2.1, h.1.2.2⟩, ⟨_, z_apL hE, z_apT, h.2⟩⟩)
set_option maxRecDepth 20000 in
theorem w_70i_13 {l : Launch} {d : Nat} {Q : z_O → z_S → Prop} {Wp : Nat → z_C} {E : m_E} {J : z_J} {X : z_X} {bc bs : Nat} {th : Nat} {rs : List (Option Nat)} (hE : E[th]? = some (.inl 6, rs)) (hs : z_Cl l d m_me_70 Q Wp)
    (h : (E.length < 1000 ∧ 1 ≤ bc ∧ (168 : Int) ≤ (bs : Int)) ∧ Wp 22 [some (.inr (.inr (.ref th)))] [] ((E ++ [((.inr (.boolean, 168), []) : m_Sh × List (Option Nat))]).set th (.inl 6, rs.set 1 (some E.length)), z_row J E.length (fun _ => 0), (z_row X.1 E.length (fun _ => 0), m_rowX X.2 E.length (fun _ => 0))) (bc - 1) (bs - 168)) : Wp 13 [some (.inr (.inr (.ref th)))] [] (E, J, X) bc bs :=
  hs 400 [(4, 1), (13, 1), (22, 1), (35, 1), (42, 1), (49, 1), (57, 1), (66, 1), (75, 1)] [] 13 _ _ _ _ _ (⟨rfl, ⟨by decide, by decide, h.1.1, h.1.2.1, h.1.2.2⟩, ⟨_, z_apL hE, z_apT, h.2⟩⟩)
set_option maxRecDepth 20000 in
theorem w_70i_22 {l : Launch} {d : Nat} {Q : z_O → z_S → Prop} {Wp : Nat → z_C} {E : m_E} {J : z_J} {X : z_X} {bc bs : Nat} {th : Nat} {rs : List (Option Nat)} (hE : E[th]? = some (.inl 6, rs)) (hs : z_Cl l d m_me_70 Q Wp)
    (h : (E.length < 1000 ∧ (9 : Int) ≤ (bc : Int) ∧ (1160 : Int) ≤ (bs : Int)) ∧ Wp 35 [some (.inr (.inr (.ref th)))] [] ((E ++ (.inr (.array .int, 8), (List.range 8).map (fun i => some (E.length + 1 + i))) :: List.replicate 8 (.inr (.int, 144), []) : m_E).set th (.inl 6, rs.set 2 (some E.length)), z_zeros J E.length 9, (z_zeros X.1 E.length 9, fun b => if E.length ≤ b ∧ b < E.length + 9 then (fun _ => 0) else X.2 b)) (bc - 9) (bs - 1160)) : Wp 22 [some (.inr (.inr (.ref th)))] [] (E, J, X) bc bs :=
  hs 400 [(4, 1), (13, 1), (22, 1), (35, 1), (42, 1), (49, 1), (57, 1), (66, 1), (75, 1)] [] 22 _ _ _ _ _ (⟨rfl, rfl, ⟨by decide, by decide, by decide, by decide, h.1.1, h.1.2.1, h.1.2.2⟩, ⟨_, z_apL2 hE, z_apT2, h.2⟩⟩)
set_option maxRecDepth 20000 in
theorem w_70i_35 {l : Launch} {d : Nat} {Q : z_O → z_S → Prop} {Wp : Nat → z_C} {E : m_E} {J : z_J} {X : z_X} {bc bs : Nat} {th : Nat} {rs : List (Option Nat)} (hE : E[th]? = some (.inl 6, rs)) (hs : z_Cl l d m_me_70 Q Wp)
    (h : (E.length < 1000 ∧ 1 ≤ bc ∧ (5 : Int) ≤ (bs : Int)) ∧ Wp 42 [some (.inr (.inr (.ref th)))] [] ((E ++ [((.inr (.int, 5), []) : m_Sh × List (Option Nat))]).set th (.inl 6, rs.set 3 (some E.length)), z_row J E.length (fun _ => 0), (z_row X.1 E.length (fun _ => 0), m_rowX X.2 E.length (fun _ => 0))) (bc - 1) (bs - 5)) : Wp 35 [some (.inr (.inr (.ref th)))] [] (E, J, X) bc bs :=
  hs 400 [(4, 1), (13, 1), (22, 1), (35, 1), (42, 1), (49, 1), (57, 1), (66, 1), (75, 1)] [] 35 _ _ _ _ _ (⟨rfl, ⟨by decide, by decide, h.1.1, h.1.2.1, h.1.2.2⟩, ⟨_, z_apL hE, z_apT, h.2⟩⟩)
set_option maxRecDepth 20000 in
theorem w_70i_42 {l : Launch} {d : Nat} {Q : z_O → z_S → Prop} {Wp : Nat → z_C} {E : m_E} {J : z_J} {X : z_X} {bc bs : Nat} {th : Nat} {rs : List (Option Nat)} (hE : E[th]? = some (.inl 6, rs)) (hs : z_Cl l d m_me_70 Q Wp)
    (h : (E.length < 1000 ∧ 1 ≤ bc ∧ (5 : Int) ≤ (bs : Int)) ∧ Wp 49 [some (.inr (.inr (.ref th)))] [] ((E ++ [((.inr (.int, 5), []) : m_Sh × List (Option Nat))]).set th (.inl 6, rs.set 4 (some E.length)), z_row J E.length (fun _ => 0), (z_row X.1 E.length (fun _ => 0), m_rowX X.2 E.length (fun _ => 0))) (bc - 1) (bs - 5)) : Wp 42 [some (.inr (.inr (.ref th)))] [] (E, J, X) bc bs :=
  hs 400 [(4, 1), (13, 1), (22, 1), (35, 1), (42, 1), (49, 1), (57, 1), (66, 1), (75, 1)] [] 42 _ _ _ _ _ (⟨rfl, ⟨by decide, by decide, h.1.1, h.1.2.1, h.1.2.2⟩, ⟨_, z_apL hE, z_apT, h.2⟩⟩)
set_option maxRecDepth 20000 in
theorem w_70i_49 {l : Launch} {d : Nat} {Q : z_O → z_S → Prop} {Wp : Nat → z_C} {E : m_E} {J : z_J} {X : z_X} {bc bs : Nat} {th : Nat} {rs : List (Option Nat)} (hE : E[th]? = some (.inl 6, rs)) (hs : z_Cl l d m_me_70 Q Wp)
    (h : (E.length < 1000 ∧ 1 ≤ bc ∧ (8 : Int) ≤ (bs : Int)) ∧ Wp 57 [some (.inr (.inr (.ref th)))] [] ((E ++ [((.inr (.int, 8), []) : m_Sh × List (Option Nat))]).set th (.inl 6, rs.set 6 (some E.length)), z_row J E.length (fun _ => 0), (z_row X.1 E.length (fun _ => 0), m_rowX X.2 E.length (fun _ => 0))) (bc - 1) (bs - 8)) : Wp 49 [some (.inr (.inr (.ref th)))] [] (E, J, X) bc bs :=
  hs 400 [(4, 1), (13, 1), (22, 1), (35, 1), (42, 1), (49, 1), (57, 1), (66, 1), (75, 1)] [] 49 _ _ _ _ _ (⟨rfl, ⟨by decide, by decide, h.1.1, h.1.2.1, h.1.2.2⟩, ⟨_, z_apL hE, z_apT, h.2⟩⟩)
set_option maxRecDepth 20000 in
theorem w_70i_57 {l : Launch} {d : Nat} {Q : z_O → z_S → Prop} {Wp : Nat → z_C} {E : m_E} {J : z_J} {X : z_X} {bc bs : Nat} {th : Nat} {rs : List (Option Nat)} (hE : E[th]? = some (.inl 6, rs)) (hs : z_Cl l d m_me_70 Q Wp)
    (h : (E.length < 1000 ∧ 1 ≤ bc ∧ (256 : Int) ≤ (bs : Int)) ∧ Wp 66 [some (.inr (.inr (.ref th)))] [] ((E ++ [((.inr (.int, 256), []) : m_Sh × List (Option Nat))]).set th (.inl 6, rs.set 7 (some E.length)), z_row J E.length (fun _ => 0), (z_row X.1 E.length (fun _ => 0), m_rowX X.2 E.length (fun _ => 0))) (bc - 1) (bs - 256)) : Wp 57 [some (.inr (.inr (.ref th)))] [] (E, J, X) bc bs :=
  hs 400 [(4, 1), (13, 1), (22, 1), (35, 1), (42, 1), (49, 1), (57, 1), (66, 1), (75, 1)] [] 57 _ _ _ _ _ (⟨rfl, ⟨by decide, by decide, h.1.1, h.1.2.1, h.1.2.2⟩, ⟨_, z_apL hE, z_apT, h.2⟩⟩)
set_option maxRecDepth 20000 in
theorem w_70i_66 {l : Launch} {d : Nat} {Q : z_O → z_S → Prop} {Wp : Nat → z_C} {E : m_E} {J : z_J} {X : z_X} {bc bs : Nat} {th : Nat} {rs : List (Option Nat)} (hE : E[th]? = some (.inl 6, rs)) (hs : z_Cl l d m_me_70 Q Wp)
    (h : (E.length < 1000 ∧ 1 ≤ bc ∧ (256 : Int) ≤ (bs : Int)) ∧ Wp 75 [some (.inr (.inr (.ref th)))] [] ((E ++ [((.inr (.boolean, 256), []) : m_Sh × List (Option Nat))]).set th (.inl 6, rs.set 8 (some E.length)), z_row J E.length (fun _ => 0), (z_row X.1 E.length (fun _ => 0), m_rowX X.2 E.length (fun _ => 0))) (bc - 1) (bs - 256)) : Wp 66 [some (.inr (.inr (.ref th)))] [] (E, J, X) bc bs :=
  hs 400 [(4, 1), (13, 1), (22, 1), (35, 1), (42, 1), (49, 1), (57, 1), (66, 1), (75, 1)] [] 66 _ _ _ _ _ (⟨rfl, ⟨by decide, by decide, h.1.1, h.1.2.1, h.1.2.2⟩, ⟨_, z_apL hE, z_apT, h.2⟩⟩)
set_option maxRecDepth 20000 in
theorem w_70i_75 {l : Launch} {d : Nat} {Q : z_O → z_S → Prop} {Wp : Nat → z_C} {E : m_E} {J : z_J} {X : z_X} {bc bs : Nat} {th : Nat}  (hs : z_Cl l d m_me_70 Q Wp)
    (h : Q (.inl none) (E, J, X)) : Wp 75 [some (.inr (.inr (.ref th)))] [] (E, J, X) bc bs :=
  hs 400 [(4, 1), (13, 1), (22, 1), (35, 1), (42, 1), (49, 1), (57, 1), (66, 1), (75, 1)] [] 75 _ _ _ _ _ (h)
def x_cPln0 (b : Nat) : m_E := [(.inl 6, [none, none, none, none, none, none, none, none, none])]
def x_cPln1 (b : Nat) : m_E := [(.inl 6, [some (b + 1), none, none, none, none, none, none, none, none]), (.inr (.int, 144), [])]
def x_cPln2 (b : Nat) : m_E := [(.inl 6, [some (b + 1), some (b + 2), none, none, none, none, none, none, none]), (.inr (.int, 144), []), (.inr (.boolean, 168), [])]
def x_cPln3 (b : Nat) : m_E := [(.inl 6, [some (b + 1), some (b + 2), some (b + 3), none, none, none, none, none, none]), (.inr (.int, 144), []), (.inr (.boolean, 168), []), (.inr ((.array .int), 8), [some (b + 4), some (b + 5), some (b + 6), some (b + 7), some (b + 8), some (b + 9), some (b + 10), some (b + 11)]), (.inr (.int, 144), []), (.inr (.int, 144), []), (.inr (.int, 144), []), (.inr (.int, 144), []), (.inr (.int, 144), []), (.inr (.int, 144), []), (.inr (.int, 144), []), (.inr (.int, 144), [])]
def x_cPln4 (b : Nat) : m_E := [(.inl 6, [some (b + 1), some (b + 2), some (b + 3), some (b + 12), none, none, none, none, none]), (.inr (.int, 144), []), (.inr (.boolean, 168), []), (.inr ((.array .int), 8), [some (b + 4), some (b + 5), some (b + 6), some (b + 7), some (b + 8), some (b + 9), some (b + 10), some (b + 11)]), (.inr (.int, 144), []), (.inr (.int, 144), []), (.inr (.int, 144), []), (.inr (.int, 144), []), (.inr (.int, 144), []), (.inr (.int, 144), []), (.inr (.int, 144), []), (.inr (.int, 144), []), (.inr (.int, 5), [])]
def x_cPln5 (b : Nat) : m_E := [(.inl 6, [some (b + 1), some (b + 2), some (b + 3), some (b + 12), some (b + 13), none, none, none, none]), (.inr (.int, 144), []), (.inr (.boolean, 168), []), (.inr ((.array .int), 8), [some (b + 4), some (b + 5), some (b + 6), some (b + 7), some (b + 8), some (b + 9), some (b + 10), some (b + 11)]), (.inr (.int, 144), []), (.inr (.int, 144), []), (.inr (.int, 144), []), (.inr (.int, 144), []), (.inr (.int, 144), []), (.inr (.int, 144), []), (.inr (.int, 144), []), (.inr (.int, 144), []), (.inr (.int, 5), []), (.inr (.int, 5), [])]
def x_cPln6 (b : Nat) : m_E := [(.inl 6, [some (b + 1), some (b + 2), some (b + 3), some (b + 12), some (b + 13), none, some (b + 14), none, none]), (.inr (.int, 144), []), (.inr (.boolean, 168), []), (.inr ((.array .int), 8), [some (b + 4), some (b + 5), some (b + 6), some (b + 7), some (b + 8), some (b + 9), some (b + 10), some (b + 11)]), (.inr (.int, 144), []), (.inr (.int, 144), []), (.inr (.int, 144), []), (.inr (.int, 144), []), (.inr (.int, 144), []), (.inr (.int, 144), []), (.inr (.int, 144), []), (.inr (.int, 144), []), (.inr (.int, 5), []), (.inr (.int, 5), []), (.inr (.int, 8), [])]
def x_cPln7 (b : Nat) : m_E := [(.inl 6, [some (b + 1), some (b + 2), some (b + 3), some (b + 12), some (b + 13), none, some (b + 14), some (b + 15), none]), (.inr (.int, 144), []), (.inr (.boolean, 168), []), (.inr ((.array .int), 8), [some (b + 4), some (b + 5), some (b + 6), some (b + 7), some (b + 8), some (b + 9), some (b + 10), some (b + 11)]), (.inr (.int, 144), []), (.inr (.int, 144), []), (.inr (.int, 144), []), (.inr (.int, 144), []), (.inr (.int, 144), []), (.inr (.int, 144), []), (.inr (.int, 144), []), (.inr (.int, 144), []), (.inr (.int, 5), []), (.inr (.int, 5), []), (.inr (.int, 8), []), (.inr (.int, 256), [])]
def x_cPln8 (b : Nat) : m_E := [(.inl 6, [some (b + 1), some (b + 2), some (b + 3), some (b + 12), some (b + 13), none, some (b + 14), some (b + 15), some (b + 16)]), (.inr (.int, 144), []), (.inr (.boolean, 168), []), (.inr ((.array .int), 8), [some (b + 4), some (b + 5), some (b + 6), some (b + 7), some (b + 8), some (b + 9), some (b + 10), some (b + 11)]), (.inr (.int, 144), []), (.inr (.int, 144), []), (.inr (.int, 144), []), (.inr (.int, 144), []), (.inr (.int, 144), []), (.inr (.int, 144), []), (.inr (.int, 144), []), (.inr (.int, 144), []), (.inr (.int, 5), []), (.inr (.int, 5), []), (.inr (.int, 8), []), (.inr (.int, 256), []), (.inr (.boolean, 256), [])]
def x_fPln : Nat → Int → Int := fun _ _ => 0
section QcPln
variable {l : Launch} {d : Nat} {E0 : m_E} {J : z_J} {X : z_X} {n bc bs : Nat}
set_option maxHeartbeats 1000000 in
set_option maxRecDepth 20000 in
theorem e_newPln (hn : E0.length = n) (hl : n + 29 < 1000) (hb : 16 ≤ bc) (hb2 : 2002 ≤ bs) : z_Sem l (d + 1) 70 [.inr (.inr (.ref n))] (E0 ++ [(.inl 6, [none, none, none, none, none, none, none, none, none])], z_row J n (fun _ => 0), (z_row X.1 n (fun _ => 0), m_rowX X.2 n (fun _ => 0))) bc bs (fun o S' => o = .inl none ∧ S'.1 = E0 ++ x_cPln8 n ∧ x_ctP n 17 J x_fPln S'.2.1) := by
  refine z_sem_of z_m70 m_ok_70 (Nat.le_of_ble_eq_true rfl) (fun Wp hs hv hS => ?_)
  have f0 : x_ctP n 1 J (fun _ _ => 0) (z_row J n (fun _ => 0)) := x_ctP.one
  generalize z_row J n (fun _ => 0) = J0 at f0 ⊢
  generalize ((z_row X.1 n (fun _ => 0), m_rowX X.2 n (fun _ => 0)) : z_X) = X0
  refine w_70i_0 hs ?_
  have h0 : (E0 ++ x_cPln0 n)[n]? = some (.inl 6, [none, none, none, none, none, none, none, none, none]) := (z_ag (k := 0) hn).trans rfl
  have l0 : (E0 ++ x_cPln0 n).length = n + 1 := z_al hn rfl
  refine w_70i_4 (E := E0 ++ x_cPln0 n) (th := n) h0 hs ⟨⟨by omega, by omega, by omega⟩, ?_⟩
  rw [l0]
  have f1 := f0.arr rfl
  generalize z_row J0 (n + 1) (fun _ => 0) = J1 at f1 ⊢
  generalize ((z_row X0.1 (n + 1) (fun _ => 0), m_rowX X0.2 (n + 1) (fun _ => 0)) : z_X) = X1
  refine z_wpS (Wp := Wp) (E' := E0 ++ x_cPln1 n) (J' := J1) (X' := X1) ?_ rfl rfl ?_
  · show ((E0 ++ x_cPln0 n) ++ _).set (n + 0) _ = _
    rw [z_as hn]; rfl
  have h1 : (E0 ++ x_cPln1 n)[n]? = some (.inl 6, [some (n + 1), none, none, none, none, none, none, none, none]) := (z_ag (k := 0) hn).trans rfl
  have l1 : (E0 ++ x_cPln1 n).length = n + 2 := z_al hn rfl
  refine w_70i_13 (E := E0 ++ x_cPln1 n) (th := n) h1 hs ⟨⟨by omega, by omega, by omega⟩, ?_⟩
  rw [l1]
  have f2 := f1.arr rfl
  generalize z_row J1 (n + 2) (fun _ => 0) = J2 at f2 ⊢
  generalize ((z_row X1.1 (n + 2) (fun _ => 0), m_rowX X1.2 (n + 2) (fun _ => 0)) : z_X) = X2
  refine z_wpS (Wp := Wp) (E' := E0 ++ x_cPln2 n) (J' := J2) (X' := X2) ?_ rfl rfl ?_
  · show ((E0 ++ x_cPln1 n) ++ _).set (n + 0) _ = _
    rw [z_as hn]; rfl
  have h2 : (E0 ++ x_cPln2 n)[n]? = some (.inl 6, [some (n + 1), some (n + 2), none, none, none, none, none, none, none]) := (z_ag (k := 0) hn).trans rfl
  have l2 : (E0 ++ x_cPln2 n).length = n + 3 := z_al hn rfl
  refine w_70i_22 (E := E0 ++ x_cPln2 n) (th := n) h2 hs ⟨⟨by omega, by omega, by omega⟩, ?_⟩
  rw [l2]
  have f3 := f2.arrs (c := 9) (fun _ _ => rfl)
  generalize z_zeros J2 (n + 3) 9 = J3 at f3 ⊢
  generalize ((z_zeros X2.1 (n + 3) 9, fun b => if n + 3 ≤ b ∧ b < n + 3 + 9 then (fun _ => 0) else X2.2 b) : z_X) = X3
  refine z_wpS (Wp := Wp) (E' := E0 ++ x_cPln3 n) (J' := J3) (X' := X3) ?_ rfl rfl ?_
  · show ((E0 ++ x_cPln2 n) ++ _).set (n + 0) _ = _
    rw [z_as hn]; rfl
  have h3 : (E0 ++ x_cPln3 n)[n]? = some (.inl 6, [some (n + 1), some (n + 2), some (n + 3), none, none, none, none, none, none]) := (z_ag (k := 0) hn).trans rfl
  have l3 : (E0 ++ x_cPln3 n).length = n + 12 := z_al hn rfl
  refine w_70i_35 (E := E0 ++ x_cPln3 n) (th := n) h3 hs ⟨⟨by omega, by omega, by omega⟩, ?_⟩
  rw [l3]
  have f4 := f3.arr rfl
  generalize z_row J3 (n + 12) (fun _ => 0) = J4 at f4 ⊢
  generalize ((z_row X3.1 (n + 12) (fun _ => 0), m_rowX X3.2 (n + 12) (fun _ => 0)) : z_X) = X4
  refine z_wpS (Wp := Wp) (E' := E0 ++ x_cPln4 n) (J' := J4) (X' := X4) ?_ rfl rfl ?_
  · show ((E0 ++ x_cPln3 n) ++ _).set (n + 0) _ = _
    rw [z_as hn]; rfl
  have h4 : (E0 ++ x_cPln4 n)[n]? = some (.inl 6, [some (n + 1), some (n + 2), some (n + 3), some (n + 12), none, none, none, none, none]) := (z_ag (k := 0) hn).trans rfl
  have l4 : (E0 ++ x_cPln4 n).length = n + 13 := z_al hn rfl
  refine w_70i_42 (E := E0 ++ x_cPln4 n) (th := n) h4 hs ⟨⟨by omega, by omega, by omega⟩, ?_⟩
  rw [l4]
  have f5 := f4.arr rfl
  generalize z_row J4 (n + 13) (fun _ => 0) = J5 at f5 ⊢
  generalize ((z_row X4.1 (n + 13) (fun _ => 0), m_rowX X4.2 (n + 13) (fun _ => 0)) : z_X) = X5
  refine z_wpS (Wp := Wp) (E' := E0 ++ x_cPln5 n) (J' := J5) (X' := X5) ?_ rfl rfl ?_
  · show ((E0 ++ x_cPln4 n) ++ _).set (n + 0) _ = _
    rw [z_as hn]; rfl
  have h5 : (E0 ++ x_cPln5 n)[n]? = some (.inl 6, [some (n + 1), some (n + 2), some (n + 3), some (n + 12), some (n + 13), none, none, none, none]) := (z_ag (k := 0) hn).trans rfl
  have l5 : (E0 ++ x_cPln5 n).length = n + 14 := z_al hn rfl
  refine w_70i_49 (E := E0 ++ x_cPln5 n) (th := n) h5 hs ⟨⟨by omega, by omega, by omega⟩, ?_⟩
  rw [l5]
  have f6 := f5.arr rfl
  generalize z_row J5 (n + 14) (fun _ => 0) = J6 at f6 ⊢
  generalize ((z_row X5.1 (n + 14) (fun _ => 0), m_rowX X5.2 (n + 14) (fun _ => 0)) : z_X) = X6
  refine z_wpS (Wp := Wp) (E' := E0 ++ x_cPln6 n) (J' := J6) (X' := X6) ?_ rfl rfl ?_
  · show ((E0 ++ x_cPln5 n) ++ _).set (n + 0) _ = _
    rw [z_as hn]; rfl
  have h6 : (E0 ++ x_cPln6 n)[n]? = some (.inl 6, [some (n + 1), some (n + 2), some (n + 3), some (n + 12), some (n + 13), none, some (n + 14), none, none]) := (z_ag (k := 0) hn).trans rfl
  have l6 : (E0 ++ x_cPln6 n).length = n + 15 := z_al hn rfl
  refine w_70i_57 (E := E0 ++ x_cPln6 n) (th := n) h6 hs ⟨⟨by omega, by omega, by omega⟩, ?_⟩
  rw [l6]
  have f7 := f6.arr rfl
  generalize z_row J6 (n + 15) (fun _ => 0) = J7 at f7 ⊢
  generalize ((z_row X6.1 (n + 15) (fun _ => 0), m_rowX X6.2 (n + 15) (fun _ => 0)) : z_X) = X7
  refine z_wpS (Wp := Wp) (E' := E0 ++ x_cPln7 n) (J' := J7) (X' := X7) ?_ rfl rfl ?_
  · show ((E0 ++ x_cPln6 n) ++ _).set (n + 0) _ = _
    rw [z_as hn]; rfl
  have h7 : (E0 ++ x_cPln7 n)[n]? = some (.inl 6, [some (n + 1), some (n + 2), some (n + 3), some (n + 12), some (n + 13), none, some (n + 14), some (n + 15), none]) := (z_ag (k := 0) hn).trans rfl
  have l7 : (E0 ++ x_cPln7 n).length = n + 16 := z_al hn rfl
  refine w_70i_66 (E := E0 ++ x_cPln7 n) (th := n) h7 hs ⟨⟨by omega, by omega, by omega⟩, ?_⟩
  rw [l7]
  have f8 := f7.arr rfl
  generalize z_row J7 (n + 16) (fun _ => 0) = J8 at f8 ⊢
  generalize ((z_row X7.1 (n + 16) (fun _ => 0), m_rowX X7.2 (n + 16) (fun _ => 0)) : z_X) = X8
  refine z_wpS (Wp := Wp) (E' := E0 ++ x_cPln8 n) (J' := J8) (X' := X8) ?_ rfl rfl ?_
  · show ((E0 ++ x_cPln7 n) ++ _).set (n + 0) _ = _
    rw [z_as hn]; rfl
  exact w_70i_75 hs ⟨rfl, rfl, f8⟩
end QcPln
set_option maxRecDepth 20000 in
theorem w_190i_0 {l : Launch} {d : Nat} {Q : z_O → z_S → Prop} {Wp : Nat → z_C} {E : m_E} {J : z_J} {X : z_X} {bc bs : Nat} {th : Nat}  (hs : z_Cl l d m_me_190 Q Wp)
    (h : Wp 4 [some (.inr (.inr (.ref th)))] [] (E, J, X) bc bs) : Wp 0 [some (.inr (.inr (.ref th)))] [] (E, J, X) bc bs :=
  hs 400 [(4, 1), (13, 1), (20, 1), (29, 1), (38, 1), (47, 1), (56, 1), (63, 1), (70, 1), (79, 1), (88, 1), (93, 1), (102, 1), (111, 1), (119, 1)] [] 0 _ _ _ _ _ (⟨rfl, h⟩)
set_option maxRecDepth 20000 in
theorem w_190i_4 {l : Launch} {d : Nat} {Q : z_O → z_S → Prop} {Wp : Nat → z_C} {E : m_E} {J : z_J} {X : z_X} {bc bs : Nat} {th : Nat} {rs : List (Option Nat)} (hE : E[th]? = some (.inl 12, rs)) (hs : z_Cl l d m_me_190 Q Wp)
    (h : (E.length < 1000 ∧ 1 ≤ bc ∧ (24820 : Int) ≤ (bs : Int)) ∧ Wp 13 [some (.inr (.inr (.ref th)))] [] ((E ++ [((.inr (.int, 24820), []) : m_Sh × List (Option Nat))]).set th (.inl 12, rs.set 0 (some E.length)), z_row J E.length (fun _ => 0), (z_row X.1 E.length (fun _ => 0), m_rowX X.2 E.length (fun _ => 0))) (bc - 1) (bs - 24820)) : Wp 4 [some (.inr (.inr (.ref th)))] [] (E, J, X) bc bs :=
  hs 400 [(4, 1), (13, 1), (20, 1), (29, 1), (38, 1), (47, 1), (56, 1), (63, 1), (70, 1), (79, 1), (88, 1), (93, 1), (102, 1), (111, 1), (119, 1)] [] 4 _ _ _ _ _ (⟨rfl, ⟨by decide, by decide, h.1.1, h.1.2.1, h.1.2.2⟩, ⟨_, z_apL hE, z_apT, h.2⟩⟩)
set_option maxRecDepth 20000 in
theorem w_190i_13 {l : Launch} {d : Nat} {Q : z_O → z_S → Prop} {Wp : Nat → z_C} {E : m_E} {J : z_J} {X : z_X} {bc bs : Nat} {th : Nat} {rs : List (Option Nat)} (hE : E[th]? = some (.inl 12, rs)) (hs : z_Cl l d m_me_190 Q Wp)
    (h : (E.length < 1000 ∧ 1 ≤ bc ∧ (2 : Int) ≤ (bs : Int)) ∧ Wp 20 [some (.inr (.inr (.ref th)))] [] ((E ++ [((.inr (.boolean, 2), []) : m_Sh × List (Option Nat))]).set th (.inl 12, rs.set 1 (some E.length)), z_row J E.length (fun _ => 0), (z_row X.1 E.length (fun _ => 0), m_rowX X.2 E.length (fun _ => 0))) (bc - 1) (bs - 2)) : Wp 13 [some (.inr (.inr (.ref th)))] [] (E, J, X) bc bs :=
  hs 400 [(4, 1), (13, 1), (20, 1), (29, 1), (38, 1), (47, 1), (56, 1), (63, 1), (70, 1), (79, 1), (88, 1), (93, 1), (102, 1), (111, 1), (119, 1)] [] 13 _ _ _ _ _ (⟨rfl, ⟨by decide, by decide, h.1.1, h.1.2.1, h.1.2.2⟩, ⟨_, z_apL hE, z_apT, h.2⟩⟩)
set_option maxRecDepth 20000 in
theorem w_190i_20 {l : Launch} {d : Nat} {Q : z_O → z_S → Prop} {Wp : Nat → z_C} {E : m_E} {J : z_J} {X : z_X} {bc bs : Nat} {th : Nat} {rs : List (Option Nat)} (hE : E[th]? = some (.inl 12, rs)) (hs : z_Cl l d m_me_190 Q Wp)
    (h : (E.length < 1000 ∧ 1 ≤ bc ∧ (1152 : Int) ≤ (bs : Int)) ∧ Wp 29 [some (.inr (.inr (.ref th)))] [] ((E ++ [((.inr (.int, 1152), []) : m_Sh × List (Option Nat))]).set th (.inl 12, rs.set 3 (some E.length)), z_row J E.length (fun _ => 0), (z_row X.1 E.length (fun _ => 0), m_rowX X.2 E.length (fun _ => 0))) (bc - 1) (bs - 1152)) : Wp 20 [some (.inr (.inr (.ref th)))] [] (E, J, X) bc bs :=
  hs 400 [(4, 1), (13, 1), (20, 1), (29, 1), (38, 1), (47, 1), (56, 1), (63, 1), (70, 1), (79, 1), (88, 1), (93, 1), (102, 1), (111, 1), (119, 1)] [] 20 _ _ _ _ _ (⟨rfl, ⟨by decide, by decide, h.1.1, h.1.2.1, h.1.2.2⟩, ⟨_, z_apL hE, z_apT, h.2⟩⟩)
set_option maxRecDepth 20000 in
theorem w_190i_29 {l : Launch} {d : Nat} {Q : z_O → z_S → Prop} {Wp : Nat → z_C} {E : m_E} {J : z_J} {X : z_X} {bc bs : Nat} {th : Nat} {rs : List (Option Nat)} (hE : E[th]? = some (.inl 12, rs)) (hs : z_Cl l d m_me_190 Q Wp)
    (h : (E.length < 1000 ∧ 1 ≤ bc ∧ (256 : Int) ≤ (bs : Int)) ∧ Wp 38 [some (.inr (.inr (.ref th)))] [] ((E ++ [((.inr (.boolean, 256), []) : m_Sh × List (Option Nat))]).set th (.inl 12, rs.set 4 (some E.length)), z_row J E.length (fun _ => 0), (z_row X.1 E.length (fun _ => 0), m_rowX X.2 E.length (fun _ => 0))) (bc - 1) (bs - 256)) : Wp 29 [some (.inr (.inr (.ref th)))] [] (E, J, X) bc bs :=
  hs 400 [(4, 1), (13, 1), (20, 1), (29, 1), (38, 1), (47, 1), (56, 1), (63, 1), (70, 1), (79, 1), (88, 1), (93, 1), (102, 1), (111, 1), (119, 1)] [] 29 _ _ _ _ _ (⟨rfl, ⟨by decide, by decide, h.1.1, h.1.2.1, h.1.2.2⟩, ⟨_, z_apL hE, z_apT, h.2⟩⟩)
set_option maxRecDepth 20000 in
theorem w_190i_38 {l : Launch} {d : Nat} {Q : z_O → z_S → Prop} {Wp : Nat → z_C} {E : m_E} {J : z_J} {X : z_X} {bc bs : Nat} {th : Nat} {rs : List (Option Nat)} (hE : E[th]? = some (.inl 12, rs)) (hs : z_Cl l d m_me_190 Q Wp)
    (h : (E.length < 1000 ∧ 1 ≤ bc ∧ (256 : Int) ≤ (bs : Int)) ∧ Wp 47 [some (.inr (.inr (.ref th)))] [] ((E ++ [((.inr (.boolean, 256), []) : m_Sh × List (Option Nat))]).set th (.inl 12, rs.set 5 (some E.length)), z_row J E.length (fun _ => 0), (z_row X.1 E.length (fun _ => 0), m_rowX X.2 E.length (fun _ => 0))) (bc - 1) (bs - 256)) : Wp 38 [some (.inr (.inr (.ref th)))] [] (E, J, X) bc bs :=
  hs 400 [(4, 1), (13, 1), (20, 1), (29, 1), (38, 1), (47, 1), (56, 1), (63, 1), (70, 1), (79, 1), (88, 1), (93, 1), (102, 1), (111, 1), (119, 1)] [] 38 _ _ _ _ _ (⟨rfl, ⟨by decide, by decide, h.1.1, h.1.2.1, h.1.2.2⟩, ⟨_, z_apL hE, z_apT, h.2⟩⟩)
set_option maxRecDepth 20000 in
theorem w_190i_47 {l : Launch} {d : Nat} {Q : z_O → z_S → Prop} {Wp : Nat → z_C} {E : m_E} {J : z_J} {X : z_X} {bc bs : Nat} {th : Nat} {rs : List (Option Nat)} (hE : E[th]? = some (.inl 12, rs)) (hs : z_Cl l d m_me_190 Q Wp)
    (h : (E.length < 1000 ∧ 1 ≤ bc ∧ (256 : Int) ≤ (bs : Int)) ∧ Wp 56 [some (.inr (.inr (.ref th)))] [] ((E ++ [((.inr (.int, 256), []) : m_Sh × List (Option Nat))]).set th (.inl 12, rs.set 6 (some E.length)), z_row J E.length (fun _ => 0), (z_row X.1 E.length (fun _ => 0), m_rowX X.2 E.length (fun _ => 0))) (bc - 1) (bs - 256)) : Wp 47 [some (.inr (.inr (.ref th)))] [] (E, J, X) bc bs :=
  hs 400 [(4, 1), (13, 1), (20, 1), (29, 1), (38, 1), (47, 1), (56, 1), (63, 1), (70, 1), (79, 1), (88, 1), (93, 1), (102, 1), (111, 1), (119, 1)] [] 47 _ _ _ _ _ (⟨rfl, ⟨by decide, by decide, h.1.1, h.1.2.1, h.1.2.2⟩, ⟨_, z_apL hE, z_apT, h.2⟩⟩)
set_option maxRecDepth 20000 in
theorem w_190i_56 {l : Launch} {d : Nat} {Q : z_O → z_S → Prop} {Wp : Nat → z_C} {E : m_E} {J : z_J} {X : z_X} {bc bs : Nat} {th : Nat} {rs : List (Option Nat)} (hE : E[th]? = some (.inl 12, rs)) (hs : z_Cl l d m_me_190 Q Wp)
    (h : (E.length < 1000 ∧ 1 ≤ bc ∧ (5 : Int) ≤ (bs : Int)) ∧ Wp 63 [some (.inr (.inr (.ref th)))] [] ((E ++ [((.inr (.int, 5), []) : m_Sh × List (Option Nat))]).set th (.inl 12, rs.set 7 (some E.length)), z_row J E.length (fun _ => 0), (z_row X.1 E.length (fun _ => 0), m_rowX X.2 E.length (fun _ => 0))) (bc - 1) (bs - 5)) : Wp 56 [some (.inr (.inr (.ref th)))] [] (E, J, X) bc bs :=
  hs 400 [(4, 1), (13, 1), (20, 1), (29, 1), (38, 1), (47, 1), (56, 1), (63, 1), (70, 1), (79, 1), (88, 1), (93, 1), (102, 1), (111, 1), (119, 1)] [] 56 _ _ _ _ _ (⟨rfl, ⟨by decide, by decide, h.1.1, h.1.2.1, h.1.2.2⟩, ⟨_, z_apL hE, z_apT, h.2⟩⟩)
set_option maxRecDepth 20000 in
theorem w_190i_63 {l : Launch} {d : Nat} {Q : z_O → z_S → Prop} {Wp : Nat → z_C} {E : m_E} {J : z_J} {X : z_X} {bc bs : Nat} {th : Nat} {rs : List (Option Nat)} (hE : E[th]? = some (.inl 12, rs)) (hs : z_Cl l d m_me_190 Q Wp)
    (h : (E.length < 1000 ∧ 1 ≤ bc ∧ (5 : Int) ≤ (bs : Int)) ∧ Wp 70 [some (.inr (.inr (.ref th)))] [] ((E ++ [((.inr (.int, 5), []) : m_Sh × List (Option Nat))]).set th (.inl 12, rs.set 8 (some E.length)), z_row J E.length (fun _ => 0), (z_row X.1 E.length (fun _ => 0), m_rowX X.2 E.length (fun _ => 0))) (bc - 1) (bs - 5)) : Wp 63 [some (.inr (.inr (.ref th)))] [] (E, J, X) bc bs :=
  hs 400 [(4, 1), (13, 1), (20, 1), (29, 1), (38, 1), (47, 1), (56, 1), (63, 1), (70, 1), (79, 1), (88, 1), (93, 1), (102, 1), (111, 1), (119, 1)] [] 63 _ _ _ _ _ (⟨rfl, ⟨by decide, by decide, h.1.1, h.1.2.1, h.1.2.2⟩, ⟨_, z_apL hE, z_apT, h.2⟩⟩)
set_option maxRecDepth 20000 in
theorem w_190i_70 {l : Launch} {d : Nat} {Q : z_O → z_S → Prop} {Wp : Nat → z_C} {E : m_E} {J : z_J} {X : z_X} {bc bs : Nat} {th : Nat} {rs : List (Option Nat)} (hE : E[th]? = some (.inl 12, rs)) (hs : z_Cl l d m_me_190 Q Wp)
    (h : (E.length < 1000 ∧ 1 ≤ bc ∧ (200 : Int) ≤ (bs : Int)) ∧ Wp 79 [some (.inr (.inr (.ref th)))] [] ((E ++ [((.inr (.byte, 200), []) : m_Sh × List (Option Nat))]).set th (.inl 12, rs.set 10 (some E.length)), z_row J E.length (fun _ => 0), (z_row X.1 E.length (fun _ => 0), m_rowX X.2 E.length (fun _ => 0))) (bc - 1) (bs - 200)) : Wp 70 [some (.inr (.inr (.ref th)))] [] (E, J, X) bc bs :=
  hs 400 [(4, 1), (13, 1), (20, 1), (29, 1), (38, 1), (47, 1), (56, 1), (63, 1), (70, 1), (79, 1), (88, 1), (93, 1), (102, 1), (111, 1), (119, 1)] [] 70 _ _ _ _ _ (⟨rfl, ⟨by decide, by decide, h.1.1, h.1.2.1, h.1.2.2⟩, ⟨_, z_apL hE, z_apT, h.2⟩⟩)
set_option maxRecDepth 20000 in
theorem w_190i_79 {l : Launch} {d : Nat} {Q : z_O → z_S → Prop} {Wp : Nat → z_C} {E : m_E} {J : z_J} {X : z_X} {bc bs : Nat} {th : Nat} {rs : List (Option Nat)} (hE : E[th]? = some (.inl 12, rs)) (hs : z_Cl l d m_me_190 Q Wp)
    (h : (E.length < 1000 ∧ 1 ≤ bc ∧ (1500 : Int) ≤ (bs : Int)) ∧ Wp 88 [some (.inr (.inr (.ref th)))] [] ((E ++ [((.inr (.byte, 1500), []) : m_Sh × List (Option Nat))]).set th (.inl 12, rs.set 12 (some E.length)), z_row J E.length (fun _ => 0), (z_row X.1 E.length (fun _ => 0), m_rowX X.2 E.length (fun _ => 0))) (bc - 1) (bs - 1500)) : Wp 79 [some (.inr (.inr (.ref th)))] [] (E, J, X) bc bs :=
  hs 400 [(4, 1), (13, 1), (20, 1), (29, 1), (38, 1), (47, 1), (56, 1), (63, 1), (70, 1), (79, 1), (88, 1), (93, 1), (102, 1), (111, 1), (119, 1)] [] 79 _ _ _ _ _ (⟨rfl, ⟨by decide, by decide, h.1.1, h.1.2.1, h.1.2.2⟩, ⟨_, z_apL hE, z_apT, h.2⟩⟩)
set_option maxRecDepth 20000 in
theorem w_190i_88 {l : Launch} {d : Nat} {Q : z_O → z_S → Prop} {Wp : Nat → z_C} {E : m_E} {J : z_J} {X : z_X} {bc bs : Nat} {th : Nat} {rs : List (Option Nat)} (hE : E[th]? = some (.inl 12, rs)) (hs : z_Cl l d m_me_190 Q Wp)
    (h : Wp 93 [some (.inr (.inr (.ref th)))] [] (E, z_u J th 16 (-1), X) bc bs) : Wp 88 [some (.inr (.inr (.ref th)))] [] (E, J, X) bc bs :=
  hs 400 [(4, 1), (13, 1), (20, 1), (29, 1), (38, 1), (47, 1), (56, 1), (63, 1), (70, 1), (79, 1), (88, 1), (93, 1), (102, 1), (111, 1), (119, 1)] [] 88 _ _ _ _ _ (⟨rfl, _, hE, h⟩)
set_option maxRecDepth 20000 in
theorem w_190i_93 {l : Launch} {d : Nat} {Q : z_O → z_S → Prop} {Wp : Nat → z_C} {E : m_E} {J : z_J} {X : z_X} {bc bs : Nat} {th : Nat} {rs : List (Option Nat)} (hE : E[th]? = some (.inl 12, rs)) (hs : z_Cl l d m_me_190 Q Wp)
    (h : (E.length < 1000 ∧ 1 ≤ bc ∧ (200 : Int) ≤ (bs : Int)) ∧ Wp 102 [some (.inr (.inr (.ref th)))] [] ((E ++ [((.inr (.int, 200), []) : m_Sh × List (Option Nat))]).set th (.inl 12, rs.set 21 (some E.length)), z_row J E.length (fun _ => 0), (z_row X.1 E.length (fun _ => 0), m_rowX X.2 E.length (fun _ => 0))) (bc - 1) (bs - 200)) : Wp 93 [some (.inr (.inr (.ref th)))] [] (E, J, X) bc bs :=
  hs 400 [(4, 1), (13, 1), (20, 1), (29, 1), (38, 1), (47, 1), (56, 1), (63, 1), (70, 1), (79, 1), (88, 1), (93, 1), (102, 1), (111, 1), (119, 1)] [] 93 _ _ _ _ _ (⟨rfl, ⟨by decide, by decide, h.1.1, h.1.2.1, h.1.2.2⟩, ⟨_, z_apL hE, z_apT, h.2⟩⟩)
set_option maxRecDepth 20000 in
theorem w_190i_102 {l : Launch} {d : Nat} {Q : z_O → z_S → Prop} {Wp : Nat → z_C} {E : m_E} {J : z_J} {X : z_X} {bc bs : Nat} {th : Nat} {rs : List (Option Nat)} (hE : E[th]? = some (.inl 12, rs)) (hs : z_Cl l d m_me_190 Q Wp)
    (h : (E.length < 1000 ∧ 1 ≤ bc ∧ (200 : Int) ≤ (bs : Int)) ∧ Wp 111 [some (.inr (.inr (.ref th)))] [] ((E ++ [((.inr (.int, 200), []) : m_Sh × List (Option Nat))]).set th (.inl 12, rs.set 22 (some E.length)), z_row J E.length (fun _ => 0), (z_row X.1 E.length (fun _ => 0), m_rowX X.2 E.length (fun _ => 0))) (bc - 1) (bs - 200)) : Wp 102 [some (.inr (.inr (.ref th)))] [] (E, J, X) bc bs :=
  hs 400 [(4, 1), (13, 1), (20, 1), (29, 1), (38, 1), (47, 1), (56, 1), (63, 1), (70, 1), (79, 1), (88, 1), (93, 1), (102, 1), (111, 1), (119, 1)] [] 102 _ _ _ _ _ (⟨rfl, ⟨by decide, by decide, h.1.1, h.1.2.1, h.1.2.2⟩, ⟨_, z_apL hE, z_apT, h.2⟩⟩)
set_option maxRecDepth 20000 in
theorem w_190i_111 {l : Launch} {d : Nat} {Q : z_O → z_S → Prop} {Wp : Nat → z_C} {E : m_E} {J : z_J} {X : z_X} {bc bs : Nat} {th : Nat} {st : Nat} {r1 r2 r3 r4 r5 r6 r7 r8 r9 r10 r11 r12 r13 r14 r15 r16 r17 r18 r19 r20 r21 r22 r23 r24 r25 : Option Nat} (hE : E[th]? = some (.inl 12, [some st, r1, r2, r3, r4, r5, r6, r7, r8, r9, r10, r11, r12, r13, r14, r15, r16, r17, r18, r19, r20, r21, r22, r23, r24, r25])) (hA : E[st]? = some (.inr (.int, 24820), [])) (hs : z_Cl l d m_me_190 Q Wp)
    (h : Wp 119 [some (.inr (.inr (.ref th)))] [] (E, z_u J st 4 6, X) bc bs) : Wp 111 [some (.inr (.inr (.ref th)))] [] (E, J, X) bc bs :=
  hs 400 [(4, 1), (13, 1), (20, 1), (29, 1), (38, 1), (47, 1), (56, 1), (63, 1), (70, 1), (79, 1), (88, 1), (93, 1), (102, 1), (111, 1), (119, 1)] [] 111 _ _ _ _ _ (⟨_, hE, rfl, rfl, ⟨_, _, _, hA, rfl, ⟨by decide, by decide⟩, trivial⟩, h⟩)
set_option maxRecDepth 20000 in
theorem w_190i_119 {l : Launch} {d : Nat} {Q : z_O → z_S → Prop} {Wp : Nat → z_C} {E : m_E} {J : z_J} {X : z_X} {bc bs : Nat} {th : Nat}  (hs : z_Cl l d m_me_190 Q Wp)
    (h : Q (.inl none) (E, J, X)) : Wp 119 [some (.inr (.inr (.ref th)))] [] (E, J, X) bc bs :=
  hs 400 [(4, 1), (13, 1), (20, 1), (29, 1), (38, 1), (47, 1), (56, 1), (63, 1), (70, 1), (79, 1), (88, 1), (93, 1), (102, 1), (111, 1), (119, 1)] [] 119 _ _ _ _ _ (h)
def x_cRef0 (b : Nat) : m_E := [(.inl 12, [none, none, none, none, none, none, none, none, none, none, none, none, none, none, none, none, none, none, none, none, none, none, none, none, none, none])]
def x_cRef1 (b : Nat) : m_E := [(.inl 12, [some (b + 1), none, none, none, none, none, none, none, none, none, none, none, none, none, none, none, none, none, none, none, none, none, none, none, none, none]), (.inr (.int, 24820), [])]
def x_cRef2 (b : Nat) : m_E := [(.inl 12, [some (b + 1), some (b + 2), none, none, none, none, none, none, none, none, none, none, none, none, none, none, none, none, none, none, none, none, none, none, none, none]), (.inr (.int, 24820), []), (.inr (.boolean, 2), [])]
def x_cRef3 (b : Nat) : m_E := [(.inl 12, [some (b + 1), some (b + 2), none, some (b + 3), none, none, none, none, none, none, none, none, none, none, none, none, none, none, none, none, none, none, none, none, none, none]), (.inr (.int, 24820), []), (.inr (.boolean, 2), []), (.inr (.int, 1152), [])]
def x_cRef4 (b : Nat) : m_E := [(.inl 12, [some (b + 1), some (b + 2), none, some (b + 3), some (b + 4), none, none, none, none, none, none, none, none, none, none, none, none, none, none, none, none, none, none, none, none, none]), (.inr (.int, 24820), []), (.inr (.boolean, 2), []), (.inr (.int, 1152), []), (.inr (.boolean, 256), [])]
def x_cRef5 (b : Nat) : m_E := [(.inl 12, [some (b + 1), some (b + 2), none, some (b + 3), some (b + 4), some (b + 5), none, none, none, none, none, none, none, none, none, none, none, none, none, none, none, none, none, none, none, none]), (.inr (.int, 24820), []), (.inr (.boolean, 2), []), (.inr (.int, 1152), []), (.inr (.boolean, 256), []), (.inr (.boolean, 256), [])]
def x_cRef6 (b : Nat) : m_E := [(.inl 12, [some (b + 1), some (b + 2), none, some (b + 3), some (b + 4), some (b + 5), some (b + 6), none, none, none, none, none, none, none, none, none, none, none, none, none, none, none, none, none, none, none]), (.inr (.int, 24820), []), (.inr (.boolean, 2), []), (.inr (.int, 1152), []), (.inr (.boolean, 256), []), (.inr (.boolean, 256), []), (.inr (.int, 256), [])]
def x_cRef7 (b : Nat) : m_E := [(.inl 12, [some (b + 1), some (b + 2), none, some (b + 3), some (b + 4), some (b + 5), some (b + 6), some (b + 7), none, none, none, none, none, none, none, none, none, none, none, none, none, none, none, none, none, none]), (.inr (.int, 24820), []), (.inr (.boolean, 2), []), (.inr (.int, 1152), []), (.inr (.boolean, 256), []), (.inr (.boolean, 256), []), (.inr (.int, 256), []), (.inr (.int, 5), [])]
def x_cRef8 (b : Nat) : m_E := [(.inl 12, [some (b + 1), some (b + 2), none, some (b + 3), some (b + 4), some (b + 5), some (b + 6), some (b + 7), some (b + 8), none, none, none, none, none, none, none, none, none, none, none, none, none, none, none, none, none]), (.inr (.int, 24820), []), (.inr (.boolean, 2), []), (.inr (.int, 1152), []), (.inr (.boolean, 256), []), (.inr (.boolean, 256), []), (.inr (.int, 256), []), (.inr (.int, 5), []), (.inr (.int, 5), [])]
def x_cRef9 (b : Nat) : m_E := [(.inl 12, [some (b + 1), some (b + 2), none, some (b + 3), some (b + 4), some (b + 5), some (b + 6), some (b + 7), some (b + 8), none, some (b + 9), none, none, none, none, none, none, none, none, none, none, none, none, none, none, none]), (.inr (.int, 24820), []), (.inr (.boolean, 2), []), (.inr (.int, 1152), []), (.inr (.boolean, 256), []), (.inr (.boolean, 256), []), (.inr (.int, 256), []), (.inr (.int, 5), []), (.inr (.int, 5), []), (.inr (.byte, 200), [])]
def x_cRef10 (b : Nat) : m_E := [(.inl 12, [some (b + 1), some (b + 2), none, some (b + 3), some (b + 4), some (b + 5), some (b + 6), some (b + 7), some (b + 8), none, some (b + 9), none, some (b + 10), none, none, none, none, none, none, none, none, none, none, none, none, none]), (.inr (.int, 24820), []), (.inr (.boolean, 2), []), (.inr (.int, 1152), []), (.inr (.boolean, 256), []), (.inr (.boolean, 256), []), (.inr (.int, 256), []), (.inr (.int, 5), []), (.inr (.int, 5), []), (.inr (.byte, 200), []), (.inr (.byte, 1500), [])]
abbrev x_cRef11 : Nat → m_E := x_cRef10
def x_cRef12 (b : Nat) : m_E := [(.inl 12, [some (b + 1), some (b + 2), none, some (b + 3), some (b + 4), some (b + 5), some (b + 6), some (b + 7), some (b + 8), none, some (b + 9), none, some (b + 10), none, none, none, none, none, none, none, none, some (b + 11), none, none, none, none]), (.inr (.int, 24820), []), (.inr (.boolean, 2), []), (.inr (.int, 1152), []), (.inr (.boolean, 256), []), (.inr (.boolean, 256), []), (.inr (.int, 256), []), (.inr (.int, 5), []), (.inr (.int, 5), []), (.inr (.byte, 200), []), (.inr (.byte, 1500), []), (.inr (.int, 200), [])]
def x_cRef13 (b : Nat) : m_E := [(.inl 12, [some (b + 1), some (b + 2), none, some (b + 3), some (b + 4), some (b + 5), some (b + 6), some (b + 7), some (b + 8), none, some (b + 9), none, some (b + 10), none, none, none, none, none, none, none, none, some (b + 11), some (b + 12), none, none, none]), (.inr (.int, 24820), []), (.inr (.boolean, 2), []), (.inr (.int, 1152), []), (.inr (.boolean, 256), []), (.inr (.boolean, 256), []), (.inr (.int, 256), []), (.inr (.int, 5), []), (.inr (.int, 5), []), (.inr (.byte, 200), []), (.inr (.byte, 1500), []), (.inr (.int, 200), []), (.inr (.int, 200), [])]
abbrev x_cRef14 : Nat → m_E := x_cRef13
def x_fRef : Nat → Int → Int := fun k => if k = 1 then z_up ((fun k => if k = 0 then z_up ((fun _ _ => 0 : Nat → Int → Int) 0) 16 (-1) else (fun _ _ => 0 : Nat → Int → Int) k : Nat → Int → Int) 1) 4 6 else (fun k => if k = 0 then z_up ((fun _ _ => 0 : Nat → Int → Int) 0) 16 (-1) else (fun _ _ => 0 : Nat → Int → Int) k : Nat → Int → Int) k
section QcRef
variable {l : Launch} {d : Nat} {E0 : m_E} {J : z_J} {X : z_X} {n bc bs : Nat}
set_option maxHeartbeats 1000000 in
set_option maxRecDepth 20000 in
theorem e_newRef (hn : E0.length = n) (hl : n + 25 < 1000) (hb : 12 ≤ bc) (hb2 : 28852 ≤ bs) : z_Sem l (d + 1) 190 [.inr (.inr (.ref n))] (E0 ++ [(.inl 12, [none, none, none, none, none, none, none, none, none, none, none, none, none, none, none, none, none, none, none, none, none, none, none, none, none, none])], z_row J n (fun _ => 0), (z_row X.1 n (fun _ => 0), m_rowX X.2 n (fun _ => 0))) bc bs (fun o S' => o = .inl none ∧ S'.1 = E0 ++ x_cRef14 n ∧ x_ctP n 13 J x_fRef S'.2.1) := by
  refine z_sem_of z_m190 m_ok_190 (Nat.le_of_ble_eq_true rfl) (fun Wp hs hv hS => ?_)
  have f0 : x_ctP n 1 J (fun _ _ => 0) (z_row J n (fun _ => 0)) := x_ctP.one
  generalize z_row J n (fun _ => 0) = J0 at f0 ⊢
  generalize ((z_row X.1 n (fun _ => 0), m_rowX X.2 n (fun _ => 0)) : z_X) = X0
  refine w_190i_0 hs ?_
  have h0 : (E0 ++ x_cRef0 n)[n]? = some (.inl 12, [none, none, none, none, none, none, none, none, none, none, none, none, none, none, none, none, none, none, none, none, none, none, none, none, none, none]) := (z_ag (k := 0) hn).trans rfl
  have l0 : (E0 ++ x_cRef0 n).length = n + 1 := z_al hn rfl
  refine w_190i_4 (E := E0 ++ x_cRef0 n) (th := n) h0 hs ⟨⟨by omega, by omega, by omega⟩, ?_⟩
  rw [l0]
  have f1 := f0.arr rfl
  generalize z_row J0 (n + 1) (fun _ => 0) = J1 at f1 ⊢
  generalize ((z_row X0.1 (n + 1) (fun _ => 0), m_rowX X0.2 (n + 1) (fun _ => 0)) : z_X) = X1
  refine z_wpS (Wp := Wp) (E' := E0 ++ x_cRef1 n) (J' := J1) (X' := X1) ?_ rfl rfl ?_
  · show ((E0 ++ x_cRef0 n) ++ _).set (n + 0) _ = _
    rw [z_as hn]; rfl
  have h1 : (E0 ++ x_cRef1 n)[n]? = some (.inl 12, [some (n + 1), none, none, none, none, none, none, none, none, none, none, none, none, none, none, none, none, none, none, none, none, none, none, none, none, none]) := (z_ag (k := 0) hn).trans rfl
  have l1 : (E0 ++ x_cRef1 n).length = n + 2 := z_al hn rfl
  refine w_190i_13 (E := E0 ++ x_cRef1 n) (th := n) h1 hs ⟨⟨by omega, by omega, by omega⟩, ?_⟩
  rw [l1]
  have f2 := f1.arr rfl
  generalize z_row J1 (n + 2) (fun _ => 0) = J2 at f2 ⊢
  generalize ((z_row X1.1 (n + 2) (fun _ => 0), m_rowX X1.2 (n + 2) (fun _ => 0)) : z_X) = X2
  refine z_wpS (Wp := Wp) (E' := E0 ++ x_cRef2 n) (J' := J2) (X' := X2) ?_ rfl rfl ?_
  · show ((E0 ++ x_cRef1 n) ++ _).set (n + 0) _ = _
    rw [z_as hn]; rfl
  have h2 : (E0 ++ x_cRef2 n)[n]? = some (.inl 12, [some (n + 1), some (n + 2), none, none, none, none, none, none, none, none, none, none, none, none, none, none, none, none, none, none, none, none, none, none, none, none]) := (z_ag (k := 0) hn).trans rfl
  have l2 : (E0 ++ x_cRef2 n).length = n + 3 := z_al hn rfl
  refine w_190i_20 (E := E0 ++ x_cRef2 n) (th := n) h2 hs ⟨⟨by omega, by omega, by omega⟩, ?_⟩
  rw [l2]
  have f3 := f2.arr rfl
  generalize z_row J2 (n + 3) (fun _ => 0) = J3 at f3 ⊢
  generalize ((z_row X2.1 (n + 3) (fun _ => 0), m_rowX X2.2 (n + 3) (fun _ => 0)) : z_X) = X3
  refine z_wpS (Wp := Wp) (E' := E0 ++ x_cRef3 n) (J' := J3) (X' := X3) ?_ rfl rfl ?_
  · show ((E0 ++ x_cRef2 n) ++ _).set (n + 0) _ = _
    rw [z_as hn]; rfl
  have h3 : (E0 ++ x_cRef3 n)[n]? = some (.inl 12, [some (n + 1), some (n + 2), none, some (n + 3), none, none, none, none, none, none, none, none, none, none, none, none, none, none, none, none, none, none, none, none, none, none]) := (z_ag (k := 0) hn).trans rfl
  have l3 : (E0 ++ x_cRef3 n).length = n + 4 := z_al hn rfl
  refine w_190i_29 (E := E0 ++ x_cRef3 n) (th := n) h3 hs ⟨⟨by omega, by omega, by omega⟩, ?_⟩
  rw [l3]
  have f4 := f3.arr rfl
  generalize z_row J3 (n + 4) (fun _ => 0) = J4 at f4 ⊢
  generalize ((z_row X3.1 (n + 4) (fun _ => 0), m_rowX X3.2 (n + 4) (fun _ => 0)) : z_X) = X4
  refine z_wpS (Wp := Wp) (E' := E0 ++ x_cRef4 n) (J' := J4) (X' := X4) ?_ rfl rfl ?_
  · show ((E0 ++ x_cRef3 n) ++ _).set (n + 0) _ = _
    rw [z_as hn]; rfl
  have h4 : (E0 ++ x_cRef4 n)[n]? = some (.inl 12, [some (n + 1), some (n + 2), none, some (n + 3), some (n + 4), none, none, none, none, none, none, none, none, none, none, none, none, none, none, none, none, none, none, none, none, none]) := (z_ag (k := 0) hn).trans rfl
  have l4 : (E0 ++ x_cRef4 n).length = n + 5 := z_al hn rfl
  refine w_190i_38 (E := E0 ++ x_cRef4 n) (th := n) h4 hs ⟨⟨by omega, by omega, by omega⟩, ?_⟩
  rw [l4]
  have f5 := f4.arr rfl
  generalize z_row J4 (n + 5) (fun _ => 0) = J5 at f5 ⊢
  generalize ((z_row X4.1 (n + 5) (fun _ => 0), m_rowX X4.2 (n + 5) (fun _ => 0)) : z_X) = X5
  refine z_wpS (Wp := Wp) (E' := E0 ++ x_cRef5 n) (J' := J5) (X' := X5) ?_ rfl rfl ?_
  · show ((E0 ++ x_cRef4 n) ++ _).set (n + 0) _ = _
    rw [z_as hn]; rfl
  have h5 : (E0 ++ x_cRef5 n)[n]? = some (.inl 12, [some (n + 1), some (n + 2), none, some (n + 3), some (n + 4), some (n + 5), none, none, none, none, none, none, none, none, none, none, none, none, none, none, none, none, none, none, none, none]) := (z_ag (k := 0) hn).trans rfl
  have l5 : (E0 ++ x_cRef5 n).length = n + 6 := z_al hn rfl
  refine w_190i_47 (E := E0 ++ x_cRef5 n) (th := n) h5 hs ⟨⟨by omega, by omega, by omega⟩, ?_⟩
  rw [l5]
  have f6 := f5.arr rfl
  generalize z_row J5 (n + 6) (fun _ => 0) = J6 at f6 ⊢
  generalize ((z_row X5.1 (n + 6) (fun _ => 0), m_rowX X5.2 (n + 6) (fun _ => 0)) : z_X) = X6
  refine z_wpS (Wp := Wp) (E' := E0 ++ x_cRef6 n) (J' := J6) (X' := X6) ?_ rfl rfl ?_
  · show ((E0 ++ x_cRef5 n) ++ _).set (n + 0) _ = _
    rw [z_as hn]; rfl
  have h6 : (E0 ++ x_cRef6 n)[n]? = some (.inl 12, [some (n + 1), some (n + 2), none, some (n + 3), some (n + 4), some (n + 5), some (n + 6), none, none, none, none, none, none, none, none, none, none, none, none, none, none, none, none, none, none, none]) := (z_ag (k := 0) hn).trans rfl
  have l6 : (E0 ++ x_cRef6 n).length = n + 7 := z_al hn rfl
  refine w_190i_56 (E := E0 ++ x_cRef6 n) (th := n) h6 hs ⟨⟨by omega, by omega, by omega⟩, ?_⟩
  rw [l6]
  have f7 := f6.arr rfl
  generalize z_row J6 (n + 7) (fun _ => 0) = J7 at f7 ⊢
  generalize ((z_row X6.1 (n + 7) (fun _ => 0), m_rowX X6.2 (n + 7) (fun _ => 0)) : z_X) = X7
  refine z_wpS (Wp := Wp) (E' := E0 ++ x_cRef7 n) (J' := J7) (X' := X7) ?_ rfl rfl ?_
  · show ((E0 ++ x_cRef6 n) ++ _).set (n + 0) _ = _
    rw [z_as hn]; rfl
  have h7 : (E0 ++ x_cRef7 n)[n]? = some (.inl 12, [some (n + 1), some (n + 2), none, some (n + 3), some (n + 4), some (n + 5), some (n + 6), some (n + 7), none, none, none, none, none, none, none, none, none, none, none, none, none, none, none, none, none, none]) := (z_ag (k := 0) hn).trans rfl
  have l7 : (E0 ++ x_cRef7 n).length = n + 8 := z_al hn rfl
  refine w_190i_63 (E := E0 ++ x_cRef7 n) (th := n) h7 hs ⟨⟨by omega, by omega, by omega⟩, ?_⟩
  rw [l7]
  have f8 := f7.arr rfl
  generalize z_row J7 (n + 8) (fun _ => 0) = J8 at f8 ⊢
  generalize ((z_row X7.1 (n + 8) (fun _ => 0), m_rowX X7.2 (n + 8) (fun _ => 0)) : z_X) = X8
  refine z_wpS (Wp := Wp) (E' := E0 ++ x_cRef8 n) (J' := J8) (X' := X8) ?_ rfl rfl ?_
  · show ((E0 ++ x_cRef7 n) ++ _).set (n + 0) _ = _
    rw [z_as hn]; rfl
  have h8 : (E0 ++ x_cRef8 n)[n]? = some (.inl 12, [some (n + 1), some (n + 2), none, some (n + 3), some (n + 4), some (n + 5), some (n + 6), some (n + 7), some (n + 8), none, none, none, none, none, none, none, none, none, none, none, none, none, none, none, none, none]) := (z_ag (k := 0) hn).trans rfl
  have l8 : (E0 ++ x_cRef8 n).length = n + 9 := z_al hn rfl
  refine w_190i_70 (E := E0 ++ x_cRef8 n) (th := n) h8 hs ⟨⟨by omega, by omega, by omega⟩, ?_⟩
  rw [l8]
  have f9 := f8.arr rfl
  generalize z_row J8 (n + 9) (fun _ => 0) = J9 at f9 ⊢
  generalize ((z_row X8.1 (n + 9) (fun _ => 0), m_rowX X8.2 (n + 9) (fun _ => 0)) : z_X) = X9
  refine z_wpS (Wp := Wp) (E' := E0 ++ x_cRef9 n) (J' := J9) (X' := X9) ?_ rfl rfl ?_
  · show ((E0 ++ x_cRef8 n) ++ _).set (n + 0) _ = _
    rw [z_as hn]; rfl
  have h9 : (E0 ++ x_cRef9 n)[n]? = some (.inl 12, [some (n + 1), some (n + 2), none, some (n + 3), some (n + 4), some (n + 5), some (n + 6), some (n + 7), some (n + 8), none, some (n + 9), none, none, none, none, none, none, none, none, none, none, none, none, none, none, none]) := (z_ag (k := 0) hn).trans rfl
  have l9 : (E0 ++ x_cRef9 n).length = n + 10 := z_al hn rfl
  refine w_190i_79 (E := E0 ++ x_cRef9 n) (th := n) h9 hs ⟨⟨by omega, by omega, by omega⟩, ?_⟩
  rw [l9]
  have f10 := f9.arr rfl
  generalize z_row J9 (n + 10) (fun _ => 0) = J10 at f10 ⊢
  generalize ((z_row X9.1 (n + 10) (fun _ => 0), m_rowX X9.2 (n + 10) (fun _ => 0)) : z_X) = X10
  refine z_wpS (Wp := Wp) (E' := E0 ++ x_cRef10 n) (J' := J10) (X' := X10) ?_ rfl rfl ?_
  · show ((E0 ++ x_cRef9 n) ++ _).set (n + 0) _ = _
    rw [z_as hn]; rfl
  have h10 : (E0 ++ x_cRef10 n)[n]? = some (.inl 12, [some (n + 1), some (n + 2), none, some (n + 3), some (n + 4), some (n + 5), some (n + 6), some (n + 7), some (n + 8), none, some (n + 9), none, some (n + 10), none, none, none, none, none, none, none, none, none, none, none, none, none]) := (z_ag (k := 0) hn).trans rfl
  have l10 : (E0 ++ x_cRef10 n).length = n + 11 := z_al hn rfl
  refine w_190i_88 (E := E0 ++ x_cRef10 n) (th := n) h10 hs ?_
  have f11 := f10.put (k0 := 0) (i := 16) (v := -1) (by decide)
  rw [show n + 0 = n from rfl] at f11
  generalize z_u J10 n 16 (-1) = J11 at f11 ⊢
  refine z_wpS (Wp := Wp) (E' := E0 ++ x_cRef11 n) (J' := J11) (X' := X10) rfl rfl rfl ?_
  generalize X10 = X11
  have h11 : (E0 ++ x_cRef11 n)[n]? = some (.inl 12, [some (n + 1), some (n + 2), none, some (n + 3), some (n + 4), some (n + 5), some (n + 6), some (n + 7), some (n + 8), none, some (n + 9), none, some (n + 10), none, none, none, none, none, none, none, none, none, none, none, none, none]) := (z_ag (k := 0) hn).trans rfl
  have l11 : (E0 ++ x_cRef11 n).length = n + 11 := z_al hn rfl
  refine w_190i_93 (E := E0 ++ x_cRef11 n) (th := n) h11 hs ⟨⟨by omega, by omega, by omega⟩, ?_⟩
  rw [l11]
  have f12 := f11.arr rfl
  generalize z_row J11 (n + 11) (fun _ => 0) = J12 at f12 ⊢
  generalize ((z_row X11.1 (n + 11) (fun _ => 0), m_rowX X11.2 (n + 11) (fun _ => 0)) : z_X) = X12
  refine z_wpS (Wp := Wp) (E' := E0 ++ x_cRef12 n) (J' := J12) (X' := X12) ?_ rfl rfl ?_
  · show ((E0 ++ x_cRef11 n) ++ _).set (n + 0) _ = _
    rw [z_as hn]; rfl
  have h12 : (E0 ++ x_cRef12 n)[n]? = some (.inl 12, [some (n + 1), some (n + 2), none, some (n + 3), some (n + 4), some (n + 5), some (n + 6), some (n + 7), some (n + 8), none, some (n + 9), none, some (n + 10), none, none, none, none, none, none, none, none, some (n + 11), none, none, none, none]) := (z_ag (k := 0) hn).trans rfl
  have l12 : (E0 ++ x_cRef12 n).length = n + 12 := z_al hn rfl
  refine w_190i_102 (E := E0 ++ x_cRef12 n) (th := n) h12 hs ⟨⟨by omega, by omega, by omega⟩, ?_⟩
  rw [l12]
  have f13 := f12.arr rfl
  generalize z_row J12 (n + 12) (fun _ => 0) = J13 at f13 ⊢
  generalize ((z_row X12.1 (n + 12) (fun _ => 0), m_rowX X12.2 (n + 12) (fun _ => 0)) : z_X) = X13
  refine z_wpS (Wp := Wp) (E' := E0 ++ x_cRef13 n) (J' := J13) (X' := X13) ?_ rfl rfl ?_
  · show ((E0 ++ x_cRef12 n) ++ _).set (n + 0) _ = _
    rw [z_as hn]; rfl
  have h13 : (E0 ++ x_cRef13 n)[n]? = some (.inl 12, [some (n + 1), some (n + 2), none, some (n + 3), some (n + 4), some (n + 5), some (n + 6), some (n + 7), some (n + 8), none, some (n + 9), none, some (n + 10), none, none, none, none, none, none, none, none, some (n + 11), some (n + 12), none, none, none]) := (z_ag (k := 0) hn).trans rfl
  have l13 : (E0 ++ x_cRef13 n).length = n + 13 := z_al hn rfl
  have a13 : (E0 ++ x_cRef13 n)[n + 1]? = some (.inr (.int, 24820), []) := (z_ag hn).trans rfl
  refine w_190i_111 (E := E0 ++ x_cRef13 n) (th := n) h13 a13 hs ?_
  have f14 := f13.put (k0 := 1) (i := 4) (v := 6) (by decide)
  generalize z_u J13 (n + 1) 4 6 = J14 at f14 ⊢
  refine z_wpS (Wp := Wp) (E' := E0 ++ x_cRef14 n) (J' := J14) (X' := X13) rfl rfl rfl ?_
  generalize X13 = X14
  exact w_190i_119 hs ⟨rfl, rfl, f14⟩
end QcRef
