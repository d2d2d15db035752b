/-! the meaning of a method out of its code, over whole numbers -/
theorem z_mL_keep {k : Nat} {l : z_L} : z_mL (z_keep k l) = m_keep k (z_mL l) := by
  unfold z_mL z_keep m_keep
  rw [List.map_append, List.map_take, List.map_replicate, List.length_map]
  rfl
theorem z_okL_keep {k : Nat} {l : z_L} (h : z_okL l) : z_okL (z_keep k l) := by
  intro i w hw
  unfold z_keep at hw
  rw [List.getD_eq_getElem?_getD, List.getElem?_append] at hw
  split at hw
  · rw [List.getElem?_take] at hw
    split at hw
    · exact h i w (by rw [List.getD_eq_getElem?_getD]; exact hw)
    · cases hw
  · rw [List.getElem?_replicate] at hw
    split at hw <;> cases hw
section Z4
variable {l : Launch} {d : Nat} {rt : Option FieldType} {zQ : z_O → z_S → Prop} {Q : m_O → m_S → Prop} {zex : Nat → String → z_L → z_S → Nat → Nat → Prop} {ex : Nat → String → m_L → m_S → Nat → Nat → Prop} {zWp : Nat → z_C} {Wp : Nat → m_C} {stops : List (Nat × Nat)} {ws : List Nat} {tbl : List m_Ent}
theorem z_run_sound (hQ : ∀ o S, zQ o S → z_okO o → z_okS S → Q (z_out o) (z_st S)) (hex : ∀ pc X l S bc bs, zex pc X l S bc bs → z_okL l → z_okS S → ex pc X (z_mL l) (z_st S) bc bs) (hWp : ∀ pc l st S bc bs, zWp pc l st S bc bs → z_okL l → z_okV st → z_okS S → Wp pc (z_mL l) (z_mV st) (z_st S) bc bs) : ∀ (n : Nat) (cs : List m_Ent) (zl : z_L) (zst : z_V) (zS : z_S) (bc bs : Nat), z_run (z_Call l d) rt zQ zex zWp stops ws tbl n cs zl zst zS bc bs → z_okL zl → z_okV zst → z_okS zS → m_run (m_Call l d) rt Q ex Wp stops tbl n cs (z_mL zl) (z_mV zst) (z_st zS) bc bs := by
  intro n
  induction n with
  | zero => intro cs zl zst zS bc bs h; exact h.elim
  | succ n ih =>
    intro cs zl zst zS bc bs h hl hv hS
    cases cs with
    | nil => exact h.elim
    | cons e cs =>
      have h : z_step (z_Call l d) rt zQ zex (z_has ws e.1.1) e (fun l st S bc bs => match m_stop stops (e.1.1 + e.1.2) with
        | some k => zWp (e.1.1 + e.1.2) (z_keep k l) st S bc bs
        | none => z_run (z_Call _ d) rt zQ zex zWp stops ws tbl n cs l st S bc bs) (fun t l st S bc bs => match m_stop stops t with
        | some k => zWp t (z_keep k l) st S bc bs
        | none => z_run (z_Call _ d) rt zQ zex zWp stops ws tbl n (m_from tbl t) l st S bc bs) zl zst zS bc bs := h
      show m_step (m_Call l d) rt Q ex e (fun l st S bc bs => match m_stop stops (e.1.1 + e.1.2) with
        | some k => Wp (e.1.1 + e.1.2) (m_keep k l) st S bc bs
        | none => m_run (m_Call _ d) rt Q ex Wp stops tbl n cs l st S bc bs) (fun t l st S bc bs => match m_stop stops t with
        | some k => Wp t (m_keep k l) st S bc bs
        | none => m_run (m_Call _ d) rt Q ex Wp stops tbl n (m_from tbl t) l st S bc bs) (z_mL zl) (z_mV zst) (z_st zS) bc bs
      refine z_step_sound hQ ?_ ?_ hex h hl hv hS
      · intro l' st' S' bc' bs' h' hl' hv' hS'
        cases hm : m_stop stops (e.1.1 + e.1.2) with
        | none =>
          simp only [hm] at h' ⊢
          exact ih _ _ _ _ _ _ h' hl' hv' hS'
        | some k =>
          simp only [hm] at h' ⊢
          rw [← z_mL_keep]
          exact hWp _ _ _ _ _ _ h' (z_okL_keep hl') hv' hS'
      · intro t l' st' S' bc' bs' h' hl' hv' hS'
        cases hm : m_stop stops t with
        | none =>
          simp only [hm] at h' ⊢
          exact ih _ _ _ _ _ _ h' hl' hv' hS'
        | some k =>
          simp only [hm] at h' ⊢
          rw [← z_mL_keep]
          exact hWp _ _ _ _ _ _ h' (z_okL_keep hl') hv' hS'
end Z4
def z_arg (w : z_W) : z_L := match w with
  | .inr (.inl _) => [some w, none]
  | .inr (.inr (.long _)) => [some w, none]
  | .inr (.inr (.double _)) => [some w, none]
  | _ => [some w]
def z_args0 : z_V → z_L
  | [] => []
  | w :: r => z_arg w ++ z_args0 r
def z_args (n : Nat) (vs : z_V) : z_L := z_args0 vs ++ List.replicate (n - (z_args0 vs).length) none
theorem z_arg_m {w : z_W} : m_arg (z_val w) = z_mL (z_arg w) := by
  match w with
  | .inl x => rfl
  | .inr (.inl x) => rfl
  | .inr (.inr (.int x)) => rfl
  | .inr (.inr (.long x)) => rfl
  | .inr (.inr (.float x)) => rfl
  | .inr (.inr (.double x)) => rfl
  | .inr (.inr (.ref x)) => rfl
  | .inr (.inr .null) => rfl
  | .inr (.inr (.retAddr x)) => rfl
theorem z_args0_m : ∀ {vs : z_V}, m_args0 (z_mV vs) = z_mL (z_args0 vs)
  | [] => rfl
  | w :: r => by
    show m_arg (z_val w) ++ m_args0 (z_mV r) = z_mL (z_arg w ++ z_args0 r)
    rw [z_arg_m, z_args0_m]
    unfold z_mL
    rw [List.map_append]
theorem z_args_m {n : Nat} {vs : z_V} : m_args n (z_mV vs) = z_mL (z_args n vs) := by
  unfold m_args z_args
  rw [z_args0_m, z_mL_len]
  unfold z_mL
  rw [List.map_append, List.map_replicate]
  rfl
theorem z_okL_app {a b : z_L} (h1 : z_okL a) (h2 : z_okL b) : z_okL (a ++ b) := by
  intro i w hw
  rw [List.getD_eq_getElem?_getD, List.getElem?_append] at hw
  split at hw
  · exact h1 i w (by rw [List.getD_eq_getElem?_getD]; exact hw)
  · exact h2 _ w (by rw [List.getD_eq_getElem?_getD]; exact hw)
theorem z_okL_nones (n : Nat) : z_okL (List.replicate n none) := by
  intro i w hw
  rw [List.getD_eq_getElem?_getD, List.getElem?_replicate] at hw
  split at hw <;> cases hw
theorem z_okL_one {w : z_W} (h : z_ok w) : z_okL [some w] := by
  intro i w' hw
  cases i with
  | zero => cases hw; exact h
  | succ i => simp at hw
theorem z_okL_two {w : z_W} (h : z_ok w) : z_okL [some w, none] := by
  intro i w' hw
  match i, hw with
  | 0, hw => cases hw; exact h
  | 1, hw => cases hw
  | i + 2, hw => simp at hw
theorem z_args0_ok : ∀ {vs : z_V}, z_okV vs → z_okL (z_args0 vs)
  | [], _ => by intro i w hw; simp [z_args0] at hw
  | w :: r, h => by
    refine z_okL_app ?_ (z_args0_ok h.2)
    unfold z_arg
    split
    · exact z_okL_two h.1
    · exact z_okL_two h.1
    · exact z_okL_two h.1
    · exact z_okL_one h.1
theorem z_args_ok {n : Nat} {vs : z_V} (h : z_okV vs) : z_okL (z_args n vs) := z_okL_app (z_args0_ok h) (z_okL_nones _)
/-- closed under runs of a method's code -/
def z_Cl (l : Launch) (d : Nat) (M : m_Meth) (Q : z_O → z_S → Prop) (Wp : Nat → z_C) : Prop := ∀ (n : Nat) (stops : List (Nat × Nat)) (ws : List Nat) (pc : Nat) (lc : z_L) (st : z_V) (S : z_S) (bc bs : Nat), z_run (z_Call l d) M.2.2.2.1 Q (fun _ X _ S _ _ => Q (.inr X) S) Wp stops ws M.2.2.2.2.1 n (m_from M.2.2.2.2.1 pc) lc st S bc bs → Wp pc lc st S bc bs
theorem z_sem_of {l : Launch} {d a mc ms : Nat} {vs : z_V} {S : z_S} {Q : z_O → z_S → Prop} {M : m_Meth} (hM : m_M[a]? = some M) (hok : m_okM M) (hlen : (z_args0 vs).length ≤ M.2.2.1)
    (h : ∀ Wp : Nat → z_C, z_Cl l d M Q Wp → z_okV vs → z_okS S → Wp 0 (z_args M.2.2.1 vs) [] S mc ms) : z_Sem l (d + 1) a vs S mc ms Q := by
  intro hv hS
  refine m_sem_of m_okall hM hok (by rw [z_args0_m, z_mL_len]; exact hlen) (fun Wp hs => ?_)
  have h1 := h (fun pc zl zst zS bc bs => z_okL zl → z_okV zst → z_okS zS → Wp pc (z_mL zl) (z_mV zst) (z_st zS) bc bs) (fun n stops ws pc lc st S' bc bs hr hl' hv' hS' => hs n stops pc _ _ _ _ _ (z_run_sound (zQ := Q) (ws := ws) (fun o S9 h9 ho hS9 => ⟨o, S9, rfl, rfl, ho, hS9, h9⟩) (fun pc X l9 S9 bc9 bs9 h9 _ hS9 => ⟨.inr X, S9, rfl, rfl, True.intro, hS9, h9⟩) (fun pc l9 st9 S9 bc9 bs9 h9 => h9) n _ lc st S' bc bs hr hl' hv' hS')) hv hS (z_args_ok hv) True.intro hS
  rw [← z_args_m] at h1
  exact h1
/-! calls in a clean form -/
abbrev z_X : Type := z_J × (Nat → Nat → UInt64)
def z_CallI (l : Launch) (d a : Nat) (ws : z_V) (E : m_E) (J : z_J) (X : z_X) (bc bs : Nat) (K : Int → z_J → z_X → Nat → Nat → Prop) (R : String → z_J → z_X → Nat → Nat → Prop) : Prop := z_Call l d a ws (E, J, X) bc bs (fun o S' bc' bs' => (∃ v J' X', o = .inl (some (.inl v)) ∧ S' = (E, J', X') ∧ K v J' X' bc' bs') ∨ (∃ x J' X', o = .inr x ∧ S' = (E, J', X') ∧ R x J' X' bc' bs'))
def z_CallL (l : Launch) (d a : Nat) (ws : z_V) (E : m_E) (J : z_J) (X : z_X) (bc bs : Nat) (K : Int → z_J → z_X → Nat → Nat → Prop) (R : String → z_J → z_X → Nat → Nat → Prop) : Prop := z_Call l d a ws (E, J, X) bc bs (fun o S' bc' bs' => (∃ v J' X', o = .inl (some (.inr (.inl v))) ∧ S' = (E, J', X') ∧ K v J' X' bc' bs') ∨ (∃ x J' X', o = .inr x ∧ S' = (E, J', X') ∧ R x J' X' bc' bs'))
def z_CallV (l : Launch) (d a : Nat) (ws : z_V) (E : m_E) (J : z_J) (X : z_X) (bc bs : Nat) (K : z_J → z_X → Nat → Nat → Prop) (R : String → z_J → z_X → Nat → Nat → Prop) : Prop := z_Call l d a ws (E, J, X) bc bs (fun o S' bc' bs' => (∃ J' X', o = .inl none ∧ S' = (E, J', X') ∧ K J' X' bc' bs') ∨ (∃ x J' X', o = .inr x ∧ S' = (E, J', X') ∧ R x J' X' bc' bs'))
section Z5
variable {l : Launch} {d a : Nat} {ws : z_V} {E : m_E} {J : z_J} {X : z_X} {bc bs : Nat} {K : Int → z_J → z_X → Nat → Nat → Prop} {KV : z_J → z_X → Nat → Nat → Prop} {R : String → z_J → z_X → Nat → Nat → Prop} {K' : z_O → z_S → Nat → Nat → Prop}
theorem z_Call_mono {K1 K2 : z_O → z_S → Nat → Nat → Prop} {S : z_S} (h : z_Call l d a ws S bc bs K1) (hK : ∀ o S' bc bs, K1 o S' bc bs → K2 o S' bc bs) : z_Call l d a ws S bc bs K2 := by
  obtain ⟨mc, ms, Q, h1, h2, h3, h4⟩ := h
  exact ⟨mc, ms, Q, h1, h2, h3, fun o S' hS hq => hK _ _ _ _ (h4 o S' hS hq)⟩
theorem z_mI (h : z_CallI l d a ws E J X bc bs K R) (hK : ∀ v J' X' bc bs, K v J' X' bc bs → K' (.inl (some (.inl v))) (E, J', X') bc bs) (hR : ∀ x J' X' bc bs, R x J' X' bc bs → K' (.inr x) (E, J', X') bc bs) : z_Call l d a ws (E, J, X) bc bs K' := by
  refine z_Call_mono h ?_
  rintro o S' bc' bs' (⟨v, J', X', rfl, rfl, hk⟩ | ⟨x, J', X', rfl, rfl, hk⟩)
  · exact hK _ _ _ _ _ hk
  · exact hR _ _ _ _ _ hk
theorem z_mL9 (h : z_CallL l d a ws E J X bc bs K R) (hK : ∀ v J' X' bc bs, K v J' X' bc bs → K' (.inl (some (.inr (.inl v)))) (E, J', X') bc bs) (hR : ∀ x J' X' bc bs, R x J' X' bc bs → K' (.inr x) (E, J', X') bc bs) : z_Call l d a ws (E, J, X) bc bs K' := by
  refine z_Call_mono h ?_
  rintro o S' bc' bs' (⟨v, J', X', rfl, rfl, hk⟩ | ⟨x, J', X', rfl, rfl, hk⟩)
  · exact hK _ _ _ _ _ hk
  · exact hR _ _ _ _ _ hk
theorem z_mV9 (h : z_CallV l d a ws E J X bc bs KV R) (hK : ∀ J' X' bc bs, KV J' X' bc bs → K' (.inl none) (E, J', X') bc bs) (hR : ∀ x J' X' bc bs, R x J' X' bc bs → K' (.inr x) (E, J', X') bc bs) : z_Call l d a ws (E, J, X) bc bs K' := by
  refine z_Call_mono h ?_
  rintro o S' bc' bs' (⟨J', X', rfl, rfl, hk⟩ | ⟨x, J', X', rfl, rfl, hk⟩)
  · exact hK _ _ _ _ hk
  · exact hR _ _ _ _ _ hk
/-- returns w and leaves S -/
def z_ret (w : z_W) (S : z_S) : z_O → z_S → Prop := fun o S' => o = .inl (some w) ∧ S' = S
def z_vd (S : z_S) : z_O → z_S → Prop := fun o S' => o = .inl none ∧ S' = S
/-- returns some int, with what P says of it and of what is left -/
def z_rq (E : m_E) (P : Int → z_J → z_X → Prop) : z_O → z_S → Prop := fun o S' => ∃ v J X, o = .inl (some (.inl v)) ∧ S' = (E, J, X) ∧ P v J X
def z_vq (E : m_E) (P : z_J → z_X → Prop) : z_O → z_S → Prop := fun o S' => ∃ J X, o = .inl none ∧ S' = (E, J, X) ∧ P J X
theorem z_cI {v : Int} {J' : z_J} {X' : z_X} (h : z_Sem l d a ws (E, J, X) 0 0 (z_ret (.inl v) (E, J', X'))) (hK : K v J' X' bc bs) : z_CallI l d a ws E J X bc bs K R := by
  refine ⟨0, 0, _, h, Nat.zero_le _, Nat.zero_le _, ?_⟩
  rintro _ _ _ ⟨rfl, rfl⟩
  exact Or.inl ⟨_, _, _, rfl, rfl, hK⟩
theorem z_cL {v : Int} {J' : z_J} {X' : z_X} (h : z_Sem l d a ws (E, J, X) 0 0 (z_ret (.inr (.inl v)) (E, J', X'))) (hK : K v J' X' bc bs) : z_CallL l d a ws E J X bc bs K R := by
  refine ⟨0, 0, _, h, Nat.zero_le _, Nat.zero_le _, ?_⟩
  rintro _ _ _ ⟨rfl, rfl⟩
  exact Or.inl ⟨_, _, _, rfl, rfl, hK⟩
theorem z_cV {J' : z_J} {X' : z_X} (h : z_Sem l d a ws (E, J, X) 0 0 (z_vd (E, J', X'))) (hK : KV J' X' bc bs) : z_CallV l d a ws E J X bc bs KV R := by
  refine ⟨0, 0, _, h, Nat.zero_le _, Nat.zero_le _, ?_⟩
  rintro _ _ _ ⟨rfl, rfl⟩
  exact Or.inl ⟨_, _, rfl, rfl, hK⟩
theorem z_cIq {P : Int → z_J → z_X → Prop} (h : z_Sem l d a ws (E, J, X) 0 0 (z_rq E P)) (hK : ∀ v J' X', P v J' X' → K v J' X' bc bs) : z_CallI l d a ws E J X bc bs K R := by
  refine ⟨0, 0, _, h, Nat.zero_le _, Nat.zero_le _, ?_⟩
  rintro _ _ _ ⟨v, J', X', rfl, rfl, hp⟩
  exact Or.inl ⟨_, _, _, rfl, rfl, hK _ _ _ hp⟩
theorem z_cVq {P : z_J → z_X → Prop} (h : z_Sem l d a ws (E, J, X) 0 0 (z_vq E P)) (hK : ∀ J' X', P J' X' → KV J' X' bc bs) : z_CallV l d a ws E J X bc bs KV R := by
  refine ⟨0, 0, _, h, Nat.zero_le _, Nat.zero_le _, ?_⟩
  rintro _ _ _ ⟨J', X', rfl, rfl, hp⟩
  exact Or.inl ⟨_, _, rfl, rfl, hK _ _ hp⟩
end Z5
