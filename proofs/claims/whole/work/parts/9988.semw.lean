/-! a wrapper's meaning out of its code -/
abbrev m_hh (M : m_Meth) : List (Nat × Nat × Nat × Nat) := M.2.2.2.2.2.1
def m_wsW (M : m_Meth) : List Cond := Cond.codeWith M.1 M.2.1 M.2.2.1 M.2.2.2.1 (m_hh M) :: m_tbl
/-- what a handler of the law catches, by its class's place in the pool -/
def m_tn (t : Nat) : String := match t with
  | 13 => "java/lang/IndexOutOfBoundsException"
  | 15 => "java/lang/IllegalArgumentException"
  | _ => "java/lang/ArithmeticException"
def m_tl9 (t : Nat) : Nat := match t with
  | 13 => 867
  | 15 => 943
  | _ => 1452
def m_tc9 (t : Nat) : Nat := match t with
  | 13 => 950
  | 15 => 967
  | _ => 1464
/-- what is returned where X is caught at pc -/
def m_htag (hh : List (Nat × Nat × Nat × Nat)) (pc : Nat) (X : String) : Option Int32 := match hh with
  | [q] => if (q.1 ≤ pc ∧ pc < q.2.1) ∧ X = m_tn q.2.2.2 then some 1 else none
  | [q, r] => if (q.1 ≤ pc ∧ pc < q.2.1) ∧ X = m_tn q.2.2.2 then some 1 else if (r.1 ≤ pc ∧ pc < r.2.1) ∧ X = m_tn r.2.2.2 then some 2 else none
  | _ => none
def m_Nc (s0 : State) : Prop := va_Nc "java/lang/IllegalArgumentException" "java/lang/IndexOutOfBoundsException" s0 ∧ va_Nc "java/lang/ArithmeticException" "java/lang/IndexOutOfBoundsException" s0
def m_SemW (l : Launch) (d : Nat) (M : m_Meth) (vs : m_V) (S : m_S) (mc ms : Nat) (Q : m_O → m_S → Prop) : Prop :=
  ∀ (s0 : State) (D : va_G) (dA : FieldType → ClassId) (L : Nat) (xs : Nat → Int32) (ad : Nat → Nat) (cargs : List Value), m_Cx l s0 D dA L xs ad → m_Nc s0 → m_vrs ad S.1.length vs cargs →
    vx_Met l M.1 (m_wsW M) (m_rm d mc ms) (m_Pc s0 D dA L xs ad S cargs) (m_Qc s0 D dA L xs ad S Q) (m_XC s0 D dA L xs ad S Q) mc ms (fun q => s0.heap.size ≤ q)
/-- the handler at h returns v -/
def m_okHd (M : m_Meth) (h v : Nat) : Bool := (match decode M.2.1 h with
  | .ok (.astore j, 2) => Nat.blt j M.2.2.1 && decide (decode M.2.1 (h + 2) = .ok (.iconst (v : Int), 1)) && decide (decode M.2.1 (h + 3) = .ok (.ireturn, 1))
  | .ok (.astore_n k, 1) => Nat.blt k.val M.2.2.1 && decide (decode M.2.1 (h + 1) = .ok (.iconst (v : Int), 1)) && decide (decode M.2.1 (h + 2) = .ok (.ireturn, 1))
  | _ => false)
def m_okCt (M : m_Meth) (t : Nat) : Bool := !Nat.beq t 0 && m_at (m_tl9 t) (.classLink M.1.cls t (m_tn t)) && decide (lw_tbl[m_tc9 t]? = some (.castable (m_tn t) (m_tn t)))
def m_okHh (M : m_Meth) : Bool := match m_hh M with
  | [q] => m_okHd M q.2.2.1 1 && m_okCt M q.2.2.2
  | [q, r] => m_okHd M q.2.2.1 1 && m_okCt M q.2.2.2 && m_okHd M r.2.2.1 2 && m_okCt M r.2.2.2 && Nat.beq q.2.2.2 13 && (Nat.beq r.2.2.2 15 || Nat.beq r.2.2.2 123)
  | _ => false
def m_onlyI (e : m_Ent) : Bool := match e.2.1 with
  | .return_ => false
  | .lreturn => false
  | .dreturn => false
  | .new _ => (match e.2.2.2.2.2.2 with
    | 0 => true
    | _ => false)
  | _ => true
def m_okW (M : m_Meth) : Prop := (Cond.codeWith M.1 M.2.1 M.2.2.1 M.2.2.2.1 (m_hh M) ∈ m_tbl ∧ m_okB M = true) ∧ m_okT M = true ∧ m_okHh M = true ∧ (M.2.2.2.2.1.all m_onlyI = true ∧ M.2.2.2.1 = some .int ∧ k_kind M = 1)
section V9
variable {p : Program} {l : Launch} {e : Env} {s : State} {m : MethodId} {args : Array Value} {below : List Frame} {meth : Method} {c : Code} {D : va_G} {dA : FieldType → ClassId} {s0 : State} {L : Nat} {xs : Nat → Int32} {ad0 : Nat → Nat} {S0 : m_S} {Q : m_O → m_S → Prop} {d mc ms : Nat}
theorem m_okHd_use {M : m_Meth} {h v : Nat} (hk : m_okHd M h v = true) : ∃ j hp2 : Nat, ((decode M.2.1 h = .ok (.astore j, 2) ∧ hp2 = h + 2) ∨ ∃ k : Fin 4, decode M.2.1 h = .ok (.astore_n k, 1) ∧ (k : Nat) = j ∧ hp2 = h + 1) ∧ j < M.2.2.1 ∧ decode M.2.1 hp2 = .ok (.iconst (v : Int), 1) ∧ decode M.2.1 (hp2 + 1) = .ok (.ireturn, 1) := by
  unfold m_okHd at hk
  split at hk
  · rename_i j hd
    simp only [Bool.and_eq_true, decide_eq_true_eq] at hk
    exact ⟨j, h + 2, Or.inl ⟨hd, rfl⟩, by have := hk.1.1; exact Nat.blt_eq.mp this, hk.1.2, hk.2⟩
  · rename_i k hd
    simp only [Bool.and_eq_true, decide_eq_true_eq] at hk
    exact ⟨k.val, h + 1, Or.inr ⟨k, hd, rfl, rfl⟩, by have := hk.1.1; exact Nat.blt_eq.mp this, hk.1.2, hk.2⟩
  · cases hk
theorem m_okCt_use {M : m_Meth} {t : Nat} (F : m_Fix (m_GG p l e s m args below meth c D dA s0 L xs ad0 S0 Q d mc ms) M.1.cls M.2.1 d) (hk : m_okCt M t = true) : t ≠ 0 ∧ (Cond.classLink M.1.cls t (m_tn t)).before args s = true ∧ (Cond.castable (m_tn t) (m_tn t)).before args s = true := by
  unfold m_okCt at hk
  simp only [Bool.and_eq_true, Bool.not_eq_true', decide_eq_true_eq] at hk
  refine ⟨fun z => ?_, F.w hk.1.2, (va_Nw.warmC F.2.2.2.2.2.2.1 (F.2.2.2.2.2.1.2.2.1 _ (List.mem_of_getElem? hk.2) rfl)).use rfl⟩
  subst z
  exact absurd hk.1.1 (by decide)
theorem m_Wx_tag {M : m_Meth} (F : m_Fix (m_GG p l e s m args below meth c D dA s0 L xs ad0 S0 Q d mc ms) M.1.cls M.2.1 d) (hr : meth.sig.returnType = some .int) (htab : c.exceptionTable.toList = tableOf (m_hh M)) (hml : c.maxLocals = M.2.2.1) (hNc : m_Nc s) (hok : m_okHh M = true) {pc : Nat} {X : String} {v : Int32} {lc : m_L} {S : m_S} {bc bs : Nat} (ht : m_htag (m_hh M) pc X = some v) (hQ : Q (.inl (some (.int v))) S) : m_Wx (m_GG p l e s m args below meth c D dA s0 L xs ad0 S0 Q d mc ms) pc X lc S bc bs := by
  unfold m_okHh at hok
  unfold m_htag at ht
  split at hok
  · rename_i q hq
    simp only [Bool.and_eq_true] at hok
    rw [hq] at ht htab
    simp only at ht
    split at ht
    · rename_i hc
      obtain ⟨⟨c1, c2⟩, rfl⟩ := hc
      cases ht
      obtain ⟨j, hp2, a1, a2, a3, a4⟩ := m_okHd_use hok.1
      obtain ⟨b1, b2, b3⟩ := m_okCt_use F hok.2
      exact m_Wx_catch F hr [] ⟨q.1, q.2.1, q.2.2.1, q.2.2.2⟩ [] htab (fun z hz => by cases hz) (by simp [covers, c1, c2]) b1 b2 b3 a1 (by rw [hml]; exact a2) a3 (by decide) a4 hQ
    · cases ht
  · rename_i q r hq
    simp only [Bool.and_eq_true, Bool.or_eq_true] at hok
    obtain ⟨⟨⟨⟨⟨o1, o2⟩, o3⟩, o4⟩, o5⟩, o6⟩ := hok
    have o5 := m_beq o5
    rw [hq] at ht htab
    simp only at ht
    split at ht
    · rename_i hc
      obtain ⟨⟨c1, c2⟩, rfl⟩ := hc
      cases ht
      obtain ⟨j, hp2, a1, a2, a3, a4⟩ := m_okHd_use o1
      obtain ⟨b1, b2, b3⟩ := m_okCt_use F o2
      exact m_Wx_catch F hr [] ⟨q.1, q.2.1, q.2.2.1, q.2.2.2⟩ [⟨r.1, r.2.1, r.2.2.1, r.2.2.2⟩] htab (fun z hz => by cases hz) (by simp [covers, c1, c2]) b1 b2 b3 a1 (by rw [hml]; exact a2) a3 (by decide) a4 hQ
    · split at ht
      · rename_i hc
        obtain ⟨⟨c1, c2⟩, rfl⟩ := hc
        cases ht
        obtain ⟨j, hp2, a1, a2, a3, a4⟩ := m_okHd_use o3
        obtain ⟨b1, b2, b3⟩ := m_okCt_use F o4
        obtain ⟨d1, d2, d3⟩ := m_okCt_use F o2
        refine m_Wx_catch F hr [⟨q.1, q.2.1, q.2.2.1, q.2.2.2⟩] ⟨r.1, r.2.1, r.2.2.1, r.2.2.2⟩ [] htab (fun z hz => ?_) (by simp [covers, c1, c2]) b1 b2 b3 a1 (by rw [hml]; exact a2) a3 (by decide) a4 hQ
        obtain rfl : z = ⟨q.1, q.2.1, q.2.2.1, q.2.2.2⟩ := by simpa using hz
        refine Or.inr ⟨d1, _, d2, ?_⟩
        rw [o5]
        rcases o6 with o6 | o6
        · rw [m_beq o6]; exact hNc.1
        · rw [m_beq o6]; exact hNc.2
      · cases ht
  · cases hok
end V9
