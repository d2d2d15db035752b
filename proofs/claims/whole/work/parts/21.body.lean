/-! runs of instructions, and a method's body -/
theorem m_keep_at {k i : Nat} {l : m_L} {v : Value} (h : (m_keep k l)[i]? = some (some v)) : l[i]? = some (some v) := by
  unfold m_keep at h
  rw [List.getElem?_append] at h
  split at h
  · rename_i hi
    rw [List.getElem?_take] at h
    split at h
    · exact h
    · cases h
  · rw [List.getElem?_replicate] at h
    split at h <;> cases h
theorem m_keep_len {k : Nat} {l : m_L} : (m_keep k l).length = l.length := by
  unfold m_keep
  rw [List.length_append, List.length_take, List.length_replicate]
  omega
theorem m_Wp_keep {G : m_G} {pc k : Nat} {l : m_L} {st : m_V} {S : m_S} {bc bs : Nat} (h : m_Wp G pc (m_keep k l) st S bc bs) : m_Wp G pc l st S bc bs := by
  intro ad H ls cst locs cells slots hext hH hS hlr hst hc hs
  refine h ad H ls cst locs cells slots hext hH hS ⟨by rw [m_keep_len]; exact hlr.1, hlr.2.1, hlr.2.2.1, fun i v hi => hlr.2.2.2 i v (m_keep_at hi)⟩ hst hc hs
/-- a tail of the code: its instructions are the code's, one behind the other -/
def m_tail (tbl cs : List m_Ent) : Prop := (∀ e ∈ cs, e ∈ tbl) ∧ m_seq cs = true
theorem m_tail.next {tbl cs : List m_Ent} {e : m_Ent} (h : m_tail tbl (e :: cs)) : m_tail tbl cs ∧ ∀ e2 r, cs = e2 :: r → e2.1.1 = e.1.1 + e.1.2 := by
  obtain ⟨h1, h2⟩ := h
  cases cs with
  | nil => exact ⟨⟨fun _ h => by simp at h, rfl⟩, fun _ _ h => by cases h⟩
  | cons e2 r =>
    simp only [m_seq, Bool.and_eq_true] at h2
    exact ⟨⟨fun x hx => h1 x (List.mem_cons_of_mem _ hx), h2.2⟩, fun e3 r3 h => by cases h; exact (m_beq h2.1).symm⟩
theorem m_tail.from {tbl : List m_Ent} : ∀ {cs : List m_Ent} {pc : Nat}, m_tail tbl cs → m_tail tbl (m_from cs pc) ∧ ∀ e2 r, m_from cs pc = e2 :: r → e2.1.1 = pc
  | [], pc, h => ⟨h, fun _ _ h => by cases h⟩
  | e :: cs, pc, h => by
    unfold m_from
    split
    · rename_i hb
      exact ⟨h, fun e2 r h9 => by cases h9; exact m_beq hb⟩
    · exact (h.next.1).from
section S14
variable {G : m_G} {call : Nat → m_V → m_S → Nat → Nat → (m_O → m_S → Nat → Nat → Prop) → Prop} {rt : Option FieldType} {Q : m_O → m_S → Prop} {ex : Nat → String → m_L → m_S → Nat → Nat → Prop} {tbl : List m_Ent} {stops : List (Nat × Nat)}
theorem m_run_sound (hstep : ∀ e ∈ tbl, ∀ (nx : m_C) (jp : Nat → m_C) (l : m_L) (st : m_V) (S : m_S) (bc bs : Nat), m_step call rt Q ex e nx jp l st S bc bs → (∀ l st S bc bs, nx l st S bc bs → m_Wp G (e.1.1 + e.1.2) l st S bc bs) → (∀ t l st S bc bs, jp t l st S bc bs → m_Wp G t l st S bc bs) → m_Wp G e.1.1 l st S bc bs) (htbl : m_tail tbl tbl) :
    ∀ (n : Nat) (cs : List m_Ent) (l : m_L) (st : m_V) (S : m_S) (bc bs : Nat) (pc : Nat), m_tail tbl cs → (∀ e2 r, cs = e2 :: r → e2.1.1 = pc) → m_run call rt Q ex (m_Wp G) stops tbl n cs l st S bc bs → m_Wp G pc l st S bc bs := by
  intro n
  induction n with
  | zero => intro cs l st S bc bs pc _ _ h; exact h.elim
  | succ n ih =>
    intro cs l st S bc bs pc ht hpc h
    cases cs with
    | nil => exact h.elim
    | cons e cs =>
      have epc := hpc e cs rfl
      rw [← epc]
      obtain ⟨ht2, hn2⟩ := ht.next
      have h : m_step call rt Q ex e (fun l st S bc bs => match m_stop stops (e.1.1 + e.1.2) with
        | some k => m_Wp G (e.1.1 + e.1.2) (m_keep k l) st S bc bs
        | none => m_run call rt Q ex (m_Wp G) stops tbl n cs l st S bc bs)
        (fun t l st S bc bs => match m_stop stops t with
        | some k => m_Wp G t (m_keep k l) st S bc bs
        | none => m_run call rt Q ex (m_Wp G) stops tbl n (m_from tbl t) l st S bc bs) l st S bc bs := h
      refine hstep e (ht.1 e List.mem_cons_self) _ _ l st S bc bs h (fun l st S bc bs hk => ?_) (fun t l st S bc bs hk => ?_)
      · split at hk
        · exact m_Wp_keep hk
        · exact ih cs l st S bc bs _ ht2 hn2 hk
      · split at hk
        · exact m_Wp_keep hk
        · exact ih (m_from tbl t) l st S bc bs t htbl.from.1 htbl.from.2 hk
end S14
/-- the locals at a body's start -/
def m_arg (v : Value) : m_L := match v with
  | .long _ => [some v, none]
  | .double _ => [some v, none]
  | _ => [some v]
def m_args0 : m_V → m_L
  | [] => []
  | v :: r => m_arg v ++ m_args0 r
def m_args (n : Nat) (vs : m_V) : m_L := m_args0 vs ++ List.replicate (n - (m_args0 vs).length) none
theorem m_args_rel {ad : Nat → Nat} {n : Nat} : ∀ {vs : m_V} {cs : List Value}, m_vrs ad n vs cs → (m_args0 vs).length = (lg_sl cs).length ∧ ∀ (i : Nat) (v : Value), (m_args0 vs)[i]? = some (some v) → ∃ c : Value, m_vr ad n v c ∧ (lg_sl cs)[i]? = some (Slot.val c)
  | [], cs, h => by
    obtain rfl : cs = [] := h
    exact ⟨rfl, fun i v hi => by simp [m_args0] at hi⟩
  | v :: vs, cs, h => by
    obtain ⟨c, cs', rfl, h1, h2⟩ := h
    obtain ⟨e1, e2⟩ := m_args_rel h2
    have hcat := h1.cat
    by_cases hc : c.category = 2
    · have ea : m_arg v = [some v, none] := by
        rw [hcat] at hc
        cases v <;> first | rfl | cases hc
      have eb : lg_sl (c :: cs') = [.val c, .second] ++ lg_sl cs' := by simp [lg_sl, hc]
      refine ⟨by simp [m_args0, ea, eb, e1], fun i w hi => ?_⟩
      rw [eb]
      simp only [m_args0, ea] at hi
      match i, hi with
      | 0, hi => cases hi; exact ⟨c, h1, rfl⟩
      | 1, hi => cases hi
      | i + 2, hi => exact e2 i w hi
    · have ea : m_arg v = [some v] := by
        rw [hcat] at hc
        cases v <;> first | rfl | exact absurd rfl hc
      have eb : lg_sl (c :: cs') = [.val c] ++ lg_sl cs' := by simp [lg_sl, hc]
      refine ⟨by simp [m_args0, ea, eb, e1], fun i w hi => ?_⟩
      rw [eb]
      simp only [m_args0, ea] at hi
      match i, hi with
      | 0, hi => cases hi; exact ⟨c, h1, rfl⟩
      | i + 1, hi => exact e2 i w hi
/-- THE MEANING OF A METHOD OUT OF ITS CODE: for any predicate Wp on places of the code that is closed under runs, Wp at the start -/
theorem m_sem_of {l : Launch} (hall : ∀ M ∈ m_M, m_okC M) {d a mc ms : Nat} {vs : m_V} {S : m_S} {Q : m_O → m_S → Prop} {M : m_Meth} (hM : m_M[a]? = some M) (hok : m_okM M) (hlen : (m_args0 vs).length ≤ M.2.2.1)
    (h : ∀ Wp : Nat → m_C, (∀ (n : Nat) (stops : List (Nat × Nat)) (pc : Nat) (lc : m_L) (st : m_V) (S : m_S) (bc bs : Nat), m_run (m_Call l d) M.2.2.2.1 Q (fun _ X _ S _ _ => Q (.inr X) S) Wp stops M.2.2.2.2.1 n (m_from M.2.2.2.2.1 pc) lc st S bc bs → Wp pc lc st S bc bs) → Wp 0 (m_args M.2.2.1 vs) [] S mc ms) : m_Sem l (d + 1) a vs S mc ms Q := by
  intro M' hM' s0 D dA L xs ad cargs hCx hvs
  have eM : M' = M := Option.some.inj (hM'.symm.trans hM)
  subst eM
  obtain ⟨hC, hT, hTh⟩ := hok
  have hC2 := hC.2
  simp only [m_okB, Bool.and_eq_true, decide_eq_true_eq] at hC2
  simp only [m_okT, Bool.and_eq_true] at hT
  refine vx_ofW (cc := M'.2.1) (maxL := M'.2.2.1) (ret := M'.2.2.2.1) hC2.1.1.1.2 rfl ?_
  intro p e s m args below meth c s₁ B hml hno hPc
  obtain ⟨rfl, hle, hW, hold, hH⟩ := hPc
  have hts : ∀ w ∈ m_wsM M', w.before cargs.toArray s = true := atoms_spec (ws := m_wsM M') B.pre
  have hown : s.vm.findClass M'.1.cls = some m.cls := findClass_of_methodNamed B.named
  have hlocks := B.notSynchronized
  have F : m_Fix (m_GG p l e s m cargs.toArray below meth c D dA s0 L xs ad S Q d mc ms) M'.1.cls M'.2.1 d :=
    ⟨B.exec, B.bytes, hown, fun w hw => hts w (List.mem_cons_of_mem _ hw), hlocks, hCx, hW, hle, hold, (show d + 11 ≤ d + 1 + 10 by omega), (show 64 * (d + 1) + 200 ≤ 64 * (d + 1) + 200 from Nat.le_refl _)⟩
  have hkind : k_kind M' = 2 → meth.name = "<init>" := by
    intro hk
    have h9 := hC2.1.2
    rw [hk] at h9
    simp only [Bool.and_eq_true, decide_eq_true_eq] at h9
    exact (name_of_methodNamed B.named B.method).1.trans h9.1.2
  have hstep : ∀ en ∈ M'.2.2.2.2.1, ∀ (nx : m_C) (jp : Nat → m_C) (lc : m_L) (st : m_V) (S9 : m_S) (bc bs : Nat), m_step (m_Call l d) M'.2.2.2.1 Q (fun _ X _ S _ _ => Q (.inr X) S) en nx jp lc st S9 bc bs → (∀ lc st S9 bc bs, nx lc st S9 bc bs → m_Wp (m_GG p l e s m cargs.toArray below meth c D dA s0 L xs ad S Q d mc ms) (en.1.1 + en.1.2) lc st S9 bc bs) → (∀ t lc st S9 bc bs, jp t lc st S9 bc bs → m_Wp (m_GG p l e s m cargs.toArray below meth c D dA s0 L xs ad S Q d mc ms) t lc st S9 bc bs) → m_Wp (m_GG p l e s m cargs.toArray below meth c D dA s0 L xs ad S Q d mc ms) en.1.1 lc st S9 bc bs := by
    intro en hen nx jp lc st S9 bc bs hs hnx hjp
    have hokE := List.all_eq_true.mp hT.1 en hen
    cases hend : m_isEnd en with
    | true => exact m_end_sound F hC2.2 hno B.returns hokE (List.all_eq_true.mp hTh en hen) hend hs
    | false => exact m_step_sound F hall hC2.2 hkind hokE hend hs hnx hjp (fun X lc S9 bc bs hq => m_Wx_out hno hlocks hq)
  have htl : m_tail M'.2.2.2.2.1 M'.2.2.2.2.1 := ⟨fun _ h => h, hT.2⟩
  have hWp := h (m_Wp (m_GG p l e s m cargs.toArray below meth c D dA s0 L xs ad S Q d mc ms)) (fun n stops pc lc st S9 bc bs hr => m_run_sound hstep htl n _ lc st S9 bc bs pc htl.from.1 htl.from.2 hr)
  obtain ⟨r1, r2⟩ := m_args_rel hvs
  have hlen2 : (lg_sl cargs).length ≤ M'.2.2.1 := by rw [← r1]; exact hlen
  have hl := lv_entry cargs (n := M'.2.2.1) hlen2
  rw [lg_entry_eq]
  refine hWp ad s.heap _ [] [] 0 0 (m_ext.rf _ _) hH va_S.rf ⟨?_, ?_, hl.2.1, fun i v hi => ?_⟩ rfl (show 0 + mc ≤ mc by omega) (show 0 + ms ≤ ms by omega)
  · show (m_args M'.2.2.1 vs).length = c.maxLocals
    rw [hml]
    simp only [m_args, List.length_append, List.length_replicate]
    omega
  · show _ = c.maxLocals
    rw [hml]; exact hl.1
  · simp only [m_args] at hi
    rw [List.getElem?_append] at hi
    split at hi
    · rename_i hlt
      obtain ⟨c9, q1, q2⟩ := r2 i v hi
      refine ⟨c9, q1, ?_⟩
      simp only [List.getElem?_toArray]
      rw [List.getElem?_append_left (by rw [← r1]; exact hlt)]
      exact q2
    · rw [List.getElem?_replicate] at hi
      split at hi <;> cases hi
