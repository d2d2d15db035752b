/-! what is checked of an instruction by its table row, and its step: stack, locals, branches -/
def m_at (i : Nat) (w : Cond) : Bool := decide (lw_tbl[i]? = some w) && goodWord w
def m_okS (_own : String) (e : m_Ent) : Bool := match e.2.1 with
  | .iconst n => decide (Int32.ofInt n = e.2.2.1) && Nat.beq e.1.2 1
  | .bipush n => decide ((Int8.ofInt n).toInt32 = e.2.2.1) && Nat.beq e.1.2 2
  | .sipush n => decide ((Int16.ofInt n).toInt32 = e.2.2.1) && Nat.beq e.1.2 3
  | .lconst _ => Nat.beq e.1.2 1
  | .dconst _ => Nat.beq e.1.2 1
  | .iload _ => Nat.beq e.1.2 2
  | .iload_n _ => Nat.beq e.1.2 1
  | .aload _ => Nat.beq e.1.2 2
  | .aload_n _ => Nat.beq e.1.2 1
  | .lload _ => Nat.beq e.1.2 2
  | .lload_n _ => Nat.beq e.1.2 1
  | .dload _ => Nat.beq e.1.2 2
  | .istore _ => Nat.beq e.1.2 2
  | .istore_n _ => Nat.beq e.1.2 1
  | .astore _ => Nat.beq e.1.2 2
  | .astore_n _ => Nat.beq e.1.2 1
  | .lstore _ => Nat.beq e.1.2 2
  | .dstore _ => Nat.beq e.1.2 2
  | .iinc _ n => decide (Int32.ofInt n = e.2.2.1) && Nat.beq e.1.2 3
  | .goto off => decide ((e.1.1 : Int) + off = (e.2.2.2.1 : Int)) && Nat.beq e.1.2 3
  | .ifCond _ off => decide ((e.1.1 : Int) + off = (e.2.2.2.1 : Int)) && Nat.beq e.1.2 3
  | .if_icmp _ off => decide ((e.1.1 : Int) + off = (e.2.2.2.1 : Int)) && Nat.beq e.1.2 3
  | .ifnonnull off => decide ((e.1.1 : Int) + off = (e.2.2.2.1 : Int)) && Nat.beq e.1.2 3
  | .tableswitch dflt lo hi offs => decide (0 ≤ (e.1.1 : Int) + dflt) && decide ((offs.size : Int) = hi - lo + 1) && offs.all (fun off => decide (0 ≤ (e.1.1 : Int) + off))
  | _ => Nat.beq e.1.2 1
section S2
variable {G : m_G} {own : String} {cc : ByteArray} {d : Nat} {pc : Nat} {l : m_L} {st : m_V} {S : m_S} {bc bs : Nat}
theorem m_i_load {len i : Nat} {v : Value} (hv : l.getD i none = some v) (h : m_Wp G (pc + len) l (v :: st) S bc bs)
    (row : ∀ H locs cells slots ls cst (c : Value), (∃ ad n, m_vr ad n v c) → ls[i]? = some (Slot.val c) → m_WW G H locs cells slots (F0 (g_m G) (pc + len) ls (c :: cst)) → m_WW G H locs cells slots (F0 (g_m G) pc ls cst)) : m_Wp G pc l st S bc bs := by
  intro ad H ls cst locs cells slots hext hH hS hl hst hc hs
  obtain ⟨c, h1, h2⟩ := hl.at hv
  exact row H locs cells slots ls cst c ⟨_, _, h1⟩ h2 (h ad H ls _ locs cells slots hext hH hS hl ⟨c, cst, rfl, h1, hst⟩ hc hs)
theorem m_i_store1 {len i : Nat} {v : Value} {r : m_V} (hst0 : st = v :: r) (hcat : v.category = 1) (hi : i < l.length) (hcl : ∀ j v, i = j + 1 → l[j]? = some (some v) → v.category = 1) (h : m_Wp G (pc + len) (l.set i (some v)) r S bc bs)
    (row : ∀ H locs cells slots ls cst (c : Value), (∃ ad n, m_vr ad n v c) → lv_has ls (g_c G).maxLocals (m_all ls) → i < (g_c G).maxLocals → (∀ ls', lv_has ls' (g_c G).maxLocals ((i, c) :: (m_all ls).filter (fun q => !(q.1 == i) && !(q.1 + 1 == i && q.2.category == 2))) → m_WW G H locs cells slots (F0 (g_m G) (pc + len) ls' cst)) → m_WW G H locs cells slots (F0 (g_m G) pc ls (c :: cst))) : m_Wp G pc l st S bc bs := by
  intro ad H ls cst locs cells slots hext hH hS hl hst hc hs
  subst hst0
  obtain ⟨c, cst', rfl, h1, h2⟩ := hst
  exact row H locs cells slots ls cst' c ⟨_, _, h1⟩ (m_all_has hl) (by rw [← hl.1]; exact hi) (fun ls' h' => h ad H ls' _ locs cells slots hext hH hS (hl.put1 h1 hcl h') h2 hc hs)
theorem m_i_store2 {len i : Nat} {v : Value} {r : m_V} (hst0 : st = v :: r) (hi : i + 1 < l.length) (hcl : ∀ j v, i = j + 1 → l[j]? = some (some v) → v.category = 1) (h : m_Wp G (pc + len) ((l.set i (some v)).set (i + 1) none) r S bc bs)
    (row : ∀ H locs cells slots ls cst (c : Value), (∃ ad n, m_vr ad n v c) → lv_has ls (g_c G).maxLocals (m_all ls) → i + 1 < (g_c G).maxLocals → (∀ ls', lv_has ls' (g_c G).maxLocals ((i, c) :: (m_all ls).filter (fun q => !(q.1 == i) && (!(q.1 == i + 1) && !(q.1 + 1 == i && q.2.category == 2)))) → m_WW G H locs cells slots (F0 (g_m G) (pc + len) ls' cst)) → m_WW G H locs cells slots (F0 (g_m G) pc ls (c :: cst))) : m_Wp G pc l st S bc bs := by
  intro ad H ls cst locs cells slots hext hH hS hl hst hc hs
  subst hst0
  obtain ⟨c, cst', rfl, h1, h2⟩ := hst
  exact row H locs cells slots ls cst' c ⟨_, _, h1⟩ (m_all_has hl) (by rw [← hl.1]; exact hi) (fun ls' h' => h ad H ls' _ locs cells slots hext hH hS (hl.put2 h1 hcl h') h2 hc hs)
/-- two ways on -/
theorem m_i_br {t f : Nat} {vs r : m_V} {P : Prop} (hst0 : st = vs ++ r) (hv : ∀ ad n cs, m_vrs ad n vs cs → cs = vs) (ht : P → m_Wp G t l r S bc bs) (hf : ¬ P → m_Wp G f l r S bc bs)
    (row : ∀ H locs cells slots ls cst, (P → m_WW G H locs cells slots (F0 (g_m G) t ls cst)) → (¬ P → m_WW G H locs cells slots (F0 (g_m G) f ls cst)) → m_WW G H locs cells slots (F0 (g_m G) pc ls (vs ++ cst))) : m_Wp G pc l st S bc bs := by
  intro ad H ls cst locs cells slots hext hH hS hl hst hc hs
  subst hst0
  obtain ⟨h1, h2⟩ := m_vrs.split vs.length hst
  rw [List.take_left] at h1
  rw [List.drop_left] at h2
  have e1 := hv _ _ _ h1
  have e : cst = vs ++ cst.drop vs.length := by
    have e2 := List.take_append_drop vs.length cst
    rw [e1] at e2
    exact e2.symm
  rw [e]
  exact row H locs cells slots ls _ (fun p => ht p ad H ls _ locs cells slots hext hH hS hl h2 hc hs) (fun p => hf p ad H ls _ locs cells slots hext hH hS hl h2 hc hs)
theorem m_n1 {a : Value} (ha : ∀ ad n c, m_vr ad n a c → c = a) : ∀ ad n cs, m_vrs ad n [a] cs → cs = [a] := by
  rintro ad n cs ⟨c, cs', rfl, h1, h2⟩
  rw [ha _ _ _ h1, show cs' = [] from h2]
theorem m_n2 {a b : Value} (ha : ∀ ad n c, m_vr ad n a c → c = a) (hb : ∀ ad n c, m_vr ad n b c → c = b) : ∀ ad n cs, m_vrs ad n [a, b] cs → cs = [a, b] := by
  rintro ad n cs ⟨c, cs', rfl, h1, h2⟩
  rw [ha _ _ _ h1, m_n1 hb _ _ _ h2]
theorem m_ni (x : Int32) : ∀ ad n c, m_vr ad n (.int x) c → c = .int x := fun _ _ _ h => h
theorem m_nl (x : Int64) : ∀ ad n c, m_vr ad n (.long x) c → c = .long x := fun _ _ _ h => h
theorem m_nd (x : UInt64) : ∀ ad n c, m_vr ad n (.double x) c → c = .double x := fun _ _ _ h => h
theorem m_w1 {a : Value} (ha : ∀ ad n, m_vr ad n a a) : ∀ ad n, m_vrs ad n [a] [a] := fun ad n => ⟨a, [], rfl, ha ad n, rfl⟩
theorem m_ok1_inv {v : Value} {k : Prop} (h : m_ok1 v k) : v.category = 1 ∧ k := by
  unfold m_ok1 at h
  split at h
  · exact h.elim
  · exact h.elim
  · rename_i n1 n2
    refine ⟨?_, h⟩
    cases v with
    | long x => exact absurd rfl (n1 x)
    | double x => exact absurd rfl (n2 x)
    | _ => rfl
end S2
