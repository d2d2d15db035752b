/-! the master step -/
theorem m_fl_use {on i a b c : Nat} (h : m_flink on i a b c = true) : a < 13 ∧ b < m_N a ∧ ∃ p, m_at p (.fieldLink (m_owns.getD on "") i (m_T a b).1 (m_T a b).2.1 (m_T a b).2.2.1) = true := by
  unfold m_flink at h
  split at h
  · rename_i q hq
    simp only [Bool.and_eq_true] at h
    obtain ⟨⟨⟨h1, h2⟩, h3⟩, h4⟩ := h
    have h5 := List.all_eq_true.mp m_flOk_t q (List.mem_of_getElem? hq)
    simp only [m_flF, Bool.and_eq_true] at h5
    rw [Nat.eq_of_beq_eq_true h1, Nat.eq_of_beq_eq_true h2, Nat.eq_of_beq_eq_true h3, Nat.eq_of_beq_eq_true h4] at h5
    exact ⟨Nat.le_of_ble_eq_true h5.1.1, Nat.le_of_ble_eq_true h5.1.2, _, h5.2⟩
  · cases h
theorem m_ml_use {on i a nest c : Nat} {M : m_Meth} (h : m_link on i a nest c = true) (hM : m_M[a]? = some M) : ∃ p, (match nest with
    | 0 => m_at p (.methodLink (m_owns.getD on "") i M.1)
    | _ => decide (lw_tbl[p]? = some (.methodLinkNest (m_owns.getD on "") i M.1 "VirtualQueue"))) = true := by
  unfold m_link at h
  split at h
  · rename_i q hq
    simp only [Bool.and_eq_true] at h
    obtain ⟨⟨⟨h1, h2⟩, h3⟩, h4⟩ := h
    have h5 := List.all_eq_true.mp m_mlOk_t q (List.mem_of_getElem? hq)
    unfold m_mlF at h5
    rw [Nat.eq_of_beq_eq_true h1, Nat.eq_of_beq_eq_true h2, Nat.eq_of_beq_eq_true h3, Nat.eq_of_beq_eq_true h4, hM] at h5
    exact ⟨_, h5⟩
  · cases h
theorem m_pl_use {on i t c : Nat} (h : m_plink on i t c = true) : ∃ p, (match t with
  | 20 => m_at p (.methodLink (m_owns.getD on "") i arraycopyName)
  | 21 => m_at p (.methodLink (m_owns.getD on "") i Lib.Math.max.name)
  | 22 => m_at p (.methodLink (m_owns.getD on "") i Lib.Math.min.name)
  | 30 => m_at p (.methodLink (m_owns.getD on "") i Lib.objectInit)
  | 40 => m_at p (.methodLink (m_owns.getD on "") i j_len)
  | 41 => m_at p (.methodLink (m_owns.getD on "") i j_chr)
  | _ => true) = true := by
  unfold m_plink at h
  split at h
  · rename_i q hq
    simp only [Bool.and_eq_true] at h
    obtain ⟨⟨h1, h2⟩, h3⟩ := h
    have h5 := List.all_eq_true.mp m_plOk_t q (List.mem_of_getElem? hq)
    rw [Nat.eq_of_beq_eq_true h1, Nat.eq_of_beq_eq_true h2, Nat.eq_of_beq_eq_true h3] at h5
    exact ⟨_, h5⟩
  · cases h
theorem m_cl_use {on i k c : Nat} (h : m_clink on i k c = true) : ∃ p, (match Nat.blt k 13 with
  | true => m_at p (.classLink (m_owns.getD on "") i (m_cnames.getD k ""))
  | false => (match Nat.beq k 200 with
    | true => m_at p (.classLink (m_owns.getD on "") i ("[" ++ (FieldType.array .int).toString))
    | false => m_at p (.classLink (m_owns.getD on "") i (m_excs.getD (k - 100) "")))) = true := by
  unfold m_clink at h
  split at h
  · rename_i q hq
    simp only [Bool.and_eq_true] at h
    obtain ⟨⟨h1, h2⟩, h3⟩ := h
    have h5 := List.all_eq_true.mp m_clOk_t q (List.mem_of_getElem? hq)
    rw [Nat.eq_of_beq_eq_true h1, Nat.eq_of_beq_eq_true h2, Nat.eq_of_beq_eq_true h3] at h5
    exact ⟨_, h5⟩
  · cases h
theorem m_sl_use {on i k c : Nat} (h : m_slink on i k c = true) : ∃ (p : Nat) (tx : String), m_texts[k]? = some tx ∧ lw_tbl[p]? = some (Cond.stringRef (m_owns.getD on "") i tx) := by
  unfold m_slink at h
  split at h
  · rename_i q hq
    simp only [Bool.and_eq_true] at h
    obtain ⟨⟨h1, h2⟩, h3⟩ := h
    have h5 := List.all_eq_true.mp m_slOk_t q (List.mem_of_getElem? hq)
    simp only [Bool.and_eq_true, decide_eq_true_eq] at h5
    rw [Nat.eq_of_beq_eq_true h1, Nat.eq_of_beq_eq_true h2, Nat.eq_of_beq_eq_true h3] at h5
    have hlt : k < m_texts.length := Nat.le_of_ble_eq_true h5.1
    exact ⟨q.2.2.2, m_texts.getD k "", by rw [List.getD_eq_getElem?_getD, List.getElem?_eq_getElem hlt]; rfl, h5.2⟩
  · cases h
theorem m_kl_use {on i k c : Nat} {v : Int32} (h : m_klink on i v k c = true) : ∃ p, (match k with
  | 0 => m_at p (.constant (m_owns.getD on "") i v)
  | _ => m_at p (.constantLong (m_owns.getD on "") i v.toInt64)) = true := by
  unfold m_klink at h
  split at h
  · rename_i q hq
    simp only [Bool.and_eq_true, decide_eq_true_eq] at h
    obtain ⟨⟨⟨h1, h2⟩, h3⟩, h4⟩ := h
    have h5 := List.all_eq_true.mp m_klOk_t q (List.mem_of_getElem? hq)
    rw [Nat.eq_of_beq_eq_true h1, Nat.eq_of_beq_eq_true h2, h3, Nat.eq_of_beq_eq_true h4] at h5
    exact ⟨_, h5⟩
  · cases h
/-- the instructions that end a body -/
def m_isEnd (e : m_Ent) : Bool := match e.2.1 with
  | .return_ => true
  | .ireturn => true
  | .lreturn => true
  | .dreturn => true
  | .new _ => (match e.2.2.2.2.2.2 with
    | 0 => false
    | _ => true)
  | _ => false
theorem m_w_arr (at_ : ArrayType) (h : (match newarray.typeOf at_ with
    | .int => true
    | .boolean => true
    | .byte => true
    | .long => true
    | .double => true
    | _ => false) = true) : Cond.arrayClass (newarray.typeOf at_) ∈ m_tbl := by
  split at h
  · rename_i e; rw [e]; exact m_at_in (i := 260) (by decide +kernel)
  · rename_i e; rw [e]; exact m_at_in (i := 261) (by decide +kernel)
  · rename_i e; rw [e]; exact m_at_in (i := 187) (by decide +kernel)
  · rename_i e; rw [e]; exact m_at_in (i := 2372) (by decide +kernel)
  · rename_i e; rw [e]; exact m_at_in (i := 2373) (by decide +kernel)
  · cases h
theorem m_cn_on {k : Nat} (h : k < 13) : m_cnames.getD k "" = m_owns.getD k "" := by
  have : ∀ k, k < 13 → m_cnames.getD k "" = m_owns.getD k "" := by decide +kernel
  exact this k h
section S10
variable {G : m_G} {d : Nat} {l : m_L} {st : m_V} {S : m_S} {bc bs : Nat} {nx : m_C} {jp : Nat → m_C} {rt : Option FieldType} {Q : m_O → m_S → Prop} {ex : Nat → String → m_L → m_S → Nat → Nat → Prop} {M : m_Meth} {e : m_Ent}
theorem m_inv_bool {b : Bool} {p : Prop} (h : match b with
    | true => p
    | false => False) : b = true ∧ p := by
  cases b with
  | true => exact ⟨rfl, h⟩
  | false => exact h.elim
theorem m_invoke_sound (F : m_Fix G M.1.cls M.2.1 d) (hall : ∀ M ∈ m_M, m_okC M) {i : Nat} {a n c t pc : Nat} (hcase : (decode M.2.1 pc = .ok (.invokevirtual i, 3) ∧ t = 10 ∧ m_link (k_on M) i a 0 c = true ∧ ∃ M', m_M[a]? = some M' ∧ k_kind M' = 0 ∧ n % 16 = k_np M' + 1 ∧ n / 16 = k_on M') ∨ (decode M.2.1 pc = .ok (.invokestatic i, 3) ∧ ((t = 11 ∧ m_link (k_on M) i a 0 c = true) ∨ (t = 14 ∧ m_link (k_on M) i a 1 c = true)) ∧ ∃ M', m_M[a]? = some M' ∧ k_kind M' = 1 ∧ n = k_np M') ∨ (decode M.2.1 pc = .ok (.invokespecial i, 3) ∧ ((t = 12 ∧ m_link (k_on M) i a 0 c = true) ∨ (t = 13 ∧ m_link (k_on M) i a 1 c = true)) ∧ ∃ M', m_M[a]? = some M' ∧ k_kind M' = 2 ∧ n = k_np M' + 1) ∨ (decode M.2.1 pc = .ok (.invokestatic i, 3) ∧ (t = 20 ∨ t = 21 ∨ t = 22) ∧ m_plink (k_on M) i t c = true) ∨ (decode M.2.1 pc = .ok (.invokespecial i, 3) ∧ t = 30 ∧ m_plink (k_on M) i t c = true))
    (hown : m_owns.getD (k_on M) "" = M.1.cls) (h : m_invoke (m_Call (g_l G) d) t a n l st S bc bs nx (ex pc))
    (hnx : ∀ l st S bc bs, nx l st S bc bs → m_Wp G (pc + 3) l st S bc bs) (hex : ∀ X l S bc bs, ex pc X l S bc bs → m_Wx G pc X l S bc bs) : m_Wp G pc l st S bc bs := by
  rcases hcase with ⟨hd, rfl, hl, M', hM', k1, k2, k3⟩ | ⟨hd, ht, M', hM', k1, k2⟩ | ⟨hd, ht, M', hM', k1, k2⟩ | ⟨hd, ht, hl⟩ | ⟨hd, rfl, hl⟩
  · obtain ⟨o, h1, h2⟩ := m_recv_inv h
    obtain ⟨rs, h3, h4⟩ := m_obj_inv h2
    obtain ⟨p, hp⟩ := m_ml_use hl hM'
    rw [hown] at hp
    have hC := hall M' (List.mem_of_getElem? hM')
    have hB := hC.2
    simp only [m_okB, Bool.and_eq_true, decide_eq_true_eq] at hB
    intro ad H ls cst locs cells slots hext hH hS hlr hst hc hs
    have hlt : n / 16 < 13 := (hH.2.2.1 o _ h3).2.1
    exact m_i_V F hM' hC k1 k2 (by rw [m_cn_on hlt, k3]; exact hB.2) hp hd h1 h3 h4 hnx hex ad H ls cst locs cells slots hext hH hS hlr hst hc hs
  · have hC := hall M' (List.mem_of_getElem? hM')
    rcases ht with ⟨rfl, hl⟩ | ⟨rfl, hl⟩
    · obtain ⟨p, hp⟩ := m_ml_use hl hM'
      rw [hown] at hp
      exact m_i_S F hM' hC k1 k2 hp hd h hnx hex
    · obtain ⟨p, hp⟩ := m_ml_use hl hM'
      rw [hown] at hp
      exact m_i_SN F hM' hC k1 k2 (of_decide_eq_true hp) hd h hnx hex
  · have hC := hall M' (List.mem_of_getElem? hM')
    rcases ht with ⟨rfl, hl⟩ | ⟨rfl, hl⟩
    · obtain ⟨p, hp⟩ := m_ml_use hl hM'
      rw [hown] at hp
      obtain ⟨o, h1, h2⟩ := m_recv_inv h
      exact m_i_I F hM' hC k1 k2 (Or.inl hp) hd h1 h2 hnx hex
    · obtain ⟨p, hp⟩ := m_ml_use hl hM'
      rw [hown] at hp
      obtain ⟨o, h1, h2⟩ := m_recv_inv h
      exact m_i_I F hM' hC k1 k2 (Or.inr (of_decide_eq_true hp)) hd h1 h2 hnx hex
  · obtain ⟨p, hp⟩ := m_pl_use hl
    rw [hown] at hp
    rcases ht with rfl | rfl | rfl
    · obtain ⟨hr, h⟩ := m_inv_bool (b := m_rest 5 st) (p := m_copy S st (fun I r => nx l r (S.1, I, S.2.2) bc bs)) h
      obtain ⟨n9, dp, sp, a9, a0, r, ty, n0, n1, rs0, rs, e1, e2, e3, e4, e5, e6, e7, e8, e9, e10, e11⟩ := m_copy_inv h
      exact m_i_copy F e1 hr e2 e3 e4 e5 e6 e7 e8 e9 e10 hp hd (hnx _ _ _ _ _ e11)
    · obtain ⟨hr, h⟩ := m_inv_bool (b := m_rest 2 st) (p := m_bin (fun x y => if x < y then y else x) st (fun r => nx l r S bc bs)) h
      obtain ⟨x, y, r, e1, e2⟩ := m_bin_inv h
      exact m_i_mmax F e1 hr hp hd (hnx _ _ _ _ _ e2)
    · obtain ⟨hr, h⟩ := m_inv_bool (b := m_rest 2 st) (p := m_bin (fun x y => if y < x then y else x) st (fun r => nx l r S bc bs)) h
      obtain ⟨x, y, r, e1, e2⟩ := m_bin_inv h
      exact m_i_mmin F e1 hr hp hd (hnx _ _ _ _ _ e2)
  · obtain ⟨p, hp⟩ := m_pl_use hl
    rw [hown] at hp
    obtain ⟨hr, h⟩ := m_inv_bool (b := m_rest 1 st) (p := m_popRef st (fun r => nx l r S bc bs)) h
    unfold m_popRef at h
    split at h
    · exact m_i_obj F rfl hr hp hd (hnx _ _ _ _ _ h)
    · exact h.elim
end S10
