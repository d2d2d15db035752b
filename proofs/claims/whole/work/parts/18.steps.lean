/-! any instruction that doesn't end the body -/
section S11
variable {G : m_G} {d : Nat} {l : m_L} {st : m_V} {S : m_S} {bc bs : Nat} {nx : m_C} {jp : Nat → m_C} {rt : Option FieldType} {Q : m_O → m_S → Prop} {ex : Nat → String → m_L → m_S → Nat → Nat → Prop} {M : m_Meth} {e : m_Ent}
theorem m_beq {a b : Nat} (h : Nat.beq a b = true) : a = b := Nat.eq_of_beq_eq_true h
theorem m_vri {ad : Nat → Nat} {n : Nat} {x : Int32} {c : Value} (h : ∃ ad n, m_vr ad n (.int x) c) : c = .int x := by obtain ⟨_, _, h⟩ := h; exact h
theorem m_vrl {x : Int64} {c : Value} (h : ∃ ad n, m_vr ad n (.long x) c) : c = .long x := by obtain ⟨_, _, h⟩ := h; exact h
theorem m_vrd {x : UInt64} {c : Value} (h : ∃ ad n, m_vr ad n (.double x) c) : c = .double x := by obtain ⟨_, _, h⟩ := h; exact h
theorem m_vrr {x : Nat} {c : Value} (h : ∃ ad n, m_vr ad n (.ref x) c) : ∃ q, c = .ref q := by obtain ⟨_, _, _, h⟩ := h; exact ⟨_, h⟩
theorem m_step_put {call : Nat → m_V → m_S → Nat → Nat → (m_O → m_S → Nat → Nat → Prop) → Prop} {pc len i a b c t : Nat} {v : Int32} (h : m_step call rt Q ex ((pc, len), .putfield i, v, a, b, c, t) nx jp l st S bc bs) :
    (∃ x o r rs, st = .int x :: .ref o :: r ∧ t = 0 ∧ S.1[o]? = some (.inl a, rs) ∧ nx l r (S.1, m_u S.2.1 o b x, S.2.2) bc bs) ∨ (∃ x o r rs, st = .long x :: .ref o :: r ∧ t = 2 ∧ S.1[o]? = some (.inl a, rs) ∧ nx l r (S.1, S.2.1, m_rowX S.2.2.1 o (vf_upd (S.2.2.1 o) b x), S.2.2.2) bc bs) ∨
    (∃ x o r rs, st = .ref x :: .ref o :: r ∧ t = 1 ∧ S.1[o]? = some (.inl a, rs) ∧ x < S.1.length ∧ nx l r (S.1.set o (.inl a, rs.set b (some x)), S.2) bc bs) := by
  unfold m_step at h
  simp only at h
  split at h
  · split at h
    · obtain ⟨rs, h4, h5⟩ := m_obj_inv h
      exact Or.inl ⟨_, _, _, rs, rfl, rfl, h4, h5⟩
    · exact h.elim
  · split at h
    · obtain ⟨rs, h4, h5⟩ := m_obj_inv h
      exact Or.inr (Or.inl ⟨_, _, _, rs, rfl, rfl, h4, h5⟩)
    · exact h.elim
  · split at h
    · obtain ⟨rs, h4, h5⟩ := m_obj_inv h
      obtain ⟨h6, h7⟩ := m_inv_bool h5
      exact Or.inr (Or.inr ⟨_, _, _, rs, rfl, rfl, h4, Nat.le_of_ble_eq_true h6, h7⟩)
    · exact h.elim
  · exact h.elim
theorem m_declOk : (List.range 13).all (fun ci => (List.range (m_N ci)).all (fun k => decide ((m_T ci k).1 = m_cnames.getD ci ""))) = true := by decide +kernel
theorem m_decl {ci k : Nat} (h : ci < 13) (hk : k < m_N ci) : (m_T ci k).1 = m_cnames.getD ci "" := by
  have h1 := List.all_eq_true.mp (List.all_eq_true.mp m_declOk ci (List.mem_range.mpr h)) k (List.mem_range.mpr hk)
  simpa using h1
set_option maxHeartbeats 4000000 in
theorem m_step_sound (F : m_Fix G M.1.cls M.2.1 d) (hall : ∀ M ∈ m_M, m_okC M) (hown : m_owns.getD (k_on M) "" = M.1.cls) (hinit : k_kind M = 2 → (g_meth G).name = "<init>") (hok : m_okE M e = true) (hend : m_isEnd e = false) (h : m_step (m_Call (g_l G) d) rt Q ex e nx jp l st S bc bs)
    (hnx : ∀ l st S bc bs, nx l st S bc bs → m_Wp G (e.1.1 + e.1.2) l st S bc bs) (hjp : ∀ t l st S bc bs, jp t l st S bc bs → m_Wp G t l st S bc bs) (hex : ∀ X l S bc bs, ex e.1.1 X l S bc bs → m_Wx G e.1.1 X l S bc bs) : m_Wp G e.1.1 l st S bc bs := by
  obtain ⟨⟨pc, len⟩, ins, v, a, b, c, t⟩ := e
  simp only [m_okE, Bool.and_eq_true, decide_eq_true_eq] at hok
  obtain ⟨hd, hok⟩ := hok
  simp only at hd hok hend h hnx hjp hex ⊢
  have hx := F.1
  have hb := F.2.1
  have hw := F.2.2.1
  cases ins with
  | iconst n =>
    simp only [m_okX, m_okS, Bool.and_eq_true, decide_eq_true_eq] at hok
    obtain ⟨h1, h2⟩ := hok
    obtain rfl := m_beq h2
    exact m_i_const (i := .iconst n) (m_vi v) (hnx _ _ _ _ _ h) (fun H locs cells slots ls cst k => lv_iconst hx hb hd h1 k)
  | bipush n =>
    simp only [m_okX, m_okS, Bool.and_eq_true, decide_eq_true_eq] at hok
    obtain ⟨h1, h2⟩ := hok
    obtain rfl := m_beq h2
    exact m_i_const (i := .bipush n) (m_vi v) (hnx _ _ _ _ _ h) (fun H locs cells slots ls cst k => lv_bipush hx hb hd h1 k)
  | sipush n =>
    simp only [m_okX, m_okS, Bool.and_eq_true, decide_eq_true_eq] at hok
    obtain ⟨h1, h2⟩ := hok
    obtain rfl := m_beq h2
    exact m_i_const (i := .sipush n) (m_vi v) (hnx _ _ _ _ _ h) (fun H locs cells slots ls cst k => lv_sipush hx hb hd h1 k)
  | lconst n =>
    simp only [m_okX, m_okS] at hok
    obtain rfl := m_beq hok
    exact m_i_const (i := .lconst n) (m_vl _) (hnx _ _ _ _ _ h) (fun H locs cells slots ls cst k => lv_lconst hx hb hd rfl k)
  | dconst n =>
    simp only [m_okX, m_okS] at hok
    obtain rfl := m_beq hok
    have h : (match n.val with
      | 0 => nx l (.double FP.dconst0 :: st) S bc bs
      | _ => False) := h
    split at h
    · rename_i e0
      have : n = 0 := Fin.ext e0
      subst this
      exact m_i_const (i := .dconst 0) (m_vd _) (hnx _ _ _ _ _ h) (fun H locs cells slots ls cst k => lv_dconst0 hx hb hd k)
    · exact h.elim
  | ldc i =>
    simp only [m_okX, Bool.and_eq_true] at hok
    obtain ⟨h2, h1⟩ := hok
    obtain rfl := m_beq h2
    match t, h, h1 with
    | 0, h, h1 =>
      obtain ⟨p, hp⟩ := m_kl_use h1
      rw [hown] at hp
      exact m_i_const (i := .ldc i) (m_vi v) (hnx _ _ _ _ _ h) (fun H locs cells slots ls cst k => lv_ldc hx hb hw (F.w hp) hd k)
    | t + 1, h, h1 =>
      obtain ⟨p, tx, h3, h4⟩ := m_sl_use h1
      rw [hown] at h4
      exact m_i_str F h3 h4 hd (hnx _ _ _ _ _ h)
  | ldc_w i =>
    simp only [m_okX, Bool.and_eq_true] at hok
    obtain ⟨h2, h1⟩ := hok
    obtain rfl := m_beq h2
    match t, h, h1 with
    | 0, h, h1 =>
      obtain ⟨p, hp⟩ := m_kl_use h1
      rw [hown] at hp
      exact m_i_const (i := .ldc_w i) (m_vi v) (hnx _ _ _ _ _ h) (fun H locs cells slots ls cst k => lv_ldcw hx hb hw (F.w hp) hd k)
    | t + 1, h, h1 => exact h.elim
  | ldc2_w i =>
    simp only [m_okX, Bool.and_eq_true] at hok
    obtain ⟨h2, h1⟩ := hok
    obtain rfl := m_beq h2
    obtain ⟨p, hp⟩ := m_kl_use h1
    rw [hown] at hp
    exact m_i_const (i := .ldc2_w i) (m_vl _) (hnx _ _ _ _ _ h) (fun H locs cells slots ls cst k => lv_ldc2 hx hb hw (F.w hp) hd k)
  | iload i =>
    simp only [m_okX, m_okS] at hok
    obtain rfl := m_beq hok
    obtain ⟨x, h1, h2⟩ := m_ldi_inv h
    exact m_i_load h1 (hnx _ _ _ _ _ h2) (fun H locs cells slots ls cst c hc hls k => by
      obtain rfl := m_vri (ad := fun _ => 0) (n := 0) hc
      exact lv_iload hx hb hd hls k)
  | iload_n i =>
    simp only [m_okX, m_okS] at hok
    obtain rfl := m_beq hok
    obtain ⟨x, h1, h2⟩ := m_ldi_inv h
    exact m_i_load h1 (hnx _ _ _ _ _ h2) (fun H locs cells slots ls cst c hc hls k => by
      obtain rfl := m_vri (ad := fun _ => 0) (n := 0) hc
      exact lv_iload_n hx hb hd rfl hls k)
  | lload i =>
    simp only [m_okX, m_okS] at hok
    obtain rfl := m_beq hok
    obtain ⟨x, h1, h2⟩ := m_ldl_inv h
    exact m_i_load h1 (hnx _ _ _ _ _ h2) (fun H locs cells slots ls cst c hc hls k => by
      obtain rfl := m_vrl hc
      exact lv_lload hx hb hd hls k)
  | lload_n i =>
    simp only [m_okX, m_okS] at hok
    obtain rfl := m_beq hok
    obtain ⟨x, h1, h2⟩ := m_ldl_inv h
    exact m_i_load h1 (hnx _ _ _ _ _ h2) (fun H locs cells slots ls cst c hc hls k => by
      obtain rfl := m_vrl hc
      exact lv_lload_n hx hb hd rfl hls k)
  | dload i =>
    simp only [m_okX, m_okS] at hok
    obtain rfl := m_beq hok
    obtain ⟨x, h1, h2⟩ := m_ldd_inv h
    exact m_i_load h1 (hnx _ _ _ _ _ h2) (fun H locs cells slots ls cst c hc hls k => by
      obtain rfl := m_vrd hc
      exact lv_dload hx hb hd hls k)
  | aload i =>
    simp only [m_okX, m_okS] at hok
    obtain rfl := m_beq hok
    obtain ⟨x, h1, h2⟩ := m_lda_inv h
    exact m_i_load h1 (hnx _ _ _ _ _ h2) (fun H locs cells slots ls cst c hc hls k => by
      obtain ⟨q, rfl⟩ := m_vrr hc
      exact lv_aload hx hb hd hls k)
  | aload_n i =>
    simp only [m_okX, m_okS] at hok
    obtain rfl := m_beq hok
    obtain ⟨x, h1, h2⟩ := m_lda_inv h
    exact m_i_load h1 (hnx _ _ _ _ _ h2) (fun H locs cells slots ls cst c hc hls k => by
      obtain ⟨q, rfl⟩ := m_vrr hc
      exact lv_aload_n hx hb hd rfl hls k)
  | istore i =>
    simp only [m_okX, m_okS] at hok
    obtain rfl := m_beq hok
    have h : (match (generalizing := false) st with
      | .int x :: r => m_put1 l i (.int x) (fun l' => nx l' r S bc bs)
      | _ => False) := h
    split at h
    · obtain ⟨h1, h2, h3⟩ := m_put1_inv h
      exact m_i_store1 rfl rfl h1 h3 (hnx _ _ _ _ _ h2) (fun H locs cells slots ls cst c hc ha hi k => by
        obtain rfl := m_vri (ad := fun _ => 0) (n := 0) hc
        exact lv_istore hx hb hd ha hi rfl k)
    · exact h.elim
  | istore_n i =>
    simp only [m_okX, m_okS] at hok
    obtain rfl := m_beq hok
    have h : (match (generalizing := false) st with
      | .int x :: r => m_put1 l i.val (.int x) (fun l' => nx l' r S bc bs)
      | _ => False) := h
    split at h
    · obtain ⟨h1, h2, h3⟩ := m_put1_inv h
      exact m_i_store1 rfl rfl h1 h3 (hnx _ _ _ _ _ h2) (fun H locs cells slots ls cst c hc ha hi k => by
        obtain rfl := m_vri (ad := fun _ => 0) (n := 0) hc
        exact lv_istore_n hx hb hd rfl ha hi rfl k)
    · exact h.elim
  | astore i =>
    simp only [m_okX, m_okS] at hok
    obtain rfl := m_beq hok
    have h : (match (generalizing := false) st with
      | .ref x :: r => m_put1 l i (.ref x) (fun l' => nx l' r S bc bs)
      | _ => False) := h
    split at h
    · obtain ⟨h1, h2, h3⟩ := m_put1_inv h
      exact m_i_store1 rfl rfl h1 h3 (hnx _ _ _ _ _ h2) (fun H locs cells slots ls cst c hc ha hi k => by
        obtain ⟨q, rfl⟩ := m_vrr hc
        exact lv_astore hx hb hd ha hi rfl k)
    · exact h.elim
  | astore_n i =>
    simp only [m_okX, m_okS] at hok
    obtain rfl := m_beq hok
    have h : (match (generalizing := false) st with
      | .ref x :: r => m_put1 l i.val (.ref x) (fun l' => nx l' r S bc bs)
      | _ => False) := h
    split at h
    · obtain ⟨h1, h2, h3⟩ := m_put1_inv h
      exact m_i_store1 rfl rfl h1 h3 (hnx _ _ _ _ _ h2) (fun H locs cells slots ls cst c hc ha hi k => by
        obtain ⟨q, rfl⟩ := m_vrr hc
        exact lv_astore_n hx hb hd rfl ha hi rfl k)
    · exact h.elim
  | lstore i =>
    simp only [m_okX, m_okS] at hok
    obtain rfl := m_beq hok
    have h : (match (generalizing := false) st with
      | .long x :: r => m_put2 l i (.long x) (fun l' => nx l' r S bc bs)
      | _ => False) := h
    split at h
    · obtain ⟨h1, h2, h3⟩ := m_put2_inv h
      exact m_i_store2 rfl h1 h3 (hnx _ _ _ _ _ h2) (fun H locs cells slots ls cst c hc ha hi k => by
        obtain rfl := m_vrl hc
        exact lv_lstore hx hb hd ha hi rfl k)
    · exact h.elim
  | dstore i =>
    simp only [m_okX, m_okS] at hok
    obtain rfl := m_beq hok
    have h : (match (generalizing := false) st with
      | .double x :: r => m_put2 l i (.double x) (fun l' => nx l' r S bc bs)
      | _ => False) := h
    split at h
    · obtain ⟨h1, h2, h3⟩ := m_put2_inv h
      exact m_i_store2 rfl h1 h3 (hnx _ _ _ _ _ h2) (fun H locs cells slots ls cst c hc ha hi k => by
        obtain rfl := m_vrd hc
        exact lv_dstore hx hb hd ha hi rfl k)
    · exact h.elim
  | iinc i n =>
    simp only [m_okX, m_okS, Bool.and_eq_true, decide_eq_true_eq] at hok
    obtain ⟨h1, h2⟩ := hok
    obtain rfl := m_beq h2
    obtain ⟨x, h3, h4⟩ := m_ldi_inv h
    obtain ⟨h5, h6, h7⟩ := m_put1_inv h4
    intro ad H ls cst locs cells slots hext hH hS hlr hst hc hs
    obtain ⟨c9, hc9, hls⟩ := hlr.at h3
    obtain rfl : c9 = .int x := hc9
    obtain ⟨k9, hk9⟩ := List.getElem?_of_mem (m_all_in.mpr hls)
    exact lv_iinc (v := x + v) hx hb hd (m_all_has hlr) hk9 (by rw [h1]) (by rw [← hlr.1]; exact h5) rfl (fun ls' h' => hnx _ _ _ _ _ h6 ad H ls' _ locs cells slots hext hH hS (hlr.put1 rfl h7 h') hst hc hs)
  | iadd =>
    simp only [m_okX, m_okS] at hok
    obtain rfl := m_beq hok
    have h : m_bin (fun x y => x + y) st (fun r => nx l r S bc bs) := h
    obtain ⟨x, y, r, e1, e2⟩ := m_bin_inv h
    exact m_i_stack (vs := [.int y, .int x]) (ws := [.int (x + y)]) e1 (hnx _ _ _ _ _ e2) (m_n2 (m_ni y) (m_ni x)) (m_w1 (m_vi _)) (fun H locs cells slots ls cst k => lv_iadd hx hb hd k)
  | isub =>
    simp only [m_okX, m_okS] at hok
    obtain rfl := m_beq hok
    have h : m_bin (fun x y => x - y) st (fun r => nx l r S bc bs) := h
    obtain ⟨x, y, r, e1, e2⟩ := m_bin_inv h
    exact m_i_stack (vs := [.int y, .int x]) (ws := [.int (x - y)]) e1 (hnx _ _ _ _ _ e2) (m_n2 (m_ni y) (m_ni x)) (m_w1 (m_vi _)) (fun H locs cells slots ls cst k => lv_isub hx hb hd k)
  | imul =>
    simp only [m_okX, m_okS] at hok
    obtain rfl := m_beq hok
    have h : m_bin (fun x y => x * y) st (fun r => nx l r S bc bs) := h
    obtain ⟨x, y, r, e1, e2⟩ := m_bin_inv h
    exact m_i_stack (vs := [.int y, .int x]) (ws := [.int (x * y)]) e1 (hnx _ _ _ _ _ e2) (m_n2 (m_ni y) (m_ni x)) (m_w1 (m_vi _)) (fun H locs cells slots ls cst k => lv_imul hx hb hd k)
  | iand =>
    simp only [m_okX, m_okS] at hok
    obtain rfl := m_beq hok
    have h : m_bin (fun x y => x &&& y) st (fun r => nx l r S bc bs) := h
    obtain ⟨x, y, r, e1, e2⟩ := m_bin_inv h
    exact m_i_stack (vs := [.int y, .int x]) (ws := [.int (x &&& y)]) e1 (hnx _ _ _ _ _ e2) (m_n2 (m_ni y) (m_ni x)) (m_w1 (m_vi _)) (fun H locs cells slots ls cst k => lv_iand hx hb hd k)
  | ior =>
    simp only [m_okX, m_okS] at hok
    obtain rfl := m_beq hok
    have h : m_bin (fun x y => x ||| y) st (fun r => nx l r S bc bs) := h
    obtain ⟨x, y, r, e1, e2⟩ := m_bin_inv h
    exact m_i_stack (vs := [.int y, .int x]) (ws := [.int (x ||| y)]) e1 (hnx _ _ _ _ _ e2) (m_n2 (m_ni y) (m_ni x)) (m_w1 (m_vi _)) (fun H locs cells slots ls cst k => lv_ior hx hb hd k)
  | ixor =>
    simp only [m_okX, m_okS] at hok
    obtain rfl := m_beq hok
    have h : m_bin (fun x y => x ^^^ y) st (fun r => nx l r S bc bs) := h
    obtain ⟨x, y, r, e1, e2⟩ := m_bin_inv h
    exact m_i_stack (vs := [.int y, .int x]) (ws := [.int (x ^^^ y)]) e1 (hnx _ _ _ _ _ e2) (m_n2 (m_ni y) (m_ni x)) (m_w1 (m_vi _)) (fun H locs cells slots ls cst k => lv_ixor hx hb hd k)
  | ishl =>
    simp only [m_okX, m_okS] at hok
    obtain rfl := m_beq hok
    have h : m_bin (fun x y => x <<< (y &&& 31)) st (fun r => nx l r S bc bs) := h
    obtain ⟨x, y, r, e1, e2⟩ := m_bin_inv h
    exact m_i_stack (vs := [.int y, .int x]) (ws := [.int (x <<< (y &&& 31))]) e1 (hnx _ _ _ _ _ e2) (m_n2 (m_ni y) (m_ni x)) (m_w1 (m_vi _)) (fun H locs cells slots ls cst k => lv_ishl hx hb hd k)
  | ishr =>
    simp only [m_okX, m_okS] at hok
    obtain rfl := m_beq hok
    have h : m_bin (fun x y => x >>> (y &&& 31)) st (fun r => nx l r S bc bs) := h
    obtain ⟨x, y, r, e1, e2⟩ := m_bin_inv h
    exact m_i_stack (vs := [.int y, .int x]) (ws := [.int (x >>> (y &&& 31))]) e1 (hnx _ _ _ _ _ e2) (m_n2 (m_ni y) (m_ni x)) (m_w1 (m_vi _)) (fun H locs cells slots ls cst k => lv_ishr hx hb hd k)
  | iushr =>
    simp only [m_okX, m_okS] at hok
    obtain rfl := m_beq hok
    have h : m_bin (fun x y => (x.toUInt32 >>> (y.toUInt32 &&& Int32.toUInt32 31)).toInt32) st (fun r => nx l r S bc bs) := h
    obtain ⟨x, y, r, e1, e2⟩ := m_bin_inv h
    exact m_i_stack (vs := [.int y, .int x]) (ws := [.int ((x.toUInt32 >>> (y.toUInt32 &&& Int32.toUInt32 31)).toInt32)]) e1 (hnx _ _ _ _ _ e2) (m_n2 (m_ni y) (m_ni x)) (m_w1 (m_vi _)) (fun H locs cells slots ls cst k => lv_iushr hx hb hd rfl k)
  | idiv =>
    simp only [m_okX, m_okS] at hok
    obtain rfl := m_beq hok
    have h : (match (generalizing := false) st with
      | .int y :: .int x :: r => ¬ y = 0 ∧ nx l (.int (x / y) :: r) S bc bs
      | _ => False) := h
    split at h
    · rename_i y x r _
      exact m_i_stack (vs := [.int y, .int x]) (ws := [.int (x / y)]) (r := r) rfl (hnx _ _ _ _ _ h.2) (m_n2 (m_ni y) (m_ni x)) (m_w1 (m_vi _)) (fun H locs cells slots ls cst k => lv_idiv hx hb hd h.1 k)
    · exact h.elim
  | irem =>
    simp only [m_okX, m_okS] at hok
    obtain rfl := m_beq hok
    have h : (match (generalizing := false) st with
      | .int y :: .int x :: r => ¬ y = 0 ∧ nx l (.int (x - x / y * y) :: r) S bc bs
      | _ => False) := h
    split at h
    · rename_i y x r _
      exact m_i_stack (vs := [.int y, .int x]) (ws := [.int (x - x / y * y)]) (r := r) rfl (hnx _ _ _ _ _ h.2) (m_n2 (m_ni y) (m_ni x)) (m_w1 (m_vi _)) (fun H locs cells slots ls cst k => lv_irem hx hb hd h.1 k)
    · exact h.elim
  | ladd =>
    simp only [m_okX, m_okS] at hok
    obtain rfl := m_beq hok
    have h : m_binL (fun x y => x + y) st (fun r => nx l r S bc bs) := h
    obtain ⟨x, y, r, e1, e2⟩ := m_binL_inv h
    exact m_i_stack (vs := [.long y, .long x]) (ws := [.long (x + y)]) e1 (hnx _ _ _ _ _ e2) (m_n2 (m_nl y) (m_nl x)) (m_w1 (m_vl _)) (fun H locs cells slots ls cst k => lv_ladd hx hb hd k)
  | lsub =>
    simp only [m_okX, m_okS] at hok
    obtain rfl := m_beq hok
    have h : m_binL (fun x y => x - y) st (fun r => nx l r S bc bs) := h
    obtain ⟨x, y, r, e1, e2⟩ := m_binL_inv h
    exact m_i_stack (vs := [.long y, .long x]) (ws := [.long (x - y)]) e1 (hnx _ _ _ _ _ e2) (m_n2 (m_nl y) (m_nl x)) (m_w1 (m_vl _)) (fun H locs cells slots ls cst k => lv_lsub hx hb hd k)
  | lmul =>
    simp only [m_okX, m_okS] at hok
    obtain rfl := m_beq hok
    have h : m_binL (fun x y => x * y) st (fun r => nx l r S bc bs) := h
    obtain ⟨x, y, r, e1, e2⟩ := m_binL_inv h
    exact m_i_stack (vs := [.long y, .long x]) (ws := [.long (x * y)]) e1 (hnx _ _ _ _ _ e2) (m_n2 (m_nl y) (m_nl x)) (m_w1 (m_vl _)) (fun H locs cells slots ls cst k => lv_lmul hx hb hd k)
  | lshl =>
    simp only [m_okX, m_okS] at hok
    obtain rfl := m_beq hok
    have h : (match (generalizing := false) st with
      | .int y :: .long x :: r => nx l (.long (x <<< (y.toInt64 &&& 63)) :: r) S bc bs
      | _ => False) := h
    split at h
    · rename_i y x r _
      exact m_i_stack (vs := [.int y, .long x]) (ws := [.long (x <<< (y.toInt64 &&& 63))]) (r := r) rfl (hnx _ _ _ _ _ h) (m_n2 (m_ni y) (m_nl x)) (m_w1 (m_vl _)) (fun H locs cells slots ls cst k => lv_lshl hx hb hd rfl k)
    · exact h.elim
  | lcmp =>
    simp only [m_okX, m_okS] at hok
    obtain rfl := m_beq hok
    have h : (match (generalizing := false) st with
      | .long y :: .long x :: r => nx l (.int (lg_cmp x y) :: r) S bc bs
      | _ => False) := h
    split at h
    · rename_i y x r _
      exact m_i_stack (vs := [.long y, .long x]) (ws := [.int (lg_cmp x y)]) (r := r) rfl (hnx _ _ _ _ _ h) (m_n2 (m_nl y) (m_nl x)) (m_w1 (m_vi _)) (fun H locs cells slots ls cst k => W.lcmp hx hb hd k)
    · exact h.elim
  | i2l =>
    simp only [m_okX, m_okS] at hok
    obtain rfl := m_beq hok
    have h : (match (generalizing := false) st with
      | .int x :: r => nx l (.long x.toInt64 :: r) S bc bs
      | _ => False) := h
    split at h
    · rename_i x r _
      exact m_i_stack (vs := [.int x]) (ws := [.long x.toInt64]) (r := r) rfl (hnx _ _ _ _ _ h) (m_n1 (m_ni x)) (m_w1 (m_vl _)) (fun H locs cells slots ls cst k => lv_i2l hx hb hd rfl k)
    · exact h.elim
  | l2i =>
    simp only [m_okX, m_okS] at hok
    obtain rfl := m_beq hok
    have h : (match (generalizing := false) st with
      | .long x :: r => nx l (.int x.toInt32 :: r) S bc bs
      | _ => False) := h
    split at h
    · rename_i x r _
      exact m_i_stack (vs := [.long x]) (ws := [.int x.toInt32]) (r := r) rfl (hnx _ _ _ _ _ h) (m_n1 (m_nl x)) (m_w1 (m_vi _)) (fun H locs cells slots ls cst k => lv_l2i hx hb hd rfl k)
    · exact h.elim
  | i2d =>
    simp only [m_okX, m_okS] at hok
    obtain rfl := m_beq hok
    have h : (match (generalizing := false) st with
      | .int x :: r => nx l (.double (FP.i2d x) :: r) S bc bs
      | _ => False) := h
    split at h
    · rename_i x r _
      exact m_i_stack (vs := [.int x]) (ws := [.double (FP.i2d x)]) (r := r) rfl (hnx _ _ _ _ _ h) (m_n1 (m_ni x)) (m_w1 (m_vd _)) (fun H locs cells slots ls cst k => lv_i2d hx hb hd k)
    · exact h.elim
  | ddiv =>
    simp only [m_okX, m_okS] at hok
    obtain rfl := m_beq hok
    have h : (match (generalizing := false) st with
      | .double y :: .double x :: r => vf_n64 (FP.ddiv x y) ∧ nx l (.double (FP.ddiv x y) :: r) S bc bs
      | _ => False) := h
    split at h
    · rename_i y x r _
      exact m_i_stack (vs := [.double y, .double x]) (ws := [.double (FP.ddiv x y)]) (r := r) rfl (hnx _ _ _ _ _ h.2) (m_n2 (m_nd y) (m_nd x)) (m_w1 (m_vd _)) (fun H locs cells slots ls cst k => lv_ddiv hx hb hd h.1 k)
    · exact h.elim
  | dcmp op =>
    simp only [m_okX, m_okS] at hok
    obtain rfl := m_beq hok
    have h : (match (generalizing := false) st with
      | .double y :: .double x :: r => nx l (.int (Op.cmpValue (FP.dcmp x y) op) :: r) S bc bs
      | _ => False) := h
    split at h
    · rename_i y x r _
      exact m_i_stack (vs := [.double y, .double x]) (ws := [.int (Op.cmpValue (FP.dcmp x y) op)]) (r := r) rfl (hnx _ _ _ _ _ h) (m_n2 (m_nd y) (m_nd x)) (m_w1 (m_vi _)) (fun H locs cells slots ls cst k => lv_dcmp hx hb hd k)
    · exact h.elim
  | i2b =>
    simp only [m_okX, m_okS] at hok
    obtain rfl := m_beq hok
    have h : m_un (fun x => x.toInt8.toInt32) st (fun r => nx l r S bc bs) := h
    obtain ⟨x, r, e1, e2⟩ := m_un_inv h
    exact m_i_stack (vs := [.int x]) (ws := [.int (x.toInt8.toInt32)]) e1 (hnx _ _ _ _ _ e2) (m_n1 (m_ni x)) (m_w1 (m_vi _)) (fun H locs cells slots ls cst k => lv_i2b hx hb hd rfl k)
  | i2c =>
    simp only [m_okX, m_okS] at hok
    obtain rfl := m_beq hok
    have h : m_un (fun x => (x.toUInt32 % 65536).toInt32) st (fun r => nx l r S bc bs) := h
    obtain ⟨x, r, e1, e2⟩ := m_un_inv h
    exact m_i_stack (vs := [.int x]) (ws := [.int ((x.toUInt32 % 65536).toInt32)]) e1 (hnx _ _ _ _ _ e2) (m_n1 (m_ni x)) (m_w1 (m_vi _)) (fun H locs cells slots ls cst k => lv_i2c hx hb hd rfl k)
  | dup =>
    simp only [m_okX, m_okS] at hok
    obtain rfl := m_beq hok
    have h : (match (generalizing := false) st with
      | v :: r => m_ok1 v (nx l (v :: v :: r) S bc bs)
      | _ => False) := h
    split at h
    · rename_i w r _
      obtain ⟨h1, h2⟩ := m_ok1_inv h
      intro ad H ls cst locs cells slots hext hH hS hlr hst hc hs
      obtain ⟨c0, cst0, rfl, q1, q2⟩ := hst
      exact lv_dup hx hb hd (by rw [q1.cat]; exact h1) (hnx _ _ _ _ _ h2 ad H ls _ locs cells slots hext hH hS hlr ⟨_, _, rfl, q1, _, _, rfl, q1, q2⟩ hc hs)
    · exact h.elim
  | dup2 =>
    simp only [m_okX, m_okS] at hok
    obtain rfl := m_beq hok
    have h : (match (generalizing := false) st with
      | v :: w :: r => m_ok1 v (m_ok1 w (nx l (v :: w :: v :: w :: r) S bc bs))
      | _ => False) := h
    split at h
    · rename_i w w2 r _
      obtain ⟨h1, h2⟩ := m_ok1_inv h
      obtain ⟨h3, h4⟩ := m_ok1_inv h2
      intro ad H ls cst locs cells slots hext hH hS hlr hst hc hs
      obtain ⟨c0, cst0, rfl, q1, c1, cst1, rfl, q3, q2⟩ := hst
      exact lv_dup2_11 hx hb hd (by rw [q1.cat]; exact h1) (by rw [q3.cat]; exact h3) (hnx _ _ _ _ _ h4 ad H ls _ locs cells slots hext hH hS hlr ⟨_, _, rfl, q1, _, _, rfl, q3, _, _, rfl, q1, _, _, rfl, q3, q2⟩ hc hs)
    · exact h.elim
  | pop =>
    simp only [m_okX, m_okS] at hok
    obtain rfl := m_beq hok
    have h : (match (generalizing := false) st with
      | v :: r => m_ok1 v (nx l r S bc bs)
      | _ => False) := h
    split at h
    · rename_i w r _
      obtain ⟨h1, h2⟩ := m_ok1_inv h
      intro ad H ls cst locs cells slots hext hH hS hlr hst hc hs
      obtain ⟨c0, cst0, rfl, q1, q2⟩ := hst
      exact lv_pop hx hb hd (by rw [q1.cat]; exact h1) (hnx _ _ _ _ _ h2 ad H ls _ locs cells slots hext hH hS hlr q2 hc hs)
    · exact h.elim
  | goto off =>
    simp only [m_okX, m_okS, Bool.and_eq_true, decide_eq_true_eq] at hok
    obtain ⟨h1, h2⟩ := hok
    obtain rfl := m_beq h2
    intro ad H ls cst locs cells slots hext hH hS hlr hst hc hs
    exact lv_goto hx hb hd h1 (hjp _ _ _ _ _ _ h ad H ls _ locs cells slots hext hH hS hlr hst hc hs)
  | ifCond cnd off =>
    simp only [m_okX, m_okS, Bool.and_eq_true, decide_eq_true_eq] at hok
    obtain ⟨h1, h2⟩ := hok
    obtain rfl := m_beq h2
    cases cnd with
    | eq =>
      have h : m_if1 (fun x => x = 0) st (fun r => jp a l r S bc bs) (fun r => nx l r S bc bs) := h
      obtain ⟨x, r, e1, e2, e3⟩ := m_if1_inv h
      exact m_i_br (vs := [.int x]) e1 (m_n1 (m_ni x)) (fun z => hjp _ _ _ _ _ _ (e2 z)) (fun z => hnx _ _ _ _ _ (e3 z)) (fun H locs cells slots ls cst kt kf => lv_if_eq hx hb hd h1 kt kf)
    | ne =>
      have h : m_if1 (fun x => x = 0) st (fun r => nx l r S bc bs) (fun r => jp a l r S bc bs) := h
      obtain ⟨x, r, e1, e2, e3⟩ := m_if1_inv h
      exact m_i_br (vs := [.int x]) e1 (m_n1 (m_ni x)) (fun z => hnx _ _ _ _ _ (e2 z)) (fun z => hjp _ _ _ _ _ _ (e3 z)) (fun H locs cells slots ls cst kt kf => lv_if_ne hx hb hd h1 kf kt)
    | lt =>
      have h : m_if1 (fun x => x < 0) st (fun r => jp a l r S bc bs) (fun r => nx l r S bc bs) := h
      obtain ⟨x, r, e1, e2, e3⟩ := m_if1_inv h
      exact m_i_br (vs := [.int x]) e1 (m_n1 (m_ni x)) (fun z => hjp _ _ _ _ _ _ (e2 z)) (fun z => hnx _ _ _ _ _ (e3 z)) (fun H locs cells slots ls cst kt kf => lv_if_lt hx hb hd h1 kt kf)
    | ge =>
      have h : m_if1 (fun x => 0 ≤ x) st (fun r => jp a l r S bc bs) (fun r => nx l r S bc bs) := h
      obtain ⟨x, r, e1, e2, e3⟩ := m_if1_inv h
      exact m_i_br (vs := [.int x]) e1 (m_n1 (m_ni x)) (fun z => hjp _ _ _ _ _ _ (e2 z)) (fun z => hnx _ _ _ _ _ (e3 z)) (fun H locs cells slots ls cst kt kf => lv_if_ge hx hb hd h1 kt kf)
    | gt =>
      have h : m_if1 (fun x => 0 < x) st (fun r => jp a l r S bc bs) (fun r => nx l r S bc bs) := h
      obtain ⟨x, r, e1, e2, e3⟩ := m_if1_inv h
      exact m_i_br (vs := [.int x]) e1 (m_n1 (m_ni x)) (fun z => hjp _ _ _ _ _ _ (e2 z)) (fun z => hnx _ _ _ _ _ (e3 z)) (fun H locs cells slots ls cst kt kf => lv_if_gt hx hb hd h1 kt kf)
    | le =>
      have h : m_if1 (fun x => x ≤ 0) st (fun r => jp a l r S bc bs) (fun r => nx l r S bc bs) := h
      obtain ⟨x, r, e1, e2, e3⟩ := m_if1_inv h
      exact m_i_br (vs := [.int x]) e1 (m_n1 (m_ni x)) (fun z => hjp _ _ _ _ _ _ (e2 z)) (fun z => hnx _ _ _ _ _ (e3 z)) (fun H locs cells slots ls cst kt kf => lv_if_le hx hb hd h1 kt kf)
  | if_icmp cnd off =>
    simp only [m_okX, m_okS, Bool.and_eq_true, decide_eq_true_eq] at hok
    obtain ⟨h1, h2⟩ := hok
    obtain rfl := m_beq h2
    cases cnd with
    | eq =>
      have h : m_if2 (fun x y => x = y) st (fun r => jp a l r S bc bs) (fun r => nx l r S bc bs) := h
      obtain ⟨x, y, r, e1, e2, e3⟩ := m_if2_inv h
      exact m_i_br (vs := [.int y, .int x]) e1 (m_n2 (m_ni y) (m_ni x)) (fun z => hjp _ _ _ _ _ _ (e2 z)) (fun z => hnx _ _ _ _ _ (e3 z)) (fun H locs cells slots ls cst kt kf => lv_icmp_eq hx hb hd h1 kt kf)
    | ne =>
      have h : m_if2 (fun x y => x = y) st (fun r => nx l r S bc bs) (fun r => jp a l r S bc bs) := h
      obtain ⟨x, y, r, e1, e2, e3⟩ := m_if2_inv h
      exact m_i_br (vs := [.int y, .int x]) e1 (m_n2 (m_ni y) (m_ni x)) (fun z => hnx _ _ _ _ _ (e2 z)) (fun z => hjp _ _ _ _ _ _ (e3 z)) (fun H locs cells slots ls cst kt kf => lv_icmp_ne hx hb hd h1 kf kt)
    | lt =>
      have h : m_if2 (fun x y => x < y) st (fun r => jp a l r S bc bs) (fun r => nx l r S bc bs) := h
      obtain ⟨x, y, r, e1, e2, e3⟩ := m_if2_inv h
      exact m_i_br (vs := [.int y, .int x]) e1 (m_n2 (m_ni y) (m_ni x)) (fun z => hjp _ _ _ _ _ _ (e2 z)) (fun z => hnx _ _ _ _ _ (e3 z)) (fun H locs cells slots ls cst kt kf => lv_icmp_lt hx hb hd h1 kt kf)
    | ge =>
      have h : m_if2 (fun x y => y ≤ x) st (fun r => jp a l r S bc bs) (fun r => nx l r S bc bs) := h
      obtain ⟨x, y, r, e1, e2, e3⟩ := m_if2_inv h
      exact m_i_br (vs := [.int y, .int x]) e1 (m_n2 (m_ni y) (m_ni x)) (fun z => hjp _ _ _ _ _ _ (e2 z)) (fun z => hnx _ _ _ _ _ (e3 z)) (fun H locs cells slots ls cst kt kf => lv_icmp_ge hx hb hd h1 kt kf)
    | gt =>
      have h : m_if2 (fun x y => y < x) st (fun r => jp a l r S bc bs) (fun r => nx l r S bc bs) := h
      obtain ⟨x, y, r, e1, e2, e3⟩ := m_if2_inv h
      exact m_i_br (vs := [.int y, .int x]) e1 (m_n2 (m_ni y) (m_ni x)) (fun z => hjp _ _ _ _ _ _ (e2 z)) (fun z => hnx _ _ _ _ _ (e3 z)) (fun H locs cells slots ls cst kt kf => lv_icmp_gt hx hb hd h1 kt kf)
    | le =>
      have h : m_if2 (fun x y => x ≤ y) st (fun r => jp a l r S bc bs) (fun r => nx l r S bc bs) := h
      obtain ⟨x, y, r, e1, e2, e3⟩ := m_if2_inv h
      exact m_i_br (vs := [.int y, .int x]) e1 (m_n2 (m_ni y) (m_ni x)) (fun z => hjp _ _ _ _ _ _ (e2 z)) (fun z => hnx _ _ _ _ _ (e3 z)) (fun H locs cells slots ls cst kt kf => lv_icmp_le hx hb hd h1 kt kf)
  | ifnonnull off =>
    simp only [m_okX, m_okS, Bool.and_eq_true, decide_eq_true_eq] at hok
    obtain ⟨h1, h2⟩ := hok
    obtain rfl := m_beq h2
    have h : (match (generalizing := false) st with
      | .ref _ :: r => jp a l r S bc bs
      | .null :: r => nx l r S bc bs
      | _ => False) := h
    split at h
    · intro ad H ls cst locs cells slots hext hH hS hlr hst hc hs
      obtain ⟨c0, cst0, rfl, ⟨-, rfl⟩, q2⟩ := hst
      exact lv_ifnonnull hx hb hd h1 (hjp _ _ _ _ _ _ h ad H ls _ locs cells slots hext hH hS hlr q2 hc hs)
    · intro ad H ls cst locs cells slots hext hH hS hlr hst hc hs
      obtain ⟨c0, cst0, rfl, rfl, q2⟩ := hst
      exact lv_ifnonnullN hx hb hd (hnx _ _ _ _ _ h ad H ls _ locs cells slots hext hH hS hlr q2 hc hs)
    · exact h.elim
  | tableswitch dflt lo hi offs =>
    simp only [m_okX, m_okS, Bool.and_eq_true, decide_eq_true_eq] at hok
    obtain ⟨⟨h1, hsz⟩, h2⟩ := hok
    have h : (match (generalizing := false) st with
      | .int x :: r => (∀ off, ¬ x.toInt < lo → ¬ hi < x.toInt → offs[(x.toInt - lo).toNat]? = some off → jp ((pc : Int) + off).toNat l r S bc bs) ∧ (x.toInt < lo ∨ hi < x.toInt → jp ((pc : Int) + dflt).toNat l r S bc bs)
      | _ => False) := h
    split at h
    · rename_i x r _
      intro ad H ls cst locs cells slots hext hH hS hlr hst hc hs
      obtain ⟨c0, cst0, rfl, rfl, q2⟩ := hst
      by_cases hout : x.toInt < lo ∨ hi < x.toInt
      · exact lv_tableOut (tgt := ((pc : Int) + dflt).toNat) hx hb hd hout (by omega) (hjp _ _ _ _ _ _ (h.2 hout) ad H ls _ locs cells slots hext hH hS hlr q2 hc hs)
      · have o1 : ¬ x.toInt < lo := fun z => hout (Or.inl z)
        have o2 : ¬ hi < x.toInt := fun z => hout (Or.inr z)
        cases ho : offs[(x.toInt - lo).toNat]? with
        | none => exact absurd (Array.getElem?_eq_none_iff.mp ho) (by omega)
        | some off =>
          have h3 := Array.all_eq_true'.mp h2 off (Array.mem_of_getElem? ho)
          have h4 : 0 ≤ (pc : Int) + off := of_decide_eq_true h3
          exact lv_tableIn (tgt := ((pc : Int) + off).toNat) hx hb hd o1 o2 ho (by omega) (hjp _ _ _ _ _ _ (h.1 off o1 o2 ho) ad H ls _ locs cells slots hext hH hS hlr q2 hc hs)
    · exact h.elim
  | getfield i =>
    simp only [m_okX, Bool.and_eq_true] at hok
    obtain ⟨⟨h1, h2⟩, h3⟩ := hok
    obtain rfl := m_beq h1
    obtain ⟨g1, g2, p, g3⟩ := m_fl_use h2
    rw [hown] at g3
    have h : (match (generalizing := false) st with
      | .ref o :: r => m_obj S o a (fun rs => nx l (m_fget S o b t rs :: r) S bc bs)
      | _ => False) := h
    split at h
    · obtain ⟨rs, h4, h5⟩ := m_obj_inv h
      exact m_i_get F rfl h4 g1 g2 g3 h3 hd (hnx _ _ _ _ _ h5)
    · exact h.elim
  | iaload =>
    simp only [m_okX, m_okS] at hok
    obtain rfl := m_beq hok
    have h : m_load S m_isInt st (fun x r => nx l (.int x :: r) S bc bs) := h
    unfold m_load at h
    split at h
    · rename_i i a r _
      rcases m_arrL_inv h with ⟨ty, n, rs, h1, h2⟩ | ⟨rfl, h2⟩
      · obtain ⟨h3, h4, h5⟩ := m_inv_bool h2
        unfold m_isInt at h3
        split at h3
        · exact m_i_iald F rfl h1 h4 hd (hnx _ _ _ _ _ h5)
        · cases h3
      · exact m_i_scr F rfl h2.1 hd (hnx _ _ _ _ _ h2.2)
    · exact h.elim
  | baload =>
    simp only [m_okX, m_okS] at hok
    obtain rfl := m_beq hok
    have h : m_load S m_isByte st (fun x r => nx l (.int x :: r) S bc bs) := h
    unfold m_load at h
    split at h
    · rename_i i a r _
      rcases m_arrL_inv h with ⟨ty, n, rs, h1, h2⟩ | ⟨rfl, h2⟩
      · obtain ⟨h3, h4, h5⟩ := m_inv_bool h2
        exact m_i_bald F rfl h1 h3 h4 hd (hnx _ _ _ _ _ h5)
      · exact h2.elim
    · exact h.elim
  | iastore =>
    simp only [m_okX, m_okS] at hok
    obtain rfl := m_beq hok
    have h : m_store S m_isInt st (fun I r => nx l r (S.1, I, S.2.2) bc bs) := h
    unfold m_store at h
    split at h
    · obtain ⟨ty, n, rs, h1, h2⟩ := m_arr_inv h
      obtain ⟨h3, h4, h5⟩ := m_inv_bool h2
      unfold m_isInt at h3
      split at h3
      · exact m_i_iast F rfl h1 h4 hd (hnx _ _ _ _ _ h5)
      · cases h3
    · exact h.elim
  | bastore =>
    simp only [m_okX, m_okS] at hok
    obtain rfl := m_beq hok
    have h : m_store S m_isByte st (fun I r => nx l r (S.1, I, S.2.2) bc bs) := h
    unfold m_store at h
    split at h
    · obtain ⟨ty, n, rs, h1, h2⟩ := m_arr_inv h
      obtain ⟨h3, h4, h5⟩ := m_inv_bool h2
      exact m_i_bast F rfl h1 h3 h4 hd (hnx _ _ _ _ _ h5)
    · exact h.elim
  | laload =>
    simp only [m_okX, m_okS] at hok
    obtain rfl := m_beq hok
    have h : (match (generalizing := false) st with
      | .int i :: .ref a :: r => m_arr S a (fun ty n _ => match ty with
        | .long => vp_in i n ∧ nx l (.long (S.2.2.1 a i.toNatClampNeg) :: r) S bc bs
        | _ => False)
      | _ => False) := h
    split at h
    · obtain ⟨ty, n, rs, h1, h2⟩ := m_arr_inv h
      split at h2
      · exact m_i_lald F rfl h1 h2.1 hd (hnx _ _ _ _ _ h2.2)
      · exact h2.elim
    · exact h.elim
  | daload =>
    simp only [m_okX, m_okS] at hok
    obtain rfl := m_beq hok
    have h : (match (generalizing := false) st with
      | .int i :: .ref a :: r => m_arr S a (fun ty n _ => match ty with
        | .double => vp_in i n ∧ nx l (.double (S.2.2.2 a i.toNatClampNeg) :: r) S bc bs
        | _ => False)
      | _ => False) := h
    split at h
    · obtain ⟨ty, n, rs, h1, h2⟩ := m_arr_inv h
      split at h2
      · exact m_i_dald F rfl h1 h2.1 hd (hnx _ _ _ _ _ h2.2)
      · exact h2.elim
    · exact h.elim
  | lastore =>
    simp only [m_okX, m_okS] at hok
    obtain rfl := m_beq hok
    have h : (match (generalizing := false) st with
      | .long x :: .int i :: .ref a :: r => m_arr S a (fun ty n _ => match ty with
        | .long => vp_in i n ∧ nx l r (S.1, S.2.1, m_rowX S.2.2.1 a (vf_upd (S.2.2.1 a) i.toNatClampNeg x), S.2.2.2) bc bs
        | _ => False)
      | _ => False) := h
    split at h
    · obtain ⟨ty, n, rs, h1, h2⟩ := m_arr_inv h
      split at h2
      · exact m_i_last F rfl h1 h2.1 hd (hnx _ _ _ _ _ h2.2)
      · exact h2.elim
    · exact h.elim
  | dastore =>
    simp only [m_okX, m_okS] at hok
    obtain rfl := m_beq hok
    have h : (match (generalizing := false) st with
      | .double x :: .int i :: .ref a :: r => m_arr S a (fun ty n _ => match ty with
        | .double => vp_in i n ∧ nx l r (S.1, S.2.1, S.2.2.1, m_rowX S.2.2.2 a (vf_upd (S.2.2.2 a) i.toNatClampNeg x)) bc bs
        | _ => False)
      | _ => False) := h
    split at h
    · obtain ⟨ty, n, rs, h1, h2⟩ := m_arr_inv h
      split at h2
      · exact m_i_dast F rfl h1 h2.1 hd (hnx _ _ _ _ _ h2.2)
      · exact h2.elim
    · exact h.elim
  | aaload =>
    simp only [m_okX, m_okS] at hok
    obtain rfl := m_beq hok
    have h : (match (generalizing := false) st with
      | .int i :: .ref a :: r => m_arr S a (fun ty n rs => match m_isRef ty with
        | true => vp_in i n ∧ nx l (m_rv (rs.getD i.toNatClampNeg none) :: r) S bc bs
        | false => False)
      | _ => False) := h
    split at h
    · obtain ⟨ty, n, rs, h1, h2⟩ := m_arr_inv h
      obtain ⟨h3, h4, h5⟩ := m_inv_bool h2
      exact m_i_aald F rfl h1 h3 h4 hd (hnx _ _ _ _ _ h5)
    · exact h.elim
  | aastore =>
    simp only [m_okX, m_okS] at hok
    obtain rfl := m_beq hok
    have h : (match (generalizing := false) st with
      | .ref x :: .int i :: .ref a :: r => m_arr S a (fun ty n rs => match S.1[x]? with
        | some (.inl ci, _) => (match m_isObj ty (m_cnames.getD ci "") with
          | true => vp_in i n ∧ nx l r (S.1.set a (.inr (ty, n), rs.set i.toNatClampNeg (some x)), S.2) bc bs
          | false => False)
        | _ => False)
      | _ => False) := h
    split at h
    · obtain ⟨ty, n, rs, h1, h2⟩ := m_arr_inv h
      split at h2
      · rename_i hxx
        obtain ⟨h3, h4, h5⟩ := m_inv_bool h2
        exact m_i_aast F rfl h1 hxx h3 h4 hd (hnx _ _ _ _ _ h5)
      · exact h2.elim
    · exact h.elim
  | arraylength =>
    simp only [m_okX, m_okS] at hok
    obtain rfl := m_beq hok
    have h : (match (generalizing := false) st with
      | .ref a :: r => m_arrL S a (fun _ n => nx l (.int (Int32.ofNat n) :: r) S bc bs)
      | _ => False) := h
    split at h
    · rcases m_arrL_inv h with ⟨ty, n, rs, h1, h2⟩ | ⟨rfl, h2⟩
      · exact m_i_alen F rfl h1 hd (hnx _ _ _ _ _ h2)
      · exact m_i_slen F rfl hd (hnx _ _ _ _ _ h2)
    · exact h.elim
  | newarray ty =>
    simp only [m_okX, Bool.and_eq_true] at hok
    obtain ⟨h1, h2⟩ := hok
    obtain rfl := m_beq h1
    have h : (match (generalizing := false) st with
      | .int n :: r => ¬ n < 0 ∧ n.toNatClampNeg ≤ 100000 ∧ S.1.length < 1000 ∧ 1 ≤ bc ∧ n.toNatClampNeg ≤ bs ∧ nx l (.ref S.1.length :: r) (S.1 ++ [(.inr (newarray.typeOf ty, n.toNatClampNeg), [])], m_zero S S.1.length) (bc - 1) (bs - n.toNatClampNeg)
      | _ => False) := h
    split at h
    · obtain ⟨q1, q2, q3, q4, q5, q6⟩ := h
      exact m_i_newa (p := 0) F rfl h2 (m_w_arr ty h2) hd q1 q2 q3 q4 q5 (hnx _ _ _ _ _ q6)
    · exact h.elim
  | anewarray i =>
    simp only [m_okX, Bool.and_eq_true, Bool.or_eq_true] at hok
    obtain ⟨⟨h1, h2⟩, h3⟩ := hok
    obtain rfl := m_beq h1
    obtain ⟨p, hp⟩ := m_cl_use h2
    rw [hown] at hp
    have h : (match (generalizing := false) st with
      | .int n :: r => ¬ n < 0 ∧ n.toNatClampNeg ≤ 100000 ∧ S.1.length < 1000 ∧ 1 ≤ bc ∧ n.toNatClampNeg ≤ bs ∧ nx l (.ref S.1.length :: r) (S.1 ++ [(.inr (.object (m_cnames.getD a ""), n.toNatClampNeg), List.replicate n.toNatClampNeg none)], m_zero S S.1.length) (bc - 1) (bs - n.toNatClampNeg)
      | _ => False) := h
    split at h
    · obtain ⟨q1, q2, q3, q4, q5, q6⟩ := h
      rcases h3 with h3 | h3
      · obtain rfl := m_beq h3
        exact m_i_newq F rfl (Or.inl (by decide +kernel)) hp hd q1 q2 q3 q4 q5 (hnx _ _ _ _ _ q6)
      · obtain rfl := m_beq h3
        exact m_i_newq F rfl (Or.inr (by decide +kernel)) hp hd q1 q2 q3 q4 q5 (hnx _ _ _ _ _ q6)
    · exact h.elim
  | multianewarray i n2 =>
    simp only [m_okX, Bool.and_eq_true] at hok
    obtain ⟨⟨h1, h2⟩, h3⟩ := hok
    obtain rfl := m_beq h1
    obtain rfl := m_beq h2
    obtain ⟨p, hp⟩ := m_cl_use h3
    rw [hown] at hp
    have h : (match (generalizing := false) st with
      | .int k :: .int n :: r => ¬ n < 0 ∧ ¬ k < 0 ∧ n.toNatClampNeg ≤ 100 ∧ k.toNatClampNeg ≤ 1000 ∧ S.1.length < 1000 ∧ 1 + n.toNatClampNeg ≤ bc ∧ n.toNatClampNeg + n.toNatClampNeg * k.toNatClampNeg ≤ bs ∧
          nx l (.ref S.1.length :: r) (S.1 ++ (.inr (.array .int, n.toNatClampNeg), (List.range n.toNatClampNeg).map (fun i => some (S.1.length + 1 + i))) :: List.replicate n.toNatClampNeg (.inr (.int, k.toNatClampNeg), []), m_zeros S S.1.length (1 + n.toNatClampNeg)) (bc - (1 + n.toNatClampNeg)) (bs - (n.toNatClampNeg + n.toNatClampNeg * k.toNatClampNeg))
      | _ => False) := h
    split at h
    · obtain ⟨q1, q2, q3, q4, q5, q6, q7, q8⟩ := h
      exact m_i_mna F rfl hp hd q1 q2 q3 q4 q5 q6 q7 (hnx _ _ _ _ _ q8)
    · exact h.elim
  | new i =>
    simp only [m_okX, Bool.and_eq_true] at hok
    obtain ⟨h1, h2⟩ := hok
    obtain rfl := m_beq h1
    match t, h, h2, hend with
    | 0, h, h2, _ =>
      simp only [Bool.and_eq_true] at h2
      obtain ⟨p, hp⟩ := m_cl_use h2.2
      rw [h2.1, hown] at hp
      obtain ⟨q1, q2, q3, q4⟩ := h
      exact m_i_new F (Nat.le_of_ble_eq_true h2.1) hp hd q1 q2 q3 (hnx _ _ _ _ _ q4)
    | t + 1, h, h2, hend => exact absurd hend (by simp [m_isEnd])
  | invokevirtual i =>
    simp only [m_okX, Bool.and_eq_true] at hok
    obtain ⟨h1, h2⟩ := hok
    obtain rfl := m_beq h1
    have h : m_invoke (m_Call (g_l G) d) t a b l st S bc bs nx (ex pc) := h
    split at h2
    · simp only [Bool.and_eq_true] at h2
      obtain ⟨h3, h4⟩ := h2
      split at h4
      · rename_i M' hM'
        simp only [Bool.and_eq_true] at h4
        exact m_invoke_sound F hall (Or.inl ⟨hd, rfl, h3, M', hM', m_beq h4.1.1, m_beq h4.1.2, m_beq h4.2⟩) hown h hnx hex
      · cases h4
    · obtain ⟨p, hp⟩ := m_pl_use h2
      rw [hown] at hp
      obtain ⟨hr, h⟩ := m_inv_bool (b := m_rest 1 st) (p := m_strlen st (fun r => nx l r S bc bs)) h
      unfold m_strlen at h
      split at h
      · obtain ⟨j, cs, rfl, hj, h⟩ := m_text_inv h
        exact m_i_strlen F rfl hr hj hp hd (hnx _ _ _ _ _ h)
      · exact h.elim
    · obtain ⟨p, hp⟩ := m_pl_use h2
      rw [hown] at hp
      obtain ⟨hr, h⟩ := m_inv_bool (b := m_rest 2 st) (p := m_strat st (fun r => nx l r S bc bs)) h
      unfold m_strat at h
      split at h
      · obtain ⟨j, cs, rfl, hj, h0, h⟩ := m_text_inv h
        exact m_i_strat F rfl hr hj h0 hp hd (hnx _ _ _ _ _ h)
      · exact h.elim
    · cases h2
  | invokestatic i =>
    simp only [m_okX, Bool.and_eq_true] at hok
    obtain ⟨h1, h2⟩ := hok
    obtain rfl := m_beq h1
    have h : m_invoke (m_Call (g_l G) d) t a b l st S bc bs nx (ex pc) := h
    split at h2
    · simp only [Bool.and_eq_true] at h2
      obtain ⟨h3, h4⟩ := h2
      split at h4
      · rename_i M' hM'
        simp only [Bool.and_eq_true] at h4
        exact m_invoke_sound F hall (Or.inr (Or.inl ⟨hd, Or.inl ⟨rfl, h3⟩, M', hM', m_beq h4.1, m_beq h4.2⟩)) hown h hnx hex
      · cases h4
    · simp only [Bool.and_eq_true] at h2
      obtain ⟨h3, h4⟩ := h2
      split at h4
      · rename_i M' hM'
        simp only [Bool.and_eq_true] at h4
        exact m_invoke_sound F hall (Or.inr (Or.inl ⟨hd, Or.inr ⟨rfl, h3⟩, M', hM', m_beq h4.1, m_beq h4.2⟩)) hown h hnx hex
      · cases h4
    · exact m_invoke_sound F hall (Or.inr (Or.inr (Or.inr (Or.inl ⟨hd, Or.inl rfl, h2⟩)))) hown h hnx hex
    · exact m_invoke_sound F hall (Or.inr (Or.inr (Or.inr (Or.inl ⟨hd, Or.inr (Or.inl rfl), h2⟩)))) hown h hnx hex
    · exact m_invoke_sound F hall (Or.inr (Or.inr (Or.inr (Or.inl ⟨hd, Or.inr (Or.inr rfl), h2⟩)))) hown h hnx hex
    · cases h2
  | invokespecial i =>
    simp only [m_okX, Bool.and_eq_true] at hok
    obtain ⟨h1, h2⟩ := hok
    obtain rfl := m_beq h1
    have h : m_invoke (m_Call (g_l G) d) t a b l st S bc bs nx (ex pc) := h
    split at h2
    · simp only [Bool.and_eq_true] at h2
      obtain ⟨h3, h4⟩ := h2
      split at h4
      · rename_i M' hM'
        simp only [Bool.and_eq_true] at h4
        exact m_invoke_sound F hall (Or.inr (Or.inr (Or.inl ⟨hd, Or.inl ⟨rfl, h3⟩, M', hM', m_beq h4.1, m_beq h4.2⟩))) hown h hnx hex
      · cases h4
    · simp only [Bool.and_eq_true] at h2
      obtain ⟨h3, h4⟩ := h2
      split at h4
      · rename_i M' hM'
        simp only [Bool.and_eq_true] at h4
        exact m_invoke_sound F hall (Or.inr (Or.inr (Or.inl ⟨hd, Or.inr ⟨rfl, h3⟩, M', hM', m_beq h4.1, m_beq h4.2⟩))) hown h hnx hex
      · cases h4
    · exact m_invoke_sound F hall (Or.inr (Or.inr (Or.inr (Or.inr ⟨hd, rfl, h2⟩)))) hown h hnx hex
    · exact h.elim
    · cases h2
  | putfield i =>
    simp only [m_okX, Bool.and_eq_true, Bool.or_eq_true, Bool.not_eq_true'] at hok
    obtain ⟨⟨⟨h1, h2⟩, h3⟩, hf⟩ := hok
    obtain rfl := m_beq h1
    obtain ⟨g1, g2, p, g3⟩ := m_fl_use h2
    rw [hown] at g3
    have hfin : (m_T a b).2.2.2 = false ∨ ((g_meth G).name = "<init>" ∧ (m_T a b).1 = M.1.cls) := by
      rcases hf with hf | ⟨hf1, hf2⟩
      · exact Or.inl hf
      · refine Or.inr ⟨hinit (m_beq hf1), ?_⟩
        rw [m_decl g1 g2, m_cn_on g1, m_beq hf2, hown]
    rcases m_step_put h with ⟨x, o, r, rs, rfl, rfl, h4, h5⟩ | ⟨x, o, r, rs, rfl, rfl, h4, h5⟩ | ⟨x, o, r, rs, rfl, rfl, h4, hxl, h7⟩
    · have hty : m_ty a b = .int := of_decide_eq_true h3
      refine m_i_put (rs' := rs) (S' := (S.1, m_u S.2.1 o b x, S.2.2)) F rfl h4 g1 g2 g3 hfin hty (fun ad c hv => by obtain rfl : c = .int x := hv; exact ⟨rfl, rfl⟩) (m_set_self h4).symm (fun k hk => m_row_ne _ _ hk) (fun _ _ => rfl) (fun _ _ => rfl) (fun hw9 ad c hv j q hj => Or.inl (hw9 j q hj)) rfl (fun ad j hj => ?_) (fun ad c hv _ => ?_) (fun q hq => by cases hq) hd (hnx _ _ _ _ _ h5)
      · unfold m_fv
        split
        · simp only [m_u, m_row_at, upd, if_neg hj]
        · rfl
        · rfl
      · obtain rfl : c = .int x := hv
        unfold m_fv
        rw [hty]
        simp only [m_u, m_row_at, upd, if_true]
    · have hty : m_ty a b = .long := of_decide_eq_true h3
      refine m_i_put (rs' := rs) (S' := (S.1, S.2.1, m_rowX S.2.2.1 o (vf_upd (S.2.2.1 o) b x), S.2.2.2)) F rfl h4 g1 g2 g3 hfin hty (fun ad c hv => by obtain rfl : c = .long x := hv; exact ⟨rfl, rfl⟩) (m_set_self h4).symm (fun _ _ => rfl) (fun k hk => m_rowX_ne _ _ hk) (fun _ _ => rfl) (fun hw9 ad c hv j q hj => Or.inl (hw9 j q hj)) rfl (fun ad j hj => ?_) (fun ad c hv _ => ?_) (fun q hq => by cases hq) hd (hnx _ _ _ _ _ h5)
      · unfold m_fv
        split
        · rfl
        · simp only [m_rowX_at, vf_upd, if_neg hj]
        · rfl
      · obtain rfl : c = .long x := hv
        unfold m_fv
        rw [hty]
        simp only [m_rowX_at, vf_upd, if_true]
    · have hrf : m_isRefF (m_ty a b) = true := h3
      refine m_i_put (ty := m_ty a b) (rs' := rs.set b (some x)) (S' := (S.1.set o (.inl a, rs.set b (some x)), S.2)) F rfl h4 g1 g2 g3 hfin rfl (fun ad c hv => ?_) rfl (fun _ _ => rfl) (fun _ _ => rfl) (fun _ _ => rfl) (fun hw9 ad c hv j q hj => ?_) (by simp) (fun ad j hj => ?_) (fun ad c hv hrl => ?_) (fun q hq => by cases hq; exact hxl) hd (hnx _ _ _ _ _ h7)
      · obtain ⟨-, rfl⟩ := hv
        unfold m_isRefF at hrf
        split at hrf
        · rename_i e9; rw [e9]; exact ⟨rfl, rfl⟩
        · rename_i e9; rw [e9]; exact ⟨rfl, rfl⟩
        · cases hrf
      · rw [List.getElem?_set] at hj
        split at hj
        · split at hj
          · cases hj; exact Or.inr rfl
          · cases hj
        · exact Or.inl (hw9 j q hj)
      · unfold m_fv
        split
        · rfl
        · rfl
        · rw [List.getD_eq_getElem?_getD, List.getElem?_set_ne (fun z => hj z.symm), ← List.getD_eq_getElem?_getD]
      · obtain ⟨-, rfl⟩ := hv
        unfold m_fv
        unfold m_isRefF at hrf
        have hbl : b < rs.length := by rw [hrl]; exact g2
        split at hrf
        · rename_i e9; rw [e9]; simp [List.getD_eq_getElem?_getD, List.getElem?_set, hbl, va_rf]
        · rename_i e9; rw [e9]; simp [List.getD_eq_getElem?_getD, List.getElem?_set, hbl, va_rf]
        · cases hrf
  | _ => first | exact h.elim | cases hend
end S11
