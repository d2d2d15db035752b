/-! the machine over whole numbers is sound: a step -/
section Z2
variable {l : Launch} {d : Nat}
theorem z_Call_sound {a : Nat} {ws : z_V} {S : z_S} {bc bs : Nat} {zK : z_O → z_S → Nat → Nat → Prop} {K : m_O → m_S → Nat → Nat → Prop} (h : z_Call l d a ws S bc bs zK) (hw : z_okV ws) (hS : z_okS S) (hK : ∀ o S' bc bs, zK o S' bc bs → z_okO o → z_okS S' → K (z_out o) (z_st S') bc bs) : m_Call l d a (z_mV ws) (z_st S) bc bs K := by
  obtain ⟨mc, ms, Q, h1, h2, h3, h4⟩ := h
  refine ⟨mc, ms, _, h1 hw hS, h2, h3, ?_⟩
  rintro _ _ ⟨zo, zS, rfl, rfl, k1, k2, k3⟩
  exact hK _ _ _ _ (h4 _ _ k2 k3) k1 k2
theorem z_okV_take : ∀ {st : z_V} (n : Nat), z_okV st → z_okV (st.take n)
  | _, 0, _ => by simp [z_okV]
  | [], _ + 1, _ => by simp [z_okV]
  | w :: r, n + 1, h => ⟨h.1, z_okV_take n h.2⟩
theorem z_okV_drop : ∀ {st : z_V} (n : Nat), z_okV st → z_okV (st.drop n)
  | _, 0, h => h
  | [], _ + 1, _ => by simp [z_okV]
  | w :: r, n + 1, h => z_okV_drop (st := r) n h.2
theorem z_okV_app : ∀ {s t : z_V}, z_okV s → z_okV t → z_okV (s ++ t)
  | [], _, _, h => h
  | _ :: _, _, h, h2 => ⟨h.1, z_okV_app h.2 h2⟩
theorem z_okV_rev : ∀ {s : z_V}, z_okV s → z_okV s.reverse
  | [], h => h
  | w :: r, h => by
    rw [List.reverse_cons]
    exact z_okV_app (z_okV_rev h.2) ⟨h.1, True.intro⟩
variable {znx : z_C} {nx : m_C} {zex : String → z_L → z_S → Nat → Nat → Prop} {ex : String → m_L → m_S → Nat → Nat → Prop}
theorem z_callOn_sound {a n : Nat} {zl : z_L} {zst : z_V} {zS : z_S} {bc bs : Nat} (hnx : ∀ l st S bc bs, znx l st S bc bs → z_okL l → z_okV st → z_okS S → nx (z_mL l) (z_mV st) (z_st S) bc bs) (hex : ∀ X l S bc bs, zex X l S bc bs → z_okL l → z_okS S → ex X (z_mL l) (z_st S) bc bs) (h : z_callOn (z_Call l d) a n zl zst zS bc bs znx zex) (hl : z_okL zl) (hv : z_okV zst) (hS : z_okS zS) : m_callOn (m_Call l d) a n (z_mL zl) (z_mV zst) (z_st zS) bc bs nx ex := by
  obtain ⟨h1, h2, h3⟩ := h
  unfold m_callOn
  rw [h1, show (z_mV zst).length = zst.length from List.length_map _, h2]
  show m_Call l d a ((z_mV zst).take n).reverse (z_st zS) bc bs _
  rw [show ((z_mV zst).take n).reverse = z_mV (zst.take n).reverse by unfold z_mV; rw [List.map_reverse, List.map_take]]
  refine z_Call_sound h3 (z_okV_rev (z_okV_take n hv)) hS ?_
  intro o S' bc' bs' hk ho hS'
  have ed : (z_mV zst).drop n = z_mV (zst.drop n) := by unfold z_mV; rw [List.map_drop]
  match o, hk, ho with
  | .inl (some w), hk, ho =>
    show nx (z_mL zl) (z_val w :: (z_mV zst).drop n) (z_st S') bc' bs'
    rw [ed]
    exact hnx _ (w :: zst.drop n) _ _ _ hk hl ⟨ho, z_okV_drop n hv⟩ hS'
  | .inl none, hk, ho =>
    show nx (z_mL zl) ((z_mV zst).drop n) (z_st S') bc' bs'
    rw [ed]
    exact hnx _ _ _ _ _ hk hl (z_okV_drop n hv) hS'
  | .inr X, hk, ho => exact hex X _ _ _ _ hk hl hS'
theorem z_mV_at {zst : z_V} {i : Nat} {w : z_W} (h : zst[i]? = some w) : (z_mV zst)[i]? = some (z_val w) := by
  unfold z_mV
  rw [List.getElem?_map, h]
  rfl
theorem z_text_s {a : Nat} {zk mk : List Int32 → Prop} (h : m_text a zk) (hk : ∀ (i : Nat) (cs : List Int32), m_tchars[i]? = some cs → zk cs → mk cs) : m_text a mk := by
  unfold m_text at h ⊢
  generalize Nat.ble 1000000 a = b at h ⊢
  cases b with
  | false => exact h
  | true =>
    generalize hm : m_tchars[a - 1000000]? = q at h ⊢
    cases q with
    | none => exact h.elim
    | some cs => exact hk _ cs hm h
theorem z_invoke_sound {t a n : Nat} {zl : z_L} {zst : z_V} {zS : z_S} {bc bs : Nat} (hnx : ∀ l st S bc bs, znx l st S bc bs → z_okL l → z_okV st → z_okS S → nx (z_mL l) (z_mV st) (z_st S) bc bs) (hex : ∀ X l S bc bs, zex X l S bc bs → z_okL l → z_okS S → ex X (z_mL l) (z_st S) bc bs) (h : z_invoke (z_Call l d) t a n zl zst zS bc bs znx zex) (hl : z_okL zl) (hv : z_okV zst) (hS : z_okS zS) : m_invoke (m_Call l d) t a n (z_mL zl) (z_mV zst) (z_st zS) bc bs nx ex := by
  unfold z_invoke at h
  split at h
  · obtain ⟨o, rs, h1, h2, h3⟩ := h
    show m_recv (z_mV zst) (n % 16) _
    unfold m_recv
    rw [z_mV_at h1]
    exact z_obj_m h2 (z_callOn_sound hnx hex h3 hl hv hS)
  · exact z_callOn_sound hnx hex h hl hv hS
  · obtain ⟨o, h1, h3⟩ := h
    show m_recv (z_mV zst) n _
    unfold m_recv
    rw [z_mV_at h1]
    exact z_callOn_sound hnx hex h3 hl hv hS
  · obtain ⟨o, h1, h3⟩ := h
    show m_recv (z_mV zst) n _
    unfold m_recv
    rw [z_mV_at h1]
    exact z_callOn_sound hnx hex h3 hl hv hS
  · exact z_callOn_sound hnx hex h hl hv hS
  · obtain ⟨h1, h2⟩ := h
    show (match m_rest 5 (z_mV zst) with
      | true => m_copy (z_st zS) (z_mV zst) (fun I r => nx (z_mL zl) r ((z_st zS).1, I, (z_st zS).2.2) bc bs)
      | false => False)
    rw [h1]
    unfold z_copy at h2
    split at h2
    · rename_i n0 dp a1 sp a0 r
      obtain ⟨⟨ty, s0, s1, rs0, rs1, e0, e1, e2, ⟨b1, b2, b3, b4, b5⟩, e3⟩, h2⟩ := h2
      obtain ⟨v1, v2, -, v4, -, v6⟩ := hv
      show m_copy (z_st zS) (.int (Int32.ofInt n0) :: .int (Int32.ofInt dp) :: .ref a1 :: .int (Int32.ofInt sp) :: .ref a0 :: z_mV r) _
      have key : ¬ Int32.ofInt sp < 0 ∧ ¬ Int32.ofInt dp < 0 ∧ ¬ Int32.ofInt n0 < 0 ∧ (Int32.ofInt sp).toNatClampNeg + (Int32.ofInt n0).toNatClampNeg ≤ s0 ∧ (Int32.ofInt dp).toNatClampNeg + (Int32.ofInt n0).toNatClampNeg ≤ s1 ∧ (∀ i, i < (Int32.ofInt n0).toNatClampNeg → fits ty (.int ((z_st zS).2.1 a0 ((Int32.ofInt sp).toNatClampNeg + i))) = true) ∧ nx (z_mL zl) (z_mV r) ((z_st zS).1, m_row (z_st zS).2.1 a1 (va_cpy ((z_st zS).2.1 a0) ((z_st zS).2.1 a1) (Int32.ofInt sp).toNatClampNeg (Int32.ofInt dp).toNatClampNeg (Int32.ofInt n0).toNatClampNeg), (z_st zS).2.2) bc bs := by
        rw [z_clamp v1, z_clamp v2, z_clamp v4]
        rw [z_o0, z_lt v4 z_r0, z_lt v2 z_r0, z_lt v1 z_r0]
        refine ⟨by omega, by omega, by omega, by omega, by omega, fun i hi => ?_, ?_⟩
        · have := e3 (i : Int) (by omega) (by omega)
          rw [show sp + (i : Int) = ((sp.toNat + i : Nat) : Int) by omega] at this
          exact z_fits (hS _ _).1 e2 this
        · have h3 := hnx _ _ _ _ _ h2 hl v6 (z_okS_row hS (fun j => by
            unfold z_cpy
            split
            · exact (hS _ _).1
            · exact (hS _ _).1))
          rw [z_st_row, z_cpy_m b1 b2 b3] at h3
          exact h3
      unfold m_copy
      refine z_arr_m e0 ?_
      refine z_arr_m e1 ?_
      show (match m_small ty, decide (ty = ty) with
        | true, true => _
        | _, _ => False)
      rw [e2, decide_eq_true (rfl : ty = ty)]
      exact key
    · exact h2.elim
  · obtain ⟨h1, h2⟩ := h
    show (match m_rest 2 (z_mV zst) with
      | true => m_bin (fun x y => if x < y then y else x) (z_mV zst) (fun r => nx (z_mL zl) r (z_st zS) bc bs)
      | false => False)
    rw [h1]
    split at h2
    · rename_i y x r
      obtain ⟨v1, v2, v3⟩ := hv
      show nx (z_mL zl) (.int (if Int32.ofInt x < Int32.ofInt y then Int32.ofInt y else Int32.ofInt x) :: z_mV r) (z_st zS) bc bs
      have h3 := hnx _ _ _ _ _ h2 hl ⟨(show z_r (max x y) from by unfold z_ok z_r at *; omega), v3⟩ hS
      have e : (if Int32.ofInt x < Int32.ofInt y then Int32.ofInt y else Int32.ofInt x) = Int32.ofInt (max x y) := by
        by_cases hc : x < y
        · rw [if_pos ((z_lt v2 v1).mpr hc), show max x y = y by omega]
        · rw [if_neg (fun q => hc ((z_lt v2 v1).mp q)), show max x y = x by omega]
      rw [e]
      exact h3
    · exact h2.elim
  · obtain ⟨h1, h2⟩ := h
    show (match m_rest 2 (z_mV zst) with
      | true => m_bin (fun x y => if y < x then y else x) (z_mV zst) (fun r => nx (z_mL zl) r (z_st zS) bc bs)
      | false => False)
    rw [h1]
    split at h2
    · rename_i y x r
      obtain ⟨v1, v2, v3⟩ := hv
      show nx (z_mL zl) (.int (if Int32.ofInt y < Int32.ofInt x then Int32.ofInt y else Int32.ofInt x) :: z_mV r) (z_st zS) bc bs
      have h3 := hnx _ _ _ _ _ h2 hl ⟨(show z_r (min x y) from by unfold z_ok z_r at *; omega), v3⟩ hS
      have e : (if Int32.ofInt y < Int32.ofInt x then Int32.ofInt y else Int32.ofInt x) = Int32.ofInt (min x y) := by
        by_cases hc : y < x
        · rw [if_pos ((z_lt v1 v2).mpr hc), show min x y = y by omega]
        · rw [if_neg (fun q => hc ((z_lt v1 v2).mp q)), show min x y = x by omega]
      rw [e]
      exact h3
    · exact h2.elim
  · obtain ⟨h1, h2⟩ := h
    show (match m_rest 1 (z_mV zst) with
      | true => m_popRef (z_mV zst) (fun r => nx (z_mL zl) r (z_st zS) bc bs)
      | false => False)
    rw [h1]
    split at h2
    · exact hnx _ _ _ _ _ h2 hl hv.2 hS
    · exact h2.elim
  · obtain ⟨h1, h2⟩ := h
    show (match m_rest 1 (z_mV zst) with
      | true => m_strlen (z_mV zst) (fun r => nx (z_mL zl) r (z_st zS) bc bs)
      | false => False)
    rw [h1]
    unfold z_strlen at h2
    split at h2
    · rename_i a1 r
      show m_text a1 (fun cs => nx (z_mL zl) (.int (Int32.ofNat cs.length) :: z_mV r) (z_st zS) bc bs)
      refine z_text_s h2 (fun i cs hcs h2 => ?_)
      have hlen : z_r (cs.length : Int) := m_tlen hcs
      exact hnx _ _ _ _ _ h2 hl ⟨hlen, hv.2⟩ hS
    · exact h2.elim
  · obtain ⟨h1, h2⟩ := h
    show (match m_rest 2 (z_mV zst) with
      | true => m_strat (z_mV zst) (fun r => nx (z_mL zl) r (z_st zS) bc bs)
      | false => False)
    rw [h1]
    unfold z_strat at h2
    split at h2
    · rename_i i a1 r
      obtain ⟨v1, v2, v3⟩ := hv
      show m_text a1 (fun cs => vp_in (Int32.ofInt i) cs.length ∧ nx (z_mL zl) (.int (cs.getD (Int32.ofInt i).toNatClampNeg 0) :: z_mV r) (z_st zS) bc bs)
      refine z_text_s h2 (fun i9 cs hcs h2 => ?_)
      have h3 := hnx _ _ _ _ _ h2.2 hl ⟨z_rof _, v3⟩ hS
      refine ⟨z_in v1 h2.1.1 h2.1.2, ?_⟩
      rw [z_clamp v1]
      have e : z_mV (.inl (cs.getD i.toNat 0).toInt :: r) = .int (cs.getD i.toNat 0) :: z_mV r := by
        show Value.int (Int32.ofInt (cs.getD i.toNat 0).toInt) :: z_mV r = _
        rw [Int32.ofInt_toInt]
      rw [e] at h3
      exact h3
    · exact h2.elim
  · exact h.elim
end Z2
