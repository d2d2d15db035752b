/-! the law's wrappers: a return and a catch in a body with an exception table -/
section V8
variable {p : Program} {l : Launch} {e : Env} {s : State} {m : MethodId} {args : Array Value} {below : List Frame} {meth : Method} {c : Code} {D : va_G} {dA : FieldType → ClassId} {s0 : State} {L : Nat} {xs : Nat → Int32} {ad0 : Nat → Nat} {S0 : m_S} {Q : m_O → m_S → Prop} {d mc ms : Nat} {own : String} {cc : ByteArray}
theorem m_retW (F : m_Fix (m_GG p l e s m args below meth c D dA s0 L xs ad0 S0 Q d mc ms) own cc d) (hr : meth.sig.returnType = some .int) {pc : Nat} {w : Int32} {S : m_S} {bc bs : Nat} {ad : Nat → Nat} {H : Heap} {ls : Array Slot} {locs : List Loc} {cells slots : Nat} (hd : decode cc pc = .ok (.ireturn, 1)) (h : Q (.inl (some (.int w))) S)
    (hext : m_ext S0.1.length S.1.length ad0 ad) (hH : m_H D dA s0.heap.size xs L ad S H) (hS : va_S (fun q => s0.heap.size ≤ q) s.heap H locs) (hc : cells + bc ≤ mc) (hs : slots + bs ≤ ms) :
    W p l e (m_rm (d + 1) mc ms) s m args below meth c H locs cells slots (vx_MQ below (m_Qc s0 D dA L xs ad0 S0 Q) (m_XC s0 D dA L xs ad0 S0 Q) args s mc ms (fun q => s0.heap.size ≤ q)) (F0 m pc ls [.int w]) := by
  refine W.widen (k := mc) (n := ms) (by omega) (by omega) ?_
  exact vx_ret (W.iret F.1 F.2.1 hr (fun t ht hW => ⟨⟨some (.int w), S, ad, rfl, (fun v hv => by cases hv; exact m_vi w), h, hext, by rw [ht]; exact hH⟩, hS.F ht⟩) hS.2.2 hd F.2.2.2.2.1)
/-- what is thrown at pc is caught: the handler stores it away and returns v -/
theorem m_Wx_catch (F : m_Fix (m_GG p l e s m args below meth c D dA s0 L xs ad0 S0 Q d mc ms) own cc d) (hr : meth.sig.returnType = some .int) {pc hp2 j : Nat} {X nm : String} {n : Int} {v : Int32} {lc : m_L} {S : m_S} {bc bs : Nat} (pre : List ExceptionTableEntry) (x : ExceptionTableEntry) (suf : List ExceptionTableEntry) (hsplit : c.exceptionTable.toList = pre ++ x :: suf)
    (hpass : ∀ z ∈ pre, covers z pc = false ∨ (z.catchType ≠ 0 ∧ ∃ nm : String, (Cond.classLink own z.catchType nm).before args s = true ∧ va_Nc X nm s)) (hx : covers x pc = true) (h0 : x.catchType ≠ 0)
    (hlink : (Cond.classLink own x.catchType nm).before args s = true) (hcast : (Cond.castable X nm).before args s = true)
    (hd1 : (decode cc x.handlerPc = .ok (.astore j, 2) ∧ hp2 = x.handlerPc + 2) ∨ ∃ k : Fin 4, decode cc x.handlerPc = .ok (.astore_n k, 1) ∧ (k : Nat) = j ∧ hp2 = x.handlerPc + 1) (hj : j < c.maxLocals)
    (hd2 : decode cc hp2 = .ok (.iconst n, 1)) (hv : Int32.ofInt n = v) (hd3 : decode cc (hp2 + 1) = .ok (.ireturn, 1)) (hQ : Q (.inl (some (.int v))) S) : m_Wx (m_GG p l e s m args below meth c D dA s0 L xs ad0 S0 Q d mc ms) pc X lc S bc bs := by
  intro ad H ls rest locs cells slots q ce hext hH hS hlr hcell hv9 hcl hc hs
  refine vx_catch F.2.2.1 pre x suf hsplit hpass hx h0 hlink hcast hcell hv9 hcl ?_
  have key : ∀ ls' : Array Slot, W p l e (m_rm (d + 1) mc ms) s m args below meth c H locs cells slots (vx_MQ below (m_Qc s0 D dA L xs ad0 S0 Q) (m_XC s0 D dA L xs ad0 S0 Q) args s mc ms (fun q => s0.heap.size ≤ q)) (F0 m hp2 ls' []) := fun ls' =>
    lv_iconst F.1 F.2.1 hd2 hv (m_retW F hr hd3 hQ hext hH hS hc hs)
  rcases hd1 with ⟨hd1, rfl⟩ | ⟨k, hd1, hk, rfl⟩
  · exact lv_astore F.1 F.2.1 hd1 (m_all_has hlr) hj rfl (fun ls' _ => key ls')
  · exact lv_astore_n F.1 F.2.1 hd1 hk (m_all_has hlr) hj rfl (fun ls' _ => key ls')
end V8
