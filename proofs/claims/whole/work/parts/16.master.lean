/-! one instruction, whatever it is; a run of instructions; a method's body -/
def m_flF (q : Nat × Nat × Nat × Nat × Nat) : Bool := ( Nat.blt q.2.2.1 13 && Nat.blt q.2.2.2.1 (m_N q.2.2.1) && m_at q.2.2.2.2 (.fieldLink (m_owns.getD q.1 "") q.2.1 (m_T q.2.2.1 q.2.2.2.1).1 (m_T q.2.2.1 q.2.2.2.1).2.1 (m_T q.2.2.1 q.2.2.2.1).2.2.1))
def m_mlF (q : Nat × Nat × Nat × Nat × Nat) : Bool := (match m_M[q.2.2.1]? with
  | some M => (match q.2.2.2.1 with
    | 0 => m_at q.2.2.2.2 (.methodLink (m_owns.getD q.1 "") q.2.1 M.1)
    | _ => decide (lw_tbl[q.2.2.2.2]? = some (.methodLinkNest (m_owns.getD q.1 "") q.2.1 M.1 "VirtualQueue")))
  | none => false)
def m_plOk : Bool := m_PL.all (fun q => match q.2.2.1 with
  | 20 => m_at q.2.2.2 (.methodLink (m_owns.getD q.1 "") q.2.1 arraycopyName)
  | 21 => m_at q.2.2.2 (.methodLink (m_owns.getD q.1 "") q.2.1 Lib.Math.max.name)
  | 22 => m_at q.2.2.2 (.methodLink (m_owns.getD q.1 "") q.2.1 Lib.Math.min.name)
  | 30 => m_at q.2.2.2 (.methodLink (m_owns.getD q.1 "") q.2.1 Lib.objectInit)
  | 40 => m_at q.2.2.2 (.methodLink (m_owns.getD q.1 "") q.2.1 j_len)
  | 41 => m_at q.2.2.2 (.methodLink (m_owns.getD q.1 "") q.2.1 j_chr)
  | _ => true)
def m_clOk : Bool := m_CL.all (fun q => match Nat.blt q.2.2.1 13 with
  | true => m_at q.2.2.2 (.classLink (m_owns.getD q.1 "") q.2.1 (m_cnames.getD q.2.2.1 ""))
  | false => (match Nat.beq q.2.2.1 200 with
    | true => m_at q.2.2.2 (.classLink (m_owns.getD q.1 "") q.2.1 ("[" ++ (FieldType.array .int).toString))
    | false => m_at q.2.2.2 (.classLink (m_owns.getD q.1 "") q.2.1 (m_excs.getD (q.2.2.1 - 100) ""))))
def m_klOk : Bool := m_KL.all (fun q => match q.2.2.2.1 with
  | 0 => m_at q.2.2.2.2 (.constant (m_owns.getD q.1 "") q.2.1 q.2.2.1)
  | _ => m_at q.2.2.2.2 (.constantLong (m_owns.getD q.1 "") q.2.1 q.2.2.1.toInt64))
def m_slOk : Bool := m_SL.all (fun q => Nat.blt q.2.2.1 m_texts.length && decide (lw_tbl[q.2.2.2]? = some (.stringRef (m_owns.getD q.1 "") q.2.1 (m_texts.getD q.2.2.1 ""))))
theorem m_flOk_0 : m_FL_0.all m_flF = true := by decide +kernel
theorem m_flOk_1 : m_FL_1.all m_flF = true := by decide +kernel
theorem m_flOk_2 : m_FL_2.all m_flF = true := by decide +kernel
theorem m_flOk_3 : m_FL_3.all m_flF = true := by decide +kernel
theorem m_flOk_4 : m_FL_4.all m_flF = true := by decide +kernel
theorem m_mlOk_0 : m_ML_0.all m_mlF = true := by decide +kernel
theorem m_mlOk_1 : m_ML_1.all m_mlF = true := by decide +kernel
theorem m_mlOk_2 : m_ML_2.all m_mlF = true := by decide +kernel
theorem m_mlOk_3 : m_ML_3.all m_mlF = true := by decide +kernel
theorem m_mlOk_4 : m_ML_4.all m_mlF = true := by decide +kernel
theorem m_mlOk_5 : m_ML_5.all m_mlF = true := by decide +kernel
theorem m_mlOk_6 : m_ML_6.all m_mlF = true := by decide +kernel
theorem m_mlOk_7 : m_ML_7.all m_mlF = true := by decide +kernel
theorem m_mlOk_8 : m_ML_8.all m_mlF = true := by decide +kernel
theorem m_mlOk_9 : m_ML_9.all m_mlF = true := by decide +kernel
theorem m_flOk_t : m_FL.all m_flF = true := by
  unfold m_FL
  simp only [List.all_append, m_flOk_0, m_flOk_1, m_flOk_2, m_flOk_3, m_flOk_4, Bool.and_self]
theorem m_mlOk_t : m_ML.all m_mlF = true := by
  unfold m_ML
  simp only [List.all_append, m_mlOk_0, m_mlOk_1, m_mlOk_2, m_mlOk_3, m_mlOk_4, m_mlOk_5, m_mlOk_6, m_mlOk_7, m_mlOk_8, m_mlOk_9, Bool.and_self]
theorem m_plOk_t : m_plOk = true := by decide +kernel
theorem m_clOk_t : m_clOk = true := by decide +kernel
theorem m_klOk_t : m_klOk = true := by decide +kernel
theorem m_slOk_t : m_slOk = true := by decide +kernel
def m_link (on i a nest c : Nat) : Bool := match m_ML[c]? with
  | some q => Nat.beq q.1 on && Nat.beq q.2.1 i && Nat.beq q.2.2.1 a && Nat.beq q.2.2.2.1 nest
  | none => false
def m_plink (on i t c : Nat) : Bool := match m_PL[c]? with
  | some q => Nat.beq q.1 on && Nat.beq q.2.1 i && Nat.beq q.2.2.1 t
  | none => false
def m_clink (on i k c : Nat) : Bool := match m_CL[c]? with
  | some q => Nat.beq q.1 on && Nat.beq q.2.1 i && Nat.beq q.2.2.1 k
  | none => false
def m_flink (on i a b c : Nat) : Bool := match m_FL[c]? with
  | some q => Nat.beq q.1 on && Nat.beq q.2.1 i && Nat.beq q.2.2.1 a && Nat.beq q.2.2.2.1 b
  | none => false
def m_slink (on i a c : Nat) : Bool := match m_SL[c]? with
  | some q => Nat.beq q.1 on && Nat.beq q.2.1 i && Nat.beq q.2.2.1 a
  | none => false
def m_klink (on i : Nat) (v : Int32) (k c : Nat) : Bool := match m_KL[c]? with
  | some q => Nat.beq q.1 on && Nat.beq q.2.1 i && decide (q.2.2.1 = v) && Nat.beq q.2.2.2.1 k
  | none => false
def m_tag (ci k t : Nat) : Bool := match t with
  | 0 => decide (m_ty ci k = .int)
  | 1 => m_isRefF (m_ty ci k)
  | 2 => decide (m_ty ci k = .long)
  | _ => false
def m_okX (M : m_Meth) (e : m_Ent) : Bool := match e.2.1 with
  | .ldc i => Nat.beq e.1.2 2 && (match e.2.2.2.2.2.2 with
    | 0 => m_klink (k_on M) i e.2.2.1 0 e.2.2.2.2.2.1
    | _ => m_slink (k_on M) i e.2.2.2.1 e.2.2.2.2.2.1)
  | .ldc_w i => Nat.beq e.1.2 3 && (match e.2.2.2.2.2.2 with
    | 0 => m_klink (k_on M) i e.2.2.1 0 e.2.2.2.2.2.1
    | _ => true)
  | .ldc2_w i => Nat.beq e.1.2 3 && m_klink (k_on M) i e.2.2.1 1 e.2.2.2.2.2.1
  | .getfield i => Nat.beq e.1.2 3 && m_flink (k_on M) i e.2.2.2.1 e.2.2.2.2.1 e.2.2.2.2.2.1 && m_tag e.2.2.2.1 e.2.2.2.2.1 e.2.2.2.2.2.2
  | .putfield i => Nat.beq e.1.2 3 && m_flink (k_on M) i e.2.2.2.1 e.2.2.2.2.1 e.2.2.2.2.2.1 && m_tag e.2.2.2.1 e.2.2.2.2.1 e.2.2.2.2.2.2 && (!(m_T e.2.2.2.1 e.2.2.2.2.1).2.2.2 || (Nat.beq (k_kind M) 2 && Nat.beq e.2.2.2.1 (k_on M)))
  | .newarray ty => Nat.beq e.1.2 2 && (match newarray.typeOf ty with
    | .int => true
    | .boolean => true
    | .byte => true
    | .long => true
    | .double => true
    | _ => false)
  | .anewarray i => Nat.beq e.1.2 3 && m_clink (k_on M) i e.2.2.2.1 e.2.2.2.2.2.1 && (Nat.beq e.2.2.2.1 4 || Nat.beq e.2.2.2.1 0)
  | .multianewarray i n => Nat.beq e.1.2 4 && Nat.beq n 2 && m_clink (k_on M) i 200 e.2.2.2.2.2.1
  | .new i => Nat.beq e.1.2 3 && (match e.2.2.2.2.2.2 with
    | 0 => Nat.blt e.2.2.2.1 13 && m_clink (k_on M) i e.2.2.2.1 e.2.2.2.2.2.1
    | _ => Nat.blt e.2.2.2.1 3 && m_clink (k_on M) i (100 + e.2.2.2.1) e.2.2.2.2.2.1)
  | .invokevirtual i => Nat.beq e.1.2 3 && (match e.2.2.2.2.2.2 with
    | 10 => m_link (k_on M) i e.2.2.2.1 0 e.2.2.2.2.2.1 && (match m_M[e.2.2.2.1]? with
      | some M' => Nat.beq (k_kind M') 0 && Nat.beq (e.2.2.2.2.1 % 16) (k_np M' + 1) && Nat.beq (e.2.2.2.2.1 / 16) (k_on M')
      | none => false)
    | 40 => m_plink (k_on M) i 40 e.2.2.2.2.2.1
    | 41 => m_plink (k_on M) i 41 e.2.2.2.2.2.1
    | _ => false)
  | .invokestatic i => Nat.beq e.1.2 3 && (match e.2.2.2.2.2.2 with
    | 11 => m_link (k_on M) i e.2.2.2.1 0 e.2.2.2.2.2.1 && (match m_M[e.2.2.2.1]? with
      | some M' => Nat.beq (k_kind M') 1 && Nat.beq e.2.2.2.2.1 (k_np M')
      | none => false)
    | 14 => m_link (k_on M) i e.2.2.2.1 1 e.2.2.2.2.2.1 && (match m_M[e.2.2.2.1]? with
      | some M' => Nat.beq (k_kind M') 1 && Nat.beq e.2.2.2.2.1 (k_np M')
      | none => false)
    | 20 => m_plink (k_on M) i 20 e.2.2.2.2.2.1
    | 21 => m_plink (k_on M) i 21 e.2.2.2.2.2.1
    | 22 => m_plink (k_on M) i 22 e.2.2.2.2.2.1
    | _ => false)
  | .invokespecial i => Nat.beq e.1.2 3 && (match e.2.2.2.2.2.2 with
    | 12 => m_link (k_on M) i e.2.2.2.1 0 e.2.2.2.2.2.1 && (match m_M[e.2.2.2.1]? with
      | some M' => Nat.beq (k_kind M') 2 && Nat.beq e.2.2.2.2.1 (k_np M' + 1)
      | none => false)
    | 13 => m_link (k_on M) i e.2.2.2.1 1 e.2.2.2.2.2.1 && (match m_M[e.2.2.2.1]? with
      | some M' => Nat.beq (k_kind M') 2 && Nat.beq e.2.2.2.2.1 (k_np M' + 1)
      | none => false)
    | 30 => m_plink (k_on M) i 30 e.2.2.2.2.2.1
    | 60 => true
    | _ => false)
  | .athrow => true
  | _ => m_okS M.1.cls e
def m_okE (M : m_Meth) (e : m_Ent) : Bool := decide (decode M.2.1 e.1.1 = .ok (e.2.1, e.1.2)) && m_okX M e
/-- each instruction's follower lies behind it -/
def m_seq : List m_Ent → Bool
  | [] => true
  | [_] => true
  | e :: e2 :: r => Nat.beq (e.1.1 + e.1.2) e2.1.1 && m_seq (e2 :: r)
def m_okT (M : m_Meth) : Bool := M.2.2.2.2.1.all (m_okE M) && m_seq M.2.2.2.2.1
