/-! one instruction, whatever it is; a run of instructions; a method's body -/
def m_okE (M : m_Meth) (e : m_Ent) : Bool := decide (decode M.2.1 e.1.1 = .ok (e.2.1, e.1.2)) && (match e.2.1 with
  | .ldc i => Nat.beq e.1.2 2 && (match e.2.2.2.2.2.2 with
    | 0 => m_at e.2.2.2.2.2.1 (.constant M.1.cls i e.2.2.1)
    | _ => decide (lw_tbl[e.2.2.2.2.2.1]? = some (.stringRef M.1.cls i (m_texts.getD e.2.2.2.1 ""))) && Nat.blt e.2.2.2.1 m_texts.length)
  | .ldc_w i => Nat.beq e.1.2 3 && (match e.2.2.2.2.2.2 with
    | 0 => m_at e.2.2.2.2.2.1 (.constant M.1.cls i e.2.2.1)
    | _ => true)
  | .getfield i => Nat.beq e.1.2 3 && Nat.blt e.2.2.2.1 13 && Nat.blt e.2.2.2.2.1 (m_N e.2.2.2.1) && m_at e.2.2.2.2.2.1 (.fieldLink M.1.cls i (m_T e.2.2.2.1 e.2.2.2.2.1).1 (m_T e.2.2.2.1 e.2.2.2.2.1).2.1 (m_T e.2.2.2.1 e.2.2.2.2.1).2.2.1) && (match e.2.2.2.2.2.2 with
    | 0 => decide (m_ty e.2.2.2.1 e.2.2.2.2.1 = .int)
    | 1 => m_isRefF (m_ty e.2.2.2.1 e.2.2.2.2.1)
    | 2 => decide (m_ty e.2.2.2.1 e.2.2.2.2.1 = .long)
    | _ => false)
  | .putfield i => Nat.beq e.1.2 3 && Nat.blt e.2.2.2.1 13 && Nat.blt e.2.2.2.2.1 (m_N e.2.2.2.1) && m_at e.2.2.2.2.2.1 (.fieldLink M.1.cls i (m_T e.2.2.2.1 e.2.2.2.2.1).1 (m_T e.2.2.2.1 e.2.2.2.2.1).2.1 (m_T e.2.2.2.1 e.2.2.2.2.1).2.2.1) && (match e.2.2.2.2.2.2 with
    | 0 => decide (m_ty e.2.2.2.1 e.2.2.2.2.1 = .int)
    | 1 => m_isRefF (m_ty e.2.2.2.1 e.2.2.2.2.1)
    | 2 => decide (m_ty e.2.2.2.1 e.2.2.2.2.1 = .long)
    | _ => false) && (!(m_T e.2.2.2.1 e.2.2.2.2.1).2.2.2 || (decide (M.1.name = "<init>") && decide ((m_T e.2.2.2.1 e.2.2.2.2.1).1 = M.1.cls)))
  | .newarray ty => Nat.beq e.1.2 2 && (match newarray.typeOf ty with
    | .int => true
    | .boolean => true
    | .byte => true
    | .long => true
    | .double => true
    | _ => false)
  | .anewarray i => Nat.beq e.1.2 3 && m_at e.2.2.2.2.2.1 (.classLink M.1.cls i (m_cnames.getD e.2.2.2.1 "")) && (decide (m_cnames.getD e.2.2.2.1 "" = "VirtualQueue$Line") || decide (m_cnames.getD e.2.2.2.1 "" = "VirtualQueue$Day"))
  | .multianewarray i n => Nat.beq e.1.2 4 && decide (n = 2) && m_at e.2.2.2.2.2.1 (.classLink M.1.cls i ("[" ++ (FieldType.array .int).toString))
  | .new i => Nat.beq e.1.2 3 && (match e.2.2.2.2.2.2 with
    | 0 => Nat.blt e.2.2.2.1 13 && m_at e.2.2.2.2.2.1 (.classLink M.1.cls i (m_cnames.getD e.2.2.2.1 ""))
    | _ => true)
  | .invokevirtual i => Nat.beq e.1.2 3 && (match e.2.2.2.2.2.2 with
    | 10 => (match m_M[e.2.2.2.1]? with
      | some M' => decide (M'.2.2.2.2.2.2.1 = 0) && decide (e.2.2.2.2.1 % 16 = M'.2.2.2.2.2.2.2.1 + 1) && decide (m_cnames.getD (e.2.2.2.2.1 / 16) "" = M'.1.cls) && m_at e.2.2.2.2.2.1 (.methodLink M.1.cls i M'.1)
      | none => false)
    | 40 => true
    | 41 => true
    | _ => false)
  | .invokestatic i => Nat.beq e.1.2 3 && (match e.2.2.2.2.2.2 with
    | 11 => (match m_M[e.2.2.2.1]? with
      | some M' => decide (M'.2.2.2.2.2.2.1 = 1) && decide (e.2.2.2.2.1 = M'.2.2.2.2.2.2.2.1) && m_at e.2.2.2.2.2.1 (.methodLink M.1.cls i M'.1)
      | none => false)
    | 14 => (match m_M[e.2.2.2.1]? with
      | some M' => decide (M'.2.2.2.2.2.2.1 = 1) && decide (e.2.2.2.2.1 = M'.2.2.2.2.2.2.2.1) && decide (lw_tbl[e.2.2.2.2.2.1]? = some (.methodLinkNest M.1.cls i M'.1 "VirtualQueue"))
      | none => false)
    | 20 => m_at e.2.2.2.2.2.1 (.methodLink M.1.cls i arraycopyName)
    | 21 => m_at e.2.2.2.2.2.1 (.methodLink M.1.cls i Lib.Math.max.name)
    | 22 => m_at e.2.2.2.2.2.1 (.methodLink M.1.cls i Lib.Math.min.name)
    | _ => false)
  | .invokespecial i => Nat.beq e.1.2 3 && (match e.2.2.2.2.2.2 with
    | 12 => (match m_M[e.2.2.2.1]? with
      | some M' => decide (M'.2.2.2.2.2.2.1 = 2) && decide (e.2.2.2.2.1 = M'.2.2.2.2.2.2.2.1 + 1) && m_at e.2.2.2.2.2.1 (.methodLink M.1.cls i M'.1)
      | none => false)
    | 13 => (match m_M[e.2.2.2.1]? with
      | some M' => decide (M'.2.2.2.2.2.2.1 = 2) && decide (e.2.2.2.2.1 = M'.2.2.2.2.2.2.2.1 + 1) && decide (lw_tbl[e.2.2.2.2.2.1]? = some (.methodLinkNest M.1.cls i M'.1 "VirtualQueue"))
      | none => false)
    | 30 => m_at e.2.2.2.2.2.1 (.methodLink M.1.cls i Lib.objectInit)
    | 60 => true
    | _ => false)
  | .athrow => true
  | _ => m_okS M.1.cls e)
/-- each instruction's follower lies behind it -/
def m_seq : List m_Ent → Bool
  | [] => true
  | [_] => true
  | e :: e2 :: r => Nat.beq (e.1.1 + e.1.2) e2.1.1 && m_seq (e2 :: r)
def m_okT (M : m_Meth) : Bool := M.2.2.2.2.1.all (m_okE M) && m_seq M.2.2.2.2.1
