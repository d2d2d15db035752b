/-! the machine once more, over whole numbers: ints and longs are Int, with their bounds asked where they are made; cells are looked up by an equation -/
abbrev z_W : Type := Int ⊕ (Int ⊕ Value)
abbrev z_J : Type := Nat → Int → Int
abbrev z_S : Type := m_E × z_J × z_J × (Nat → Nat → UInt64)
abbrev z_L : Type := List (Option z_W)
abbrev z_V : Type := List z_W
abbrev z_O : Type := Option z_W ⊕ String
abbrev z_C : Type := z_L → z_V → z_S → Nat → Nat → Prop
def z_r (x : Int) : Prop := -2147483648 ≤ x ∧ x ≤ 2147483647
def z_q (x : Int) : Prop := -9223372036854775808 ≤ x ∧ x ≤ 9223372036854775807
def z_val : z_W → Value
  | .inl x => .int (Int32.ofInt x)
  | .inr (.inl x) => .long (Int64.ofInt x)
  | .inr (.inr v) => v
def z_ok : z_W → Prop
  | .inl x => z_r x
  | .inr (.inl x) => z_q x
  | .inr (.inr _) => True
def z_st (S : z_S) : m_S := (S.1, fun a k => Int32.ofInt (S.2.1 a k), fun a k => Int64.ofInt (S.2.2.1 a k), S.2.2.2)
def z_okS (S : z_S) : Prop := ∀ (a : Nat) (k : Int), z_r (S.2.1 a k) ∧ z_q (S.2.2.1 a k)
def z_okV : z_V → Prop
  | [] => True
  | w :: r => z_ok w ∧ z_okV r
def z_okL (l : z_L) : Prop := ∀ (i : Nat) (w : z_W), l.getD i none = some w → z_ok w
def z_okO (o : z_O) : Prop := match o with
  | .inl (some w) => z_ok w
  | _ => True
def z_mV (st : z_V) : m_V := st.map z_val
def z_mL (l : z_L) : m_L := l.map (fun w => w.map z_val)
def z_out : z_O → m_O
  | .inl o => .inl (o.map z_val)
  | .inr X => .inr X
def z_up (f : Int → Int) (k x : Int) : Int → Int := fun j => if j = k then x else f j
def z_row (J : z_J) (a : Nat) (f : Int → Int) : z_J := fun b => if b = a then f else J b
def z_u (J : z_J) (a : Nat) (k x : Int) : z_J := z_row J a (z_up (J a) k x)
def z_zeros (J : z_J) (a n : Nat) : z_J := fun b => if a ≤ b ∧ b < a + n then (fun _ => 0) else J b
def z_cpy (f g : Int → Int) (sp dp n : Int) : Int → Int := fun j => if dp ≤ j ∧ j < dp + n then f (sp + (j - dp)) else g j
abbrev z_ref (a : Nat) : z_W := .inr (.inr (.ref a))
def z_ldi (l : z_L) (i : Nat) (k : Int → Prop) : Prop := match l.getD i none with
  | some (.inl x) => k x
  | _ => False
def z_lda (l : z_L) (i : Nat) (k : Nat → Prop) : Prop := match l.getD i none with
  | some (.inr (.inr (.ref x))) => k x
  | _ => False
def z_ldl (l : z_L) (i : Nat) (k : Int → Prop) : Prop := match l.getD i none with
  | some (.inr (.inl x)) => k x
  | _ => False
def z_ldd (l : z_L) (i : Nat) (k : UInt64 → Prop) : Prop := match l.getD i none with
  | some (.inr (.inr (.double x))) => k x
  | _ => False
def z_clear (l : z_L) (i : Nat) (k : Prop) : Prop := match i with
  | 0 => k
  | j + 1 => (match l.getD j none with
    | some (.inr (.inl _)) => False
    | some (.inr (.inr (.long _))) => False
    | some (.inr (.inr (.double _))) => False
    | _ => k)
def z_put1 (l : z_L) (i : Nat) (v : z_W) (k : z_L → Prop) : Prop := match Nat.blt i l.length with
  | true => z_clear l i (k (l.set i (some v)))
  | false => False
def z_put2 (l : z_L) (i : Nat) (v : z_W) (k : z_L → Prop) : Prop := match Nat.blt (i + 1) l.length with
  | true => z_clear l i (k ((l.set i (some v)).set (i + 1) none))
  | false => False
/-- in the mode w what overflows is left open -/
def z_bin (w : Bool) (f : Int → Int → Int) (st : z_V) (k : z_V → Prop) : Prop := match st with
  | .inl y :: .inl x :: r => (match w with
    | false => (-2147483648 ≤ f x y ∧ f x y ≤ 2147483647) ∧ k (.inl (f x y) :: r)
    | true => ∀ z : Int, -2147483648 ≤ z → z ≤ 2147483647 → ((-2147483648 ≤ f x y ∧ f x y ≤ 2147483647) → z = f x y) → k (.inl z :: r))
  | _ => False
def z_bit (f : Int32 → Int32 → Int32) (st : z_V) (k : z_V → Prop) : Prop := match st with
  | .inl y :: .inl x :: r => k (.inl (f (Int32.ofInt x) (Int32.ofInt y)).toInt :: r)
  | _ => False
def z_binL (f : Int → Int → Int) (st : z_V) (k : z_V → Prop) : Prop := match st with
  | .inr (.inl y) :: .inr (.inl x) :: r => (-9223372036854775808 ≤ f x y ∧ f x y ≤ 9223372036854775807) ∧ k (.inr (.inl (f x y)) :: r)
  | _ => False
def z_if1 (p q : Int → Prop) (st : z_V) (t f : z_V → Prop) : Prop := match st with
  | .inl x :: r => (p x → t r) ∧ (q x → f r)
  | _ => False
def z_if2 (p q : Int → Int → Prop) (st : z_V) (t f : z_V → Prop) : Prop := match st with
  | .inl y :: .inl x :: r => (p x y → t r) ∧ (q x y → f r)
  | _ => False
def z_fit (ty : FieldType) (x : Int) : Prop := match ty with
  | .boolean => x = 0 ∨ x = 1
  | .byte => -128 ≤ x ∧ x ≤ 127
  | _ => True
def z_fget (S : z_S) (o k t : Nat) (rs : List (Option Nat)) : z_W := match t with
  | 0 => .inl (S.2.1 o k)
  | 1 => .inr (.inr (m_rv (rs.getD k none)))
  | _ => .inr (.inl (S.2.2.1 o k))
def z_isA (S : z_S) (a : Nat) (k : FieldType → Nat → Prop) : Prop := (∃ (ty : FieldType) (n : Nat) (rs : List (Option Nat)), S.1[a]? = some (.inr (ty, n), rs) ∧ k ty n) ∨ (S.1[a]? = none ∧ a = 2000000 ∧ k .int (S.2.1 2000001 0).toNat)
def z_load (S : z_S) (small : FieldType → Bool) (st : z_V) (k : Int → z_V → Prop) : Prop := match st with
  | .inl i :: .inr (.inr (.ref a)) :: r => z_isA S a (fun ty n => small ty = true ∧ 0 ≤ i ∧ i < n) ∧ k (S.2.1 a i) r
  | _ => False
def z_store (S : z_S) (small : FieldType → Bool) (st : z_V) (k : z_J → z_V → Prop) : Prop := match st with
  | .inl x :: .inl i :: .inr (.inr (.ref a)) :: r => (∃ (ty : FieldType) (n : Nat) (rs : List (Option Nat)), S.1[a]? = some (.inr (ty, n), rs) ∧ small ty = true ∧ (0 ≤ i ∧ i < n) ∧ z_fit ty x) ∧ k (z_u S.2.1 a i x) r
  | _ => False
def z_copy (S : z_S) (st : z_V) (k : z_J → z_V → Prop) : Prop := match st with
  | .inl n :: .inl dp :: .inr (.inr (.ref a)) :: .inl sp :: .inr (.inr (.ref a0)) :: r => (∃ (ty : FieldType) (n0 n1 : Nat) (rs0 rs1 : List (Option Nat)), S.1[a0]? = some (.inr (ty, n0), rs0) ∧ S.1[a]? = some (.inr (ty, n1), rs1) ∧ m_small ty = true ∧ (0 ≤ sp ∧ 0 ≤ dp ∧ 0 ≤ n ∧ sp + n ≤ n0 ∧ dp + n ≤ n1) ∧ (∀ i : Int, 0 ≤ i → i < n → z_fit ty (S.2.1 a0 (sp + i)))) ∧ k (z_row S.2.1 a (z_cpy (S.2.1 a0) (S.2.1 a) sp dp n)) r
  | _ => False
def z_callOn (call : Nat → z_V → z_S → Nat → Nat → (z_O → z_S → Nat → Nat → Prop) → Prop) (a n : Nat) (l : z_L) (st : z_V) (S : z_S) (bc bs : Nat) (nx : z_C) (ex : String → z_L → z_S → Nat → Nat → Prop) : Prop :=
  m_rest n (z_mV st) = true ∧ Nat.ble n st.length = true ∧ call a (st.take n).reverse S bc bs (fun o S' bc' bs' => match o with
    | .inl (some v) => nx l (v :: st.drop n) S' bc' bs'
    | .inl none => nx l (st.drop n) S' bc' bs'
    | .inr X => ex X l S' bc' bs')
def z_strlen (st : z_V) (k : z_V → Prop) : Prop := match st with
  | .inr (.inr (.ref a)) :: r => m_text a (fun cs => k (.inl (cs.length : Int) :: r))
  | _ => False
def z_strat (st : z_V) (k : z_V → Prop) : Prop := match st with
  | .inl i :: .inr (.inr (.ref a)) :: r => m_text a (fun cs => (0 ≤ i ∧ i < cs.length) ∧ k (.inl (cs.getD i.toNat 0).toInt :: r))
  | _ => False
def z_invoke (call : Nat → z_V → z_S → Nat → Nat → (z_O → z_S → Nat → Nat → Prop) → Prop) (t a n : Nat) (l : z_L) (st : z_V) (S : z_S) (bc bs : Nat) (nx : z_C) (ex : String → z_L → z_S → Nat → Nat → Prop) : Prop :=
  match t with
  | 10 => ∃ (o : Nat) (rs : List (Option Nat)), st[n % 16 - 1]? = some (.inr (.inr (.ref o))) ∧ S.1[o]? = some (.inl (n / 16), rs) ∧ z_callOn call a (n % 16) l st S bc bs nx ex
  | 11 => z_callOn call a n l st S bc bs nx ex
  | 12 => ∃ o : Nat, st[n - 1]? = some (.inr (.inr (.ref o))) ∧ z_callOn call a n l st S bc bs nx ex
  | 13 => ∃ o : Nat, st[n - 1]? = some (.inr (.inr (.ref o))) ∧ z_callOn call a n l st S bc bs nx ex
  | 14 => z_callOn call a n l st S bc bs nx ex
  | 20 => m_rest 5 (z_mV st) = true ∧ z_copy S st (fun J r => nx l r (S.1, J, S.2.2) bc bs)
  | 21 => m_rest 2 (z_mV st) = true ∧ (match st with
    | .inl y :: .inl x :: r => nx l (.inl (max x y) :: r) S bc bs
    | _ => False)
  | 22 => m_rest 2 (z_mV st) = true ∧ (match st with
    | .inl y :: .inl x :: r => nx l (.inl (min x y) :: r) S bc bs
    | _ => False)
  | 30 => m_rest 1 (z_mV st) = true ∧ (match st with
    | .inr (.inr (.ref _)) :: r => nx l r S bc bs
    | _ => False)
  | 40 => m_rest 1 (z_mV st) = true ∧ z_strlen st (fun r => nx l r S bc bs)
  | 41 => m_rest 2 (z_mV st) = true ∧ z_strat st (fun r => nx l r S bc bs)
  | _ => False
def z_wide (v : z_W) (k : Prop) : Prop := match v with
  | .inr (.inl _) => False
  | .inr (.inr (.long _)) => False
  | .inr (.inr (.double _)) => False
  | _ => k
/-- one instruction; w: the mode of its arithmetic -/
def z_step (call : Nat → z_V → z_S → Nat → Nat → (z_O → z_S → Nat → Nat → Prop) → Prop) (rt : Option FieldType) (Q : z_O → z_S → Prop) (ex : Nat → String → z_L → z_S → Nat → Nat → Prop) (w : Bool) (e : m_Ent) (nx : z_C) (jp : Nat → z_C) (l : z_L) (st : z_V) (S : z_S) (bc bs : Nat) : Prop :=
  match e.2.1 with
  | .iconst i => e.2.2.1.toInt = i ∧ nx l (.inl i :: st) S bc bs
  | .bipush i => e.2.2.1.toInt = i ∧ nx l (.inl i :: st) S bc bs
  | .sipush i => e.2.2.1.toInt = i ∧ nx l (.inl i :: st) S bc bs
  | .ldc _ => (match e.2.2.2.2.2.2 with
    | 0 => nx l (.inl e.2.2.1.toInt :: st) S bc bs
    | _ => nx l (.inr (.inr (.ref (m_str e.2.2.2.1))) :: st) S bc bs)
  | .ldc_w _ => (match e.2.2.2.2.2.2 with
    | 0 => nx l (.inl e.2.2.1.toInt :: st) S bc bs
    | _ => False)
  | .ldc2_w _ => nx l (.inr (.inl e.2.2.1.toInt) :: st) S bc bs
  | .lconst n => nx l (.inr (.inl (n.val : Int)) :: st) S bc bs
  | .dconst n => (match n.val with
    | 0 => nx l (.inr (.inr (.double FP.dconst0)) :: st) S bc bs
    | _ => False)
  | .iload i => z_ldi l i (fun x => nx l (.inl x :: st) S bc bs)
  | .iload_n i => z_ldi l i.val (fun x => nx l (.inl x :: st) S bc bs)
  | .aload i => z_lda l i (fun x => nx l (.inr (.inr (.ref x)) :: st) S bc bs)
  | .aload_n i => z_lda l i.val (fun x => nx l (.inr (.inr (.ref x)) :: st) S bc bs)
  | .lload i => z_ldl l i (fun x => nx l (.inr (.inl x) :: st) S bc bs)
  | .lload_n i => z_ldl l i.val (fun x => nx l (.inr (.inl x) :: st) S bc bs)
  | .dload i => z_ldd l i (fun x => nx l (.inr (.inr (.double x)) :: st) S bc bs)
  | .istore i => (match st with
    | .inl x :: r => z_put1 l i (.inl x) (fun l' => nx l' r S bc bs)
    | _ => False)
  | .istore_n i => (match st with
    | .inl x :: r => z_put1 l i.val (.inl x) (fun l' => nx l' r S bc bs)
    | _ => False)
  | .astore i => (match st with
    | .inr (.inr (.ref x)) :: r => z_put1 l i (.inr (.inr (.ref x))) (fun l' => nx l' r S bc bs)
    | _ => False)
  | .astore_n i => (match st with
    | .inr (.inr (.ref x)) :: r => z_put1 l i.val (.inr (.inr (.ref x))) (fun l' => nx l' r S bc bs)
    | _ => False)
  | .lstore i => (match st with
    | .inr (.inl x) :: r => z_put2 l i (.inr (.inl x)) (fun l' => nx l' r S bc bs)
    | _ => False)
  | .dstore i => (match st with
    | .inr (.inr (.double x)) :: r => z_put2 l i (.inr (.inr (.double x))) (fun l' => nx l' r S bc bs)
    | _ => False)
  | .iinc i c => e.2.2.1.toInt = c ∧ z_ldi l i (fun x => (-2147483648 ≤ x + c ∧ x + c ≤ 2147483647) ∧ z_put1 l i (.inl (x + c)) (fun l' => nx l' st S bc bs))
  | .iadd => z_bin w (fun x y => x + y) st (fun r => nx l r S bc bs)
  | .isub => z_bin w (fun x y => x - y) st (fun r => nx l r S bc bs)
  | .imul => z_bin w (fun x y => x * y) st (fun r => nx l r S bc bs)
  | .iand => z_bit (fun x y => x &&& y) st (fun r => nx l r S bc bs)
  | .ior => z_bit (fun x y => x ||| y) st (fun r => nx l r S bc bs)
  | .ixor => z_bit (fun x y => x ^^^ y) st (fun r => nx l r S bc bs)
  | .ishl => z_bit (fun x y => x <<< (y &&& 31)) st (fun r => nx l r S bc bs)
  | .ishr => z_bit (fun x y => x >>> (y &&& 31)) st (fun r => nx l r S bc bs)
  | .iushr => z_bit (fun x y => (x.toUInt32 >>> (y.toUInt32 &&& Int32.toUInt32 31)).toInt32) st (fun r => nx l r S bc bs)
  | .idiv => (match st with
    | .inl y :: .inl x :: r => (0 ≤ x ∧ 0 < y) ∧ nx l (.inl (x / y) :: r) S bc bs
    | _ => False)
  | .irem => (match st with
    | .inl y :: .inl x :: r => (0 ≤ x ∧ 0 < y) ∧ nx l (.inl (x % y) :: r) S bc bs
    | _ => False)
  | .ladd => z_binL (fun x y => x + y) st (fun r => nx l r S bc bs)
  | .lsub => z_binL (fun x y => x - y) st (fun r => nx l r S bc bs)
  | .lmul => z_binL (fun x y => x * y) st (fun r => nx l r S bc bs)
  | .lshl => (match st with
    | .inl y :: .inr (.inl x) :: r => nx l (.inr (.inl (Int64.ofInt x <<< ((Int32.ofInt y).toInt64 &&& 63)).toInt) :: r) S bc bs
    | _ => False)
  | .lcmp => (match st with
    | .inr (.inl y) :: .inr (.inl x) :: r => nx l (.inl (if y < x then 1 else if x = y then 0 else -1) :: r) S bc bs
    | _ => False)
  | .i2l => (match st with
    | .inl x :: r => nx l (.inr (.inl x) :: r) S bc bs
    | _ => False)
  | .l2i => (match st with
    | .inr (.inl x) :: r => (-2147483648 ≤ x ∧ x ≤ 2147483647) ∧ nx l (.inl x :: r) S bc bs
    | _ => False)
  | .i2b => (match st with
    | .inl x :: r => nx l (.inl ((x + 128) % 256 - 128) :: r) S bc bs
    | _ => False)
  | .i2c => (match st with
    | .inl x :: r => nx l (.inl (x % 65536) :: r) S bc bs
    | _ => False)
  | .i2d => (match st with
    | .inl x :: r => nx l (.inr (.inr (.double (FP.i2d (Int32.ofInt x)))) :: r) S bc bs
    | _ => False)
  | .ddiv => (match st with
    | .inr (.inr (.double y)) :: .inr (.inr (.double x)) :: r => vf_n64 (FP.ddiv x y) ∧ nx l (.inr (.inr (.double (FP.ddiv x y))) :: r) S bc bs
    | _ => False)
  | .dcmp op => (match st with
    | .inr (.inr (.double y)) :: .inr (.inr (.double x)) :: r => nx l (.inl (Op.cmpValue (FP.dcmp x y) op).toInt :: r) S bc bs
    | _ => False)
  | .dup => (match st with
    | v :: r => z_wide v (nx l (v :: v :: r) S bc bs)
    | _ => False)
  | .dup2 => (match st with
    | v :: w :: r => z_wide v (z_wide w (nx l (v :: w :: v :: w :: r) S bc bs))
    | _ => False)
  | .pop => (match st with
    | v :: r => z_wide v (nx l r S bc bs)
    | _ => False)
  | .goto _ => jp e.2.2.2.1 l st S bc bs
  | .ifCond .eq _ => z_if1 (fun x => x = 0) (fun x => x ≠ 0) st (fun r => jp e.2.2.2.1 l r S bc bs) (fun r => nx l r S bc bs)
  | .ifCond .ne _ => z_if1 (fun x => x ≠ 0) (fun x => x = 0) st (fun r => jp e.2.2.2.1 l r S bc bs) (fun r => nx l r S bc bs)
  | .ifCond .lt _ => z_if1 (fun x => x < 0) (fun x => 0 ≤ x) st (fun r => jp e.2.2.2.1 l r S bc bs) (fun r => nx l r S bc bs)
  | .ifCond .ge _ => z_if1 (fun x => 0 ≤ x) (fun x => x < 0) st (fun r => jp e.2.2.2.1 l r S bc bs) (fun r => nx l r S bc bs)
  | .ifCond .gt _ => z_if1 (fun x => 0 < x) (fun x => x ≤ 0) st (fun r => jp e.2.2.2.1 l r S bc bs) (fun r => nx l r S bc bs)
  | .ifCond .le _ => z_if1 (fun x => x ≤ 0) (fun x => 0 < x) st (fun r => jp e.2.2.2.1 l r S bc bs) (fun r => nx l r S bc bs)
  | .if_icmp .eq _ => z_if2 (fun x y => x = y) (fun x y => x ≠ y) st (fun r => jp e.2.2.2.1 l r S bc bs) (fun r => nx l r S bc bs)
  | .if_icmp .ne _ => z_if2 (fun x y => x ≠ y) (fun x y => x = y) st (fun r => jp e.2.2.2.1 l r S bc bs) (fun r => nx l r S bc bs)
  | .if_icmp .lt _ => z_if2 (fun x y => x < y) (fun x y => y ≤ x) st (fun r => jp e.2.2.2.1 l r S bc bs) (fun r => nx l r S bc bs)
  | .if_icmp .ge _ => z_if2 (fun x y => y ≤ x) (fun x y => x < y) st (fun r => jp e.2.2.2.1 l r S bc bs) (fun r => nx l r S bc bs)
  | .if_icmp .gt _ => z_if2 (fun x y => y < x) (fun x y => x ≤ y) st (fun r => jp e.2.2.2.1 l r S bc bs) (fun r => nx l r S bc bs)
  | .if_icmp .le _ => z_if2 (fun x y => x ≤ y) (fun x y => y < x) st (fun r => jp e.2.2.2.1 l r S bc bs) (fun r => nx l r S bc bs)
  | .ifnonnull _ => (match st with
    | .inr (.inr (.ref _)) :: r => jp e.2.2.2.1 l r S bc bs
    | .inr (.inr .null) :: r => nx l r S bc bs
    | _ => False)
  | .tableswitch dflt lo hi offs => (match st with
    | .inl x :: r => (∀ off, lo ≤ x → x ≤ hi → offs[(x - lo).toNat]? = some off → jp ((e.1.1 : Int) + off).toNat l r S bc bs) ∧ (x < lo ∨ hi < x → jp ((e.1.1 : Int) + dflt).toNat l r S bc bs)
    | _ => False)
  | .getfield _ => (match st with
    | .inr (.inr (.ref o)) :: r => ∃ rs : List (Option Nat), S.1[o]? = some (.inl e.2.2.2.1, rs) ∧ nx l (z_fget S o e.2.2.2.2.1 e.2.2.2.2.2.2 rs :: r) S bc bs
    | _ => False)
  | .putfield _ => (match st with
    | .inl x :: .inr (.inr (.ref o)) :: r => (match e.2.2.2.2.2.2 with
      | 0 => ∃ rs : List (Option Nat), S.1[o]? = some (.inl e.2.2.2.1, rs) ∧ nx l r (S.1, z_u S.2.1 o e.2.2.2.2.1 x, S.2.2) bc bs
      | _ => False)
    | .inr (.inl x) :: .inr (.inr (.ref o)) :: r => (match e.2.2.2.2.2.2 with
      | 2 => ∃ rs : List (Option Nat), S.1[o]? = some (.inl e.2.2.2.1, rs) ∧ nx l r (S.1, S.2.1, z_u S.2.2.1 o e.2.2.2.2.1 x, S.2.2.2) bc bs
      | _ => False)
    | .inr (.inr (.ref x)) :: .inr (.inr (.ref o)) :: r => (match e.2.2.2.2.2.2 with
      | 1 => ∃ rs : List (Option Nat), S.1[o]? = some (.inl e.2.2.2.1, rs) ∧ x < S.1.length ∧ nx l r (S.1.set o (.inl e.2.2.2.1, rs.set e.2.2.2.2.1 (some x)), S.2) bc bs
      | _ => False)
    | _ => False)
  | .iaload => z_load S m_isInt st (fun x r => nx l (.inl x :: r) S bc bs)
  | .baload => z_load S m_isByte st (fun x r => nx l (.inl x :: r) S bc bs)
  | .iastore => z_store S m_isInt st (fun J r => nx l r (S.1, J, S.2.2) bc bs)
  | .bastore => z_store S m_isByte st (fun J r => nx l r (S.1, J, S.2.2) bc bs)
  | .laload => (match st with
    | .inl i :: .inr (.inr (.ref a)) :: r => (∃ (n : Nat) (rs : List (Option Nat)), S.1[a]? = some (.inr (.long, n), rs) ∧ (0 ≤ i ∧ i < n)) ∧ nx l (.inr (.inl (S.2.2.1 a i)) :: r) S bc bs
    | _ => False)
  | .lastore => (match st with
    | .inr (.inl x) :: .inl i :: .inr (.inr (.ref a)) :: r => (∃ (n : Nat) (rs : List (Option Nat)), S.1[a]? = some (.inr (.long, n), rs) ∧ (0 ≤ i ∧ i < n)) ∧ nx l r (S.1, S.2.1, z_u S.2.2.1 a i x, S.2.2.2) bc bs
    | _ => False)
  | .daload => (match st with
    | .inl i :: .inr (.inr (.ref a)) :: r => (∃ (n : Nat) (rs : List (Option Nat)), S.1[a]? = some (.inr (.double, n), rs) ∧ (0 ≤ i ∧ i < n)) ∧ nx l (.inr (.inr (.double (S.2.2.2 a i.toNat))) :: r) S bc bs
    | _ => False)
  | .dastore => (match st with
    | .inr (.inr (.double x)) :: .inl i :: .inr (.inr (.ref a)) :: r => (∃ (n : Nat) (rs : List (Option Nat)), S.1[a]? = some (.inr (.double, n), rs) ∧ (0 ≤ i ∧ i < n)) ∧ nx l r (S.1, S.2.1, S.2.2.1, m_rowX S.2.2.2 a (vf_upd (S.2.2.2 a) i.toNat x)) bc bs
    | _ => False)
  | .aaload => (match st with
    | .inl i :: .inr (.inr (.ref a)) :: r => ∃ (ty : FieldType) (n : Nat) (rs : List (Option Nat)) (c : Option Nat), S.1[a]? = some (.inr (ty, n), rs) ∧ m_isRef ty = true ∧ (0 ≤ i ∧ i < n) ∧ rs.getD i.toNat none = c ∧ nx l (.inr (.inr (m_rv c)) :: r) S bc bs
    | _ => False)
  | .aastore => (match st with
    | .inr (.inr (.ref x)) :: .inl i :: .inr (.inr (.ref a)) :: r => ∃ (ty : FieldType) (n : Nat) (rs : List (Option Nat)) (ci : Nat) (rx : List (Option Nat)), S.1[a]? = some (.inr (ty, n), rs) ∧ S.1[x]? = some (.inl ci, rx) ∧ m_isObj ty (m_cnames.getD ci "") = true ∧ (0 ≤ i ∧ i < n) ∧ nx l r (S.1.set a (.inr (ty, n), rs.set i.toNat (some x)), S.2) bc bs
    | _ => False)
  | .arraylength => (match st with
    | .inr (.inr (.ref a)) :: r => ∃ n : Nat, z_isA S a (fun _ n' => n' = n ∧ n < 2000000000) ∧ nx l (.inl (n : Int) :: r) S bc bs
    | _ => False)
  | .newarray ty => (match st with
    | .inl n :: r => (0 ≤ n ∧ n ≤ 100000 ∧ S.1.length < 1000 ∧ 1 ≤ bc ∧ n ≤ bs) ∧ nx l (.inr (.inr (.ref S.1.length)) :: r) (S.1 ++ [(.inr (newarray.typeOf ty, n.toNat), [])], z_row S.2.1 S.1.length (fun _ => 0), z_row S.2.2.1 S.1.length (fun _ => 0), m_rowX S.2.2.2 S.1.length (fun _ => 0)) (bc - 1) (bs - n.toNat)
    | _ => False)
  | .anewarray _ => (match st with
    | .inl n :: r => (0 ≤ n ∧ n ≤ 100000 ∧ S.1.length < 1000 ∧ 1 ≤ bc ∧ n ≤ bs) ∧ nx l (.inr (.inr (.ref S.1.length)) :: r) (S.1 ++ [(.inr (.object (m_cnames.getD e.2.2.2.1 ""), n.toNat), List.replicate n.toNat none)], z_row S.2.1 S.1.length (fun _ => 0), z_row S.2.2.1 S.1.length (fun _ => 0), m_rowX S.2.2.2 S.1.length (fun _ => 0)) (bc - 1) (bs - n.toNat)
    | _ => False)
  | .multianewarray _ _ => (match st with
    | .inl k :: .inl n :: r => (0 ≤ n ∧ 0 ≤ k ∧ n ≤ 100 ∧ k ≤ 1000 ∧ S.1.length < 1000 ∧ 1 + n ≤ bc ∧ n + n * k ≤ bs) ∧
        nx l (.inr (.inr (.ref S.1.length)) :: r) (S.1 ++ (.inr (.array .int, n.toNat), (List.range n.toNat).map (fun i => some (S.1.length + 1 + i))) :: List.replicate n.toNat (.inr (.int, k.toNat), []), z_zeros S.2.1 S.1.length (1 + n.toNat), z_zeros S.2.2.1 S.1.length (1 + n.toNat), fun b => if S.1.length ≤ b ∧ b < S.1.length + (1 + n.toNat) then (fun _ => 0) else S.2.2.2 b) (bc - (1 + n.toNat)) (bs - (n.toNat + n.toNat * k.toNat))
    | _ => False)
  | .new _ => (match e.2.2.2.2.2.2 with
    | 0 => (S.1.length < 1000 ∧ 1 ≤ bc ∧ (m_fields.getD e.2.2.2.1 []).length ≤ bs) ∧ nx l (.inr (.inr (.ref S.1.length)) :: st) (S.1 ++ [(.inl e.2.2.2.1, List.replicate (m_fields.getD e.2.2.2.1 []).length none)], z_row S.2.1 S.1.length (fun _ => 0), z_row S.2.2.1 S.1.length (fun _ => 0), m_rowX S.2.2.2 S.1.length (fun _ => 0)) (bc - 1) (bs - (m_fields.getD e.2.2.2.1 []).length)
    | _ => m_rest 0 (z_mV st) = true ∧ (1 ≤ bc ∧ 6 ≤ bs) ∧ Q (.inr (m_excs.getD e.2.2.2.1 "")) S)
  | .invokevirtual _ => z_invoke call e.2.2.2.2.2.2 e.2.2.2.1 e.2.2.2.2.1 l st S bc bs nx (ex e.1.1)
  | .invokestatic _ => z_invoke call e.2.2.2.2.2.2 e.2.2.2.1 e.2.2.2.2.1 l st S bc bs nx (ex e.1.1)
  | .invokespecial _ => z_invoke call e.2.2.2.2.2.2 e.2.2.2.1 e.2.2.2.2.1 l st S bc bs nx (ex e.1.1)
  | .return_ => (match st, rt with
    | [], none => Q (.inl none) S
    | _, _ => False)
  | .ireturn => (match st, rt with
    | [.inl v], some .int => Q (.inl (some (.inl v))) S
    | [.inl v], some .boolean => (v = 0 ∨ v = 1) ∧ Q (.inl (some (.inl v))) S
    | _, _ => False)
  | .lreturn => (match st, rt with
    | [.inr (.inl v)], some .long => Q (.inl (some (.inr (.inl v)))) S
    | _, _ => False)
  | .dreturn => (match st, rt with
    | [.inr (.inr (.double v))], some .double => Q (.inl (some (.inr (.inr (.double v))))) S
    | _, _ => False)
  | _ => False
def z_keep (k : Nat) (l : z_L) : z_L := l.take k ++ List.replicate (l.length - k) none
def z_has (ws : List Nat) (pc : Nat) : Bool := match ws with
  | [] => false
  | q :: r => (match Nat.beq q pc with
    | true => true
    | false => z_has r pc)
/-- a run of at most n instructions; ws: the places whose arithmetic may overflow -/
def z_run (call : Nat → z_V → z_S → Nat → Nat → (z_O → z_S → Nat → Nat → Prop) → Prop) (rt : Option FieldType) (Q : z_O → z_S → Prop) (ex : Nat → String → z_L → z_S → Nat → Nat → Prop) (Wp : Nat → z_C) (stops : List (Nat × Nat)) (ws : List Nat) (tbl : List m_Ent) : Nat → List m_Ent → z_C
  | 0, _ => fun _ _ _ _ _ => False
  | _ + 1, [] => fun _ _ _ _ _ => False
  | n + 1, e :: cs => fun l st S bc bs =>
    z_step call rt Q ex (z_has ws e.1.1) e
      (fun l st S bc bs => match m_stop stops (e.1.1 + e.1.2) with
        | some k => Wp (e.1.1 + e.1.2) (z_keep k l) st S bc bs
        | none => z_run call rt Q ex Wp stops ws tbl n cs l st S bc bs)
      (fun t l st S bc bs => match m_stop stops t with
        | some k => Wp t (z_keep k l) st S bc bs
        | none => z_run call rt Q ex Wp stops ws tbl n (m_from tbl t) l st S bc bs)
      l st S bc bs
/-- a method's meaning -/
def z_Sem (l : Launch) (d a : Nat) (ws : z_V) (S : z_S) (mc ms : Nat) (Q : z_O → z_S → Prop) : Prop := z_okV ws → z_okS S → m_Sem l d a (z_mV ws) (z_st S) mc ms (fun o S' => ∃ (zo : z_O) (zS : z_S), o = z_out zo ∧ S' = z_st zS ∧ z_okO zo ∧ z_okS zS ∧ Q zo zS)
def z_Call (l : Launch) (d : Nat) : Nat → z_V → z_S → Nat → Nat → (z_O → z_S → Nat → Nat → Prop) → Prop := fun a ws S bc bs K =>
  ∃ (mc ms : Nat) (Q : z_O → z_S → Prop), z_Sem l d a ws S mc ms Q ∧ mc ≤ bc ∧ ms ≤ bs ∧ ∀ o S', z_okS S' → Q o S' → K o S' (bc - mc) (bs - ms)
