/-! the machine by cells' numbers: a method's code as a transformer of conditions. A cell is an object (its class's number) or an array (type, length), with its references;
ints, longs and doubles of all cells lie in functions of (cell, place). -/
abbrev m_Sh : Type := Nat ⊕ (FieldType × Nat)
abbrev m_E : Type := List (m_Sh × List (Option Nat))
abbrev m_I : Type := Nat → Nat → Int32
abbrev m_X : Type := (Nat → Nat → Int64) × (Nat → Nat → UInt64)
abbrev m_S : Type := m_E × m_I × m_X
abbrev m_L : Type := List (Option Value)
abbrev m_V : Type := List Value
abbrev m_O : Type := Option Value ⊕ String
abbrev m_C : Type := m_L → m_V → m_S → Nat → Nat → Prop
def m_row (I : m_I) (a : Nat) (f : Nat → Int32) : m_I := fun b => if b = a then f else I b
def m_u (I : m_I) (a k : Nat) (x : Int32) : m_I := m_row I a (upd (I a) k x)
def m_rowX {α : Type} (I : Nat → Nat → α) (a : Nat) (f : Nat → α) : Nat → Nat → α := fun b => if b = a then f else I b
def m_zero (S : m_S) (a : Nat) : m_I × m_X := (m_row S.2.1 a (fun _ => 0), m_rowX S.2.2.1 a (fun _ => 0), m_rowX S.2.2.2 a (fun _ => 0))
def m_zeros (S : m_S) (a n : Nat) : m_I × m_X := (fun b => if a ≤ b ∧ b < a + n then (fun _ => 0) else S.2.1 b, fun b => if a ≤ b ∧ b < a + n then (fun _ => 0) else S.2.2.1 b, fun b => if a ≤ b ∧ b < a + n then (fun _ => 0) else S.2.2.2 b)
def m_rv : Option Nat → Value
  | none => .null
  | some r => .ref r
def m_ok1 (v : Value) (k : Prop) : Prop := match v with
  | .long _ => False
  | .double _ => False
  | _ => k
def m_obj (S : m_S) (o ci : Nat) (k : List (Option Nat) → Prop) : Prop := match S.1[o]? with
  | some (.inl c, rs) => (match Nat.beq c ci with
    | true => k rs
    | false => False)
  | _ => False
def m_arr (S : m_S) (a : Nat) (k : FieldType → Nat → List (Option Nat) → Prop) : Prop := match S.1[a]? with
  | some (.inr q, rs) => k q.1 q.2 rs
  | _ => False
/-- the law's own script is the cell m_scr: its ints lie in the row m_scr, its length in the row behind it -/
def m_scr : Nat := 2000000
def m_arrL (S : m_S) (a : Nat) (k : FieldType → Nat → Prop) : Prop := match S.1[a]? with
  | some (.inr q, _) => k q.1 q.2
  | some (.inl _, _) => False
  | none => (match Nat.beq a 2000000 with
    | true => k .int (S.2.1 2000001 0).toNatClampNeg
    | false => False)
def m_ldi (l : m_L) (i : Nat) (k : Int32 → Prop) : Prop := match l.getD i none with
  | some (.int x) => k x
  | _ => False
def m_lda (l : m_L) (i : Nat) (k : Nat → Prop) : Prop := match l.getD i none with
  | some (.ref x) => k x
  | _ => False
def m_ldl (l : m_L) (i : Nat) (k : Int64 → Prop) : Prop := match l.getD i none with
  | some (.long x) => k x
  | _ => False
def m_ldd (l : m_L) (i : Nat) (k : UInt64 → Prop) : Prop := match l.getD i none with
  | some (.double x) => k x
  | _ => False
/-- no value of two places begins just before i -/
def m_clear (l : m_L) (i : Nat) (k : Prop) : Prop := match i with
  | 0 => k
  | j + 1 => (match l.getD j none with
    | some (.long _) => False
    | some (.double _) => False
    | _ => k)
def m_put1 (l : m_L) (i : Nat) (v : Value) (k : m_L → Prop) : Prop := match Nat.blt i l.length with
  | true => m_clear l i (k (l.set i (some v)))
  | false => False
def m_put2 (l : m_L) (i : Nat) (v : Value) (k : m_L → Prop) : Prop := match Nat.blt (i + 1) l.length with
  | true => m_clear l i (k ((l.set i (some v)).set (i + 1) none))
  | false => False
def m_bin (f : Int32 → Int32 → Int32) (st : m_V) (k : m_V → Prop) : Prop := match st with
  | .int y :: .int x :: r => k (.int (f x y) :: r)
  | _ => False
def m_binL (f : Int64 → Int64 → Int64) (st : m_V) (k : m_V → Prop) : Prop := match st with
  | .long y :: .long x :: r => k (.long (f x y) :: r)
  | _ => False
def m_un (f : Int32 → Int32) (st : m_V) (k : m_V → Prop) : Prop := match st with
  | .int x :: r => k (.int (f x) :: r)
  | _ => False
def m_if1 (p : Int32 → Prop) (st : m_V) (t f : m_V → Prop) : Prop := match st with
  | .int x :: r => (p x → t r) ∧ (¬ p x → f r)
  | _ => False
def m_if2 (p : Int32 → Int32 → Prop) (st : m_V) (t f : m_V → Prop) : Prop := match st with
  | .int y :: .int x :: r => (p x y → t r) ∧ (¬ p x y → f r)
  | _ => False
def m_rest (n : Nat) (st : m_V) : Bool := Nat.ble ((st.drop n).map fun v => v.category).sum 8
/-- what an int array's place takes -/
def m_nar (ty : FieldType) (x : Int32) : Int32 := match ty with
  | .boolean => vp_nar .boolean x
  | .byte => vp_nar .byte x
  | _ => x
def m_fget (S : m_S) (o k t : Nat) (rs : List (Option Nat)) : Value := match t with
  | 0 => .int (S.2.1 o k)
  | 1 => m_rv (rs.getD k none)
  | _ => .long (S.2.2.1 o k)
def m_excs : List String := ["java/lang/IndexOutOfBoundsException", "java/lang/IllegalArgumentException", "java/lang/ArithmeticException"]
/-- arrays whose places are ints in the machine -/
def m_small (ty : FieldType) : Bool := match ty with
  | .int => true
  | .boolean => true
  | .byte => true
  | _ => false
def m_load (S : m_S) (small : FieldType → Bool) (st : m_V) (k : Int32 → m_V → Prop) : Prop := match st with
  | .int i :: .ref a :: r => m_arrL S a (fun ty n => match small ty with
    | true => vp_in i n ∧ k (S.2.1 a i.toNatClampNeg) r
    | false => False)
  | _ => False
def m_store (S : m_S) (small : FieldType → Bool) (st : m_V) (k : m_I → m_V → Prop) : Prop := match st with
  | .int x :: .int i :: .ref a :: r => m_arr S a (fun ty n _ => match small ty with
    | true => vp_in i n ∧ k (m_u S.2.1 a i.toNatClampNeg (m_nar ty x)) r
    | false => False)
  | _ => False
def m_isInt (ty : FieldType) : Bool := match ty with
  | .int => true
  | _ => false
def m_isByte (ty : FieldType) : Bool := match ty with
  | .boolean => true
  | .byte => true
  | _ => false
def m_isRef (ty : FieldType) : Bool := match ty with
  | .object _ => true
  | .array .int => true
  | _ => false
def m_isObj (ty : FieldType) (n : String) : Bool := match ty with
  | .object c => decide (c = n)
  | _ => false
/-- System.arraycopy of int-like arrays -/
def m_copy (S : m_S) (st : m_V) (k : m_I → m_V → Prop) : Prop := match st with
  | .int n :: .int dp :: .ref a :: .int sp :: .ref a0 :: r => m_arr S a0 (fun ty0 n0 _ => m_arr S a (fun ty n1 _ => match m_small ty, decide (ty0 = ty) with
    | true, true => ¬ sp < 0 ∧ ¬ dp < 0 ∧ ¬ n < 0 ∧ sp.toNatClampNeg + n.toNatClampNeg ≤ n0 ∧ dp.toNatClampNeg + n.toNatClampNeg ≤ n1 ∧ (∀ i, i < n.toNatClampNeg → fits ty (.int (S.2.1 a0 (sp.toNatClampNeg + i))) = true) ∧
        k (m_row S.2.1 a (va_cpy (S.2.1 a0) (S.2.1 a) sp.toNatClampNeg dp.toNatClampNeg n.toNatClampNeg)) r
    | _, _ => False))
  | _ => False
def m_callOn (call : Nat → m_V → m_S → Nat → Nat → (m_O → m_S → Nat → Nat → Prop) → Prop) (a n : Nat) (l : m_L) (st : m_V) (S : m_S) (bc bs : Nat) (nx : m_C) (ex : String → m_L → m_S → Nat → Nat → Prop) : Prop :=
  match m_rest n st, Nat.ble n st.length with
  | true, true => call a (st.take n).reverse S bc bs (fun o S' bc' bs' => match o with
    | .inl (some v) => nx l (v :: st.drop n) S' bc' bs'
    | .inl none => nx l (st.drop n) S' bc' bs'
    | .inr X => ex X l S' bc' bs')
  | _, _ => False
def m_str (k : Nat) : Nat := 1000000 + k
/-- a text constant's characters -/
def m_text (k : Nat) (f : List Int32 → Prop) : Prop := match Nat.ble 1000000 k with
  | true => (match m_tchars[k - 1000000]? with
    | some cs => f cs
    | none => False)
  | false => False
def m_strlen (st : m_V) (k : m_V → Prop) : Prop := match st with
  | .ref a :: r => m_text a (fun cs => k (.int (Int32.ofNat cs.length) :: r))
  | _ => False
def m_strat (st : m_V) (k : m_V → Prop) : Prop := match st with
  | .int i :: .ref a :: r => m_text a (fun cs => vp_in i cs.length ∧ k (.int (cs.getD i.toNatClampNeg 0) :: r))
  | _ => False
def m_popRef (st : m_V) (k : m_V → Prop) : Prop := match st with
  | .ref _ :: r => k r
  | _ => False
/-- the receiver lies below the arguments -/
def m_recv (st : m_V) (n : Nat) (k : Nat → Prop) : Prop := match st[n - 1]? with
  | some (.ref o) => k o
  | _ => False
def m_invoke (call : Nat → m_V → m_S → Nat → Nat → (m_O → m_S → Nat → Nat → Prop) → Prop) (t a n : Nat) (l : m_L) (st : m_V) (S : m_S) (bc bs : Nat) (nx : m_C) (ex : String → m_L → m_S → Nat → Nat → Prop) : Prop :=
  match t with
  | 10 => m_recv st (n % 16) (fun o => m_obj S o (n / 16) (fun _ => m_callOn call a (n % 16) l st S bc bs nx ex))
  | 11 => m_callOn call a n l st S bc bs nx ex
  | 12 => m_recv st n (fun _ => m_callOn call a n l st S bc bs nx ex)
  | 13 => m_recv st n (fun _ => m_callOn call a n l st S bc bs nx ex)
  | 14 => m_callOn call a n l st S bc bs nx ex
  | 20 => (match m_rest 5 st with
    | true => m_copy S st (fun I r => nx l r (S.1, I, S.2.2) bc bs)
    | false => False)
  | 21 => (match m_rest 2 st with
    | true => m_bin (fun x y => if x < y then y else x) st (fun r => nx l r S bc bs)
    | false => False)
  | 22 => (match m_rest 2 st with
    | true => m_bin (fun x y => if y < x then y else x) st (fun r => nx l r S bc bs)
    | false => False)
  | 30 => (match m_rest 1 st with
    | true => m_popRef st (fun r => nx l r S bc bs)
    | false => False)
  | 40 => (match m_rest 1 st with
    | true => m_strlen st (fun r => nx l r S bc bs)
    | false => False)
  | 41 => (match m_rest 2 st with
    | true => m_strat st (fun r => nx l r S bc bs)
    | false => False)
  | _ => False
/-- one instruction -/
def m_step (call : Nat → m_V → m_S → Nat → Nat → (m_O → m_S → Nat → Nat → Prop) → Prop) (rt : Option FieldType) (Q : m_O → m_S → Prop) (ex : Nat → String → m_L → m_S → Nat → Nat → Prop) (e : m_Ent) (nx : m_C) (jp : Nat → m_C) (l : m_L) (st : m_V) (S : m_S) (bc bs : Nat) : Prop :=
  match e.2.1 with
  | .iconst _ => nx l (.int e.2.2.1 :: st) S bc bs
  | .bipush _ => nx l (.int e.2.2.1 :: st) S bc bs
  | .sipush _ => nx l (.int e.2.2.1 :: st) S bc bs
  | .ldc _ => (match e.2.2.2.2.2.2 with
    | 0 => nx l (.int e.2.2.1 :: st) S bc bs
    | _ => nx l (.ref (m_str e.2.2.2.1) :: st) S bc bs)
  | .ldc_w _ => (match e.2.2.2.2.2.2 with
    | 0 => nx l (.int e.2.2.1 :: st) S bc bs
    | _ => False)
  | .ldc2_w _ => nx l (.long e.2.2.1.toInt64 :: st) S bc bs
  | .lconst n => nx l (.long (Int64.ofNat n.val) :: st) S bc bs
  | .dconst n => (match n.val with
    | 0 => nx l (.double FP.dconst0 :: st) S bc bs
    | _ => False)
  | .iload i => m_ldi l i (fun x => nx l (.int x :: st) S bc bs)
  | .iload_n i => m_ldi l i.val (fun x => nx l (.int x :: st) S bc bs)
  | .aload i => m_lda l i (fun x => nx l (.ref x :: st) S bc bs)
  | .aload_n i => m_lda l i.val (fun x => nx l (.ref x :: st) S bc bs)
  | .lload i => m_ldl l i (fun x => nx l (.long x :: st) S bc bs)
  | .lload_n i => m_ldl l i.val (fun x => nx l (.long x :: st) S bc bs)
  | .dload i => m_ldd l i (fun x => nx l (.double x :: st) S bc bs)
  | .istore i => (match st with
    | .int x :: r => m_put1 l i (.int x) (fun l' => nx l' r S bc bs)
    | _ => False)
  | .istore_n i => (match st with
    | .int x :: r => m_put1 l i.val (.int x) (fun l' => nx l' r S bc bs)
    | _ => False)
  | .astore i => (match st with
    | .ref x :: r => m_put1 l i (.ref x) (fun l' => nx l' r S bc bs)
    | _ => False)
  | .astore_n i => (match st with
    | .ref x :: r => m_put1 l i.val (.ref x) (fun l' => nx l' r S bc bs)
    | _ => False)
  | .lstore i => (match st with
    | .long x :: r => m_put2 l i (.long x) (fun l' => nx l' r S bc bs)
    | _ => False)
  | .dstore i => (match st with
    | .double x :: r => m_put2 l i (.double x) (fun l' => nx l' r S bc bs)
    | _ => False)
  | .iinc i _ => m_ldi l i (fun x => m_put1 l i (.int (x + e.2.2.1)) (fun l' => nx l' st S bc bs))
  | .iadd => m_bin (fun x y => x + y) st (fun r => nx l r S bc bs)
  | .isub => m_bin (fun x y => x - y) st (fun r => nx l r S bc bs)
  | .imul => m_bin (fun x y => x * y) st (fun r => nx l r S bc bs)
  | .iand => m_bin (fun x y => x &&& y) st (fun r => nx l r S bc bs)
  | .ior => m_bin (fun x y => x ||| y) st (fun r => nx l r S bc bs)
  | .ixor => m_bin (fun x y => x ^^^ y) st (fun r => nx l r S bc bs)
  | .ishl => m_bin (fun x y => x <<< (y &&& 31)) st (fun r => nx l r S bc bs)
  | .ishr => m_bin (fun x y => x >>> (y &&& 31)) st (fun r => nx l r S bc bs)
  | .iushr => m_bin (fun x y => (x.toUInt32 >>> (y.toUInt32 &&& Int32.toUInt32 31)).toInt32) st (fun r => nx l r S bc bs)
  | .idiv => (match st with
    | .int y :: .int x :: r => ¬ y = 0 ∧ nx l (.int (x / y) :: r) S bc bs
    | _ => False)
  | .irem => (match st with
    | .int y :: .int x :: r => ¬ y = 0 ∧ nx l (.int (x - x / y * y) :: r) S bc bs
    | _ => False)
  | .ladd => m_binL (fun x y => x + y) st (fun r => nx l r S bc bs)
  | .lsub => m_binL (fun x y => x - y) st (fun r => nx l r S bc bs)
  | .lmul => m_binL (fun x y => x * y) st (fun r => nx l r S bc bs)
  | .lshl => (match st with
    | .int y :: .long x :: r => nx l (.long (x <<< (y.toInt64 &&& 63)) :: r) S bc bs
    | _ => False)
  | .lcmp => (match st with
    | .long y :: .long x :: r => nx l (.int (lg_cmp x y) :: r) S bc bs
    | _ => False)
  | .i2l => (match st with
    | .int x :: r => nx l (.long x.toInt64 :: r) S bc bs
    | _ => False)
  | .l2i => (match st with
    | .long x :: r => nx l (.int x.toInt32 :: r) S bc bs
    | _ => False)
  | .i2b => m_un (fun x => x.toInt8.toInt32) st (fun r => nx l r S bc bs)
  | .i2c => m_un (fun x => (x.toUInt32 % 65536).toInt32) st (fun r => nx l r S bc bs)
  | .i2d => (match st with
    | .int x :: r => nx l (.double (FP.i2d x) :: r) S bc bs
    | _ => False)
  | .ddiv => (match st with
    | .double y :: .double x :: r => vf_n64 (FP.ddiv x y) ∧ nx l (.double (FP.ddiv x y) :: r) S bc bs
    | _ => False)
  | .dcmp op => (match st with
    | .double y :: .double x :: r => nx l (.int (Op.cmpValue (FP.dcmp x y) op) :: r) S bc bs
    | _ => False)
  | .dup => (match st with
    | v :: r => m_ok1 v (nx l (v :: v :: r) S bc bs)
    | _ => False)
  | .dup2 => (match st with
    | v :: w :: r => m_ok1 v (m_ok1 w (nx l (v :: w :: v :: w :: r) S bc bs))
    | _ => False)
  | .pop => (match st with
    | v :: r => m_ok1 v (nx l r S bc bs)
    | _ => False)
  | .goto _ => jp e.2.2.2.1 l st S bc bs
  | .ifCond .eq _ => m_if1 (fun x => x = 0) st (fun r => jp e.2.2.2.1 l r S bc bs) (fun r => nx l r S bc bs)
  | .ifCond .ne _ => m_if1 (fun x => x = 0) st (fun r => nx l r S bc bs) (fun r => jp e.2.2.2.1 l r S bc bs)
  | .ifCond .lt _ => m_if1 (fun x => x < 0) st (fun r => jp e.2.2.2.1 l r S bc bs) (fun r => nx l r S bc bs)
  | .ifCond .ge _ => m_if1 (fun x => 0 ≤ x) st (fun r => jp e.2.2.2.1 l r S bc bs) (fun r => nx l r S bc bs)
  | .ifCond .gt _ => m_if1 (fun x => 0 < x) st (fun r => jp e.2.2.2.1 l r S bc bs) (fun r => nx l r S bc bs)
  | .ifCond .le _ => m_if1 (fun x => x ≤ 0) st (fun r => jp e.2.2.2.1 l r S bc bs) (fun r => nx l r S bc bs)
  | .if_icmp .eq _ => m_if2 (fun x y => x = y) st (fun r => jp e.2.2.2.1 l r S bc bs) (fun r => nx l r S bc bs)
  | .if_icmp .ne _ => m_if2 (fun x y => x = y) st (fun r => nx l r S bc bs) (fun r => jp e.2.2.2.1 l r S bc bs)
  | .if_icmp .lt _ => m_if2 (fun x y => x < y) st (fun r => jp e.2.2.2.1 l r S bc bs) (fun r => nx l r S bc bs)
  | .if_icmp .ge _ => m_if2 (fun x y => y ≤ x) st (fun r => jp e.2.2.2.1 l r S bc bs) (fun r => nx l r S bc bs)
  | .if_icmp .gt _ => m_if2 (fun x y => y < x) st (fun r => jp e.2.2.2.1 l r S bc bs) (fun r => nx l r S bc bs)
  | .if_icmp .le _ => m_if2 (fun x y => x ≤ y) st (fun r => jp e.2.2.2.1 l r S bc bs) (fun r => nx l r S bc bs)
  | .ifnonnull _ => (match st with
    | .ref _ :: r => jp e.2.2.2.1 l r S bc bs
    | .null :: r => nx l r S bc bs
    | _ => False)
  | .tableswitch dflt lo hi offs => (match st with
    | .int x :: r => (∀ off, ¬ x.toInt < lo → ¬ hi < x.toInt → offs[(x.toInt - lo).toNat]? = some off → jp ((e.1.1 : Int) + off).toNat l r S bc bs) ∧ (x.toInt < lo ∨ hi < x.toInt → jp ((e.1.1 : Int) + dflt).toNat l r S bc bs)
    | _ => False)
  | .getfield _ => (match st with
    | .ref o :: r => m_obj S o e.2.2.2.1 (fun rs => nx l (m_fget S o e.2.2.2.2.1 e.2.2.2.2.2.2 rs :: r) S bc bs)
    | _ => False)
  | .putfield _ => (match st with
    | .int x :: .ref o :: r => (match e.2.2.2.2.2.2 with
      | 0 => m_obj S o e.2.2.2.1 (fun _ => nx l r (S.1, m_u S.2.1 o e.2.2.2.2.1 x, S.2.2) bc bs)
      | _ => False)
    | .long x :: .ref o :: r => (match e.2.2.2.2.2.2 with
      | 2 => m_obj S o e.2.2.2.1 (fun _ => nx l r (S.1, S.2.1, m_rowX S.2.2.1 o (vf_upd (S.2.2.1 o) e.2.2.2.2.1 x), S.2.2.2) bc bs)
      | _ => False)
    | .ref x :: .ref o :: r => (match e.2.2.2.2.2.2 with
      | 1 => m_obj S o e.2.2.2.1 (fun rs => match Nat.blt x S.1.length with
        | true => nx l r (S.1.set o (.inl e.2.2.2.1, rs.set e.2.2.2.2.1 (some x)), S.2) bc bs
        | false => False)
      | _ => False)
    | _ => False)
  | .iaload => m_load S m_isInt st (fun x r => nx l (.int x :: r) S bc bs)
  | .baload => m_load S m_isByte st (fun x r => nx l (.int x :: r) S bc bs)
  | .iastore => m_store S m_isInt st (fun I r => nx l r (S.1, I, S.2.2) bc bs)
  | .bastore => m_store S m_isByte st (fun I r => nx l r (S.1, I, S.2.2) bc bs)
  | .laload => (match st with
    | .int i :: .ref a :: r => m_arr S a (fun ty n _ => match ty with
      | .long => vp_in i n ∧ nx l (.long (S.2.2.1 a i.toNatClampNeg) :: r) S bc bs
      | _ => False)
    | _ => False)
  | .lastore => (match st with
    | .long x :: .int i :: .ref a :: r => m_arr S a (fun ty n _ => match ty with
      | .long => vp_in i n ∧ nx l r (S.1, S.2.1, m_rowX S.2.2.1 a (vf_upd (S.2.2.1 a) i.toNatClampNeg x), S.2.2.2) bc bs
      | _ => False)
    | _ => False)
  | .daload => (match st with
    | .int i :: .ref a :: r => m_arr S a (fun ty n _ => match ty with
      | .double => vp_in i n ∧ nx l (.double (S.2.2.2 a i.toNatClampNeg) :: r) S bc bs
      | _ => False)
    | _ => False)
  | .dastore => (match st with
    | .double x :: .int i :: .ref a :: r => m_arr S a (fun ty n _ => match ty with
      | .double => vp_in i n ∧ nx l r (S.1, S.2.1, S.2.2.1, m_rowX S.2.2.2 a (vf_upd (S.2.2.2 a) i.toNatClampNeg x)) bc bs
      | _ => False)
    | _ => False)
  | .aaload => (match st with
    | .int i :: .ref a :: r => m_arr S a (fun ty n rs => match m_isRef ty with
      | true => vp_in i n ∧ nx l (m_rv (rs.getD i.toNatClampNeg none) :: r) S bc bs
      | false => False)
    | _ => False)
  | .aastore => (match st with
    | .ref x :: .int i :: .ref a :: r => m_arr S a (fun ty n rs => match S.1[x]? with
      | some (.inl ci, _) => (match m_isObj ty (m_cnames.getD ci "") with
        | true => vp_in i n ∧ nx l r (S.1.set a (.inr (ty, n), rs.set i.toNatClampNeg (some x)), S.2) bc bs
        | false => False)
      | _ => False)
    | _ => False)
  | .arraylength => (match st with
    | .ref a :: r => m_arrL S a (fun _ n => nx l (.int (Int32.ofNat n) :: r) S bc bs)
    | _ => False)
  | .newarray ty => (match st with
    | .int n :: r => ¬ n < 0 ∧ n.toNatClampNeg ≤ 100000 ∧ S.1.length < 1000 ∧ 1 ≤ bc ∧ n.toNatClampNeg ≤ bs ∧ nx l (.ref S.1.length :: r) (S.1 ++ [(.inr (newarray.typeOf ty, n.toNatClampNeg), [])], m_zero S S.1.length) (bc - 1) (bs - n.toNatClampNeg)
    | _ => False)
  | .anewarray _ => (match st with
    | .int n :: r => ¬ n < 0 ∧ n.toNatClampNeg ≤ 100000 ∧ S.1.length < 1000 ∧ 1 ≤ bc ∧ n.toNatClampNeg ≤ bs ∧ nx l (.ref S.1.length :: r) (S.1 ++ [(.inr (.object (m_cnames.getD e.2.2.2.1 ""), n.toNatClampNeg), List.replicate n.toNatClampNeg none)], m_zero S S.1.length) (bc - 1) (bs - n.toNatClampNeg)
    | _ => False)
  | .multianewarray _ _ => (match st with
    | .int k :: .int n :: r => ¬ n < 0 ∧ ¬ k < 0 ∧ n.toNatClampNeg ≤ 100 ∧ k.toNatClampNeg ≤ 1000 ∧ S.1.length < 1000 ∧ 1 + n.toNatClampNeg ≤ bc ∧ n.toNatClampNeg + n.toNatClampNeg * k.toNatClampNeg ≤ bs ∧
        nx l (.ref S.1.length :: r) (S.1 ++ (.inr (.array .int, n.toNatClampNeg), (List.range n.toNatClampNeg).map (fun i => some (S.1.length + 1 + i))) :: List.replicate n.toNatClampNeg (.inr (.int, k.toNatClampNeg), []), m_zeros S S.1.length (1 + n.toNatClampNeg)) (bc - (1 + n.toNatClampNeg)) (bs - (n.toNatClampNeg + n.toNatClampNeg * k.toNatClampNeg))
    | _ => False)
  | .new _ => (match e.2.2.2.2.2.2 with
    | 0 => S.1.length < 1000 ∧ 1 ≤ bc ∧ (m_fields.getD e.2.2.2.1 []).length ≤ bs ∧ nx l (.ref S.1.length :: st) (S.1 ++ [(.inl e.2.2.2.1, List.replicate (m_fields.getD e.2.2.2.1 []).length none)], m_zero S S.1.length) (bc - 1) (bs - (m_fields.getD e.2.2.2.1 []).length)
    | _ => (match m_rest 0 st with
      | true => 1 ≤ bc ∧ 6 ≤ bs ∧ Q (.inr (m_excs.getD e.2.2.2.1 "")) S
      | false => False))
  | .invokevirtual _ => m_invoke call e.2.2.2.2.2.2 e.2.2.2.1 e.2.2.2.2.1 l st S bc bs nx (ex e.1.1)
  | .invokestatic _ => m_invoke call e.2.2.2.2.2.2 e.2.2.2.1 e.2.2.2.2.1 l st S bc bs nx (ex e.1.1)
  | .invokespecial _ => m_invoke call e.2.2.2.2.2.2 e.2.2.2.1 e.2.2.2.2.1 l st S bc bs nx (ex e.1.1)
  | .return_ => (match st, rt with
    | [], none => Q (.inl none) S
    | _, _ => False)
  | .ireturn => (match st, rt with
    | [.int v], some .int => Q (.inl (some (.int v))) S
    | [.int v], some .boolean => vp_nar .boolean v = v ∧ Q (.inl (some (.int v))) S
    | _, _ => False)
  | .lreturn => (match st, rt with
    | [.long v], some .long => Q (.inl (some (.long v))) S
    | _, _ => False)
  | .dreturn => (match st, rt with
    | [.double v], some .double => Q (.inl (some (.double v))) S
    | _, _ => False)
  | _ => False
/-- the locals from the k-th on are forgotten -/
def m_keep (k : Nat) (l : m_L) : m_L := l.take k ++ List.replicate (l.length - k) none
/-- the code from an instruction on, by its place -/
def m_from (tbl : List m_Ent) (pc : Nat) : List m_Ent := match tbl with
  | [] => []
  | e :: r => (match Nat.beq e.1.1 pc with
    | true => e :: r
    | false => m_from r pc)
/-- at which places a run of the code halts: there Wp is asked, with so many locals -/
def m_stop (stops : List (Nat × Nat)) (pc : Nat) : Option Nat := match stops with
  | [] => none
  | q :: r => (match Nat.beq q.1 pc with
    | true => some q.2
    | false => m_stop r pc)
/-- a run of at most n instructions -/
def m_run (call : Nat → m_V → m_S → Nat → Nat → (m_O → m_S → Nat → Nat → Prop) → Prop) (rt : Option FieldType) (Q : m_O → m_S → Prop) (ex : Nat → String → m_L → m_S → Nat → Nat → Prop) (Wp : Nat → m_C) (stops : List (Nat × Nat)) (tbl : List m_Ent) : Nat → List m_Ent → m_C
  | 0, _ => fun _ _ _ _ _ => False
  | _ + 1, [] => fun _ _ _ _ _ => False
  | n + 1, e :: cs => fun l st S bc bs =>
    m_step call rt Q ex e
      (fun l st S bc bs => match m_stop stops (e.1.1 + e.1.2) with
        | some k => Wp (e.1.1 + e.1.2) (m_keep k l) st S bc bs
        | none => m_run call rt Q ex Wp stops tbl n cs l st S bc bs)
      (fun t l st S bc bs => match m_stop stops t with
        | some k => Wp t (m_keep k l) st S bc bs
        | none => m_run call rt Q ex Wp stops tbl n (m_from tbl t) l st S bc bs)
      l st S bc bs
