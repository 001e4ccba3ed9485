/-! THE ABSTRACT MACHINE: the methods' own bytecode over numbered cells (the k-th cell that is made is k; its shape is am_SH k). A memory: how many cells are made, their ints, their longs, their references. -/
abbrev am_M : Type := Nat × (Nat → Nat → Int32) × (Nat → Nat → Int64) × (Nat → Nat → Option Nat)
abbrev am_LS : Type := List (Option Value)
/-- one step: on to another place; a return; a call (method, arguments, rest of the stack) -/
abbrev am_R : Type := (Nat × am_LS × List Value × am_M) ⊕ (Option Value) ⊕ (am_MM × List Value × List Value)
/-- the script and its length -/
abbrev am_X : Type := Nat × (Nat → Int32)
def am_u {α : Type} (h : Nat → Nat → α) (k j : Nat) (x : α) : Nat → Nat → α := fun a b => if a = k then (if b = j then x else h a b) else h a b
def am_w {α : Type} (h : Nat → Nat → α) (k : Nat) (f : Nat → α) : Nat → Nat → α := fun a b => if a = k then f b else h a b
def am_fk (t : FieldType) : Nat := match t with
  | .long => 1
  | .object _ => 2
  | .array _ => 2
  | .float => 3
  | .double => 3
  | _ => 0
def am_get (M : am_M) (ci k j : Nat) : Value := match am_fk (am_ty ci j) with
  | 0 => .int (M.2.1 k j)
  | 1 => .long (M.2.2.1 k j)
  | _ => va_rf (M.2.2.2 k j)
def am_setI (M : am_M) (k j : Nat) (x : Int32) : am_M := (M.1, am_u M.2.1 k j x, M.2.2.1, M.2.2.2)
def am_setL (M : am_M) (k j : Nat) (x : Int64) : am_M := (M.1, M.2.1, am_u M.2.2.1 k j x, M.2.2.2)
def am_setR (M : am_M) (k j : Nat) (x : Option Nat) : am_M := (M.1, M.2.1, M.2.2.1, am_u M.2.2.2 k j x)
def am_make (M : am_M) : am_M := (M.1 + 1, am_w M.2.1 M.1 (fun _ => 0), am_w M.2.2.1 M.1 (fun _ => 0), am_w M.2.2.2 M.1 (fun _ => none))
def am_copy (M : am_M) (a b sp dp n : Nat) : am_M := (M.1, am_w M.2.1 b (va_cpy (M.2.1 a) (M.2.1 b) sp dp n), M.2.2.1, M.2.2.2)
/-- the rows of an int[][] -/
def am_many (M : am_M) (N : Nat) : am_M := (M.1 + 1 + N, fun a b => if M.1 ≤ a ∧ a < M.1 + 1 + N then 0 else M.2.1 a b, fun a b => if M.1 ≤ a ∧ a < M.1 + 1 + N then 0 else M.2.2.1 a b, fun a b => if a = M.1 then (if b < N then some (M.1 + 1 + b) else none) else if M.1 ≤ a ∧ a < M.1 + 1 + N then none else M.2.2.2 a b)
/-- is k a cell of this kind -/
def am_is (M : am_M) (k t : Nat) : Bool := Nat.blt k M.1 && (am_SH k).1 == t
/-- an index within -/
def am_in (i : Int32) (n : Nat) : Bool := !(decide (i < 0) || decide (n ≤ i.toNatClampNeg))
def am_cat2 (o : Option Value) : Bool := match o with
  | some v => v.category == 2
  | none => false
def am_st1 (ls : am_LS) (k : Nat) (v : Value) : Option am_LS := if k < ls.length ∧ (k = 0 ∨ am_cat2 (ls.getD (k - 1) none) = false) then some (ls.set k (some v)) else none
def am_st2 (ls : am_LS) (k : Nat) (v : Value) : Option am_LS := if k + 1 < ls.length ∧ (k = 0 ∨ am_cat2 (ls.getD (k - 1) none) = false) then some ((ls.set k (some v)).set (k + 1) none) else none
/-- the locals with which a method begins -/
def am_args : List Value → am_LS
  | [] => []
  | v :: vs => if v.category = 2 then some v :: none :: am_args vs else some v :: am_args vs
def am_en (vs : List Value) (n : Nat) : am_LS := am_args vs ++ List.replicate (n - (am_args vs).length) none
def am_sum (st : List Value) : Nat := (st.map fun v => v.category).sum
def am_fin (ci j : Nat) : Bool := match vwCl[ci]? with
  | some q => (q.2.1 j).2.2.2
  | none => true
/-- the bytes of the two String constants -/
def am_byt : List (List Int32) := [[112, 117, 112, 112, 101, 116, 32, 115, 116, 114, 105, 110, 103, 32, 99, 104, 105, 108, 100, 32, 111, 114, 100, 101, 114, 32, 118, 101, 114, 100, 105, 99, 116, 32, 118, 111, 116, 101, 115, 32, 115, 116, 111, 114, 109, 32, 115, 101, 101, 100, 32, 105, 102, 32, 116, 104, 101, 110, 32, 101, 108, 115, 101, 32, 97, 112, 97, 114, 116, 32, 116, 97, 110, 103, 108, 101, 115, 32, 112, 117, 108, 108, 115, 32, 110, 111, 100, 115, 32, 115, 105, 100, 101, 32, 104, 97, 110, 100, 32, 115, 101, 97, 116, 32, 119, 104, 105, 99, 104, 32, 97, 116, 32], [59, 61, 43, 45, 42, 47, 60, 40, 41]]
def am_len : List Nat := [113, 9]
/-- references that are no cells of ours: 1000000 + 2 i the i-th String, 1000001 + 2 i its bytes, 2000000 the script -/
def am_str (k : Nat) : Option Nat := if k = 1000000 then some 0 else if k = 1000002 then some 1 else none
def am_val (k : Nat) : Option Nat := if k = 1000001 then some 0 else if k = 1000003 then some 1 else none
def am_nx (pc : Nat) (ls : am_LS) (st : List Value) (M : am_M) : Option am_R := some (.inl (pc, ls, st, M))
def am_jmp (pc : Nat) (off : Int) : Option Nat := if 0 ≤ (pc : Int) + off then some ((pc : Int) + off).toNat else none
def am_go (pc : Nat) (off : Int) (ls : am_LS) (st : List Value) (M : am_M) : Option am_R := match am_jmp pc off with
  | some t => am_nx t ls st M
  | none => none
def am_cnd (cd : ClassFile.Cond) (x y : Int32) : Bool := match cd with
  | .eq => decide (x = y)
  | .ne => decide (¬ x = y)
  | .lt => decide (x < y)
  | .ge => decide (y ≤ x)
  | .gt => decide (y < x)
  | .le => decide (x ≤ y)
/-- pure instructions on the stack: the new stack -/
def am_pure (i : Instr) (len : Nat) (st : List Value) : Option (List Value) := match i, len, st with
  | .iconst n, 1, st => some (.int (Int32.ofInt n) :: st)
  | .bipush n, 2, st => some (.int (Int8.ofInt n).toInt32 :: st)
  | .sipush n, 3, st => some (.int (Int16.ofInt n).toInt32 :: st)
  | .lconst n, 1, st => some (.long (Int64.ofNat (n : Nat)) :: st)
  | .iadd, 1, .int y :: .int x :: st => some (.int (x + y) :: st)
  | .isub, 1, .int y :: .int x :: st => some (.int (x - y) :: st)
  | .imul, 1, .int y :: .int x :: st => some (.int (x * y) :: st)
  | .iand, 1, .int y :: .int x :: st => some (.int (x &&& y) :: st)
  | .ior, 1, .int y :: .int x :: st => some (.int (x ||| y) :: st)
  | .ixor, 1, .int y :: .int x :: st => some (.int (x ^^^ y) :: st)
  | .idiv, 1, .int y :: .int x :: st => if y = 0 then none else some (.int (x / y) :: st)
  | .irem, 1, .int y :: .int x :: st => if y = 0 then none else some (.int (x - x / y * y) :: st)
  | .ineg, 1, .int x :: st => some (.int (-x) :: st)
  | .ishl, 1, .int y :: .int x :: st => some (.int (x <<< (y &&& 31)) :: st)
  | .ishr, 1, .int y :: .int x :: st => some (.int (x >>> (y &&& 31)) :: st)
  | .iushr, 1, .int y :: .int x :: st => some (.int (x.toUInt32 >>> (y.toUInt32 &&& Int32.toUInt32 31)).toInt32 :: st)
  | .ladd, 1, .long y :: .long x :: st => some (.long (x + y) :: st)
  | .lmul, 1, .long y :: .long x :: st => some (.long (x * y) :: st)
  | .lshl, 1, .int y :: .long x :: st => some (.long (x <<< (y.toInt64 &&& 63)) :: st)
  | .lcmp, 1, .long y :: .long x :: st => some (.int (lg_cmp x y) :: st)
  | .i2l, 1, .int x :: st => some (.long x.toInt64 :: st)
  | .l2i, 1, .long x :: st => some (.int x.toInt32 :: st)
  | .i2b, 1, .int x :: st => some (.int x.toInt8.toInt32 :: st)
  | .i2c, 1, .int x :: st => some (.int (x.toUInt32 % 65536).toInt32 :: st)
  | .dup, 1, a :: st => if a.category = 1 then some (a :: a :: st) else none
  | .pop, 1, a :: st => if a.category = 1 then some st else none
  | .dup_x1, 1, a :: b :: st => if a.category = 1 ∧ b.category = 1 then some (a :: b :: a :: st) else none
  | .dup2, 1, a :: b :: st => if a.category = 1 ∧ b.category = 1 then some (a :: b :: a :: b :: st) else none
  | _, _, _ => none
/-- loads of locals -/
def am_load (i : Instr) (len : Nat) (ls : am_LS) : Option Value := match i, len with
  | .iload k, 2 => (match ls.getD k none with | some (.int x) => some (.int x) | _ => none)
  | .iload_n k, 1 => (match ls.getD (k : Nat) none with | some (.int x) => some (.int x) | _ => none)
  | .lload k, 2 => (match ls.getD k none with | some (.long x) => some (.long x) | _ => none)
  | .lload_n k, 1 => (match ls.getD (k : Nat) none with | some (.long x) => some (.long x) | _ => none)
  | .aload k, 2 => (match ls.getD k none with | some (.ref x) => some (.ref x) | some .null => some .null | _ => none)
  | .aload_n k, 1 => (match ls.getD (k : Nat) none with | some (.ref x) => some (.ref x) | some .null => some .null | _ => none)
  | _, _ => none
/-- stores of locals: the new locals and stack -/
def am_store (i : Instr) (len : Nat) (ls : am_LS) (st : List Value) : Option (am_LS × List Value) := match i, len, st with
  | .istore k, 2, .int x :: st => (am_st1 ls k (.int x)).map (fun l => (l, st))
  | .istore_n k, 1, .int x :: st => (am_st1 ls (k : Nat) (.int x)).map (fun l => (l, st))
  | .lstore k, 2, .long x :: st => (am_st2 ls k (.long x)).map (fun l => (l, st))
  | .lstore_n k, 1, .long x :: st => (am_st2 ls (k : Nat) (.long x)).map (fun l => (l, st))
  | .astore k, 2, .ref x :: st => (am_st1 ls k (.ref x)).map (fun l => (l, st))
  | .astore k, 2, .null :: st => (am_st1 ls k .null).map (fun l => (l, st))
  | .astore_n k, 1, .ref x :: st => (am_st1 ls (k : Nat) (.ref x)).map (fun l => (l, st))
  | .astore_n k, 1, .null :: st => (am_st1 ls (k : Nat) .null).map (fun l => (l, st))
  | .iinc k n, 3, st => (match ls.getD k none with | some (.int x) => (am_st1 ls k (.int (x + Int32.ofInt n))).map (fun l => (l, st)) | _ => none)
  | _, _, _ => none
/-- jumps: where to, the new stack -/
def am_jump (i : Instr) (len pc : Nat) (st : List Value) : Option (Nat × List Value) := match i, len, st with
  | .ifCond cd off, 3, .int x :: st => (am_jmp pc off).map (fun t => (if am_cnd cd x 0 = true then t else pc + 3, st))
  | .if_icmp cd off, 3, .int y :: .int x :: st => (am_jmp pc off).map (fun t => (if am_cnd cd x y = true then t else pc + 3, st))
  | .goto off, 3, st => (am_jmp pc off).map (fun t => (t, st))
  | .ifnull off, 3, .null :: st => (am_jmp pc off).map (fun t => (t, st))
  | .ifnull _, 3, .ref _ :: st => some (pc + 3, st)
  | .ifnonnull _, 3, .null :: st => some (pc + 3, st)
  | .ifnonnull off, 3, .ref _ :: st => (am_jmp pc off).map (fun t => (t, st))
  | .tableswitch dflt lo hi offs, _, .int x :: st => if x.toInt < lo ∨ hi < x.toInt then (am_jmp pc dflt).map (fun t => (t, st)) else (match offs[(x.toInt - lo).toNat]? with | some off => (am_jmp pc off).map (fun t => (t, st)) | none => none)
  | _, _, _ => none
/-- what reads the cells, constants or the script: the new stack -/
def am_read (X : am_X) (c : Nat) (i : Instr) (len : Nat) (st : List Value) (M : am_M) : Option (List Value) := match i, len, st with
  | .getfield ix, 3, .ref k :: st => if c = 20 then (match am_str k with
    | some _ => if ix = 9 then some (.ref (k + 1) :: st) else if ix = 15 then some (.int 0 :: st) else none
    | none => none) else (match am_fl c ix with
      | some (ci, j) => if am_is M k ci = true ∧ j < (am_SH k).2 then some (am_get M ci k j :: st) else none
      | none => none)
  | .iaload, 1, .int i :: .ref k :: st => if c = 30 then (if k = 2000000 ∧ am_in i X.1 = true then some (.int (X.2 i.toNatClampNeg) :: st) else none) else if am_is M k 20 = true ∧ am_in i (am_SH k).2 = true then some (.int (M.2.1 k i.toNatClampNeg) :: st) else none
  | .baload, 1, .int i :: .ref k :: st => if c = 21 then (match am_val k with
    | some n => if am_in i (am_len.getD n 0) = true then some (.int ((am_byt.getD n []).getD i.toNatClampNeg 0) :: st) else none
    | none => none) else if (am_is M k 21 = true ∨ am_is M k 22 = true) ∧ am_in i (am_SH k).2 = true then some (.int (M.2.1 k i.toNatClampNeg) :: st) else none
  | .laload, 1, .int i :: .ref k :: st => if am_is M k 23 = true ∧ am_in i (am_SH k).2 = true then some (.long (M.2.2.1 k i.toNatClampNeg) :: st) else none
  | .aaload, 1, .int i :: .ref k :: st => if (am_is M k 24 = true ∨ am_is M k 25 = true) ∧ am_in i (am_SH k).2 = true then some (va_rf (M.2.2.2 k i.toNatClampNeg) :: st) else none
  | .arraylength, 1, .ref k :: st => if c = 30 then (if k = 2000000 then some (.int (Int32.ofNat X.1) :: st) else none) else if c = 20 ∨ c = 21 then (match am_val k with
    | some n => some (.int (Int32.ofNat (am_len.getD n 0)) :: st)
    | none => none) else if Nat.blt k M.1 = true ∧ 20 ≤ (am_SH k).1 ∧ (am_SH k).1 ≤ 25 then some (.int (Int32.ofNat (am_SH k).2) :: st) else none
  | .ldc ix, 2, st => if c = 11 ∧ ix = 49 then some (.ref 1000000 :: st) else if c = 11 ∧ ix = 82 then some (.ref 1000002 :: st) else (am_kc c ix).map (fun v => .int v :: st)
  | .ldc_w ix, 3, st => (am_kc c ix).map (fun v => .int v :: st)
  | .ldc2_w ix, 3, st => if c = 13 ∧ ix = 181 then some (.long 27 :: st) else if c = 11 ∧ ix = 88 then some (.long 10 :: st) else none
  | .getstatic ix, 3, st => if c = 20 ∧ ix = 38 then some (.int 1 :: st) else if c = 20 ∧ ix = 1053 then some ((if X.2 5000 = 0 then .null else .ref 3000000) :: st) else none
  | _, _, _ => none
/-- what writes or makes cells: the new stack and memory -/
def am_write (μ : am_MM) (i : Instr) (len : Nat) (st : List Value) (M : am_M) : Option (List Value × am_M) := match i, len, st with
  | .putfield ix, 3, v :: .ref k :: st => (match am_fl μ.1 ix with
    | some (ci, j) => if am_is M k ci = true ∧ j < (am_SH k).2 ∧ (am_fin ci j = false ∨ (μ.2.1.name = "<init>" ∧ am_own ci = am_cn μ.1)) then (match am_fk (am_ty ci j), v with
      | 0, .int x => if narrow (am_ty ci j) (.int x) = .int x ∧ fits (am_ty ci j) (.int x) = true then some (st, am_setI M k j x) else none
      | 1, .long x => some (st, am_setL M k j x)
      | 2, .ref a => some (st, am_setR M k j (some a))
      | 2, .null => some (st, am_setR M k j none)
      | _, _ => none) else none
    | none => none)
  | .iastore, 1, .int x :: .int i :: .ref k :: st => if am_is M k 20 = true ∧ am_in i (am_SH k).2 = true then some (st, am_setI M k i.toNatClampNeg x) else none
  | .bastore, 1, .int x :: .int i :: .ref k :: st => if am_is M k 21 = true ∧ am_in i (am_SH k).2 = true then some (st, am_setI M k i.toNatClampNeg (vp_nar .byte x)) else if am_is M k 22 = true ∧ am_in i (am_SH k).2 = true then some (st, am_setI M k i.toNatClampNeg (vp_nar .boolean x)) else none
  | .lastore, 1, .long x :: .int i :: .ref k :: st => if am_is M k 23 = true ∧ am_in i (am_SH k).2 = true then some (st, am_setL M k i.toNatClampNeg x) else none
  | .aastore, 1, .ref a :: .int i :: .ref k :: st => if am_is M k 24 = true ∧ am_is M a 3 = true ∧ am_in i (am_SH k).2 = true then some (st, am_setR M k i.toNatClampNeg (some a)) else none
  | .new ix, 3, st => (match am_cl μ.1 ix with
    | some ci => if (am_SH M.1).1 = ci then some (.ref M.1 :: st, am_make M) else none
    | none => none)
  | .newarray ty, 2, .int n :: st => if ¬ n < 0 ∧ n.toNatClampNeg = (am_SH M.1).2 ∧ (am_SH M.1).2 ≤ 100000 ∧ ((newarray.typeOf ty = .int ∧ (am_SH M.1).1 = 20) ∨ (newarray.typeOf ty = .byte ∧ (am_SH M.1).1 = 21) ∨ (newarray.typeOf ty = .boolean ∧ (am_SH M.1).1 = 22) ∨ (newarray.typeOf ty = .long ∧ (am_SH M.1).1 = 23)) then some (.ref M.1 :: st, am_make M) else none
  | .anewarray ix, 3, .int n :: st => if μ.1 = 6 ∧ ix = 9 ∧ ¬ n < 0 ∧ n.toNatClampNeg = (am_SH M.1).2 ∧ (am_SH M.1).2 ≤ 100000 ∧ (am_SH M.1).1 = 24 then some (.ref M.1 :: st, am_make M) else none
  | .multianewarray ix dm, 4, .int k :: .int n :: st => if dm = 2 ∧ ((μ.1 = 4 ∧ ix = 11) ∨ (μ.1 = 2 ∧ ix = 24)) ∧ ¬ n < 0 ∧ ¬ k < 0 ∧ (am_SH M.1).1 = 25 ∧ n.toNatClampNeg = (am_SH M.1).2 ∧ (am_SH M.1).2 ≤ 1003 ∧ k.toNatClampNeg ≤ 1003 ∧ (List.range (am_SH M.1).2).all (fun j => am_SH (M.1 + 1 + j) == (20, k.toNatClampNeg)) = true then some (.ref M.1 :: st, am_many M (am_SH M.1).2) else none
  | _, _, _ => none
/-- returns -/
def am_ret (μ : am_MM) (i : Instr) (len : Nat) (st : List Value) : Option (Option Value) := match i, len, st with
  | .ireturn, 1, [.int x] => (match μ.2.2.2.2 with
    | some ty => if narrow ty (.int x) = .int x then some (some (.int x)) else none
    | none => none)
  | .lreturn, 1, [.long x] => if μ.2.2.2.2 = some .long then some (some (.long x)) else none
  | .return_, 1, [] => if μ.2.2.2.2 = none then some none else none
  | _, _, _ => none
/-- calls: the method, its arguments, the rest of the stack; or a step (Object.<init>, arraycopy) -/
def am_inv (μ : am_MM) (i : Instr) (len : Nat) (st : List Value) (M : am_M) : Option ((am_MM × List Value × List Value) ⊕ (List Value × am_M)) := match i, len with
  | .invokevirtual ix, 3 => (match am_lk μ.1 ix with
    | some (0, n, ν) => (match st.drop n with
      | .ref b :: r => if (st.take n).length = n ∧ am_sum r ≤ 8 ∧ ((Nat.blt b M.1 = true ∧ (am_SH b).1 < 13 ∧ am_own (am_SH b).1 = ν.2.1.cls) ∨ ((am_str b).isSome = true ∧ ν.2.1.cls = "java/lang/String")) then some (.inl (ν, .ref b :: (st.take n).reverse, r)) else none
      | _ => none)
    | _ => none)
  | .invokestatic ix, 3 => (match am_lk μ.1 ix with
    | some (1, n, ν) => if (st.take n).length = n ∧ am_sum (st.drop n) ≤ 8 then some (.inl (ν, (st.take n).reverse, st.drop n)) else none
    | some (6, _, _) => (match st with
      | .int y :: .int x :: r => if am_sum r ≤ 8 then some (.inr (.int (if x < y then y else x) :: r, M)) else none
      | _ => none)
    | some (7, _, _) => (match st with
      | .int y :: .int x :: r => if am_sum r ≤ 8 then some (.inr (.int (if y < x then y else x) :: r, M)) else none
      | _ => none)
    | some (8, _, _) => (match st with
      | .int x :: r => if am_sum r ≤ 8 then some (.inr (.int (if 0 ≤ x then x else 0 - x) :: r, M)) else none
      | _ => none)
    | some (5, _, _) => (match st with
      | .int n :: .int dp :: .ref b :: .int sp :: .ref a :: r => if am_is M a 20 = true ∧ am_is M b 20 = true ∧ ¬ sp < 0 ∧ ¬ dp < 0 ∧ ¬ n < 0 ∧ sp.toNatClampNeg + n.toNatClampNeg ≤ (am_SH a).2 ∧ dp.toNatClampNeg + n.toNatClampNeg ≤ (am_SH b).2 ∧ am_sum r ≤ 8 then some (.inr (r, am_copy M a b sp.toNatClampNeg dp.toNatClampNeg n.toNatClampNeg)) else none
      | _ => none)
    | _ => none)
  | .invokespecial ix, 3 => (match am_lk μ.1 ix with
    | some (2, n, ν) => (match st.drop n with
      | .ref b :: r => if (st.take n).length = n ∧ am_sum r ≤ 8 then some (.inl (ν, .ref b :: (st.take n).reverse, r)) else none
      | _ => none)
    | some (3, n, ν) => (match st.drop n with
      | .ref b :: r => if (st.take n).length = n ∧ am_sum r ≤ 8 then some (.inl (ν, .ref b :: (st.take n).reverse, r)) else none
      | _ => none)
    | some (4, _, _) => (match st with
      | .ref _ :: r => if am_sum r ≤ 8 then some (.inr (r, M)) else none
      | _ => none)
    | _ => none)
  | _, _ => none
/-- one step -/
def am_stp (X : am_X) (μ : am_MM) (pc : Nat) (i : Instr) (len : Nat) (ls : am_LS) (st : List Value) (M : am_M) : Option am_R :=
  match am_pure i len st with
  | some st' => some (.inl (pc + len, ls, st', M))
  | none => match am_load i len ls with
    | some v => some (.inl (pc + len, ls, v :: st, M))
    | none => match am_store i len ls st with
      | some (ls', st') => some (.inl (pc + len, ls', st', M))
      | none => match am_jump i len pc st with
        | some (t, st') => some (.inl (t, ls, st', M))
        | none => match am_read X μ.1 i len st M with
          | some st' => some (.inl (pc + len, ls, st', M))
          | none => match am_write μ i len st M with
            | some (st', M') => if M'.1 ≤ 1003 then some (.inl (pc + len, ls, st', M')) else none
            | none => match am_ret μ i len st with
              | some v => some (.inr (.inl v))
              | none => match am_inv μ i len st M with
                | some (.inl q) => some (.inr (.inr q))
                | some (.inr (st', M')) => some (.inl (pc + len, ls, st', M'))
                | none => none
def am_run (X : am_X) : Nat → Nat → am_MM → Nat → am_LS → List Value → am_M → Option (Option Value × am_M)
  | 0, _, _, _, _, _, _ => none
  | f + 1, d, μ, pc, ls, st, M => match decode μ.2.2.1 pc with
    | .error _ => none
    | .ok (i, len) => match am_stp X μ pc i len ls st M with
      | none => none
      | some (.inl (pc', ls', st', M')) => am_run X f d μ pc' ls' st' M'
      | some (.inr (.inl v)) => some (v, M)
      | some (.inr (.inr (ν, as, st'))) => match d with
        | 0 => none
        | d' + 1 => if ν.2.2.2.1 < (am_args as).length then none else match am_run X f d' ν 0 (am_en as ν.2.2.2.1) [] M with
          | none => none
          | some (v, M') => am_run X f (d' + 1) μ (pc + 3) ls (v.toList ++ st') M'
