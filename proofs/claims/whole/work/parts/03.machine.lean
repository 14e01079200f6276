/-! THE PLAIN MACHINE: the bytecode over a flat memory with addresses that are numbers; it stops (none) wherever the real one might do otherwise. Part 05 says that what it answers the real one answers. -/
/-- the heap: the shape of each cell (a class below 20 and its fields, or 20 + the kind of array and its length), ints, longs, references. Addresses 0 .. 63 are what was there before: 0 the script, 1, 2 the static tables, 3 a formatter, 4 .. 31 the texts, 36 .. 63 their bytes -/
abbrev am_H : Type := List (Nat × Nat) × (Nat → Nat → Int32) × (Nat → Nat → Int64) × (Nat → Nat → Option Nat)
/-- the script's length and contents; whether the formatter is null -/
abbrev am_Pr : Type := Nat × (Nat → Int32) × Bool
def am_u {α : Type} (f : Nat → Nat → α) (a k : Nat) (v : α) : Nat → Nat → α := fun b j => if b = a ∧ j = k then v else f b j
def am_row {α : Type} (f : Nat → Nat → α) (a : Nat) (g : Nat → α) : Nat → Nat → α := fun b => if b = a then g else f b
/-- an entry of a class as one number -/
def am_key (cn k : Nat) : Nat := if k < 10000 then cn * 10000 + k else 9999999
def am_cat (l : List Value) : Nat := (l.map fun v => v.category).sum
/-- a local of one word, of two words -/
def am_ld1 : List (Nat × Value) → Nat → Option Value
  | [], _ => none
  | q :: r, i => if q.1 = i then some q.2 else if q.2.category = 2 ∧ q.1 + 1 = i then none else am_ld1 r i
def am_ld2 : List (Nat × Value) → Nat → Option Value
  | [], _ => none
  | q :: r, i => if q.1 = i then some q.2 else if q.1 = i + 1 ∨ (q.2.category = 2 ∧ q.1 + 1 = i) then none else am_ld2 r i
/-- kinds of fields: 0 int, 1 long, 2 reference, 3 boolean -/
def am_kd : FieldType → Nat
  | .int => 0
  | .long => 1
  | .boolean => 3
  | .object _ => 2
  | .array _ => 2
  | _ => 9
def am_fv (σ : am_H) (a ty k : Nat) : Value := match ty with
  | 1 => .long (σ.2.2.1 a k)
  | 2 => va_rf (σ.2.2.2 a k)
  | _ => .int (σ.2.1 a k)
def am_sar (pr : am_Pr) (a : Nat) : Option (Nat × Nat × (Nat → Int32)) := match a with
  | 0 => some (20, pr.1, pr.2.1)
  | 1 => some (20, 4, fun j => [999, 10, 9, 99].getD j 0)
  | 2 => some (20, 8, fun j => [1, 1, 2, 6, 24, 120, 720, 5040].getD j 0)
  | a => if 36 ≤ a ∧ a < 64 then some (22, (am_tb.getD (a - 36) []).length, fun j => (am_tb.getD (a - 36) []).getD j 0) else none
/-- an array's kind and length -/
def am_arr (pr : am_Pr) (σ : am_H) (a : Nat) : Option (Nat × Nat) := if a < 64 then (am_sar pr a).map (fun q => (q.1, q.2.1)) else σ.1[a]?
def am_tgt (pc : Nat) (off : Int) : Option Nat := if 0 ≤ (pc : Int) + off then some ((pc : Int) + off).toNat else none
abbrev am_Cf : Type := Nat × List (Nat × Value) × List Value × am_H
def am_br (b : Bool) (pc : Nat) (off : Int) (lv : List (Nat × Value)) (st : List Value) (σ : am_H) : Option am_Cf :=
  match am_tgt pc off with
  | some t => if b then some (t, lv, st, σ) else some (pc + 3, lv, st, σ)
  | none => none
def am_push (σ : am_H) (c n : Nat) : am_H := (σ.1 ++ [(c, n)], am_row σ.2.1 σ.1.length (fun _ => 0), am_row σ.2.2.1 σ.1.length (fun _ => 0), am_row σ.2.2.2 σ.1.length (fun _ => none))
def am_at : ArrayType → Option Nat
  | .int => some 20
  | .boolean => some 21
  | .byte => some 22
  | .long => some 23
  | _ => none
/-- an index within a length -/
def am_in (i : Int32) (n : Nat) : Bool := decide (¬ i < 0) && decide (i.toNatClampNeg < n)
/-- the store of a field: the new heap -/
def am_putf (σ : am_H) (a ci k : Nat) (v : Value) : Option am_H := match am_kd (am_ty ci k), v with
  | 0, .int x => some (σ.1, am_u σ.2.1 a k x, σ.2.2.1, σ.2.2.2)
  | 3, .int x => if x = 0 ∨ x = 1 then some (σ.1, am_u σ.2.1 a k x, σ.2.2.1, σ.2.2.2) else none
  | 1, .long x => some (σ.1, σ.2.1, am_u σ.2.2.1 a k x, σ.2.2.2)
  | 2, .ref b => some (σ.1, σ.2.1, σ.2.2.1, am_u σ.2.2.2 a k (some b))
  | 2, .null => some (σ.1, σ.2.1, σ.2.2.1, am_u σ.2.2.2 a k none)
  | _, _ => none
/-- an instruction that is no call and no return; cn: the method's class, mx: its locals, ini: whether it is a constructor -/
def am_st1 (pr : am_Pr) (cn mx : Nat) (ini : Bool) (pc : Nat) (lv : List (Nat × Value)) (st : List Value) (σ : am_H) : Instr → Nat → Option am_Cf
  | .iconst n, len => if len = 1 then some (pc + 1, lv, .int (Int32.ofInt n) :: st, σ) else none
  | .bipush n, len => if len = 2 then some (pc + 2, lv, .int (Int8.ofInt n).toInt32 :: st, σ) else none
  | .sipush n, len => if len = 3 then some (pc + 3, lv, .int (Int16.ofInt n).toInt32 :: st, σ) else none
  | .lconst n, len => if len = 1 then some (pc + 1, lv, .long (Int64.ofNat (n : Nat)) :: st, σ) else none
  | .aconst_null, len => if len = 1 then some (pc + 1, lv, .null :: st, σ) else none
  | .iload_n k, len => if len = 1 then (match am_ld1 lv (k : Nat) with | some (.int x) => some (pc + 1, lv, .int x :: st, σ) | _ => none) else none
  | .iload i, len => if len = 2 then (match am_ld1 lv i with | some (.int x) => some (pc + 2, lv, .int x :: st, σ) | _ => none) else none
  | .lload_n k, len => if len = 1 then (match am_ld2 lv (k : Nat) with | some (.long x) => some (pc + 1, lv, .long x :: st, σ) | _ => none) else none
  | .lload i, len => if len = 2 then (match am_ld2 lv i with | some (.long x) => some (pc + 2, lv, .long x :: st, σ) | _ => none) else none
  | .aload_n k, len => if len = 1 then (match am_ld1 lv (k : Nat) with | some (.ref x) => some (pc + 1, lv, .ref x :: st, σ) | some .null => some (pc + 1, lv, .null :: st, σ) | _ => none) else none
  | .aload i, len => if len = 2 then (match am_ld1 lv i with | some (.ref x) => some (pc + 2, lv, .ref x :: st, σ) | some .null => some (pc + 2, lv, .null :: st, σ) | _ => none) else none
  | .istore_n k, len => if len = 1 ∧ (k : Nat) < mx then (match st with | .int x :: r => some (pc + 1, ((k : Nat), .int x) :: lv, r, σ) | _ => none) else none
  | .istore i, len => if len = 2 ∧ i < mx then (match st with | .int x :: r => some (pc + 2, (i, .int x) :: lv, r, σ) | _ => none) else none
  | .lstore_n k, len => if len = 1 ∧ (k : Nat) + 1 < mx then (match st with | .long x :: r => some (pc + 1, ((k : Nat), .long x) :: lv, r, σ) | _ => none) else none
  | .lstore i, len => if len = 2 ∧ i + 1 < mx then (match st with | .long x :: r => some (pc + 2, (i, .long x) :: lv, r, σ) | _ => none) else none
  | .astore_n k, len => if len = 1 ∧ (k : Nat) < mx then (match st with | .ref x :: r => some (pc + 1, ((k : Nat), .ref x) :: lv, r, σ) | .null :: r => some (pc + 1, ((k : Nat), .null) :: lv, r, σ) | _ => none) else none
  | .astore i, len => if len = 2 ∧ i < mx then (match st with | .ref x :: r => some (pc + 2, (i, .ref x) :: lv, r, σ) | .null :: r => some (pc + 2, (i, .null) :: lv, r, σ) | _ => none) else none
  | .iinc i n, len => if len = 3 ∧ i < mx then (match am_ld1 lv i with | some (.int x) => some (pc + 3, (i, .int (x + Int32.ofInt n)) :: lv, st, σ) | _ => none) else none
  | .iadd, len => if len = 1 then (match st with | .int y :: .int x :: r => some (pc + 1, lv, .int (x + y) :: r, σ) | _ => none) else none
  | .isub, len => if len = 1 then (match st with | .int y :: .int x :: r => some (pc + 1, lv, .int (x - y) :: r, σ) | _ => none) else none
  | .imul, len => if len = 1 then (match st with | .int y :: .int x :: r => some (pc + 1, lv, .int (x * y) :: r, σ) | _ => none) else none
  | .idiv, len => if len = 1 then (match st with | .int y :: .int x :: r => if y = 0 then none else some (pc + 1, lv, .int (x / y) :: r, σ) | _ => none) else none
  | .irem, len => if len = 1 then (match st with | .int y :: .int x :: r => if y = 0 then none else some (pc + 1, lv, .int (x - x / y * y) :: r, σ) | _ => none) else none
  | .iand, len => if len = 1 then (match st with | .int y :: .int x :: r => some (pc + 1, lv, .int (x &&& y) :: r, σ) | _ => none) else none
  | .ior, len => if len = 1 then (match st with | .int y :: .int x :: r => some (pc + 1, lv, .int (x ||| y) :: r, σ) | _ => none) else none
  | .ixor, len => if len = 1 then (match st with | .int y :: .int x :: r => some (pc + 1, lv, .int (x ^^^ y) :: r, σ) | _ => none) else none
  | .ishl, len => if len = 1 then (match st with | .int y :: .int x :: r => some (pc + 1, lv, .int (x <<< (y &&& 31)) :: r, σ) | _ => none) else none
  | .ishr, len => if len = 1 then (match st with | .int y :: .int x :: r => some (pc + 1, lv, .int (x >>> (y &&& 31)) :: r, σ) | _ => none) else none
  | .iushr, len => if len = 1 then (match st with | .int y :: .int x :: r => some (pc + 1, lv, .int ((x.toUInt32 >>> (y.toUInt32 &&& Int32.toUInt32 31)).toInt32) :: r, σ) | _ => none) else none
  | .ineg, len => if len = 1 then (match st with | .int x :: r => some (pc + 1, lv, .int (-x) :: r, σ) | _ => none) else none
  | .ladd, len => if len = 1 then (match st with | .long y :: .long x :: r => some (pc + 1, lv, .long (x + y) :: r, σ) | _ => none) else none
  | .lsub, len => if len = 1 then (match st with | .long y :: .long x :: r => some (pc + 1, lv, .long (x - y) :: r, σ) | _ => none) else none
  | .lmul, len => if len = 1 then (match st with | .long y :: .long x :: r => some (pc + 1, lv, .long (x * y) :: r, σ) | _ => none) else none
  | .ldiv, len => if len = 1 then (match st with | .long y :: .long x :: r => if y = 0 then none else some (pc + 1, lv, .long (x / y) :: r, σ) | _ => none) else none
  | .lrem, len => if len = 1 then (match st with | .long y :: .long x :: r => if y = 0 then none else some (pc + 1, lv, .long (x - x / y * y) :: r, σ) | _ => none) else none
  | .lcmp, len => if len = 1 then (match st with | .long y :: .long x :: r => some (pc + 1, lv, .int (lg_cmp x y) :: r, σ) | _ => none) else none
  | .i2l, len => if len = 1 then (match st with | .int x :: r => some (pc + 1, lv, .long x.toInt64 :: r, σ) | _ => none) else none
  | .l2i, len => if len = 1 then (match st with | .long x :: r => some (pc + 1, lv, .int x.toInt32 :: r, σ) | _ => none) else none
  | .i2b, len => if len = 1 then (match st with | .int x :: r => some (pc + 1, lv, .int x.toInt8.toInt32 :: r, σ) | _ => none) else none
  | .i2c, len => if len = 1 then (match st with | .int x :: r => some (pc + 1, lv, .int (x.toUInt32 % 65536).toInt32 :: r, σ) | _ => none) else none
  | .dup, len => if len = 1 then (match st with | v :: r => if v.category = 1 then some (pc + 1, lv, v :: v :: r, σ) else none | _ => none) else none
  | .pop, len => if len = 1 then (match st with | v :: r => if v.category = 1 then some (pc + 1, lv, r, σ) else none | _ => none) else none
  | .dup2, len => if len = 1 then (match st with | v :: w :: r => if v.category = 1 ∧ w.category = 1 then some (pc + 1, lv, v :: w :: v :: w :: r, σ) else none | _ => none) else none
  | .goto off, len => if len = 3 then (am_tgt pc off).map (fun t => (t, lv, st, σ)) else none
  | .ifCond c off, len => if len = 3 then (match st with | .int x :: r => am_br (match c with | .eq => decide (x = 0) | .ne => decide (¬ x = 0) | .lt => decide (x < 0) | .ge => decide (0 ≤ x) | .gt => decide (0 < x) | .le => decide (x ≤ 0)) pc off lv r σ | _ => none) else none
  | .if_icmp c off, len => if len = 3 then (match st with | .int y :: .int x :: r => am_br (match c with | .eq => decide (x = y) | .ne => decide (¬ x = y) | .lt => decide (x < y) | .ge => decide (y ≤ x) | .gt => decide (y < x) | .le => decide (x ≤ y)) pc off lv r σ | _ => none) else none
  | .ifnull off, len => if len = 3 then (match st with | .null :: r => am_br true pc off lv r σ | .ref _ :: r => am_br false pc off lv r σ | _ => none) else none
  | .ifnonnull off, len => if len = 3 then (match st with | .null :: r => am_br false pc off lv r σ | .ref _ :: r => am_br true pc off lv r σ | _ => none) else none
  | .tableswitch dflt lo hi offs, _ => (match st with | .int x :: r => (if x.toInt < lo ∨ hi < x.toInt then am_tgt pc dflt else (offs[(x.toInt - lo).toNat]?).bind (am_tgt pc)).map (fun t => (t, lv, r, σ)) | _ => none)
  | .lookupswitch dflt ps, _ => (match st with | .int x :: r => if (ps.toList.zip (ps.toList.drop 1)).all (fun (a, next) => a.1 < next.1) = true then (am_tgt pc (Op.lookupswitch.offset ps.toList dflt x.toInt)).map (fun t => (t, lv, r, σ)) else none | _ => none)
  | .ldc k, len => if len = 2 then (match am_il.lookup (am_key cn k) with
      | some q => some (pc + 2, lv, .int q.1 :: st, σ)
      | none => (match am_tl.lookup (am_key cn k) with | some i => some (pc + 2, lv, .ref (4 + i) :: st, σ) | none => none)) else none
  | .ldc_w k, len => if len = 3 then (match am_il.lookup (am_key cn k) with | some q => some (pc + 3, lv, .int q.1 :: st, σ) | none => none) else none
  | .ldc2_w k, len => if len = 3 then (match am_jl.lookup (am_key cn k) with | some q => some (pc + 3, lv, .long q.1 :: st, σ) | none => none) else none
  | .getstatic k, len => if len = 3 then (match am_key cn k with
      | 21 => some (pc + 3, lv, .ref 1 :: st, σ)
      | 80158 => some (pc + 3, lv, .ref 1 :: st, σ)
      | 80392 => some (pc + 3, lv, .ref 2 :: st, σ)
      | 130038 => some (pc + 3, lv, .int 1 :: st, σ)
      | 131053 => some (pc + 3, lv, (if pr.2.2 then .null else .ref 3) :: st, σ)
      | _ => none) else none
  | .getfield k, len => if len = 3 then (match st with
      | .ref a :: r => (match am_fl.lookup (am_key cn k) with
          | some q => if 64 ≤ a ∧ σ.1[a]? = some (q.1, am_nf q.1) then some (pc + 3, lv, am_fv σ a (am_kd (am_ty q.1 q.2.1)) q.2.1 :: r, σ) else none
          | none => (match am_key cn k with
            | 130009 => if 4 ≤ a ∧ a < 32 then some (pc + 3, lv, .ref (a + 32) :: r, σ) else none
            | 130015 => if 4 ≤ a ∧ a < 32 then some (pc + 3, lv, .int 0 :: r, σ) else none
            | _ => none))
      | _ => none) else none
  | .putfield k, len => if len = 3 then (match st with
      | v :: .ref a :: r => (match am_fl.lookup (am_key cn k) with
          | some q => if 64 ≤ a ∧ σ.1[a]? = some (q.1, am_nf q.1) ∧ ((am_T q.1 q.2.1).2.2.2 = true → ini = true ∧ q.1 = cn) then (am_putf σ a q.1 q.2.1 v).map (fun τ => (pc + 3, lv, r, τ)) else none
          | none => none)
      | _ => none) else none
  | .iaload, len => if len = 1 then (match st with
      | .int i :: .ref a :: r => (match am_arr pr σ a with
          | some (20, n) => if am_in i n then some (pc + 1, lv, .int (if a < 64 then ((am_sar pr a).getD (0, 0, fun _ => 0)).2.2 i.toNatClampNeg else σ.2.1 a i.toNatClampNeg) :: r, σ) else none
          | _ => none)
      | _ => none) else none
  | .baload, len => if len = 1 then (match st with
      | .int i :: .ref a :: r => (match am_arr pr σ a with
          | some (21, n) => if 64 ≤ a ∧ am_in i n = true then some (pc + 1, lv, .int (σ.2.1 a i.toNatClampNeg) :: r, σ) else none
          | some (22, n) => if am_in i n then some (pc + 1, lv, .int (if a < 64 then ((am_sar pr a).getD (0, 0, fun _ => 0)).2.2 i.toNatClampNeg else σ.2.1 a i.toNatClampNeg) :: r, σ) else none
          | _ => none)
      | _ => none) else none
  | .laload, len => if len = 1 then (match st with
      | .int i :: .ref a :: r => (match am_arr pr σ a with
          | some (23, n) => if 64 ≤ a ∧ am_in i n = true then some (pc + 1, lv, .long (σ.2.2.1 a i.toNatClampNeg) :: r, σ) else none
          | _ => none)
      | _ => none) else none
  | .aaload, len => if len = 1 then (match st with
      | .int i :: .ref a :: r => (match am_arr pr σ a with
          | some (24, n) => if 64 ≤ a ∧ am_in i n = true then some (pc + 1, lv, va_rf (σ.2.2.2 a i.toNatClampNeg) :: r, σ) else none
          | some (25, n) => if 64 ≤ a ∧ am_in i n = true then some (pc + 1, lv, va_rf (σ.2.2.2 a i.toNatClampNeg) :: r, σ) else none
          | _ => none)
      | _ => none) else none
  | .iastore, len => if len = 1 then (match st with
      | .int x :: .int i :: .ref a :: r => (match σ.1[a]? with
          | some (20, n) => if 64 ≤ a ∧ am_in i n = true then some (pc + 1, lv, r, (σ.1, am_u σ.2.1 a i.toNatClampNeg x, σ.2.2.1, σ.2.2.2)) else none
          | _ => none)
      | _ => none) else none
  | .bastore, len => if len = 1 then (match st with
      | .int x :: .int i :: .ref a :: r => (match σ.1[a]? with
          | some (21, n) => if 64 ≤ a ∧ am_in i n = true then some (pc + 1, lv, r, (σ.1, am_u σ.2.1 a i.toNatClampNeg (vp_nar .boolean x), σ.2.2.1, σ.2.2.2)) else none
          | some (22, n) => if 64 ≤ a ∧ am_in i n = true then some (pc + 1, lv, r, (σ.1, am_u σ.2.1 a i.toNatClampNeg (vp_nar .byte x), σ.2.2.1, σ.2.2.2)) else none
          | _ => none)
      | _ => none) else none
  | .lastore, len => if len = 1 then (match st with
      | .long x :: .int i :: .ref a :: r => (match σ.1[a]? with
          | some (23, n) => if 64 ≤ a ∧ am_in i n = true then some (pc + 1, lv, r, (σ.1, σ.2.1, am_u σ.2.2.1 a i.toNatClampNeg x, σ.2.2.2)) else none
          | _ => none)
      | _ => none) else none
  | .aastore, len => if len = 1 then (match st with
      | .ref b :: .int i :: .ref a :: r => (match σ.1[a]? with
          | some (24, n) => if 64 ≤ a ∧ am_in i n = true ∧ 64 ≤ b ∧ σ.1[b]? = some (0, am_nf 0) then some (pc + 1, lv, r, (σ.1, σ.2.1, σ.2.2.1, am_u σ.2.2.2 a i.toNatClampNeg (some b))) else none
          | some (25, n) => if 64 ≤ a ∧ am_in i n = true ∧ 64 ≤ b ∧ σ.1[b]? = some (6, am_nf 6) then some (pc + 1, lv, r, (σ.1, σ.2.1, σ.2.2.1, am_u σ.2.2.2 a i.toNatClampNeg (some b))) else none
          | _ => none)
      | .null :: .int i :: .ref a :: r => (match σ.1[a]? with
          | some (24, n) => if 64 ≤ a ∧ am_in i n = true then some (pc + 1, lv, r, (σ.1, σ.2.1, σ.2.2.1, am_u σ.2.2.2 a i.toNatClampNeg none)) else none
          | some (25, n) => if 64 ≤ a ∧ am_in i n = true then some (pc + 1, lv, r, (σ.1, σ.2.1, σ.2.2.1, am_u σ.2.2.2 a i.toNatClampNeg none)) else none
          | _ => none)
      | _ => none) else none
  | .arraylength, len => if len = 1 then (match st with
      | .ref a :: r => (match am_arr pr σ a with
          | some (k, n) => if 20 ≤ k ∧ k < 26 then some (pc + 1, lv, .int (Int32.ofNat n) :: r, σ) else none
          | none => none)
      | _ => none) else none
  | .newarray t, len => if len = 2 then (match st with
      | .int n :: r => (match am_at t with
          | some k => if ¬ n < 0 ∧ n.toNatClampNeg * 8 ≤ 536870912 then some (pc + 2, lv, .ref σ.1.length :: r, am_push σ k n.toNatClampNeg) else none
          | none => none)
      | _ => none) else none
  | .anewarray k, len => if len = 3 then (match st with
      | .int n :: r => (match am_kl.lookup (am_key cn k) with
          | some (0, _) => if ¬ n < 0 ∧ n.toNatClampNeg * 4 ≤ 536870912 then some (pc + 3, lv, .ref σ.1.length :: r, am_push σ 24 n.toNatClampNeg) else none
          | some (6, _) => if ¬ n < 0 ∧ n.toNatClampNeg * 4 ≤ 536870912 then some (pc + 3, lv, .ref σ.1.length :: r, am_push σ 25 n.toNatClampNeg) else none
          | _ => none)
      | _ => none) else none
  | .new k, len => if len = 3 then (match am_kl.lookup (am_key cn k) with
      | some q => some (pc + 3, lv, .ref σ.1.length :: st, am_push σ q.1 (am_nf q.1))
      | none => none) else none
  | _, _ => none
/-- the law is the last method of the table -/
def am_law : am_Me := (10, x, code, maxLocals, ret, 1, 1, 0, 0, 0)
def am_ms : List am_Me := am_mt ++ [am_law]
/-- what a return takes off the stack -/
def am_ret (ret : Option FieldType) (st : List Value) : Instr → Nat → Option (Option Value)
  | .return_, 1 => if ret = none ∧ st = [] then some none else none
  | .ireturn, 1 => (match st, ret with
      | [.int v], some ty => if narrow ty (.int v) = .int v ∧ (ty = .int ∨ ty = .boolean ∨ ty = .byte ∨ ty = .char) then some (some (.int v)) else none
      | _, _ => none)
  | .lreturn, 1 => (match st, ret with
      | [.long v], some .long => some (some (.long v))
      | _, _ => none)
  | .areturn, 1 => (match st, ret with
      | [.ref v], some (.object _) => some (some (.ref v))
      | [.null], some (.object _) => some (some .null)
      | _, _ => none)
  | _, _ => none
/-- the entry of a call's link: which it is -/
def am_cidx : Instr → Nat → Option (Nat × Nat)
  | .invokevirtual k, 3 => some (0, k)
  | .invokestatic k, 3 => some (1, k)
  | .invokespecial k, 3 => some (2, k)
  | _, _ => none
/-- whether a receiver is one of the class -/
def am_recv (σ : am_H) (c : Nat) : Value → Bool
  | .ref b => (decide (64 ≤ b) && decide (σ.1[b]? = some (c, am_nf c)) && decide (c < 10)) || (decide (c = 13) && decide (4 ≤ b) && decide (b < 32))
  | _ => false
/-- a call of the library's own: Object(), arraycopy, max, min -/
def am_nat (kind : Nat) (pc : Nat) (lv : List (Nat × Value)) (st : List Value) (σ : am_H) : Option am_Cf := match kind, st with
  | 4, .ref _ :: r => if am_cat r ≤ 8 then some (pc + 3, lv, r, σ) else none
  | 5, .int n :: .int dp :: .ref a :: .int sp :: .ref a0 :: r => (match σ.1[a0]?, σ.1[a]? with
      | some (20, n0), some (20, n1) => if 64 ≤ a ∧ 64 ≤ a0 ∧ am_cat r ≤ 8 ∧ ¬ sp < 0 ∧ ¬ dp < 0 ∧ ¬ n < 0 ∧ sp.toNatClampNeg + n.toNatClampNeg ≤ n0 ∧ dp.toNatClampNeg + n.toNatClampNeg ≤ n1 then some (pc + 3, lv, r, (σ.1, am_row σ.2.1 a (va_cpy (σ.2.1 a0) (σ.2.1 a) sp.toNatClampNeg dp.toNatClampNeg n.toNatClampNeg), σ.2.2.1, σ.2.2.2)) else none
      | _, _ => none)
  | 6, .int y :: .int x :: r => if am_cat r ≤ 8 then some (pc + 3, lv, .int (if x < y then y else x) :: r, σ) else none
  | 7, .int y :: .int x :: r => if am_cat r ≤ 8 then some (pc + 3, lv, .int (if y < x then y else x) :: r, σ) else none
  | _, _ => none
/-- how many values a call takes off the stack; whether it can be made -/
def am_k (ck : Nat) (N : am_Me) : Nat := (if ck = 1 then 0 else 1) + N.2.2.2.2.2.1
def am_cok (ck kind : Nat) (N : am_Me) (st : List Value) (σ : am_H) : Bool :=
  decide (ck = if kind = 3 then 1 else kind) && decide (am_k ck N ≤ st.length) && decide (am_cat (st.drop (am_k ck N)) ≤ 8) && decide (am_cat (st.take (am_k ck N)).reverse ≤ N.2.2.2.1) && (match ck, (st.take (am_k ck N)).reverse with
    | 0, v :: _ => am_recv σ N.1 v
    | 1, _ => true
    | 2, .ref _ :: _ => true
    | _, _ => false)
/-- the machine: n steps at most, calls d deep at most -/
def am_run (pr : am_Pr) : Nat → Nat → Nat → Nat → List (Nat × Value) → List Value → am_H → Option (Option Value × am_H)
  | 0, _, _, _, _, _, _ => none
  | n + 1, d, mi, pc, lv, st, σ => match am_ms[mi]? with
    | none => none
    | some M => match decode M.2.2.1 pc with
      | .error _ => none
      | .ok (ins, len) => match am_ret M.2.2.2.2.1 st ins len with
        | some r => some (r, σ)
        | none => match am_cidx ins len with
          | none => (match am_st1 pr M.1 M.2.2.2.1 (decide (M.2.1.name = "<init>")) pc lv st σ ins len with
              | some c => am_run pr n d mi c.1 c.2.1 c.2.2.1 c.2.2.2
              | none => none)
          | some (ck, k) => match d, am_ml.lookup (am_key M.1 k) with
            | d + 1, some (mj, kind, _) =>
              if 4 ≤ kind then
                (if (kind = 4 ∧ ck = 2) ∨ (5 ≤ kind ∧ ck = 1) then (match am_nat kind pc lv st σ with
                  | some c => am_run pr n (d + 1) mi c.1 c.2.1 c.2.2.1 c.2.2.2
                  | none => none) else none)
              else (match am_mt[mj]? with
                | none => none
                | some N =>
                  if am_cok ck kind N st σ = true then
                    (match am_run pr n d mj 0 (lv_args 0 (st.take (am_k ck N)).reverse) [] σ with
                      | some (r, τ) => am_run pr n (d + 1) mi (pc + 3) lv (r.toList ++ st.drop (am_k ck N)) τ
                      | none => none)
                  else none)
            | _, _ => none
