/-! THE ENGINE: a machine over lists, run by the kernel. A value of it is a Value, read so: .int, .long, .null as they are; .ref k: the k-th cell that the law has made; .retAddr j: the j-th int of the script; .float 0: some int; .float 1: the script; .float 2: the class's one String constant; .float 3: its bytes; .float 4: a reference of which nothing is known -/
abbrev eg_C : Type := (Nat × List Value) ⊕ (Nat × List Value)
abbrev eg_L : Type := List (Nat × Value)
abbrev eg_R : Type := Nat × eg_L × List Value × List eg_C
/-- the method's place, its class, depth left, cells and slots left, pc, locals, stack, heap -/
abbrev eg_F : Type := Nat → Nat → Nat → Nat → Nat → Nat → eg_L → List Value → List eg_C → Option eg_R
def eg_md (u : Nat) : MethodName × ByteArray × Nat × Option FieldType := match Nat.beq u 9999 with
  | true => (x, code, maxLocals, ret)
  | false => match lw_tbl[u]? with
    | some (.code y b n r) => (y, b, n, r)
    | _ => (⟨"", "", ""⟩, ⟨#[]⟩, 0, none)
def eg_find {α : Type} (k : Nat) : List (Nat × α) → Option α
  | [] => none
  | q :: l => match Nat.beq q.1 k with
    | true => some q.2
    | false => eg_find k l
def eg_bud (u : Nat) : Nat × Nat := match eg_find u eg_bl with
  | some q => q
  | none => (0, 0)
def eg_nth {α : Type} : List α → Nat → Option α
  | [], _ => none
  | a :: _, 0 => some a
  | _ :: l, k + 1 => eg_nth l k
def eg_put {α : Type} : List α → Nat → α → List α
  | [], _, _ => []
  | _ :: l, 0, v => v :: l
  | a :: l, k + 1, v => a :: eg_put l k v
def eg_at {α : Type} (o : Nat) (t : List (List (Nat × α))) (k : Nat) : Option α := match eg_nth t o with
  | some l => eg_find k l
  | none => none
def eg_isI : Value → Bool
  | .int _ => true
  | .retAddr _ => true
  | .float w => w == 0
  | _ => false
def eg_isJ : Value → Bool
  | .long _ => true
  | _ => false
def eg_isA : Value → Bool
  | .ref _ => true
  | .float w => w == 1 || w == 2 || w == 3
  | _ => false
def eg_isQ : Value → Bool
  | .ref _ => true
  | .null => true
  | .float w => w == 1 || w == 2 || w == 3 || w == 4
  | _ => false
/-- loads: (kind, index) -/
def eg_ldk (i : Instr) (len : Nat) : Option (Nat × Nat) := match i with
  | .iload_n k => bif Nat.beq len 1 then some (0, k.val) else none
  | .iload k => bif Nat.beq len 2 then some (0, k) else none
  | .lload_n k => bif Nat.beq len 1 then some (1, k.val) else none
  | .lload k => bif Nat.beq len 2 then some (1, k) else none
  | .aload_n k => bif Nat.beq len 1 then some (2, k.val) else none
  | .aload k => bif Nat.beq len 2 then some (2, k) else none
  | _ => none
def eg_ld (i : Instr) (len : Nat) (ls : eg_L) : Option Value := match eg_ldk i len with
  | some (t, k) => match eg_find k ls with
    | some v => bif (match t with
      | 0 => eg_isI v
      | 1 => eg_isJ v
      | _ => eg_isA v) then some v else none
    | none => none
  | none => none
/-- constants -/
def eg_cn (o : Nat) (i : Instr) (len : Nat) : Option Value := match i with
  | .iconst n => bif Nat.beq len 1 then some (.int (Int32.ofInt n)) else none
  | .bipush n => bif Nat.beq len 2 then some (.int (Int8.ofInt n).toInt32) else none
  | .sipush n => bif Nat.beq len 3 then some (.int (Int16.ofInt n).toInt32) else none
  | .lconst n => bif Nat.beq len 1 then some (.long (Int64.ofNat n.val)) else none
  | .ldc k => bif Nat.beq len 2 then (match eg_at o eg_kx k with
    | some (.int v, _) => some (.int v)
    | _ => bif Nat.beq o 8 && Nat.beq k 52 then some (.float 2) else none) else none
  | .ldc_w k => bif Nat.beq len 3 then (match eg_at o eg_kx k with
    | some (.int v, _) => some (.int v)
    | _ => none) else none
  | .ldc2_w k => bif Nat.beq len 3 then (match eg_at o eg_kx k with
    | some (.long v, _) => some (.long v)
    | _ => none) else none
  | _ => none
/-- two numbers, the upper one first -/
def eg_ii (f : Int32 → Int32 → Int32) : Value → Value → Option Value
  | .int y, .int x => some (.int (f x y))
  | _, _ => none
def eg_iz (f : Int32 → Int32 → Int32) : Value → Value → Option Value
  | .int y, .int x => if y = 0 then none else some (.int (f x y))
  | _, _ => none
def eg_it (f : Int32 → Int32 → Int32) : Value → Value → Option Value
  | .int y, .int x => some (.int (f x y))
  | .int _, .retAddr _ => some (.float 0)
  | _, _ => none
def eg_ll (f : Int64 → Int64 → Int64) : Value → Value → Option Value
  | .long y, .long x => some (.long (f x y))
  | _, _ => none
def eg_li (f : Int64 → Int32 → Int64) : Value → Value → Option Value
  | .int y, .long x => some (.long (f x y))
  | _, _ => none
def eg_b2 (i : Instr) (y x : Value) : Option Value := match i with
  | .iadd => eg_ii (fun x y => x + y) y x
  | .isub => eg_ii (fun x y => x - y) y x
  | .imul => eg_ii (fun x y => x * y) y x
  | .iand => eg_ii (fun x y => x &&& y) y x
  | .ior => eg_ii (fun x y => x ||| y) y x
  | .ixor => eg_ii (fun x y => x ^^^ y) y x
  | .idiv => eg_iz (fun x y => x / y) y x
  | .irem => eg_iz (fun x y => x - x / y * y) y x
  | .ishl => eg_ii (fun x y => x <<< (y &&& 31)) y x
  | .ishr => eg_it (fun x y => x >>> (y &&& 31)) y x
  | .iushr => eg_it (fun x y => (x.toUInt32 >>> (y.toUInt32 &&& Int32.toUInt32 31)).toInt32) y x
  | .ladd => eg_ll (fun x y => x + y) y x
  | .lsub => eg_ll (fun x y => x - y) y x
  | .lmul => eg_ll (fun x y => x * y) y x
  | .land => eg_ll (fun x y => x &&& y) y x
  | .lor => eg_ll (fun x y => x ||| y) y x
  | .lxor => eg_ll (fun x y => x ^^^ y) y x
  | .lshl => eg_li (fun x y => x <<< (y.toInt64 &&& 63)) y x
  | .lshr => eg_li (fun x y => x >>> (y.toInt64 &&& 63)) y x
  | .lushr => eg_li (fun x y => (x.toUInt64 >>> (y.toInt64.toUInt64 &&& Int64.toUInt64 63)).toInt64) y x
  | .lcmp => (match y, x with
    | .long y, .long x => some (.int (lg_cmp x y))
    | _, _ => none)
  | _ => none
/-- one number -/
def eg_b1 (i : Instr) (x : Value) : Option Value := match i with
  | .ineg => (match x with
    | .int x => some (.int (-x))
    | _ => none)
  | .i2l => (match x with
    | .int x => some (.long x.toInt64)
    | _ => none)
  | .l2i => (match x with
    | .long x => some (.int x.toInt32)
    | _ => none)
  | .i2b => (match x with
    | .int x => some (.int x.toInt8.toInt32)
    | .float w => bif w == 0 then some (.float 0) else none
    | _ => none)
  | .i2c => (match x with
    | .int x => some (.int (x.toUInt32 % 65536).toInt32)
    | _ => none)
  | _ => none
def eg_is1 (v : Value) : Bool := Nat.beq v.category 1
/-- the stack alone; all of length 1 -/
def eg_alu (i : Instr) (len : Nat) (st : List Value) : Option (List Value) := bif Nat.beq len 1 then (match st with
  | y :: st => match eg_b1 i y with
    | some v => some (v :: st)
    | none => match i with
      | .dup => bif eg_is1 y then some (y :: y :: st) else none
      | .pop => bif eg_is1 y then some st else none
      | _ => match st with
        | x :: st => match eg_b2 i y x with
          | some v => some (v :: st)
          | none => match i with
            | .dup_x1 => bif eg_is1 y && eg_is1 x then some (y :: x :: y :: st) else none
            | .dup2 => bif eg_is1 y && eg_is1 x then some (y :: x :: y :: x :: st) else none
            | _ => none
        | [] => none
  | [] => none) else none
/-- what an int may be -/
def eg_rng (en : List (Int × Int)) : Value → Option (Int × Int)
  | .int v => some (v.toInt, v.toInt)
  | .retAddr j => eg_nth en j
  | _ => none
def eg_lt (a b : Int × Int) : Option Bool := if a.2 < b.1 then some true else if b.2 ≤ a.1 then some false else none
def eg_eq (a b : Int × Int) : Option Bool := if a.2 < b.1 then some false else if b.2 < a.1 then some false else if a.1 = a.2 ∧ b.1 = b.2 ∧ a.1 = b.1 then some true else none
def eg_cmp (en : List (Int × Int)) (c : ClassFile.Cond) (x y : Value) : Option Bool := match eg_rng en x with
  | some a => match eg_rng en y with
    | some b => match c with
      | .eq => eg_eq a b
      | .ne => (eg_eq a b).map (fun z => !z)
      | .lt => eg_lt a b
      | .ge => (eg_lt a b).map (fun z => !z)
      | .gt => eg_lt b a
      | .le => (eg_lt b a).map (fun z => !z)
    | none => none
  | none => none
def eg_tgt (pc : Nat) (off : Int) : Option Nat := match (pc : Int) + off with
  | .ofNat t => some t
  | .negSucc _ => none
def eg_go (pc : Nat) (off : Int) (st : List Value) : Option (Nat × List Value) := match eg_tgt pc off with
  | some t => some (t, st)
  | none => none
def eg_br (pc : Nat) (off : Int) (st : List Value) : Option Bool → Option (Nat × List Value)
  | some true => eg_go pc off st
  | some false => some (pc + 3, st)
  | none => none
def eg_jmp (en : List (Int × Int)) (pc : Nat) (i : Instr) (len : Nat) (st : List Value) : Option (Nat × List Value) := match i with
  | .goto off => bif Nat.beq len 3 then eg_go pc off st else none
  | .ifCond c off => bif Nat.beq len 3 then (match st with
    | x :: st => eg_br pc off st (eg_cmp en c x (.int 0))
    | [] => none) else none
  | .if_icmp c off => bif Nat.beq len 3 then (match st with
    | y :: x :: st => eg_br pc off st (eg_cmp en c x y)
    | _ => none) else none
  | .tableswitch d lo hi offs => (match st with
    | x :: st => match eg_rng en x with
      | some a => if a.2 < lo ∨ hi < a.1 then eg_go pc d st
        else if a.1 = a.2 ∧ ¬ a.1 < lo ∧ ¬ hi < a.1 then (match offs[(a.1 - lo).toNat]? with
          | some off => eg_go pc off st
          | none => none)
        else none
      | none => none
    | [] => none)
  | _ => none
def eg_k1 (i : Nat) (q : Nat × Value) : Bool := !(Nat.beq q.1 i) && !(Nat.beq (q.1 + 1) i && Nat.beq q.2.category 2)
def eg_k2 (i : Nat) (q : Nat × Value) : Bool := !(Nat.beq q.1 i) && (!(Nat.beq q.1 (i + 1)) && !(Nat.beq (q.1 + 1) i && Nat.beq q.2.category 2))
def eg_fil {α : Type} (p : α → Bool) : List α → List α
  | [] => []
  | a :: l => match p a with
    | true => a :: eg_fil p l
    | false => eg_fil p l
/-- stores: (kind, index) -/
def eg_stk (i : Instr) (len : Nat) : Option (Nat × Nat) := match i with
  | .istore_n k => bif Nat.beq len 1 then some (0, k.val) else none
  | .istore k => bif Nat.beq len 2 then some (0, k) else none
  | .lstore_n k => bif Nat.beq len 1 then some (1, k.val) else none
  | .lstore k => bif Nat.beq len 2 then some (1, k) else none
  | .astore_n k => bif Nat.beq len 1 then some (2, k.val) else none
  | .astore k => bif Nat.beq len 2 then some (2, k) else none
  | _ => none
def eg_sto (i : Instr) (len nL : Nat) (ls : eg_L) (st : List Value) : Option (eg_L × List Value) := match eg_stk i len with
  | some (t, k) => (match st with
    | v :: st => (match t with
      | 0 => bif eg_isI v && Nat.blt k nL then some ((k, v) :: eg_fil (eg_k1 k) ls, st) else none
      | 1 => bif eg_isJ v && Nat.blt (k + 1) nL then some ((k, v) :: eg_fil (eg_k2 k) ls, st) else none
      | _ => bif eg_isA v && Nat.blt k nL then some ((k, v) :: eg_fil (eg_k1 k) ls, st) else none)
    | [] => none)
  | none => match i with
    | .iinc k n => bif Nat.beq len 3 && Nat.blt k nL then (match eg_find k ls with
      | some (.int x) => some ((k, .int (x + Int32.ofInt n)) :: eg_fil (eg_k1 k) ls, st)
      | _ => none) else none
    | _ => none
/-- the text's bytes -/
def eg_str : List Int32 := [108, 97, 110, 100, 32, 109, 97, 110, 32, 112, 114, 111, 109, 105, 115, 101, 32, 99, 108, 97, 115, 104, 32, 103, 114, 111, 119, 115, 32, 115, 116, 111, 114, 109, 32, 98, 114, 111, 107, 101, 110, 32, 102, 114, 101, 101, 100, 32, 119, 97, 116, 101, 114, 101, 100, 32, 100, 97, 121, 32, 111, 114, 32, 97, 110, 100, 32, 107, 101, 112, 116, 32, 110, 111, 116, 32, 115, 116, 97, 110, 100, 115, 32, 102, 101, 108, 108, 32, 115, 116, 117, 109, 112, 32, 115, 104, 97, 100, 101, 100, 32, 98, 121, 32, 116, 111, 32, 116, 97, 108, 108, 32, 116, 105, 108, 108, 32, 110, 117, 109, 98, 101, 114, 32]
def eg_obj (h : List eg_C) (a : Nat) : Option (Nat × List Value) := match eg_nth h a with
  | some (.inr c) => some c
  | _ => none
def eg_arr (h : List eg_C) (a : Nat) : Option (Nat × List Value) := match eg_nth h a with
  | some (.inl c) => some c
  | _ => none
/-- the place that an index names in a row of n -/
def eg_ix (n : Nat) : Value → Option Nat
  | .int i => if i < 0 then none else (bif Nat.blt i.toNatClampNeg n then some i.toNatClampNeg else none)
  | _ => none
def eg_aty (i : Instr) (t : Nat) : Bool := match i with
  | .iaload => Nat.beq t 0
  | .laload => Nat.beq t 1
  | .baload => Nat.beq t 2 || Nat.beq t 3
  | .aaload => Nat.ble 4 t
  | _ => false
/-- what is read -/
def eg_mem (sc : List Value) (o : Nat) (i : Instr) (len : Nat) (st : List Value) (h : List eg_C) : Option (List Value) := match i with
  | .getfield k => bif Nat.beq len 3 then (match st with
    | .ref a :: st => (match eg_at o eg_fx k with
      | some (ci, fk, _) => (match eg_obj h a with
        | some (cj, fs) => bif Nat.beq ci cj then (match eg_nth fs fk with
          | some v => some (v :: st)
          | none => none) else none
        | none => none)
      | none => none)
    | .float w :: st => bif w == 2 && Nat.beq o 16 then (bif Nat.beq k 9 then some (.float 3 :: st) else bif Nat.beq k 15 then some (.int 0 :: st) else none) else none
    | _ => none) else none
  | .getstatic k => bif Nat.beq len 3 && Nat.beq o 16 then (bif Nat.beq k 38 then some (.int 1 :: st) else bif Nat.beq k 1053 then some (.float 4 :: st) else none) else none
  | .arraylength => bif Nat.beq len 1 then (match st with
    | .float w :: st => bif w == 1 then some (.int (Int32.ofNat sc.length) :: st) else bif w == 3 then some (.int (Int32.ofNat eg_str.length) :: st) else none
    | _ => none) else none
  | i => bif Nat.beq len 1 then (match st with
    | x :: .ref a :: st => (match eg_arr h a with
      | some (t, xs) => bif eg_aty i t then (match eg_ix xs.length x with
        | some k => (match eg_nth xs k with
          | some v => some (v :: st)
          | none => none)
        | none => none) else none
      | none => none)
    | x :: .float w :: st => bif w == 1 && eg_aty i 0 then (match eg_ix sc.length x with
        | some k => (match eg_nth sc k with
          | some v => some (v :: st)
          | none => none)
        | none => none)
      else bif w == 3 && eg_aty i 2 then (match eg_ix eg_str.length x with
        | some k => (match eg_nth eg_str k with
          | some v => some (.int v :: st)
          | none => none)
        | none => none)
      else none
    | _ => none) else none
def eg_tys : List (Nat → FieldType) := [tyX0, tyX1, tyX2, tyX3, tyX4, tyX5, tyX6, tyX7, tyX8, tyX9, tyX10, tyX11]
def eg_fty (ci k : Nat) : FieldType := match eg_nth eg_tys ci with
  | some f => f k
  | none => .int
def eg_fit : FieldType → Value → Bool
  | .int, v => eg_isI v
  | .long, v => eg_isJ v
  | .boolean, .int x => x == 0 || x == 1
  | .object _, v => eg_isQ v
  | .array _, v => eg_isQ v
  | _, _ => false
def eg_finF (ci k : Nat) : Bool := match eg_nth vwCl ci with
  | some q => (q.2.1 k).2.2.2
  | none => true
/-- what is written into an array of type t -/
def eg_nar (t : Nat) : Value → Option Value
  | .int x => match t with
    | 0 => some (.int x)
    | 2 => some (.int x.toInt8.toInt32)
    | 3 => some (.int (x &&& 1))
    | _ => none
  | .retAddr j => match t with
    | 0 => some (.retAddr j)
    | 2 => some (.float 0)
    | _ => none
  | .float w => bif w == 0 && Nat.blt t 3 && !(Nat.beq t 1) then some (.float 0) else none
  | .long x => bif Nat.beq t 1 then some (.long x) else none
  | _ => none
def eg_aty2 (i : Instr) (t : Nat) : Bool := match i with
  | .iastore => Nat.beq t 0
  | .lastore => Nat.beq t 1
  | .bastore => Nat.beq t 2 || Nat.beq t 3
  | _ => false
/-- what is written -/
def eg_wr (u o : Nat) (i : Instr) (len : Nat) (st : List Value) (h : List eg_C) : Option (List Value × List eg_C) := match i with
  | .putfield k => bif Nat.beq len 3 then (match st with
    | v :: .ref a :: st => (match eg_at o eg_fx k with
      | some (ci, fk, _) => (match eg_obj h a with
        | some (cj, fs) => bif Nat.beq ci cj && eg_fit (eg_fty ci fk) v && Nat.blt fk fs.length && (!(eg_finF ci fk) || (Nat.beq o ci && decide ((eg_md u).1.name = "<init>"))) then some (st, eg_put h a (.inr (cj, eg_put fs fk v))) else none
        | none => none)
      | none => none)
    | _ => none) else none
  | .aastore => bif Nat.beq len 1 then (match st with
    | .ref b :: x :: .ref a :: st => (match eg_arr h a with
      | some (t, xs) => (match eg_obj h b with
        | some (ci, _) => (match eg_ix xs.length x with
          | some k => (match eg_nth eg_AO (t - 4) with
            | some cj => bif Nat.ble 4 t && Nat.beq ci cj then some (st, eg_put h a (.inl (t, eg_put xs k (.ref b)))) else none
            | none => none)
          | none => none)
        | none => none)
      | none => none)
    | _ => none) else none
  | i => bif Nat.beq len 1 then (match st with
    | v :: x :: .ref a :: st => (match eg_arr h a with
      | some (t, xs) => bif eg_aty2 i t then (match eg_ix xs.length x with
        | some k => (match eg_nar t v with
          | some w => some (st, eg_put h a (.inl (t, eg_put xs k w)))
          | none => none)
        | none => none) else none
      | none => none)
    | _ => none) else none
def eg_def (ci : Nat) : List Value := match eg_nth vwCl ci with
  | some q => (List.range q.2.2).map (fun k => defaultValue (eg_fty ci k))
  | none => []
def eg_ncl (ci : Nat) : Nat := match eg_nth vwCl ci with
  | some q => q.2.2
  | none => 0
def eg_rep {α : Type} (v : α) : Nat → List α
  | 0 => []
  | n + 1 => v :: eg_rep v n
def eg_pos (k : Nat) : List Nat → Nat → Option Nat
  | [], _ => none
  | a :: l, n => bif Nat.beq a k then some n else eg_pos k l (n + 1)
/-- what is made: stack, heap, cells and slots left -/
def eg_new (o : Nat) (i : Instr) (len : Nat) (st : List Value) (h : List eg_C) (bc bs : Nat) : Option (List Value × List eg_C × Nat × Nat) := match i with
  | .new k => bif Nat.beq len 3 then (match eg_at o eg_nx k with
    | some (ci, _) => bif Nat.ble 1 bc && Nat.ble (eg_ncl ci) bs && Nat.blt ci 12 then some (.ref h.length :: st, h ++ [.inr (ci, eg_def ci)], bc - 1, bs - eg_ncl ci) else none
    | none => none) else none
  | .newarray ty => bif Nat.beq len 2 then (match st with
    | .int n :: st => (match (match ty with
        | .int => some 0
        | .long => some 1
        | .byte => some 2
        | .boolean => some 3
        | _ => none : Option Nat) with
      | some t => if n < 0 then none else bif Nat.ble n.toNatClampNeg 10000 && Nat.ble 1 bc && Nat.ble n.toNatClampNeg bs then some (.ref h.length :: st, h ++ [.inl (t, eg_rep (bif Nat.beq t 1 then .long 0 else .int 0) n.toNatClampNeg)], bc - 1, bs - n.toNatClampNeg) else none
      | none => none)
    | _ => none) else none
  | .anewarray k => bif Nat.beq len 3 then (match st with
    | .int n :: st => (match eg_at o eg_nx k with
      | some (ci, _) => (match eg_pos ci eg_AO 4 with
        | some t => if n < 0 then none else bif Nat.ble n.toNatClampNeg 10000 && Nat.ble 1 bc && Nat.ble n.toNatClampNeg bs then some (.ref h.length :: st, h ++ [.inl (t, eg_rep .null n.toNatClampNeg)], bc - 1, bs - n.toNatClampNeg) else none
        | none => none)
      | none => none)
    | _ => none) else none
  | _ => none
def eg_pop : Nat → List Value → List Value → Option (List Value × List Value)
  | 0, st, acc => some (acc, st)
  | n + 1, v :: st, acc => eg_pop n st (v :: acc)
  | _ + 1, [], _ => none
def eg_args : Nat → List Value → eg_L
  | _, [] => []
  | i, v :: vs => (i, v) :: eg_args (bif Nat.beq v.category 2 then i + 2 else i + 1) vs
def eg_cat : List Value → Nat
  | [] => 0
  | v :: l => v.category + eg_cat l
/-- the value that a return brings -/
def eg_out (u : Nat) (r : eg_R) : Option (Option Value) := match decode (eg_md u).2.1 r.1 with
  | .ok (.ireturn, _) => (match r.2.2.1 with
    | [v] => (match (eg_md u).2.2.2 with
      | some .int => bif eg_isI v then some (some v) else none
      | some .boolean => (match v with
        | .int x => bif x == 0 || x == 1 then some (some v) else none
        | _ => none)
      | some .byte => (match v with
        | .int x => bif x == 0 then some (some v) else none
        | _ => none)
      | some .char => (match v with
        | .int x => bif x.toUInt32.toUInt16.toUInt32.toInt32 == x then some (some v) else none
        | _ => none)
      | _ => none)
    | _ => none)
  | .ok (.lreturn, _) => (match r.2.2.1 with
    | [v] => (match (eg_md u).2.2.2 with
      | some .long => bif eg_isJ v then some (some v) else none
      | _ => none)
    | _ => none)
  | .ok (.return_, _) => (match r.2.2.1 with
    | [] => (match (eg_md u).2.2.2 with
      | none => some none
      | _ => none)
    | _ => none)
  | _ => none
/-- the receiver stands on the stack: what is left, and the arguments with it -/
def eg_rcv (kind o' : Nat) (h : List eg_C) (as st : List Value) : Option (List Value × List Value) := match kind with
  | 0 => (match st with
    | .ref b :: st => (match eg_obj h b with
      | some (ci, _) => bif Nat.beq ci o' then some (.ref b :: as, st) else none
      | none => none)
    | .float w :: st => bif w == 2 && Nat.beq o' 16 then some (.float w :: as, st) else none
    | _ => none)
  | 2 => some (as, st)
  | 4 => none
  | _ => (match st with
    | .ref b :: st => some (.ref b :: as, st)
    | _ => none)
def eg_knd (i : Instr) : Option (Nat × Nat) := match i with
  | .invokevirtual k => some (0, k)
  | .invokespecial k => some (1, k)
  | .invokestatic k => some (2, k)
  | _ => none
def eg_call (bud : Nat → Nat × Nat) (f : eg_F) (u o dp bc bs pc : Nat) (ls : eg_L) (st : List Value) (h : List eg_C) (i : Instr) (len : Nat) : Option eg_R := match eg_knd i with
  | none => none
  | some (ik, k) => bif Nat.beq len 3 then (match eg_at o eg_cx k with
    | none => none
    | some (kind, _, mu, o', np, _) => bif Nat.beq kind 4 then (match st with
        | .ref _ :: st => bif Nat.beq ik 1 && Nat.ble 1 dp && Nat.ble (eg_cat st) 8 then f u o dp bc bs (pc + 3) ls st h else none
        | _ => none)
      else bif (bif Nat.beq kind 3 then Nat.beq ik 1 else Nat.beq ik kind) then (match eg_pop np st [] with
        | none => none
        | some (as, st) => match eg_rcv kind o' h as st with
          | none => none
          | some (as, st) => match dp with
            | 0 => none
            | d + 1 => bif Nat.ble (eg_cat st) 8 && Nat.ble (eg_cat as) (eg_md mu).2.2.1 && Nat.ble (bud mu).1 bc && Nat.ble (bud mu).2 bs then (match f mu o' d (bud mu).1 (bud mu).2 0 (eg_args 0 as) [] h with
              | none => none
              | some r => match eg_out mu r with
                | none => none
                | some v => f u o (d + 1) (bc - (bud mu).1) (bs - (bud mu).2) (pc + 3) ls (v.toList ++ st) r.2.2.2) else none)
      else none) else none
def eg_isR (i : Instr) (len : Nat) : Bool := match i with
  | .ireturn => Nat.beq len 1
  | .lreturn => Nat.beq len 1
  | .return_ => Nat.beq len 1
  | _ => false
def eg_step (en : List (Int × Int)) (sc : List Value) (bud : Nat → Nat × Nat) (sm sp : Nat) (f : eg_F) : eg_F := fun u o dp bc bs pc ls st h =>
  bif Nat.beq u sm && Nat.beq pc sp then some (pc, ls, st, h) else
  match decode (eg_md u).2.1 pc with
  | .error _ => none
  | .ok (i, len) => match eg_ld i len ls with
    | some v => f u o dp bc bs (pc + len) ls (v :: st) h
    | none => match eg_cn o i len with
      | some v => f u o dp bc bs (pc + len) ls (v :: st) h
      | none => match eg_mem sc o i len st h with
        | some st => f u o dp bc bs (pc + len) ls st h
        | none => match eg_jmp en pc i len st with
          | some q => f u o dp bc bs q.1 ls q.2 h
          | none => match eg_alu i len st with
            | some st => f u o dp bc bs (pc + 1) ls st h
            | none => match eg_sto i len (eg_md u).2.2.1 ls st with
              | some q => f u o dp bc bs (pc + len) q.1 q.2 h
              | none => match eg_wr u o i len st h with
                | some q => f u o dp bc bs (pc + len) ls q.1 q.2
                | none => match eg_new o i len st h bc bs with
                  | some q => f u o dp q.2.2.1 q.2.2.2 (pc + len) ls q.1 q.2.1
                  | none => bif eg_isR i len then some (pc, ls, st, h) else eg_call bud f u o dp bc bs pc ls st h i len
noncomputable def eg_run (en : List (Int × Int)) (sc : List Value) (bud : Nat → Nat × Nat) (sm sp : Nat) (n : Nat) : eg_F :=
  Nat.rec (motive := fun _ => eg_F) (fun _ _ _ _ _ _ _ _ _ => none) (fun _ f => eg_step en sc bud sm sp f) n
