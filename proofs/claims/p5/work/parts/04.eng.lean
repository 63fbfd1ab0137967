/-! THE ENGINE: a machine over lists, run by the kernel. A value of it is a Value, read so: .int, .long, .null as they are; .ref k: the k-th cell that the law has made; .retAddr j: the j-th int of the script; .float 0: some int; .float 1: the script; .float 2: the class's one String constant; .float 3: its bytes; .float 4: a reference of which nothing is known. A cell: .inl (type, elements) or .inr (class, fields); .inl (99, _): none yet. -/
abbrev eg_C : Type := (Nat × List Value) ⊕ (Nat × List Value)
abbrev eg_H : Type := List (List eg_C)
abbrev eg_L : Type := List (Nat × Value)
abbrev eg_W : Type := List (Nat × Instr × Nat)
/-- an end: its kind, pc, locals, stack, cells made, heap -/
abbrev eg_R : Type := Nat × Nat × eg_L × List Value × Nat × eg_H
/-- the method's place, its class, depth left, cells and slots left, pc, code from there, locals, stack, cells made, heap -/
abbrev eg_F : Type := Nat → Nat → Nat → Nat → Nat → Nat → eg_W → eg_L → List Value → Nat → eg_H → Option eg_R
/-- one instruction: 0 the next one, t + 1 the one at t; locals, stack, cells made, heap, cells and slots left -/
abbrev eg_N : Type := Nat × eg_L × List Value × Nat × eg_H × Nat × Nat
abbrev eg_O : Type := eg_L → List Value → Nat → eg_H → Nat → Nat → Option eg_N
def eg_md (u : Nat) : MethodName × ByteArray × Nat × Option FieldType := match Nat.beq u 9999 with
  | true => (x, code, maxLocals, ret)
  | false => match lw_tbl[u]? with
    | some (.code y b n r) => (y, b, n, r)
    | _ => (⟨"", "", ""⟩, ⟨#[]⟩, 0, none)
def eg_find {α : Type} (k : Nat) : List (Nat × α) → Option α
  | [] => none
  | (a, v) :: l => match Nat.beq a k with
    | true => some v
    | false => eg_find k l
def eg_bud (u : Nat) : Nat × Nat := match eg_find u eg_bl with
  | some q => q
  | none => (0, 0)
def eg_nth {α : Type} : List α → Nat → Option α
  | [], _ => none
  | a :: _, 0 => some a
  | _ :: l, k + 1 => eg_nth l k
def eg_put {α : Type} : List α → Nat → α → List α
  | [], _, _ => []
  | _ :: l, 0, v => v :: l
  | a :: l, k + 1, v => a :: eg_put l k v
def eg_get (h : eg_H) (a : Nat) : Option eg_C := match eg_nth h (a / 16) with
  | some r => eg_nth r (a % 16)
  | none => none
def eg_set (h : eg_H) (a : Nat) (c : eg_C) : eg_H := match eg_nth h (a / 16) with
  | some r => eg_put h (a / 16) (eg_put r (a % 16) c)
  | none => h
def eg_at {α : Type} (o : Nat) (t : List (List (Nat × α))) (k : Nat) : Option α := match eg_nth t o with
  | some l => eg_find k l
  | none => none
def eg_isI : Value → Bool
  | .int _ => true
  | .retAddr _ => true
  | .float w => w == 0
  | _ => false
def eg_isJ : Value → Bool
  | .long _ => true
  | _ => false
def eg_isA : Value → Bool
  | .ref _ => true
  | .float w => w == 1 || w == 2 || w == 3
  | _ => false
def eg_isQ : Value → Bool
  | .ref _ => true
  | .null => true
  | .float w => w == 1 || w == 2 || w == 3 || w == 4
  | _ => false
/-- the same int, reckoned out -/
def eg_ni (v : Int32) : Option Value := match v.toBitVec.toNat with
  | 0 => some (.int 0)
  | n + 1 => some (.int (Int32.ofNat (Nat.succ n)))
def eg_nl (v : Int64) : Option Value := match v.toBitVec.toNat with
  | 0 => some (.long 0)
  | n + 1 => some (.long (Int64.ofNat (Nat.succ n)))
/-! instructions -/
def eg_ld (ok : Value → Bool) (k : Nat) : eg_O := fun ls st hn h bc bs => match eg_find k ls with
  | some v => match ok v with
    | true => some (0, ls, v :: st, hn, h, bc, bs)
    | false => none
  | none => none
def eg_cn (v : Value) : eg_O := fun ls st hn h bc bs => some (0, ls, v :: st, hn, h, bc, bs)
def eg_b2 (f : Value → Value → Option Value) : eg_O := fun ls st hn h bc bs => match st with
  | y :: x :: st => match f y x with
    | some v => some (0, ls, v :: st, hn, h, bc, bs)
    | none => none
  | _ => none
def eg_b1 (f : Value → Option Value) : eg_O := fun ls st hn h bc bs => match st with
  | x :: st => match f x with
    | some v => some (0, ls, v :: st, hn, h, bc, bs)
    | none => none
  | _ => none
def eg_ii (f : Int32 → Int32 → Int32) : Value → Value → Option Value
  | .int y, .int x => eg_ni (f x y)
  | _, _ => none
def eg_iz (f : Int32 → Int32 → Int32) : Value → Value → Option Value
  | .int y, .int x => if y = 0 then none else eg_ni (f x y)
  | _, _ => none
def eg_it (f : Int32 → Int32 → Int32) : Value → Value → Option Value
  | .int y, .int x => eg_ni (f x y)
  | .int _, .retAddr _ => some (.float 0)
  | _, _ => none
def eg_ll (f : Int64 → Int64 → Int64) : Value → Value → Option Value
  | .long y, .long x => eg_nl (f x y)
  | _, _ => none
def eg_li (f : Int64 → Int32 → Int64) : Value → Value → Option Value
  | .int y, .long x => eg_nl (f x y)
  | _, _ => none
def eg_lc : Value → Value → Option Value
  | .long y, .long x => eg_ni (lg_cmp x y)
  | _, _ => none
def eg_i1 (f : Int32 → Int32) : Value → Option Value
  | .int x => eg_ni (f x)
  | _ => none
def eg_ib : Value → Option Value
  | .int x => eg_ni x.toInt8.toInt32
  | .float w => match w == 0 with
    | true => some (.float 0)
    | false => none
  | _ => none
def eg_il : Value → Option Value
  | .int x => eg_nl x.toInt64
  | _ => none
def eg_l2 : Value → Option Value
  | .long x => eg_ni x.toInt32
  | _ => none
def eg_is1 (v : Value) : Bool := Nat.beq v.category 1
def eg_dup : eg_O := fun ls st hn h bc bs => match st with
  | y :: st => bif eg_is1 y then some (0, ls, y :: y :: st, hn, h, bc, bs) else none
  | _ => none
def eg_pp : eg_O := fun ls st hn h bc bs => match st with
  | y :: st => bif eg_is1 y then some (0, ls, st, hn, h, bc, bs) else none
  | _ => none
def eg_dx : eg_O := fun ls st hn h bc bs => match st with
  | y :: x :: st => bif eg_is1 y && eg_is1 x then some (0, ls, y :: x :: y :: st, hn, h, bc, bs) else none
  | _ => none
def eg_d2 : eg_O := fun ls st hn h bc bs => match st with
  | y :: x :: st => bif eg_is1 y && eg_is1 x then some (0, ls, y :: x :: y :: x :: st, hn, h, bc, bs) else none
  | _ => none
/-- what an int may be -/
def eg_rng (en : List (Int × Int)) : Value → Option (Int × Int)
  | .int v => some (v.toInt, v.toInt)
  | .retAddr j => eg_nth en j
  | _ => none
def eg_lt (a b : Int × Int) : Option Bool := if a.2 < b.1 then some true else if b.2 ≤ a.1 then some false else none
def eg_eq (a b : Int × Int) : Option Bool := if a.2 < b.1 then some false else if b.2 < a.1 then some false else if a.1 = a.2 ∧ b.1 = b.2 ∧ a.1 = b.1 then some true else none
def eg_cmp (en : List (Int × Int)) (c : ClassFile.Cond) (x y : Value) : Option Bool := match eg_rng en x with
  | some a => match eg_rng en y with
    | some b => match c with
      | .eq => eg_eq a b
      | .ne => (eg_eq a b).map (fun z => !z)
      | .lt => eg_lt a b
      | .ge => (eg_lt a b).map (fun z => !z)
      | .gt => eg_lt b a
      | .le => (eg_lt b a).map (fun z => !z)
    | none => none
  | none => none
def eg_tgt (pc : Nat) (off : Int) : Option Nat := match (pc : Int) + off with
  | .ofNat t => some t
  | .negSucc _ => none
def eg_jp (t : Nat) : eg_O := fun ls st hn h bc bs => some (Nat.succ t, ls, st, hn, h, bc, bs)
def eg_if (en : List (Int × Int)) (c : ClassFile.Cond) (t : Nat) : eg_O := fun ls st hn h bc bs => match st with
  | x :: st => match eg_cmp en c x (.int 0) with
    | some true => some (Nat.succ t, ls, st, hn, h, bc, bs)
    | some false => some (0, ls, st, hn, h, bc, bs)
    | none => none
  | _ => none
def eg_ic (en : List (Int × Int)) (c : ClassFile.Cond) (t : Nat) : eg_O := fun ls st hn h bc bs => match st with
  | y :: x :: st => match eg_cmp en c x y with
    | some true => some (Nat.succ t, ls, st, hn, h, bc, bs)
    | some false => some (0, ls, st, hn, h, bc, bs)
    | none => none
  | _ => none
def eg_tb (en : List (Int × Int)) (pc : Nat) (d lo hi : Int) (offs : Array Int) : eg_O := fun ls st hn h bc bs => match st with
  | x :: st => match eg_rng en x with
    | some a => if a.2 < lo ∨ hi < a.1 then (match eg_tgt pc d with
        | some t => some (Nat.succ t, ls, st, hn, h, bc, bs)
        | none => none)
      else if a.1 = a.2 ∧ ¬ a.1 < lo ∧ ¬ hi < a.1 then (match offs[(a.1 - lo).toNat]? with
        | some off => (match eg_tgt pc off with
          | some t => some (Nat.succ t, ls, st, hn, h, bc, bs)
          | none => none)
        | none => none)
      else none
    | none => none
  | _ => none
def eg_srt (ps : Array (Int × Int)) : Bool := (ps.toList.zip (ps.toList.drop 1)).all (fun (a, next) => a.1 < next.1)
def eg_lk (pc : Nat) (d : Int) (ps : Array (Int × Int)) : eg_O := fun ls st hn h bc bs => match st with
  | .int x :: st => bif eg_srt ps then (match eg_tgt pc (Op.lookupswitch.offset ps.toList d x.toInt) with
    | some t => some (Nat.succ t, ls, st, hn, h, bc, bs)
    | none => none) else none
  | _ => none
def eg_k1 (i : Nat) (q : Nat × Value) : Bool := !(Nat.beq q.1 i) && !(Nat.beq (q.1 + 1) i && Nat.beq q.2.category 2)
def eg_k2 (i : Nat) (q : Nat × Value) : Bool := !(Nat.beq q.1 i) && (!(Nat.beq q.1 (i + 1)) && !(Nat.beq (q.1 + 1) i && Nat.beq q.2.category 2))
def eg_fil {α : Type} (p : α → Bool) : List α → List α
  | [] => []
  | a :: l => match p a with
    | true => a :: eg_fil p l
    | false => eg_fil p l
def eg_s1 (ok : Value → Bool) (k : Nat) : eg_O := fun ls st hn h bc bs => match st with
  | v :: st => match ok v with
    | true => some (0, (k, v) :: eg_fil (eg_k1 k) ls, st, hn, h, bc, bs)
    | false => none
  | _ => none
def eg_s2 (k : Nat) : eg_O := fun ls st hn h bc bs => match st with
  | v :: st => match eg_isJ v with
    | true => some (0, (k, v) :: eg_fil (eg_k2 k) ls, st, hn, h, bc, bs)
    | false => none
  | _ => none
def eg_in (k : Nat) (n : Int) : eg_O := fun ls st hn h bc bs => match eg_find k ls with
  | some (.int x) => match eg_ni (x + Int32.ofInt n) with
    | some v => some (0, (k, v) :: eg_fil (eg_k1 k) ls, st, hn, h, bc, bs)
    | none => none
  | _ => none
/-- the text's bytes -/
def eg_str : List Int32 := [108, 97, 110, 100, 32, 109, 97, 110, 32, 112, 114, 111, 109, 105, 115, 101, 32, 99, 108, 97, 115, 104, 32, 103, 114, 111, 119, 115, 32, 115, 116, 111, 114, 109, 32, 98, 114, 111, 107, 101, 110, 32, 102, 114, 101, 101, 100, 32, 119, 97, 116, 101, 114, 101, 100, 32, 100, 97, 121, 32, 111, 114, 32, 97, 110, 100, 32, 107, 101, 112, 116, 32, 110, 111, 116, 32, 115, 116, 97, 110, 100, 115, 32, 102, 101, 108, 108, 32, 115, 116, 117, 109, 112, 32, 115, 104, 97, 100, 101, 100, 32, 98, 121, 32, 116, 111, 32, 116, 97, 108, 108, 32, 116, 105, 108, 108, 32, 110, 117, 109, 98, 101, 114, 32]
def eg_obj (h : eg_H) (a : Nat) : Option (Nat × List Value) := match eg_get h a with
  | some (.inr c) => some c
  | _ => none
def eg_arr (h : eg_H) (a : Nat) : Option (Nat × List Value) := match eg_get h a with
  | some (.inl c) => some c
  | _ => none
/-- the place that an index names -/
def eg_ix : Value → Option Nat
  | .int i => if i < 0 then none else some i.toNatClampNeg
  | _ => none
def eg_gf (ci fk : Nat) : eg_O := fun ls st hn h bc bs => match st with
  | .ref a :: st => match eg_obj h a with
    | some (cj, fs) => match Nat.beq ci cj with
      | true => match eg_nth fs fk with
        | some v => some (0, ls, v :: st, hn, h, bc, bs)
        | none => none
      | false => none
    | none => none
  | _ => none
/-- a field of the text -/
def eg_gt (v : Value) : eg_O := fun ls st hn h bc bs => match st with
  | .float w :: st => match w == 2 with
    | true => some (0, ls, v :: st, hn, h, bc, bs)
    | false => none
  | _ => none
def eg_al (sc : List Value) : eg_O := fun ls st hn h bc bs => match st with
  | .float w :: st => bif w == 1 then some (0, ls, .int (Int32.ofNat sc.length) :: st, hn, h, bc, bs) else bif w == 3 then some (0, ls, .int (Int32.ofNat eg_str.length) :: st, hn, h, bc, bs) else none
  | _ => none
def eg_ar (sc : List Value) (ok : Nat → Bool) : eg_O := fun ls st hn h bc bs => match st with
  | x :: .ref a :: st => match eg_arr h a with
    | some (t, xs) => match ok t with
      | true => match eg_ix x with
        | some k => match eg_nth xs k with
          | some v => some (0, ls, v :: st, hn, h, bc, bs)
          | none => none
        | none => none
      | false => none
    | none => none
  | x :: .float w :: st => bif w == 1 && ok 0 then (match eg_ix x with
      | some k => match eg_nth sc k with
        | some v => some (0, ls, v :: st, hn, h, bc, bs)
        | none => none
      | none => none)
    else bif w == 3 && ok 2 then (match eg_ix x with
      | some k => match eg_nth eg_str k with
        | some v => some (0, ls, .int v :: st, hn, h, bc, bs)
        | none => none
      | none => none)
    else none
  | _ => none
def eg_tys : List (Nat → FieldType) := [tyX0, tyX1, tyX2, tyX3, tyX4, tyX5, tyX6, tyX7, tyX8, tyX9, tyX10, tyX11]
def eg_fty (ci k : Nat) : FieldType := match eg_nth eg_tys ci with
  | some f => f k
  | none => .int
def eg_fit : FieldType → Value → Bool
  | .int => eg_isI
  | .long => eg_isJ
  | .boolean => fun v => match v with
    | .int x => x == 0 || x == 1
    | _ => false
  | .object _ => eg_isQ
  | .array _ => eg_isQ
  | _ => fun _ => false
def eg_finF (ci k : Nat) : Bool := match eg_nth vwCl ci with
  | some q => (q.2.1 k).2.2.2
  | none => true
def eg_ncl (ci : Nat) : Nat := match eg_nth vwCl ci with
  | some q => q.2.2
  | none => 0
def eg_pf (ok : Value → Bool) (ci fk : Nat) : eg_O := fun ls st hn h bc bs => match st with
  | v :: .ref a :: st => match eg_obj h a with
    | some (cj, fs) => match Nat.beq ci cj && ok v with
      | true => some (0, ls, st, hn, eg_set h a (.inr (cj, eg_put fs fk v)), bc, bs)
      | false => none
    | none => none
  | _ => none
/-- what is written into an array of type t -/
def eg_nar (t : Nat) : Value → Option Value
  | .int x => match t with
    | 0 => some (.int x)
    | 2 => eg_ni x.toInt8.toInt32
    | 3 => eg_ni (x &&& 1)
    | _ => none
  | .float w => bif w == 0 && Nat.beq t 2 then some (.float 0) else none
  | .long x => bif Nat.beq t 1 then some (.long x) else none
  | _ => none
def eg_aw (ok : Nat → Bool) : eg_O := fun ls st hn h bc bs => match st with
  | v :: x :: .ref a :: st => match eg_arr h a with
    | some (t, xs) => match ok t with
      | true => match eg_ix x with
        | some k => match eg_nth xs k with
          | some _ => match eg_nar t v with
            | some w => some (0, ls, st, hn, eg_set h a (.inl (t, eg_put xs k w)), bc, bs)
            | none => none
          | none => none
        | none => none
      | false => none
    | none => none
  | _ => none
def eg_aq : eg_O := fun ls st hn h bc bs => match st with
  | .ref b :: x :: .ref a :: st => match eg_arr h a with
    | some (t, xs) => match eg_obj h b with
      | some (ci, _) => match eg_ix x with
        | some k => match eg_nth xs k with
          | some _ => match t with
            | t' + 4 => match eg_nth eg_AO t' with
              | some cj => match Nat.beq ci cj with
                | true => some (0, ls, st, hn, eg_set h a (.inl (t' + 4, eg_put xs k (.ref b))), bc, bs)
                | false => none
              | none => none
            | _ => none
          | none => none
        | none => none
      | none => none
    | none => none
  | _ => none
def eg_rep {α : Type} (v : α) : Nat → List α
  | 0 => []
  | n + 1 => v :: eg_rep v n
def eg_def (ci : Nat) : List Value := (List.range (eg_ncl ci)).map (fun k => defaultValue (eg_fty ci k))
/-- the next cell -/
def eg_mk (c : eg_C) (n : Nat) : eg_O := fun ls st hn h bc bs => match eg_get h hn with
  | some (.inl (99, _)) => match Nat.ble 1 bc && Nat.ble n bs with
    | true => match hn with
      | 0 => some (0, ls, .ref 0 :: st, 1, eg_set h 0 c, bc - 1, bs - n)
      | k + 1 => some (0, ls, .ref (Nat.succ k) :: st, Nat.succ (Nat.succ k), eg_set h (Nat.succ k) c, bc - 1, bs - n)
    | false => none
  | _ => none
def eg_na (t : Nat) (v : Value) : eg_O := fun ls st hn h bc bs => match st with
  | .int n :: st => if n < 0 then none else match Nat.ble n.toNatClampNeg 10000 with
    | true => eg_mk (.inl (t, eg_rep v n.toNatClampNeg)) n.toNatClampNeg ls st hn h bc bs
    | false => none
  | _ => none
def eg_pos (k : Nat) : List Nat → Nat → Option Nat
  | [], _ => none
  | a :: l, n => bif Nat.beq a k then some n else eg_pos k l (n + 1)
/-- how long an instruction is -/
def eg_lok (i : Instr) (len : Nat) : Bool := match i with
  | .iload _ => Nat.beq len 2
  | .lload _ => Nat.beq len 2
  | .aload _ => Nat.beq len 2
  | .istore _ => Nat.beq len 2
  | .lstore _ => Nat.beq len 2
  | .astore _ => Nat.beq len 2
  | .bipush _ => Nat.beq len 2
  | .ldc _ => Nat.beq len 2
  | .newarray _ => Nat.beq len 2
  | .sipush _ => Nat.beq len 3
  | .ldc_w _ => Nat.beq len 3
  | .ldc2_w _ => Nat.beq len 3
  | .goto _ => Nat.beq len 3
  | .ifCond _ _ => Nat.beq len 3
  | .if_icmp _ _ => Nat.beq len 3
  | .iinc _ _ => Nat.beq len 3
  | .getfield _ => Nat.beq len 3
  | .putfield _ => Nat.beq len 3
  | .getstatic _ => Nat.beq len 3
  | .new _ => Nat.beq len 3
  | .anewarray _ => Nat.beq len 3
  | .invokevirtual _ => Nat.beq len 3
  | .invokespecial _ => Nat.beq len 3
  | .invokestatic _ => Nat.beq len 3
  | .tableswitch _ _ _ _ => true
  | .lookupswitch _ _ => true
  | _ => Nat.beq len 1
/-- what an instruction is -/
def eg_hd0 (en : List (Int × Int)) (sc : List Value) (u o pc : Nat) (i : Instr) : Option eg_O := match i with
  | .iload_n k => some (eg_ld eg_isI k.val)
  | .iload k => some (eg_ld eg_isI k)
  | .lload_n k => some (eg_ld eg_isJ k.val)
  | .lload k => some (eg_ld eg_isJ k)
  | .aload_n k => some (eg_ld eg_isA k.val)
  | .aload k => some (eg_ld eg_isA k)
  | .iconst n => (eg_ni (Int32.ofInt n)).map eg_cn
  | .bipush n => (eg_ni (Int8.ofInt n).toInt32).map eg_cn
  | .sipush n => (eg_ni (Int16.ofInt n).toInt32).map eg_cn
  | .lconst n => (eg_nl (Int64.ofNat n.val)).map eg_cn
  | .ldc k => (match eg_at o eg_kx k with
    | some (.int v, _) => some (eg_cn (.int v))
    | _ => bif Nat.beq o 8 && Nat.beq k 52 then some (eg_cn (.float 2)) else none)
  | .ldc_w k => (match eg_at o eg_kx k with
    | some (.int v, _) => some (eg_cn (.int v))
    | _ => none)
  | .ldc2_w k => (match eg_at o eg_kx k with
    | some (.long v, _) => some (eg_cn (.long v))
    | _ => none)
  | .iadd => some (eg_b2 (eg_ii (fun x y => x + y)))
  | .isub => some (eg_b2 (eg_ii (fun x y => x - y)))
  | .imul => some (eg_b2 (eg_ii (fun x y => x * y)))
  | .iand => some (eg_b2 (eg_ii (fun x y => x &&& y)))
  | .ior => some (eg_b2 (eg_ii (fun x y => x ||| y)))
  | .ixor => some (eg_b2 (eg_ii (fun x y => x ^^^ y)))
  | .idiv => some (eg_b2 (eg_iz (fun x y => x / y)))
  | .irem => some (eg_b2 (eg_iz (fun x y => x - x / y * y)))
  | .ishl => some (eg_b2 (eg_ii (fun x y => x <<< (y &&& 31))))
  | .ishr => some (eg_b2 (eg_it (fun x y => x >>> (y &&& 31))))
  | .iushr => some (eg_b2 (eg_it (fun x y => (x.toUInt32 >>> (y.toUInt32 &&& Int32.toUInt32 31)).toInt32)))
  | .ladd => some (eg_b2 (eg_ll (fun x y => x + y)))
  | .lsub => some (eg_b2 (eg_ll (fun x y => x - y)))
  | .lmul => some (eg_b2 (eg_ll (fun x y => x * y)))
  | .land => some (eg_b2 (eg_ll (fun x y => x &&& y)))
  | .lor => some (eg_b2 (eg_ll (fun x y => x ||| y)))
  | .lxor => some (eg_b2 (eg_ll (fun x y => x ^^^ y)))
  | .lshl => some (eg_b2 (eg_li (fun x y => x <<< (y.toInt64 &&& 63))))
  | .lshr => some (eg_b2 (eg_li (fun x y => x >>> (y.toInt64 &&& 63))))
  | .lushr => some (eg_b2 (eg_li (fun x y => (x.toUInt64 >>> (y.toInt64.toUInt64 &&& Int64.toUInt64 63)).toInt64)))
  | .lcmp => some (eg_b2 eg_lc)
  | .ineg => some (eg_b1 (eg_i1 (fun x => -x)))
  | .i2l => some (eg_b1 eg_il)
  | .l2i => some (eg_b1 eg_l2)
  | .i2b => some (eg_b1 eg_ib)
  | .i2c => some (eg_b1 (eg_i1 (fun x => (x.toUInt32 % 65536).toInt32)))
  | .dup => some eg_dup
  | .pop => some eg_pp
  | .dup_x1 => some eg_dx
  | .dup2 => some eg_d2
  | .goto off => (eg_tgt pc off).map eg_jp
  | .ifCond c off => (eg_tgt pc off).map (eg_if en c)
  | .if_icmp c off => (eg_tgt pc off).map (eg_ic en c)
  | .tableswitch d lo hi offs => some (eg_tb en pc d lo hi offs)
  | .lookupswitch d ps => some (eg_lk pc d ps)
  | .istore_n k => bif Nat.blt k.val (eg_md u).2.2.1 then some (eg_s1 eg_isI k.val) else none
  | .istore k => bif Nat.blt k (eg_md u).2.2.1 then some (eg_s1 eg_isI k) else none
  | .lstore_n k => bif Nat.blt (k.val + 1) (eg_md u).2.2.1 then some (eg_s2 k.val) else none
  | .lstore k => bif Nat.blt (k + 1) (eg_md u).2.2.1 then some (eg_s2 k) else none
  | .astore_n k => bif Nat.blt k.val (eg_md u).2.2.1 then some (eg_s1 eg_isA k.val) else none
  | .astore k => bif Nat.blt k (eg_md u).2.2.1 then some (eg_s1 eg_isA k) else none
  | .iinc k n => bif Nat.blt k (eg_md u).2.2.1 then some (eg_in k n) else none
  | .getfield k => (match eg_at o eg_fx k with
    | some (ci, fk, _) => some (eg_gf ci fk)
    | none => bif Nat.beq o 16 then (bif Nat.beq k 9 then some (eg_gt (.float 3)) else bif Nat.beq k 15 then some (eg_gt (.int 0)) else none) else none)
  | .getstatic k => bif Nat.beq o 16 then (bif Nat.beq k 38 then some (eg_cn (.int 1)) else bif Nat.beq k 1053 then some (eg_cn (.float 4)) else none) else none
  | .arraylength => some (eg_al sc)
  | .iaload => some (eg_ar sc (fun t => Nat.beq t 0))
  | .laload => some (eg_ar sc (fun t => Nat.beq t 1))
  | .baload => some (eg_ar sc (fun t => Nat.beq t 2 || Nat.beq t 3))
  | .aaload => some (eg_ar sc (fun t => Nat.ble 4 t))
  | .putfield k => (match eg_at o eg_fx k with
    | some (ci, fk, _) => bif Nat.blt fk (eg_ncl ci) && (!(eg_finF ci fk) || (Nat.beq o ci && decide ((eg_md u).1.name = "<init>"))) then some (eg_pf (eg_fit (eg_fty ci fk)) ci fk) else none
    | none => none)
  | .iastore => some (eg_aw (fun t => Nat.beq t 0))
  | .lastore => some (eg_aw (fun t => Nat.beq t 1))
  | .bastore => some (eg_aw (fun t => Nat.beq t 2 || Nat.beq t 3))
  | .aastore => some eg_aq
  | .new k => (match eg_at o eg_nx k with
    | some (ci, _) => some (eg_mk (.inr (ci, eg_def ci)) (eg_ncl ci))
    | none => none)
  | .newarray .int => some (eg_na 0 (.int 0))
  | .newarray .long => some (eg_na 1 (.long 0))
  | .newarray .byte => some (eg_na 2 (.int 0))
  | .newarray .boolean => some (eg_na 3 (.int 0))
  | .anewarray k => (match eg_at o eg_nx k with
    | some (ci, _) => (eg_pos ci eg_AO 4).map (fun t => eg_na t .null)
    | none => none)
  | _ => none
def eg_hd (en : List (Int × Int)) (sc : List Value) (u o pc : Nat) (i : Instr) (len : Nat) : Option eg_O := match eg_lok i len with
  | true => eg_hd0 en sc u o pc i
  | false => none
def eg_pop : Nat → List Value → List Value → Option (List Value × List Value)
  | 0, st, acc => some (acc, st)
  | n + 1, v :: st, acc => eg_pop n st (v :: acc)
  | _ + 1, [], _ => none
def eg_args : Nat → List Value → eg_L
  | _, [] => []
  | i, v :: vs => (i, v) :: eg_args (bif Nat.beq v.category 2 then i + 2 else i + 1) vs
def eg_cat : List Value → Nat
  | [] => 0
  | v :: l => v.category + eg_cat l
/-- what a method may answer -/
def eg_rv (r : Option FieldType) (ik : Nat) (st : List Value) : Option (Option Value) := match ik with
  | 3 => (match st with
    | [v] => (match r with
      | some .int => bif eg_isI v then some (some v) else none
      | some .boolean => (match v with
        | .int w => bif w == 0 || w == 1 then some (some (.int w)) else none
        | _ => none)
      | some .byte => (match v with
        | .int w => bif w == 0 then some (some (.int w)) else none
        | _ => none)
      | some .char => (match v with
        | .int w => bif w.toUInt32.toUInt16.toUInt32.toInt32 == w then some (some (.int w)) else none
        | _ => none)
      | _ => none)
    | _ => none)
  | 4 => (match st with
    | [v] => (match r with
      | some .long => bif eg_isJ v then some (some v) else none
      | _ => none)
    | _ => none)
  | 5 => (match st with
    | [] => (match r with
      | none => some none
      | _ => none)
    | _ => none)
  | _ => none
/-- calls and ends: 0 virtual, 1 special, 2 static, 3 the end of an int's method, 4 of a long's, 5 of another one -/
def eg_ks (i : Instr) (len : Nat) : Option (Nat × Nat) := match eg_lok i len with
  | false => none
  | true => match i with
    | .invokevirtual k => some (0, k)
    | .invokespecial k => some (1, k)
    | .invokestatic k => some (2, k)
    | .ireturn => some (3, 0)
    | .lreturn => some (4, 0)
    | .return_ => some (5, 0)
    | _ => none
/-- the receiver stands on the stack: the arguments with it, and what is left -/
def eg_rcv (kind o' : Nat) (h : eg_H) (as st : List Value) : Option (List Value × List Value) := match kind with
  | 0 => (match st with
    | .ref b :: st => (match eg_obj h b with
      | some (ci, _) => bif Nat.beq ci o' then some (.ref b :: as, st) else none
      | none => none)
    | .float w :: st => bif w == 2 && Nat.beq o' 16 then some (.float w :: as, st) else none
    | _ => none)
  | 2 => some (as, st)
  | _ => (match st with
    | .ref b :: st => some (.ref b :: as, st)
    | _ => none)
def eg_seek (t : Nat) : eg_W → eg_W
  | [] => []
  | (p, i, n) :: l => match Nat.beq p t with
    | true => (p, i, n) :: l
    | false => eg_seek t l
