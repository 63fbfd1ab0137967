/-! A RUN OVER INTERVALS. An int is a symbol and what is added to it; symbol 0 is 0, symbol 1 how long the script is. .inl (j, d): the int that symbol j stands for, d more; .inr 0: some long; .inr 1: the script; .inr (k + 2): cell k. -/
abbrev ab_A : Type := (Nat × Int) ⊕ Nat
/-- of a symbol: least, most, not 0, at least another symbol and some more -/
abbrev ab_B : Type := Int × Int × Bool × Option (Nat × Int)
abbrev ab_E : Type := List (Nat × ab_B)
/-- what is known of single slots: cell * 1024 + slot, symbol, added -/
abbrev ab_O : Type := List (Nat × Nat × Int)
/-- symbols made, what they may be, locals, stack, slots -/
abbrev ab_S : Type := Nat × ab_E × List (Nat × ab_A) × List ab_A × ab_O
/-- what a slot holds at all times: .inl (least, most), .inr 0 a long, .inr (k + 2) cell k -/
abbrev ab_G : Type := (Int × Int) ⊕ Nat
/-- a cell: its sort (arrays as in the engine, objects 100 more), its slots, like ones together -/
abbrev ab_C : Type := Nat × List (Nat × ab_G)
abbrev ab_M : Type := List (Nat × Nat × Nat)
/-- one instruction: where to (0 the next one, t + 1 the one at t) -/
abbrev ab_N : Type := Option (List (Nat × ab_S))
/-- a summary: method, class, place, depth, how it is there, what is written, its ends, the symbol that grows and its bound -/
abbrev ab_Q : Type := Nat × Nat × Nat × Nat × ab_S × ab_M × List (Nat × ab_S) × Option (Nat × Int)
abbrev ab_F : Type := Nat → Nat → Nat → Nat → eg_W → ab_S → ab_N
def ab_min : Int := -2147483648
def ab_max : Int := 2147483647
def ab_sl : List (Nat × ab_G) → Nat → Option ab_G
  | [], _ => none
  | (n, g) :: l, k => match Nat.blt k n with
    | true => some g
    | false => ab_sl l (k - n)
def ab_len : List (Nat × ab_G) → Nat
  | [] => 0
  | (n, _) :: l => n + ab_len l
def ab_lmin (a b : Int) : Int := if a ≤ b then a else b
def ab_lmax (a b : Int) : Int := if a ≤ b then b else a
/-- what ints of the slots k1 to k2 may be -/
def ab_jr : List (Nat × ab_G) → Nat → Nat → Option (Int × Int)
  | [], _, _ => none
  | (n, g) :: l, k1, k2 => match Nat.blt k1 n with
    | false => ab_jr l (k1 - n) (k2 - n)
    | true => match g with
      | .inr _ => none
      | .inl (lo, hi) => match Nat.blt k2 n with
        | true => some (lo, hi)
        | false => match ab_jr l 0 (k2 - n) with
          | none => none
          | some (lo2, hi2) => some (ab_lmin lo lo2, ab_lmax hi hi2)
/-- what each of the slots k1 to k2 may be -/
def ab_mr : List (Nat × ab_G) → Nat → Nat → Option (Int × Int)
  | [], _, _ => none
  | (n, g) :: l, k1, k2 => match Nat.blt k1 n with
    | false => ab_mr l (k1 - n) (k2 - n)
    | true => match g with
      | .inr _ => none
      | .inl (lo, hi) => match Nat.blt k2 n with
        | true => some (lo, hi)
        | false => match ab_mr l 0 (k2 - n) with
          | none => none
          | some (lo2, hi2) => some (ab_lmax lo lo2, ab_lmin hi hi2)
/-- what an int may be -/
def ab_iv (en : ab_E) (j : Nat) (d : Int) : Int × Int := match j with
  | 0 => (d, d)
  | j + 1 => match eg_find (Nat.succ j) en with
    | some (lo, hi, _) => (lo + d, hi + d)
    | none => (ab_min, ab_max)
def ab_full : Int × Int := (ab_min, ab_max)
def ab_fit (q : Int × Int) : Int × Int := if ab_min ≤ q.1 ∧ q.2 ≤ ab_max then q else ab_full
def ab_isof (en : ab_E) (j : Nat) (d : Int) : Bool := match j with
  | 0 => decide (ab_min ≤ d) && decide (d ≤ ab_max)
  | j + 1 => match eg_find (Nat.succ j) en with
    | some (lo, hi, _) => decide (ab_min ≤ lo + d) && decide (hi + d ≤ ab_max)
    | none => false
/-- a number reckoned out -/
def ab_fi {α : Type} (x : Int) (k : Int → α) : α := match x with
  | .ofNat n => (match n with
    | 0 => k (.ofNat 0)
    | m + 1 => k (.ofNat (Nat.succ m)))
  | .negSucc n => (match n with
    | 0 => k (.negSucc 0)
    | m + 1 => k (.negSucc (Nat.succ m)))
def ab_fn {α : Type} (x : Nat) (k : Nat → α) : α := match x with
  | 0 => k 0
  | m + 1 => k (Nat.succ m)
/-! how numbers are reckoned -/
abbrev ab_P : Type := Int × Int → Int × Int → Option (Int × Int)
def ab_add : ab_P := fun a b => some (ab_fit (a.1 + b.1, a.2 + b.2))
def ab_sub : ab_P := fun a b => some (ab_fit (a.1 - b.2, a.2 - b.1))
def ab_mul : ab_P := fun a b => if 0 ≤ a.1 ∧ 0 ≤ b.1 then some (ab_fit (a.1 * b.1, a.2 * b.2))
  else if 0 ≤ a.1 then some (ab_fit (a.2 * b.1, ab_lmax 0 (a.2 * b.2)))
  else if 0 ≤ b.1 then some (ab_fit (a.1 * b.2, ab_lmax 0 (a.2 * b.2)))
  else some ab_full
def ab_and : ab_P := fun a b => if 0 ≤ a.1 then (if 0 ≤ b.1 then some (0, ab_lmin a.2 b.2) else some (0, a.2)) else if 0 ≤ b.1 then some (0, b.2) else some ab_full
def ab_top (n : Nat) : Int := ((2 ^ (Nat.log2 n + 1) - 1 : Nat) : Int)
def ab_or : ab_P := fun a b => if 0 ≤ a.1 ∧ 0 ≤ b.1 then some (0, ab_top (Nat.max a.2.toNat b.2.toNat)) else some ab_full
def ab_shl : ab_P := fun a b => if a.1 = a.2 ∧ 0 ≤ a.1 ∧ 0 ≤ b.1 ∧ b.2 ≤ 31 then some (ab_fit (0, a.2 * 2 ^ b.2.toNat)) else some ab_full
def ab_shr : ab_P := fun a b => if 0 ≤ a.1 then (if b.1 = b.2 ∧ 0 ≤ b.1 ∧ b.2 ≤ 31 then some (a.1 / 2 ^ b.1.toNat, a.2 / 2 ^ b.1.toNat) else some (0, a.2)) else some ab_full
def ab_ushr : ab_P := fun a b => if b.1 = b.2 ∧ 1 ≤ b.1 ∧ b.2 ≤ 31 then some (0, 2 ^ (32 - b.1.toNat) - 1) else if 0 ≤ a.1 then some (0, a.2) else some ab_full
/-- the divisor is not 0 -/
def ab_nz (en : ab_E) (j : Nat) (d : Int) : Bool := match ab_iv en j d with
  | (lo, hi) => decide (0 < lo) || decide (hi < 0) || (match eg_find j en with
    | some (_, _, z, _) => z && decide (d = 0)
    | none => false)
def ab_div : ab_P := fun a b => if 0 ≤ a.1 ∧ 1 ≤ b.1 then some (if b.1 = b.2 then (a.1 / b.1, a.2 / b.1) else (0, a.2)) else some ab_full
def ab_rem : ab_P := fun a b => if 1 ≤ b.1 then (if 0 ≤ a.1 then some (0, ab_lmin a.2 (b.2 - 1)) else some (1 - b.2, b.2 - 1)) else some ab_full
def ab_any : ab_P := fun _ _ => some ab_full
/-! states -/
def ab_fresh (σ : ab_S) (lo hi : Int) (st : List ab_A) : ab_S := match σ with
  | (n, en, ls, _, ov) => ab_fi lo (fun lo => ab_fi hi (fun hi => (Nat.succ n, (n, lo, hi, false, none) :: en, ls, .inl (n, 0) :: st, ov)))
def ab_stk (σ : ab_S) (st : List ab_A) : ab_S := match σ with
  | (n, en, ls, _, ov) => (n, en, ls, st, ov)
def ab_go (σ : ab_S) : ab_N := some [(0, σ)]
def ab_is1 : ab_A → Bool
  | .inl _ => true
  | .inr 0 => false
  | .inr (_ + 1) => true
def ab_isI : ab_A → Bool
  | .inl _ => true
  | .inr _ => false
def ab_isJ : ab_A → Bool
  | .inr 0 => true
  | _ => false
def ab_isR : ab_A → Bool
  | .inr (_ + 1) => true
  | _ => false
def ab_ld (ok : ab_A → Bool) (k : Nat) (σ : ab_S) : ab_N := match σ with
  | (n, en, ls, st, ov) => match eg_find k ls with
    | some A => match ok A with
      | true => ab_go (n, en, ls, A :: st, ov)
      | false => none
    | none => none
def ab_cn (A : ab_A) (σ : ab_S) : ab_N := match σ with
  | (n, en, ls, st, ov) => ab_go (n, en, ls, A :: st, ov)
/-- two ints: an int -/
def ab_b2 (f : ab_P) (σ : ab_S) : ab_N := match σ with
  | (n, en, ls, st, ov) => match st with
    | .inl (j2, d2) :: .inl (j1, d1) :: st => match f (ab_iv en j1 d1) (ab_iv en j2 d2) with
      | some (lo, hi) => ab_go (ab_fresh (n, en, ls, st, ov) lo hi st)
      | none => none
    | _ => none
def ab_ad (σ : ab_S) : ab_N := match σ with
  | (n, en, ls, st, ov) => match st with
    | .inl (0, d2) :: .inl (j1, d1) :: st' => (match ab_isof en j1 (d1 + d2) with
      | true => ab_fi (d1 + d2) (fun d => ab_go (n, en, ls, .inl (j1, d) :: st', ov))
      | false => ab_b2 ab_add σ)
    | .inl (j2, d2) :: .inl (0, d1) :: st' => (match ab_isof en j2 (d2 + d1) with
      | true => ab_fi (d2 + d1) (fun d => ab_go (n, en, ls, .inl (j2, d) :: st', ov))
      | false => ab_b2 ab_add σ)
    | _ => ab_b2 ab_add σ
def ab_sb (σ : ab_S) : ab_N := match σ with
  | (n, en, ls, st, ov) => match st with
    | .inl (0, d2) :: .inl (j1, d1) :: st' => (match ab_isof en j1 (d1 - d2) with
      | true => ab_fi (d1 - d2) (fun d => ab_go (n, en, ls, .inl (j1, d) :: st', ov))
      | false => ab_b2 ab_sub σ)
    | _ => ab_b2 ab_sub σ
/-- the second one is not 0 -/
def ab_dv (f : ab_P) (σ : ab_S) : ab_N := match σ with
  | (n, en, ls, st, ov) => match st with
    | .inl (j2, d2) :: _ => (match ab_nz en j2 d2 with
      | true => ab_b2 f (n, en, ls, st, ov)
      | false => none)
    | _ => none
def ab_ll (σ : ab_S) : ab_N := match σ with
  | (n, en, ls, st, ov) => match st with
    | .inr 0 :: .inr 0 :: st => ab_go (n, en, ls, .inr 0 :: st, ov)
    | _ => none
def ab_li (σ : ab_S) : ab_N := match σ with
  | (n, en, ls, st, ov) => match st with
    | .inl _ :: .inr 0 :: st => ab_go (n, en, ls, .inr 0 :: st, ov)
    | _ => none
def ab_lc (σ : ab_S) : ab_N := match σ with
  | (n, en, ls, st, ov) => match st with
    | .inr 0 :: .inr 0 :: st => ab_go (ab_fresh (n, en, ls, st, ov) (-1) 1 st)
    | _ => none
def ab_i1 (f : Int × Int → Int × Int) (σ : ab_S) : ab_N := match σ with
  | (n, en, ls, st, ov) => match st with
    | .inl (j, d) :: st => match f (ab_iv en j d) with
      | (lo, hi) => ab_go (ab_fresh (n, en, ls, st, ov) lo hi st)
    | _ => none
def ab_il (σ : ab_S) : ab_N := match σ with
  | (n, en, ls, st, ov) => match st with
    | .inl _ :: st => ab_go (n, en, ls, .inr 0 :: st, ov)
    | _ => none
def ab_l2 (σ : ab_S) : ab_N := match σ with
  | (n, en, ls, st, ov) => match st with
    | .inr 0 :: st => ab_go (ab_fresh (n, en, ls, st, ov) ab_min ab_max st)
    | _ => none
def ab_sk (f : List ab_A → Option (List ab_A)) (σ : ab_S) : ab_N := match σ with
  | (n, en, ls, st, ov) => match f st with
    | some st => ab_go (n, en, ls, st, ov)
    | none => none
def ab_dup : List ab_A → Option (List ab_A)
  | y :: st => bif ab_is1 y then some (y :: y :: st) else none
  | _ => none
def ab_pop : List ab_A → Option (List ab_A)
  | y :: st => bif ab_is1 y then some st else none
  | _ => none
def ab_dx : List ab_A → Option (List ab_A)
  | y :: x :: st => bif ab_is1 y && ab_is1 x then some (y :: x :: y :: st) else none
  | _ => none
def ab_d2 : List ab_A → Option (List ab_A)
  | y :: x :: st => bif ab_is1 y && ab_is1 x then some (y :: x :: y :: x :: st) else none
  | _ => none
/-! what a branch tells -/
/-- at most so much -/
def ab_ub (en : ab_E) (j : Nat) (v : Int) : Option ab_E := match j with
  | 0 => if 0 ≤ v then some en else none
  | j + 1 => match eg_find (Nat.succ j) en with
    | none => some en
    | some (lo, hi, z, r) => if hi ≤ v then some en else if lo ≤ v then ab_fi v (fun v => some ((Nat.succ j, lo, v, z, r) :: en)) else none
/-- at least so much -/
def ab_lb (en : ab_E) (j : Nat) (v : Int) : Option ab_E := match j with
  | 0 => if v ≤ 0 then some en else none
  | j + 1 => match eg_find (Nat.succ j) en with
    | none => some en
    | some (lo, hi, z, r) => if v ≤ lo then some en else if v ≤ hi then ab_fi v (fun v => some ((Nat.succ j, v, hi, z, r) :: en)) else none
/-- symbol j is at least symbol b and r more -/
def ab_rel (en : ab_E) (j b : Nat) (r : Int) : ab_E := match eg_find j en with
  | some (lo, hi, z, none) => bif Nat.beq j 0 || Nat.beq b 0 then en else ab_fi r (fun r => (j, lo, hi, z, some (b, r)) :: en)
  | _ => en
/-- the first, s more, is at most the second -/
def ab_le (en : ab_E) (j1 : Nat) (d1 : Int) (j2 : Nat) (d2 s : Int) : Option ab_E := match Nat.beq j1 j2 with
  | true => if d1 + s ≤ d2 then some en else none
  | false => match ab_ub en j1 ((ab_iv en j2 d2).2 - s - d1) with
    | none => none
    | some en1 => match ab_lb en1 j2 ((ab_iv en j1 d1).1 + s - d2) with
      | none => none
      | some en2 => some (ab_rel en2 j2 j1 (d1 + s - d2))
def ab_eq (en : ab_E) (j1 : Nat) (d1 : Int) (j2 : Nat) (d2 : Int) : Option ab_E := match ab_le en j1 d1 j2 d2 0 with
  | none => none
  | some en => ab_le en j2 d2 j1 d1 0
def ab_zz (en : ab_E) (j : Nat) : ab_E := match eg_find j en with
  | some (lo, hi, false, r) => (j, lo, hi, true, r) :: en
  | _ => en
/-- not the number v -/
def ab_nv (en : ab_E) (j : Nat) (d v : Int) : Option ab_E := match ab_iv en j d with
  | (lo, hi) => if lo = v then (if hi = v then none else ab_lb en j (v + 1 - d)) else if hi = v then ab_ub en j (v - 1 - d) else some (bif decide (v = 0) && decide (d = 0) && !(Nat.beq j 0) then ab_zz en j else en)
def ab_ne (en : ab_E) (j1 : Nat) (d1 : Int) (j2 : Nat) (d2 : Int) : Option ab_E := match Nat.beq j1 j2 with
  | true => if d1 = d2 then none else some en
  | false => match ab_iv en j2 d2 with
    | (lo, hi) => if lo = hi then ab_nv en j1 d1 lo else some en
def ab_cmp (en : ab_E) (c : ClassFile.Cond) (j1 : Nat) (d1 : Int) (j2 : Nat) (d2 : Int) : Option ab_E := match c with
  | .eq => ab_eq en j1 d1 j2 d2
  | .ne => ab_ne en j1 d1 j2 d2
  | .lt => ab_le en j1 d1 j2 d2 1
  | .ge => ab_le en j2 d2 j1 d1 0
  | .gt => ab_le en j2 d2 j1 d1 1
  | .le => ab_le en j1 d1 j2 d2 0
def ab_not : ClassFile.Cond → ClassFile.Cond
  | .eq => .ne
  | .ne => .eq
  | .lt => .ge
  | .ge => .lt
  | .gt => .le
  | .le => .gt
def ab_way (t : Nat) (σ : ab_S) (e : Option ab_E) (st : List ab_A) : List (Nat × ab_S) := match e with
  | none => []
  | some en => match σ with
    | (n, _, ls, _, ov) => [(t, n, en, ls, st, ov)]
def ab_jp (t : Nat) (σ : ab_S) : ab_N := some [(Nat.succ t, σ)]
def ab_if (c : ClassFile.Cond) (t : Nat) (σ : ab_S) : ab_N := match σ with
  | (n, en, ls, st, ov) => match st with
    | .inl (j, d) :: st => some (ab_way (Nat.succ t) σ (ab_cmp en c j d 0 0) st ++ ab_way 0 σ (ab_cmp en (ab_not c) j d 0 0) st)
    | _ => none
def ab_ic (c : ClassFile.Cond) (t : Nat) (σ : ab_S) : ab_N := match σ with
  | (n, en, ls, st, ov) => match st with
    | .inl (j2, d2) :: .inl (j1, d1) :: st => some (ab_way (Nat.succ t) σ (ab_cmp en c j1 d1 j2 d2) st ++ ab_way 0 σ (ab_cmp en (ab_not c) j1 d1 j2 d2) st)
    | _ => none
/-- a table's ways: from the number v on -/
def ab_tl (pc : Nat) (σ : ab_S) (j : Nat) (d : Int) (st : List ab_A) : List Int → Int → ab_N
  | [], _ => some []
  | off :: l, v => match eg_tgt pc off with
    | none => none
    | some t => match ab_tl pc σ j d st l (v + 1) with
      | none => none
      | some L => some (ab_way (Nat.succ t) σ (ab_eq σ.2.1 j d 0 v) st ++ L)
def ab_tb (pc : Nat) (df lo hi : Int) (offs : Array Int) (σ : ab_S) : ab_N := match σ with
  | (n, en, ls, st, ov) => match st with
    | .inl (j, d) :: st => match eg_tgt pc df with
      | none => none
      | some t => match decide (hi < lo + offs.toList.length) with
        | false => none
        | true => match ab_tl pc σ j d st offs.toList lo with
          | none => none
          | some L => some (ab_way (Nat.succ t) σ (ab_le en j d 0 lo 1) st ++ (ab_way (Nat.succ t) σ (ab_le en 0 hi j d 1) st ++ L))
    | _ => none
def ab_k1 (i : Nat) (q : Nat × ab_A) : Bool := !(Nat.beq q.1 i) && !(Nat.beq (q.1 + 1) i && !(ab_is1 q.2))
def ab_k2 (i : Nat) (q : Nat × ab_A) : Bool := !(Nat.beq q.1 i) && (!(Nat.beq q.1 (i + 1)) && !(Nat.beq (q.1 + 1) i && !(ab_is1 q.2)))
def ab_s1 (ok : ab_A → Bool) (k : Nat) (σ : ab_S) : ab_N := match σ with
  | (n, en, ls, st, ov) => match st with
    | A :: st => match ok A with
      | true => ab_go (n, en, (k, A) :: eg_fil (ab_k1 k) ls, st, ov)
      | false => none
    | _ => none
def ab_s2 (k : Nat) (σ : ab_S) : ab_N := match σ with
  | (n, en, ls, st, ov) => match st with
    | A :: st => match ab_isJ A with
      | true => ab_go (n, en, (k, A) :: eg_fil (ab_k2 k) ls, st, ov)
      | false => none
    | _ => none
def ab_in (k : Nat) (v : Int) (σ : ab_S) : ab_N := match σ with
  | (n, en, ls, st, ov) => match eg_find k ls with
    | some (.inl (j, d)) => match ab_isof en j (d + v) with
      | true => ab_fi (d + v) (fun d => ab_go (n, en, (k, .inl (j, d)) :: eg_fil (ab_k1 k) ls, st, ov))
      | false => ab_go (Nat.succ n, (n, ab_min, ab_max, false, none) :: en, (k, .inl (n, 0)) :: eg_fil (ab_k1 k) ls, st, ov)
    | _ => none
