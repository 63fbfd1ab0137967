/-! slots -/
def ab_get (a : Nat) : Option ab_C := match eg_nth ab_gH (a / 16) with
  | some r => eg_nth r (a % 16)
  | none => none
def ab_key (a k : Nat) : Nat := a * 1024 + k
/-- may be written -/
def ab_inr : ab_M → Nat → Nat → Nat → Bool
  | [], _, _, _ => false
  | (b, f, t) :: l, a, k1, k2 => bif Nat.beq a b && Nat.ble f k1 && Nat.ble k2 t then true else ab_inr l a k1 k2
/-- slots that only walks by hand write -/
def ab_npr (a i1 i2 : Nat) : Bool := match Nat.beq a 184 || Nat.beq a 201 with
  | true => Nat.blt i2 126
  | false => !(Nat.beq a 113 || Nat.beq a 114)
def ab_inw (M : ab_M) (a k1 k2 : Nat) : Bool := ab_inr M a k1 k2 && ab_npr a k1 k2
/-- an int out of one slot -/
def ab_rd (σ : ab_S) (a k : Nat) (g : ab_G) (st : List ab_A) : ab_N := match σ with
  | (n, en, ls, _, ov) => match g with
    | .inr q => ab_go (n, en, ls, .inr q :: st, ov)
    | .inl (lo, hi) => match eg_find (ab_key a k) ov with
      | some (j, d) => ab_go (n, en, ls, .inl (j, d) :: st, ov)
      | none => ab_go (Nat.succ n, (n, lo, hi, false, none) :: en, ls, .inl (n, 0) :: st, (ab_key a k, n, 0) :: ov)
def ab_gf (ci fk : Nat) (σ : ab_S) : ab_N := match σ.2.2.2.1 with
  | .inr (a + 2) :: st => match ab_get a with
    | some (tag, rg) => match Nat.beq tag (100 + ci) with
      | true => match ab_sl rg fk with
        | some g => ab_rd σ a fk g st
        | none => none
      | false => none
    | none => none
  | _ => none
def ab_bool : FieldType → Int × Int → Bool
  | .int, _ => true
  | .boolean, q => decide (0 ≤ q.1) && decide (q.2 ≤ 1)
  | _, _ => false
def ab_pf (M : ab_M) (ci fk : Nat) (σ : ab_S) : ab_N := match σ with
  | (n, en, ls, st, ov) => match st with
    | A :: .inr (a + 2) :: st => match ab_get a with
      | some (tag, rg) => match Nat.beq tag (100 + ci) && ab_inw M a fk fk with
        | true => (match ab_sl rg fk with
          | some (.inl (lo, hi)) => (match A with
            | .inl (j, d) => (match ab_iv en j d with
              | (l2, h2) => bif decide (lo ≤ l2) && decide (h2 ≤ hi) && ab_bool (eg_fty ci fk) (l2, h2) then ab_go (n, en, ls, st, (ab_key a fk, j, d) :: ov) else none)
            | .inr _ => none)
          | some (.inr 0) => (match A with
            | .inr 0 => (match eg_fty ci fk with
              | .long => ab_go (n, en, ls, st, ov)
              | _ => none)
            | _ => none)
          | _ => none)
        | false => none
      | none => none
    | _ => none
def ab_al (σ : ab_S) : ab_N := match σ with
  | (n, en, ls, st, ov) => match st with
    | .inr 1 :: st => ab_go (n, en, ls, .inl (1, 0) :: st, ov)
    | _ => none
/-- one way for each cell that it may be -/
def ab_aa (σ : ab_S) (j : Nat) (d : Int) (rg : List (Nat × ab_G)) (st : List ab_A) : Nat → Nat → ab_N
  | _, 0 => some []
  | k, n + 1 => match ab_sl rg k with
    | some (.inr (b + 2)) => (match ab_aa σ j d rg st (k + 1) n with
      | none => none
      | some L => some (ab_way 0 σ (ab_eq σ.2.1 j d 0 (k : Int)) (.inr (b + 2) :: st) ++ L))
    | _ => none
/-- bounds of a symbol and so much more -/
def ab_bd (en : ab_E) (j : Nat) : Option (Int × Int) := match j with
  | 0 => some (0, 0)
  | j + 1 => match eg_find (Nat.succ j) en with
    | some (lo, hi, _) => some (lo, hi)
    | none => none
def ab_bl (en : ab_E) (j2 : Nat) (d2 : Int) (j1 : Nat) (d1 : Int) : Bool := match ab_bd en j2 with
  | none => false
  | some (_, hi) => match ab_bd en j1 with
    | none => false
    | some (lo, _) => decide (hi + d2 ≤ lo + d1)
/-- how symbols stand to each other: the first is at least the second -/
def ab_geq (en : ab_E) (j2 : Nat) (d2 : Int) : Nat → Nat → Int → Bool
  | 0, _, _ => false
  | f + 1, j1, d1 => (Nat.beq j1 j2 && decide (d2 ≤ d1)) || ab_bl en j2 d2 j1 d1 || (match eg_find j1 en with
    | some (_, _, _, some (b, r)) => ab_geq en j2 d2 f b (r + d1)
    | _ => false)
def ab_ar (ok : Nat → Bool) (σ : ab_S) : ab_N := match σ with
  | (n, en, ls, st, ov) => match st with
    | .inl (j, d) :: .inr (a + 2) :: st => (match ab_get a with
      | some (tag, rg) => (match ok tag && Nat.blt tag 100 with
        | true => (match ab_iv en j d with
          | (i1, i2) => bif decide (0 ≤ i1) && decide (i2 < ab_len rg) then (bif decide (i1 = i2) then (match ab_sl rg i1.toNat with
              | some g => ab_rd σ a i1.toNat g st
              | none => none) else (match rg with
              | [(_, .inr 0)] => ab_go (n, en, ls, .inr 0 :: st, ov)
              | _ => bif Nat.ble 4 tag then ab_aa σ j d rg st i1.toNat (i2 - i1 + 1).toNat else (match ab_jr rg i1.toNat i2.toNat with
              | some (lo, hi) => ab_go (ab_fresh (n, en, ls, st, ov) lo hi st)
              | none => none))) else none)
        | false => none)
      | none => none)
    | .inl (j, d) :: .inr 1 :: st => bif ok 0 && decide (0 ≤ (ab_iv en j d).1) && ab_geq en j (d + 1) 16 1 0 then ab_go (ab_fresh (n, en, ls, st, ov) ab_min ab_max st) else none
    | _ => none
/-- what an array of sort t takes as it is -/
def ab_nar : Nat → Int × Int → Bool
  | 0, _ => true
  | 2, q => decide (-128 ≤ q.1) && decide (q.2 ≤ 127)
  | 3, q => decide (0 ≤ q.1) && decide (q.2 ≤ 1)
  | _, _ => false
def ab_out (f t : Nat) (q : Nat × Nat × Int) : Bool := Nat.blt q.1 f || Nat.blt t q.1
def ab_aw (M : ab_M) (ok : Nat → Bool) (σ : ab_S) : ab_N := match σ with
  | (n, en, ls, st, ov) => match st with
    | .inl (jv, dv) :: .inl (j, d) :: .inr (a + 2) :: st => (match ab_get a with
      | some (tag, rg) => (match ok tag && Nat.blt tag 100 with
        | true => (match ab_iv en j d with
          | (i1, i2) => (match ab_iv en jv dv with
            | (l2, h2) => bif decide (0 ≤ i1) && decide (i2 < ab_len rg) && decide (i1 ≤ i2) && ab_nar tag (l2, h2) && ab_inw M a i1.toNat i2.toNat && Nat.ble (ab_len rg) 1024 then (match ab_mr rg i1.toNat i2.toNat with
              | some (lo, hi) => bif decide (lo ≤ l2) && decide (h2 ≤ hi) then (bif decide (i1 = i2) then ab_go (n, en, ls, st, (ab_key a i1.toNat, jv, dv) :: ov) else ab_go (n, en, ls, st, eg_fil (ab_out (ab_key a i1.toNat) (ab_key a i2.toNat)) ov)) else none
              | none => none) else none))
        | false => none)
      | none => none)
    | .inr 0 :: .inl (j, d) :: .inr (a + 2) :: st => (match ab_get a with
      | some (tag, rg) => (match ok tag && Nat.beq tag 1 with
        | true => (match rg with
          | [(_, .inr 0)] => (match ab_iv en j d with
            | (i1, i2) => bif decide (0 ≤ i1) && decide (i2 < ab_len rg) && ab_inw M a i1.toNat i2.toNat then ab_go (n, en, ls, st, ov) else none)
          | _ => none)
        | false => none)
      | none => none)
    | _ => none
/-- a look-up's ways -/
def ab_kl (pc : Nat) (σ : ab_S) (j : Nat) (d : Int) (st : List ab_A) : List (Int × Int) → ab_N
  | [] => some []
  | (v, off) :: l => match eg_tgt pc off with
    | none => none
    | some t => match ab_kl pc σ j d st l with
      | none => none
      | some L => some (ab_way (Nat.succ t) σ (ab_eq σ.2.1 j d 0 v) st ++ L)
def ab_lk (pc : Nat) (df : Int) (ps : Array (Int × Int)) (σ : ab_S) : ab_N := match σ with
  | (n, en, ls, st, ov) => match st with
    | .inl (j, d) :: st => match eg_tgt pc df with
      | none => none
      | some t => match ab_kl pc σ j d st ps.toList with
        | none => none
        | some L => some (ab_way (Nat.succ t) σ (some en) st ++ L)
    | _ => none
/-! an instruction that is no call -/
def ab_hd0 (M : ab_M) (u o pc : Nat) (i : Instr) : Option (ab_S → ab_N) := match i with
  | .iload_n k => some (ab_ld ab_isI k.val)
  | .iload k => some (ab_ld ab_isI k)
  | .lload_n k => some (ab_ld ab_isJ k.val)
  | .lload k => some (ab_ld ab_isJ k)
  | .aload_n k => some (ab_ld ab_isR k.val)
  | .aload k => some (ab_ld ab_isR k)
  | .iconst n => some (ab_cn (.inl (0, (Int32.ofInt n).toInt)))
  | .bipush n => some (ab_cn (.inl (0, (Int8.ofInt n).toInt32.toInt)))
  | .sipush n => some (ab_cn (.inl (0, (Int16.ofInt n).toInt32.toInt)))
  | .lconst _ => some (ab_cn (.inr 0))
  | .ldc k => (match eg_at o eg_kx k with
    | some (.int v, _) => some (ab_cn (.inl (0, v.toInt)))
    | _ => none)
  | .ldc_w k => (match eg_at o eg_kx k with
    | some (.int v, _) => some (ab_cn (.inl (0, v.toInt)))
    | _ => none)
  | .ldc2_w k => (match eg_at o eg_kx k with
    | some (.long _, _) => some (ab_cn (.inr 0))
    | _ => none)
  | .iadd => some ab_ad
  | .isub => some ab_sb
  | .imul => some (ab_b2 ab_mul)
  | .iand => some (ab_b2 ab_and)
  | .ior => some (ab_b2 ab_or)
  | .ixor => some (ab_b2 ab_any)
  | .idiv => some (ab_dv ab_div)
  | .irem => some (ab_dv ab_rem)
  | .ishl => some (ab_b2 ab_shl)
  | .ishr => some (ab_b2 ab_shr)
  | .iushr => some (ab_b2 ab_ushr)
  | .ladd => some ab_ll
  | .lsub => some ab_ll
  | .lmul => some ab_ll
  | .land => some ab_ll
  | .lor => some ab_ll
  | .lxor => some ab_ll
  | .lshl => some ab_li
  | .lshr => some ab_li
  | .lushr => some ab_li
  | .lcmp => some ab_lc
  | .ineg => some (ab_i1 (fun q => ab_fit (-q.2, -q.1)))
  | .i2l => some ab_il
  | .l2i => some ab_l2
  | .i2b => some (ab_i1 (fun _ => (-128, 127)))
  | .dup => some (ab_sk ab_dup)
  | .pop => some (ab_sk ab_pop)
  | .dup_x1 => some (ab_sk ab_dx)
  | .dup2 => some (ab_sk ab_d2)
  | .goto off => (eg_tgt pc off).map ab_jp
  | .ifCond c off => (eg_tgt pc off).map (ab_if c)
  | .if_icmp c off => (eg_tgt pc off).map (ab_ic c)
  | .tableswitch d lo hi offs => bif decide ((Int32.ofInt lo).toInt = lo) && decide ((Int32.ofInt hi).toInt = hi) then some (ab_tb pc d lo hi offs) else none
  | .lookupswitch d ps => bif eg_srt ps then some (ab_lk pc d ps) else none
  | .istore_n k => bif Nat.blt k.val (eg_md u).2.2.1 then some (ab_s1 ab_isI k.val) else none
  | .istore k => bif Nat.blt k (eg_md u).2.2.1 then some (ab_s1 ab_isI k) else none
  | .lstore_n k => bif Nat.blt (k.val + 1) (eg_md u).2.2.1 then some (ab_s2 k.val) else none
  | .lstore k => bif Nat.blt (k + 1) (eg_md u).2.2.1 then some (ab_s2 k) else none
  | .iinc k n => bif Nat.blt k (eg_md u).2.2.1 then some (ab_in k (Int32.ofInt n).toInt) else none
  | .getfield k => (match eg_at o eg_fx k with
    | some (ci, fk, _) => some (ab_gf ci fk)
    | none => none)
  | .putfield k => (match eg_at o eg_fx k with
    | some (ci, fk, _) => bif Nat.blt fk (eg_ncl ci) && !(eg_finF ci fk) then some (ab_pf M ci fk) else none
    | none => none)
  | .arraylength => some ab_al
  | .iaload => some (ab_ar (fun t => Nat.beq t 0))
  | .laload => some (ab_ar (fun t => Nat.beq t 1))
  | .baload => some (ab_ar (fun t => Nat.beq t 2 || Nat.beq t 3))
  | .aaload => some (ab_ar (fun t => Nat.ble 4 t))
  | .iastore => some (ab_aw M (fun t => Nat.beq t 0))
  | .lastore => some (ab_aw M (fun t => Nat.beq t 1))
  | .bastore => some (ab_aw M (fun t => Nat.beq t 2 || Nat.beq t 3))
  | _ => none
def ab_hd (M : ab_M) (u o pc : Nat) (i : Instr) (len : Nat) : Option (ab_S → ab_N) := match eg_lok i len with
  | true => ab_hd0 M u o pc i
  | false => none
/-! summaries: how one is used -/
abbrev ab_D : Type := List (Nat × Nat × Int)
/-- slots that the summary speaks of -/
def ab_ens : ab_O → ab_S → Option ab_S
  | [], σ => some σ
  | (key, _) :: l, (n, en, ls, st, ov) => match eg_find key ov with
    | some _ => ab_ens l (n, en, ls, st, ov)
    | none => match ab_get (key / 1024) with
      | some (_, rg) => (match ab_sl rg (key % 1024) with
        | some (.inl (lo, hi)) => ab_ens l (Nat.succ n, (n, lo, hi, false, none) :: en, ls, st, (key, n, 0) :: ov)
        | _ => none)
      | none => none
/-- binding: symbol p of the summary is symbol j here, d more -/
def ab_uni (en : ab_E) (n0 : Nat) (j : Nat) (d : Int) (p : Nat) (e : Int) (b : ab_D) : Option ab_D := match Nat.beq p 0 with
  | true => (match ab_iv en j d with
    | (lo, hi) => bif decide (lo = e) && decide (hi = e) && Nat.blt 0 n0 then some b else none)
  | false => bif Nat.blt p n0 then (match eg_find p b with
    | some (j', d') => bif Nat.beq j' j && decide (d' + e = d) then some b else none
    | none => ab_fi (d - e) (fun d => some ((p, j, d) :: b))) else none
def ab_un (en : ab_E) (n0 : Nat) (A P : ab_A) (b : ab_D) : Option ab_D := match A with
  | .inl (j, d) => (match P with
    | .inl (p, e) => ab_uni en n0 j d p e b
    | .inr _ => none)
  | .inr q => (match P with
    | .inl _ => none
    | .inr q' => bif Nat.beq q q' then some b else none)
def ab_unL (en : ab_E) (n0 : Nat) (ls : List (Nat × ab_A)) : List (Nat × ab_A) → ab_D → Option ab_D
  | [], b => some b
  | (k, P) :: l, b => match eg_find k ls with
    | none => none
    | some A => match ab_un en n0 A P b with
      | none => none
      | some b => ab_unL en n0 ls l b
def ab_unS (en : ab_E) (n0 : Nat) : List ab_A → List ab_A → ab_D → Option ab_D
  | [], [], b => some b
  | A :: st, P :: l, b => (match ab_un en n0 A P b with
    | none => none
    | some b => ab_unS en n0 st l b)
  | _, _, _ => none
def ab_unO (en : ab_E) (n0 : Nat) (ov : ab_O) : ab_O → ab_D → Option ab_D
  | [], b => some b
  | (key, p, e) :: l, b => match eg_find key ov with
    | none => none
    | some (j, d) => match ab_uni en n0 j d p e b with
      | none => none
      | some b => ab_unO en n0 ov l b
def ab_chk1 (n0 : Nat) (en : ab_E) (b : ab_D) (q : Nat × ab_B) : Bool := match q with
  | (p, lo, hi, z, r) => Nat.blt p n0 && (match eg_find p b with
    | none => false
    | some (j, d) => (match ab_bd en j with
      | none => false
      | some (l2, h2) => decide (lo ≤ l2 + d) && decide (h2 + d ≤ hi) && (!z || decide (0 < l2 + d) || decide (h2 + d < 0) || (match eg_find j en with
        | some (_, _, z2, _) => z2 && decide (d = 0)
        | none => false)) && (match r with
        | none => true
        | some (p2, s) => Nat.blt p2 n0 && (match eg_find p2 b with
          | none => false
          | some (j2, d2) => ab_geq en j2 (d2 + s) 16 j d))))
def ab_chk (n0 : Nat) (en : ab_E) (b : ab_D) : ab_E → Bool
  | [] => true
  | q :: l => ab_chk1 n0 en b q && ab_chk n0 en b l
def ab_b0 : ab_D := [(0, 0, 0), (1, 1, 0)]
/-- the state is as the summary has it: the binding -/
def ab_mat (σ : ab_S) (P : ab_S) (b : ab_D) : Option ab_D := match σ with
  | (_, en, ls, st, ov) => match P with
    | (n0, en0, ls0, st0, ov0) => match ab_unL en n0 ls ls0 b with
      | none => none
      | some b => match ab_unS en n0 st st0 b with
        | none => none
        | some b => match ab_unO en n0 ov ov0 b with
          | none => none
          | some b => bif ab_chk n0 en b en0 then some b else none
def ab_mp (b : ab_D) (n0 n j : Nat) (d : Int) : Option (Nat × Int) := match Nat.blt j n0 with
  | true => (match eg_find j b with
    | some (j', d') => ab_fi (d' + d) (fun d => some (j', d))
    | none => none)
  | false => ab_fn (n + (j - n0)) (fun j => some (j, d))
def ab_mpA (b : ab_D) (n0 n : Nat) : ab_A → Option ab_A
  | .inr q => some (.inr q)
  | .inl (j, d) => (ab_mp b n0 n j d).map .inl
def ab_mpS (b : ab_D) (n0 n : Nat) : List ab_A → Option (List ab_A)
  | [] => some []
  | A :: l => match ab_mpA b n0 n A with
    | none => none
    | some A => (ab_mpS b n0 n l).map (fun l => A :: l)
def ab_mpL (b : ab_D) (n0 n : Nat) : List (Nat × ab_A) → Option (List (Nat × ab_A))
  | [] => some []
  | (k, A) :: l => match ab_mpA b n0 n A with
    | none => none
    | some A => (ab_mpL b n0 n l).map (fun l => (k, A) :: l)
def ab_mpO (b : ab_D) (n0 n : Nat) : ab_O → Option ab_O
  | [] => some []
  | (k, j, d) :: l => match ab_mp b n0 n j d with
    | none => none
    | some q => (ab_mpO b n0 n l).map (fun l => (k, q) :: l)
/-- what is told of the new symbols, and of those that were there; an empty list: it can't be -/
def ab_mpE (b : ab_D) (n0 n : Nat) : ab_E → ab_E → Option (List ab_E)
  | [], en => some [en]
  | (j, lo, hi, z, r) :: l, en => match ab_mpE b n0 n l en with
    | none => none
    | some [] => some []
    | some (en :: _) => match Nat.blt j n0 with
      | false => (match r with
        | none => ab_fn (n + (j - n0)) (fun j => some [(j, lo, hi, z, none) :: en])
        | some (p, s) => (match ab_mp b n0 n p s with
          | none => none
          | some q => ab_fn (n + (j - n0)) (fun j => some [(j, lo, hi, z, some q) :: en])))
      | true => (match eg_find j b with
        | some (j', d') => (match ab_lb en j' (lo - d') with
          | none => some []
          | some en => (match ab_ub en j' (hi - d') with
            | none => some []
            | some en => some [en]))
        | none => none)
def ab_kill : ab_M → ab_O → ab_O
  | [], ov => ov
  | (a, f, t) :: l, ov => ab_kill l (eg_fil (ab_out (ab_key a f) (ab_key a t)) ov)
def ab_app {α : Type} : List α → List α → List α
  | [], l => l
  | a :: k, l => a :: ab_app k l
/-- one of its ends, here -/
def ab_ins (b : ab_D) (n0 : Nat) (M : ab_M) (σ : ab_S) (e : Nat × ab_S) : Option (List (Nat × ab_S)) := match σ with
  | (n, en, _, _, ov) => match e with
    | (pc, ne, ene, lse, ste, ove) => match ab_mpL b n0 n lse with
      | none => none
      | some ls => match ab_mpS b n0 n ste with
        | none => none
        | some st => match ab_mpO b n0 n ove with
          | none => none
          | some ov2 => match ab_mpE b n0 n ene en with
            | none => none
            | some [] => some []
            | some (en :: _) => ab_fn (n + (ne - n0)) (fun n => some [(pc, n, en, ls, st, ab_app ov2 (ab_kill M ov))])
def ab_cc {α β : Type} (g : α → Option (List β)) : List α → Option (List β)
  | [] => some []
  | a :: l => match g a with
    | none => none
    | some x => match ab_cc g l with
      | none => none
      | some y => some (ab_app x y)
def ab_subM (M : ab_M) : ab_M → Bool
  | [] => true
  | (a, f, t) :: l => ab_inr M a f t && ab_subM M l
/-- a summary used in a state: its ends there. rk: what must have grown, if it is used within itself -/
def ab_use (M : ab_M) (rk : Bool) (q : ab_Q) (dp : Nat) (σ : ab_S) : Option (List (Nat × ab_S)) := match q with
  | (_, _, _, need, P, Mq, ends, rank) => match ab_ens P.2.2.2.2 σ with
    | none => none
    | some σ => match ab_mat σ P ab_b0 with
      | none => none
      | some b => match Nat.ble need dp && ab_subM M Mq && (bif rk then (match rank with
          | none => false
          | some (p, w) => (match eg_find p b with
            | none => false
            | some (j, d) => (match w with
              | .ofNat _ => ab_geq σ.2.1 p 1 16 j d
              | .negSucc _ => ab_geq σ.2.1 j (d + 1) 16 p 0))) else true) with
        | false => none
        | true => ab_cc (ab_ins b P.1 Mq σ) ends
/-- the first summary of this place that fits -/
def ab_try (M : ab_M) (u o pc dp : Nat) (σ : ab_S) : List ab_Q → Option (List (Nat × ab_S))
  | [] => none
  | q :: l => match Nat.beq q.1 u && Nat.beq q.2.2.1 pc && Nat.beq q.2.1 o with
    | false => ab_try M u o pc dp σ l
    | true => match ab_use M false q dp σ with
      | some L => some L
      | none => ab_try M u o pc dp σ l
def ab_cat : List ab_A → Nat
  | [] => 0
  | A :: l => (bif ab_is1 A then 1 else 2) + ab_cat l
def ab_args : Nat → List ab_A → List (Nat × ab_A)
  | _, [] => []
  | i, A :: l => (i, A) :: ab_args (bif ab_is1 A then i + 1 else i + 2) l
def ab_pops : Nat → List ab_A → List ab_A → Option (List ab_A × List ab_A)
  | 0, st, acc => some (acc, st)
  | n + 1, v :: st, acc => ab_pops n st (v :: acc)
  | _ + 1, [], _ => none
/-- the return at a place: 3 of an int, 4 of a long, 5 of none -/
def ab_ret (u pc : Nat) : Option Nat := match eg_seek pc (eg_pg u) with
  | (_, i, len) :: _ => (match eg_ks i len with
    | some (ik, _) => bif Nat.ble 3 ik then some ik else none
    | none => none)
  | [] => none
def ab_rv (r : Option FieldType) (ik : Nat) (en : ab_E) (st : List ab_A) : Option (List ab_A) := match ik with
  | 3 => (match st with
    | [.inl (j, d)] => (match r with
      | some .int => some [.inl (j, d)]
      | some .boolean => (match ab_iv en j d with
        | (lo, hi) => bif decide (0 ≤ lo) && decide (hi ≤ 1) then some [.inl (j, d)] else none)
      | _ => none)
    | _ => none)
  | 4 => (match st with
    | [.inr 0] => (match r with
      | some .long => some [.inr 0]
      | _ => none)
    | _ => none)
  | 5 => (match st with
    | [] => (match r with
      | none => some []
      | _ => none)
    | _ => none)
  | _ => none
def ab_rcv (kind o' : Nat) (as st : List ab_A) : Option (List ab_A × List ab_A) := match kind with
  | 0 => (match st with
    | .inr (a + 2) :: st => (match ab_get a with
      | some (tag, _) => bif Nat.beq tag (100 + o') then some (.inr (a + 2) :: as, st) else none
      | none => none)
    | _ => none)
  | 2 => some (as, st)
  | _ => none
/-! the run -/
def ab_hq (cs : eg_W) (p : Nat) : Bool := match cs with
  | (q, _, _) :: _ => Nat.beq q p
  | [] => false
def ab_call (f : ab_F) (u o dp pc : Nat) (cs : eg_W) (σ : ab_S) (ik k : Nat) : ab_N := match σ with
  | (n, en, ls, st, ov) => match (bif ab_hq cs (pc + 3) then eg_at o eg_cx k else none) with
    | none => none
    | some (kind, _, mu, o', np, _) => match Nat.ble 4 kind with
      | true => bif Nat.ble 1 dp && Nat.ble (ab_cat st) 8 && Nat.beq ik 2 then (match kind with
        | 5 => (match st with
          | .inl (j2, d2) :: .inl (j1, d1) :: st => f u o dp (pc + 3) cs (ab_fresh σ (ab_lmin (ab_iv en j1 d1).1 (ab_iv en j2 d2).1) (ab_lmin (ab_iv en j1 d1).2 (ab_iv en j2 d2).2) st)
          | _ => none)
        | 6 => (match st with
          | .inl (j2, d2) :: .inl (j1, d1) :: st => f u o dp (pc + 3) cs (ab_fresh σ (ab_lmax (ab_iv en j1 d1).1 (ab_iv en j2 d2).1) (ab_lmax (ab_iv en j1 d1).2 (ab_iv en j2 d2).2) st)
          | _ => none)
        | 7 => (match st with
          | .inl _ :: st => f u o dp (pc + 3) cs (ab_fresh σ ab_min ab_max st)
          | _ => none)
        | _ => none) else none
      | false => bif Nat.beq ik kind then (match ab_pops np st [] with
        | none => none
        | some (as, st) => match ab_rcv kind o' as st with
          | none => none
          | some (as, st) => match dp with
            | 0 => none
            | dm + 1 => bif !(Nat.beq mu 9999) && Nat.ble (ab_cat st) 8 && Nat.ble (ab_cat as) (eg_md mu).2.2.1 && Nat.ble (eg_bud mu).1 0 && Nat.ble (eg_bud mu).2 0 then (match eg_pg mu with
              | [] => none
              | (p0, i0, l0) :: cs0 => match Nat.beq p0 0 with
                | false => none
                | true => match f mu o' dm 0 ((p0, i0, l0) :: cs0) (n, en, ab_args 0 as, [], ov) with
                  | none => none
                  | some L => ab_cc (fun e => match ab_ret mu e.1 with
                    | none => none
                    | some ir => match ab_rv (eg_md mu).2.2.2 ir e.2.2.1 e.2.2.2.2.1 with
                      | none => none
                      | some v => f u o (dm + 1) (pc + 3) cs (e.2.1, e.2.2.1, ls, ab_app v st, e.2.2.2.2.2)) L) else none) else none
/-- a place of the law where the engine stops: lw none: nothing of the law at all -/
def ab_stp (lw : Option Nat) (u p : Nat) : Bool := Nat.beq u 9999 && (match lw with
  | none => true
  | some sp => Nat.beq p sp)
def ab_one (lw : Option Nat) (M : ab_M) (f : ab_F) : ab_F := fun u o dp pc cs σ => match cs with
  | [] => none
  | (p, i, len) :: cs => match Nat.beq p pc with
    | false => none
    | true => match ab_stp lw u p with
      | true => none
      | false => match ab_hd M u o p i len with
      | some g => (match g σ with
        | none => none
        | some L => ab_cc (fun e => match e.1 with
          | 0 => bif ab_hq cs (p + len) then f u o dp (p + len) cs e.2 else none
          | t + 1 => f u o dp t (eg_seek t (eg_pg u)) e.2) L)
      | none => match eg_ks i len with
        | none => none
        | some (ik, k) => match Nat.ble 3 ik with
          | true => some [(p, σ)]
          | false => ab_call f u o dp p cs σ ik k
/-- behind a summary: its ends that go on -/
def ab_on (f : ab_F) (u o dp : Nat) (L : List (Nat × ab_S)) : ab_N := ab_cc (fun e => match ab_ret u e.1 with
  | some _ => some [e]
  | none => f u o dp e.1 (eg_seek e.1 (eg_pg u)) e.2) L
/-- stops: places of the method su where it ends -/
def ab_isin (k : Nat) : List Nat → Bool
  | [] => false
  | a :: l => match Nat.beq a k with
    | true => true
    | false => ab_isin k l
def ab_step (lw : Option Nat) (M : ab_M) (T : List ab_Q) (self : Option ab_Q) (su : Nat) (stops : List Nat) (f : ab_F) : ab_F := fun u o dp pc cs σ => match (match self with
      | none => none
      | some q => bif Nat.beq q.1 u && Nat.beq q.2.2.1 pc && Nat.beq q.2.1 o then ab_use M true q dp σ else none) with
    | some L => ab_on f u o dp L
    | none => match ab_try M u o pc dp σ T with
      | some L => ab_on f u o dp L
      | none => match Nat.beq u su && ab_isin pc stops with
        | true => some [(pc, σ)]
        | false => ab_one lw M f u o dp pc cs σ
noncomputable def ab_run (lw : Option Nat) (M : ab_M) (T : List ab_Q) (self : Option ab_Q) (su : Nat) (stops : List Nat) (n : Nat) : ab_F :=
  Nat.rec (motive := fun _ => ab_F) (fun _ _ _ _ _ _ => none) (fun _ f => ab_step lw M T self su stops f) n
/-- symbols below n0 are themselves -/
def ab_id : Nat → ab_D
  | 0 => []
  | n + 1 => (n, n, 0) :: ab_id n
/-- an end is one of those told -/
def ab_sube (n0 : Nat) (ends : List (Nat × ab_S)) (e : Nat × ab_S) : Bool := match ends with
  | [] => false
  | x :: l => (Nat.beq x.1 e.1 && (match ab_ens x.2.2.2.2.2 e.2 with
    | none => false
    | some σ => (match ab_mat σ x.2 (ab_id n0) with
      | some _ => true
      | none => false))) || ab_sube n0 l e
def ab_alls (n0 : Nat) (ends : List (Nat × ab_S)) : List (Nat × ab_S) → Bool
  | [] => true
  | e :: l => ab_sube n0 ends e && ab_alls n0 ends l
def ab_fst {α : Type} (k : Nat) : List (Nat × α) → Bool
  | [] => true
  | q :: l => !(Nat.beq q.1 k) && ab_fst k l
def ab_nd {α : Type} : List (Nat × α) → Bool
  | [] => true
  | q :: l => ab_fst q.1 l && ab_nd l
/-- a summary holds -/
noncomputable def ab_good (lw : Option Nat) (T : List ab_Q) (stops : List Nat) (n : Nat) (q : ab_Q) : Bool := match q with
  | (u, o, pc, need, P, M, ends, rank) => (match rank with
    | none => true
    | some (p, _) => (match eg_find p P.2.1 with
      | none => false
      | some _ => Nat.blt p P.1)) && ab_nd P.2.1 && ends.all (fun e => ab_nd e.2.2.1 && Nat.ble P.1 e.2.1) && Nat.ble 2 P.1 && (match ab_one lw M (ab_run lw M T (match rank with
      | none => none
      | some _ => some q) u stops n) u o need pc (eg_seek pc (eg_pg u)) P with
    | none => false
    | some L => ab_alls P.1 ends L)
