/-! the engine's steps -/
def eg_call (sm : Nat) (f : eg_F) (u o dp bc bs pc : Nat) (cs : eg_W) (ls : eg_L) (st : List Value) (hn : Nat) (h : eg_H) (ik k : Nat) : Option eg_R := match eg_at o eg_cx k with
  | none => none
  | some (kind, _, mu, o', np, _) => match Nat.beq kind 4 with
    | true => (match st with
      | .ref _ :: st => bif Nat.beq ik 1 && Nat.ble 1 dp && Nat.ble (eg_cat st) 8 then f u o dp bc bs (pc + 3) cs ls st hn h else none
      | _ => none)
    | false => bif (bif Nat.beq kind 3 then Nat.beq ik 1 else Nat.beq ik kind) then (match eg_pop np st [] with
      | none => none
      | some (as, st) => match eg_rcv kind o' h as st with
        | none => none
        | some (as, st) => match dp with
          | 0 => none
          | d + 1 => bif !(Nat.beq mu sm) && Nat.ble (eg_cat st) 8 && Nat.ble (eg_cat as) (eg_md mu).2.2.1 && Nat.ble (eg_bud mu).1 bc && Nat.ble (eg_bud mu).2 bs then (match f mu o' d (eg_bud mu).1 (eg_bud mu).2 0 (eg_pg mu) (eg_args 0 as) [] hn h with
            | none => none
            | some (ik', _, _, st', hn', h') => match eg_rv (eg_md mu).2.2.2 ik' st' with
              | none => none
              | some none => f u o (d + 1) (bc - (eg_bud mu).1) (bs - (eg_bud mu).2) (pc + 3) cs ls st hn' h'
              | some (some v) => f u o (d + 1) (bc - (eg_bud mu).1) (bs - (eg_bud mu).2) (pc + 3) cs ls (v :: st) hn' h') else none) else none
def eg_step (en : List (Int × Int)) (sc : List Value) (sm sp : Nat) (f : eg_F) : eg_F := fun u o dp bc bs pc cs ls st hn h => match cs with
  | [] => none
  | (p, i, len) :: cs => match Nat.beq p pc with
    | false => none
    | true => match Nat.beq p sp && Nat.beq u sm with
      | true => some (9, p, ls, st, hn, h)
      | false => match eg_hd en sc u o p i len with
        | some g => (match g ls st hn h bc bs with
          | none => none
          | some (0, ls, st, hn, h, bc, bs) => f u o dp bc bs (p + len) cs ls st hn h
          | some (t + 1, ls, st, hn, h, bc, bs) => f u o dp bc bs t (eg_seek t (eg_pg u)) ls st hn h)
        | none => match eg_ks i len with
          | none => none
          | some (ik, k) => match Nat.ble 3 ik with
            | true => some (ik, p, ls, st, hn, h)
            | false => eg_call sm f u o dp bc bs p cs ls st hn h ik k
noncomputable def eg_run (en : List (Int × Int)) (sc : List Value) (sm sp : Nat) (n : Nat) : eg_F :=
  Nat.rec (motive := fun _ => eg_F) (fun _ _ _ _ _ _ _ _ _ _ _ => none) (fun _ f => eg_step en sc sm sp f) n
/-- no cell yet: room for 256 -/
def eg_h0 : eg_H := eg_rep (eg_rep (.inl (99, [])) 16) 16
