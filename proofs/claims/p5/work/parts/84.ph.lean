/-! the constructors' run, whatever the script is -/
def eg_ns2 (st : List Value) : Bool := match st with
  | _ :: .float w :: _ => !(w == 1)
  | _ => true
def eg_ns1 (st : List Value) : Bool := match st with
  | .float w :: _ => !(w == 1)
  | _ => true
/-- the script isn't read here -/
def eg_nsc (i : Instr) (st : List Value) : Bool := match i with
  | .arraylength => eg_ns1 st
  | .iaload => eg_ns2 st
  | .laload => eg_ns2 st
  | .baload => eg_ns2 st
  | .aaload => eg_ns2 st
  | _ => true
def eg_stepx (sm sp : Nat) (f : eg_F) : eg_F := fun u o dp bc bs pc cs ls st hn h => match cs with
  | [] => none
  | (p, i, len) :: cs => match Nat.beq p pc with
    | false => none
    | true => match Nat.beq p sp && Nat.beq u sm with
      | true => some (9, p, ls, st, hn, h)
      | false => match eg_nsc i st with
        | false => none
        | true => match eg_hd [] [] u o p i len with
          | some g => (match g ls st hn h bc bs with
            | none => none
            | some (0, ls, st, hn, h, bc, bs) => f u o dp bc bs (p + len) cs ls st hn h
            | some (t + 1, ls, st, hn, h, bc, bs) => f u o dp bc bs t (eg_seek t (eg_pg u)) ls st hn h)
          | none => match eg_ks i len with
            | none => none
            | some (ik, k) => match Nat.ble 3 ik with
              | true => some (ik, p, ls, st, hn, h)
              | false => eg_call sm f u o dp bc bs p cs ls st hn h ik k
noncomputable def eg_runx (sm sp : Nat) (n : Nat) : eg_F :=
  Nat.rec (motive := fun _ => eg_F) (fun _ _ _ _ _ _ _ _ _ _ _ => none) (fun _ f => eg_stepx sm sp f) n
theorem eg_nw {w : UInt32} (h : (!(w == 1)) = true) : (w == 1) = false := by
  cases hb : (w == 1) with
  | false => rfl
  | true => rw [hb] at h; cases h
theorem eg_al_sc {sc : List Value} : ∀ (st : List Value), eg_ns1 st = true → ∀ ls hn h bc bs, eg_al [] ls st hn h bc bs = eg_al sc ls st hn h bc bs
  | [], _, _, _, _, _, _ => rfl
  | .float w :: st, h1, _, _, _, _, _ => by simp only [eg_al, eg_nw h1, cond_false]
  | .int _ :: _, _, _, _, _, _, _ => rfl
  | .long _ :: _, _, _, _, _, _, _ => rfl
  | .double _ :: _, _, _, _, _, _, _ => rfl
  | .null :: _, _, _, _, _, _, _ => rfl
  | .ref _ :: _, _, _, _, _, _, _ => rfl
  | .retAddr _ :: _, _, _, _, _, _, _ => rfl
theorem eg_ar_sc {sc : List Value} {ok : Nat → Bool} : ∀ (st : List Value), eg_ns2 st = true → ∀ ls hn h bc bs, eg_ar [] ok ls st hn h bc bs = eg_ar sc ok ls st hn h bc bs
  | [], _, _, _, _, _, _ => rfl
  | [_], _, _, _, _, _, _ => rfl
  | _ :: .float w :: st, h1, _, _, _, _, _ => by simp only [eg_ar, eg_nw h1, Bool.false_and, cond_false]
  | _ :: .int _ :: _, _, _, _, _, _, _ => rfl
  | _ :: .long _ :: _, _, _, _, _, _, _ => rfl
  | _ :: .double _ :: _, _, _, _, _, _, _ => rfl
  | _ :: .null :: _, _, _, _, _, _, _ => rfl
  | _ :: .ref _ :: _, _, _, _, _, _, _ => rfl
  | _ :: .retAddr _ :: _, _, _, _, _, _, _ => rfl
theorem eg_hd_sc {sc : List Value} {u o p len : Nat} {i : Instr} {st : List Value} (hn : eg_nsc i st = true) : (eg_hd [] [] u o p i len = none ∧ eg_hd [] sc u o p i len = none) ∨ ∃ g g', eg_hd [] [] u o p i len = some g ∧ eg_hd [] sc u o p i len = some g' ∧ ∀ ls hn h bc bs, g ls st hn h bc bs = g' ls st hn h bc bs := by
  unfold eg_hd
  cases hl : eg_lok i len with
  | false => exact Or.inl ⟨rfl, rfl⟩
  | true =>
    simp only
    have same : eg_hd0 [] [] u o p i = eg_hd0 [] sc u o p i → (eg_hd0 [] [] u o p i = none ∧ eg_hd0 [] sc u o p i = none) ∨ ∃ g g', eg_hd0 [] [] u o p i = some g ∧ eg_hd0 [] sc u o p i = some g' ∧ ∀ ls hn h bc bs, g ls st hn h bc bs = g' ls st hn h bc bs := fun e => by
      rw [e]
      cases hx : eg_hd0 [] sc u o p i with
      | none => exact Or.inl ⟨rfl, rfl⟩
      | some g => exact Or.inr ⟨g, g, rfl, rfl, fun _ _ _ _ _ => rfl⟩
    cases i with
    | arraylength => exact Or.inr ⟨_, _, rfl, rfl, eg_al_sc st hn⟩
    | iaload => exact Or.inr ⟨_, _, rfl, rfl, eg_ar_sc st hn⟩
    | laload => exact Or.inr ⟨_, _, rfl, rfl, eg_ar_sc st hn⟩
    | baload => exact Or.inr ⟨_, _, rfl, rfl, eg_ar_sc st hn⟩
    | aaload => exact Or.inr ⟨_, _, rfl, rfl, eg_ar_sc st hn⟩
    | newarray t => exact same (by cases t <;> rfl)
    | _ => exact same rfl
theorem eg_stepx_le {sc : List Value} {sm sp : Nat} {f g : eg_F} (hfg : eg_mo f g) : eg_mo (eg_stepx sm sp f) (eg_step [] sc sm sp g) := by
  intro u o dp bc bs pc cs ls st hn h r hr
  unfold eg_stepx at hr
  unfold eg_step
  split at hr
  · cases hr
  next q0 p0 i len cs2 =>
    cases hp : Nat.beq p0 pc with
    | false => rw [hp] at hr; cases hr
    | true =>
      rw [hp] at hr
      simp only [hp] at hr ⊢
      cases hstop : (Nat.beq p0 sp && Nat.beq u sm) with
      | true => rw [hstop] at hr; exact hr
      | false =>
        rw [hstop] at hr
        simp only at hr ⊢
        cases hns : eg_nsc i st with
        | false => rw [hns] at hr; cases hr
        | true =>
          rw [hns] at hr
          simp only at hr
          rcases eg_hd_sc (sc := sc) (u := u) (o := o) (p := p0) (len := len) hns with ⟨e1, e2⟩ | ⟨g1, g2, e1, e2, e3⟩
          · rw [e1] at hr
            rw [e2]
            simp only at hr ⊢
            cases hks : eg_ks i len with
            | none => rw [hks] at hr; cases hr
            | some q =>
              obtain ⟨ik, k⟩ := q
              rw [hks] at hr
              simp only at hr ⊢
              cases hb3 : Nat.ble 3 ik with
              | true => rw [hb3] at hr; exact hr
              | false => rw [hb3] at hr; exact eg_call_mo hfg hr
          · rw [e1] at hr
            rw [e2]
            simp only at hr ⊢
            rw [← e3]
            split at hr
            · cases hr
            next ls2 st2 hn2 h2 bc2 bs2 hg =>
              rw [hg]
              exact hfg _ _ _ _ _ _ _ _ _ _ _ _ hr
            next t ls2 st2 hn2 h2 bc2 bs2 hg =>
              rw [hg]
              exact hfg _ _ _ _ _ _ _ _ _ _ _ _ hr
theorem eg_runx_le {sc : List Value} {sm sp : Nat} (n : Nat) : eg_mo (eg_runx sm sp n) (eg_run [] sc sm sp n) := by
  induction n with
  | zero => intro u o dp bc bs pc cs ls st hn h r hr; cases hr
  | succ n ih => exact eg_stepx_le ih
theorem ph_x : eg_req (eg_runx 9999 23 20000 9999 12 20 1000 100000 0 (eg_pg 9999) [(0, .float 1)] [] 0 eg_h0) 9 23 eg_ls23 [] eg_hn23 eg_h23 = true := by decide +kernel
theorem ph_sc (sc : List Value) : eg_run [] sc 9999 23 20000 9999 12 20 1000 100000 0 (eg_pg 9999) [(0, .float 1)] [] 0 eg_h0 = some (9, 23, eg_ls23, [], eg_hn23, eg_h23) := eg_runx_le 20000 _ _ _ _ _ _ _ _ _ _ _ _ (eg_req_v ph_x)
