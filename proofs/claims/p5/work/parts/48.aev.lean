/-! what the engine comes to -/
/-- more steps do no harm -/
def eg_mo (f g : eg_F) : Prop := ∀ (u o dp bc bs pc : Nat) (cs : eg_W) (ls : eg_L) (st : List Value) (hn : Nat) (h : eg_H) (r : eg_R), f u o dp bc bs pc cs ls st hn h = some r → g u o dp bc bs pc cs ls st hn h = some r
set_option maxHeartbeats 1000000 in
theorem eg_call_mo {sm : Nat} {f g : eg_F} (hfg : eg_mo f g) {u o dp bc bs pc : Nat} {cs : eg_W} {ls : eg_L} {st : List Value} {hn : Nat} {h : eg_H} {ik k : Nat} {r : eg_R} (hr : eg_call sm f u o dp bc bs pc cs ls st hn h ik k = some r) : eg_call sm g u o dp bc bs pc cs ls st hn h ik k = some r := by
  unfold eg_call at hr ⊢
  cases ha : eg_at o eg_cx k with
  | none => rw [ha] at hr; cases hr
  | some en0 =>
    obtain ⟨kind, pl, mu, o', np, pa, pb, pi⟩ := en0
    rw [ha] at hr
    simp only at hr ⊢
    cases hk4 : Nat.ble 4 kind with
    | true =>
      rw [hk4] at hr
      simp only at hr ⊢
      cases hcond : (Nat.ble 1 dp && Nat.ble (eg_cat st) 8) with
      | false => rw [hcond] at hr; cases hr
      | true =>
        rw [hcond] at hr
        simp only [cond_true] at hr ⊢
        split at hr
        · split at hr
          · cases hb : Nat.beq ik 1 with
            | false => rw [hb] at hr; cases hr
            | true => rw [hb] at hr; exact hfg _ _ _ _ _ _ _ _ _ _ _ _ hr
          · cases hr
        · split at hr
          next y x st2 =>
            cases hb : Nat.beq ik 2 with
            | false => rw [hb] at hr; cases hr
            | true =>
              rw [hb] at hr
              simp only [cond_true, eg_ni_e] at hr ⊢
              exact hfg _ _ _ _ _ _ _ _ _ _ _ _ hr
          · cases hr
        · split at hr
          next y x st2 =>
            cases hb : Nat.beq ik 2 with
            | false => rw [hb] at hr; cases hr
            | true =>
              rw [hb] at hr
              simp only [cond_true, eg_ni_e] at hr ⊢
              exact hfg _ _ _ _ _ _ _ _ _ _ _ _ hr
          · cases hr
        · split at hr
          next x st2 =>
            cases hb : Nat.beq ik 2 with
            | false => rw [hb] at hr; cases hr
            | true =>
              rw [hb] at hr
              simp only [cond_true, eg_ni_e] at hr ⊢
              exact hfg _ _ _ _ _ _ _ _ _ _ _ _ hr
          · cases hr
        · cases hr
    | false =>
      rw [hk4] at hr
      simp only at hr ⊢
      cases hik : (bif Nat.beq kind 3 then Nat.beq ik 1 else Nat.beq ik kind) with
      | false => rw [hik] at hr; cases hr
      | true =>
        rw [hik] at hr
        simp only [cond_true] at hr ⊢
        cases hpop : eg_pop np st [] with
        | none => rw [hpop] at hr; cases hr
        | some q =>
          obtain ⟨as, st1⟩ := q
          rw [hpop] at hr
          simp only at hr ⊢
          cases hrcv : eg_rcv kind o' h as st1 with
          | none => rw [hrcv] at hr; cases hr
          | some q2 =>
            obtain ⟨as2, st2⟩ := q2
            rw [hrcv] at hr
            simp only at hr ⊢
            cases dp with
            | zero => cases hr
            | succ d =>
              simp only at hr ⊢
              cases hcc : (!(Nat.beq mu sm) && Nat.ble (eg_cat st2) 8 && Nat.ble (eg_cat as2) (eg_md mu).2.2.1 && Nat.ble (eg_bud mu).1 bc && Nat.ble (eg_bud mu).2 bs) with
              | false => rw [hcc] at hr; cases hr
              | true =>
                rw [hcc] at hr
                simp only [cond_true] at hr ⊢
                cases hcall : f mu o' d (eg_bud mu).1 (eg_bud mu).2 0 (eg_pg mu) (eg_args 0 as2) [] hn h with
                | none => rw [hcall] at hr; cases hr
                | some r1 =>
                  obtain ⟨ik', pc1, ls1, st3, hn1, h1⟩ := r1
                  rw [hcall] at hr
                  rw [hfg _ _ _ _ _ _ _ _ _ _ _ _ hcall]
                  simp only at hr ⊢
                  cases hrv : eg_rv (eg_md mu).2.2.2 ik' st3 with
                  | none => rw [hrv] at hr; cases hr
                  | some vo =>
                    rw [hrv] at hr
                    cases vo with
                    | none => exact hfg _ _ _ _ _ _ _ _ _ _ _ _ hr
                    | some v =>
                      simp only at hr ⊢
                      cases hb : (Nat.beq kind 1 || Nat.beq kind 3) with
                      | true => rw [hb] at hr; cases hr
                      | false => rw [hb] at hr; exact hfg _ _ _ _ _ _ _ _ _ _ _ _ hr
theorem eg_step_mo {en : List (Int × Int)} {sc : List Value} {sm sp : Nat} {f g : eg_F} (hfg : eg_mo f g) : eg_mo (eg_step en sc sm sp f) (eg_step en sc sm sp g) := by
  intro u o dp bc bs pc cs ls st hn h r hr
  unfold eg_step at hr ⊢
  split at hr
  · cases hr
  next q0 p0 i len cs2 =>
    cases hp : Nat.beq p0 pc with
    | false => rw [hp] at hr; cases hr
    | true =>
      rw [hp] at hr
      simp only [hp] at hr ⊢
      cases hstop : (Nat.beq p0 sp && Nat.beq u sm) with
      | true => rw [hstop] at hr; exact hr
      | false =>
        rw [hstop] at hr
        simp only at hr ⊢
        cases hhd : eg_hd en sc u o p0 i len with
        | some G =>
          rw [hhd] at hr
          simp only at hr ⊢
          split at hr
          · cases hr
          next ls2 st2 hn2 h2 bc2 bs2 hg => exact hfg _ _ _ _ _ _ _ _ _ _ _ _ hr
          next t ls2 st2 hn2 h2 bc2 bs2 hg => exact hfg _ _ _ _ _ _ _ _ _ _ _ _ hr
        | none =>
          rw [hhd] at hr
          simp only at hr ⊢
          cases hks : eg_ks i len with
          | none => rw [hks] at hr; cases hr
          | some q =>
            obtain ⟨ik, k⟩ := q
            rw [hks] at hr
            simp only at hr ⊢
            cases hb3 : Nat.ble 3 ik with
            | true => rw [hb3] at hr; exact hr
            | false => rw [hb3] at hr; exact eg_call_mo hfg hr
theorem eg_run_mo1 {en : List (Int × Int)} {sc : List Value} {sm sp : Nat} (n : Nat) : eg_mo (eg_run en sc sm sp n) (eg_run en sc sm sp (n + 1)) := by
  induction n with
  | zero => intro u o dp bc bs pc cs ls st hn h r hr; cases hr
  | succ n ih => exact eg_step_mo ih
theorem eg_run_mo {en : List (Int × Int)} {sc : List Value} {sm sp n m : Nat} (hm : n ≤ m) : eg_mo (eg_run en sc sm sp n) (eg_run en sc sm sp m) := by
  induction m with
  | zero =>
    obtain rfl : n = 0 := by omega
    exact fun _ _ _ _ _ _ _ _ _ _ _ _ h => h
  | succ m ih =>
    by_cases e : n = m + 1
    · subst e
      exact fun _ _ _ _ _ _ _ _ _ _ _ _ h => h
    · have h1 := ih (by omega)
      exact fun u o dp bc bs pc cs ls st hn h r hr => eg_run_mo1 m u o dp bc bs pc cs ls st hn h r (h1 u o dp bc bs pc cs ls st hn h r hr)
/-- it comes to r -/
def ab_Ev (sc : List Value) (sp : Nat) (u o dp pc : Nat) (ls : eg_L) (st : List Value) (h : eg_H) (r : eg_R) : Prop := ∃ n, eg_run [] sc 9999 sp n u o dp 0 0 pc (eg_seek pc (eg_pg u)) ls st 999 h = some r
/-- it comes to this place -/
def ab_Re (sc : List Value) (sp : Nat) (u o dp pc : Nat) (ls : eg_L) (st : List Value) (h : eg_H) (pc' : Nat) (ls' : eg_L) (st' : List Value) (h' : eg_H) : Prop := ∀ r, ab_Ev sc sp u o dp pc' ls' st' h' r → ab_Ev sc sp u o dp pc ls st h r
theorem ab_Re.rf {sc : List Value} {sp : Nat} {u o dp pc : Nat} {ls : eg_L} {st : List Value} {h : eg_H} : ab_Re sc sp u o dp pc ls st h pc ls st h := fun _ h => h
theorem ab_Re.tr {sc : List Value} {sp : Nat} {u o dp pc pc' pc2 : Nat} {ls ls' ls2 : eg_L} {st st' st2 : List Value} {h h' h2 : eg_H} (h1 : ab_Re sc sp u o dp pc ls st h pc' ls' st' h') (h3 : ab_Re sc sp u o dp pc' ls' st' h' pc2 ls2 st2 h2) : ab_Re sc sp u o dp pc ls st h pc2 ls2 st2 h2 := fun r hr => h1 r (h3 r hr)
/-- places in their order -/
def eg_ord : eg_W → Bool
  | [] => true
  | (p, _, _) :: l => (match l with
    | [] => true
    | (q, _, _) :: _ => Nat.blt p q) && eg_ord l
theorem eg_ord_lt {p : Nat} {i : Instr} {len : Nat} {l : eg_W} (h : eg_ord ((p, i, len) :: l) = true) : ∀ q ∈ l, p < q.1 := by
  induction l generalizing p i len with
  | nil => intro q hq; cases hq
  | cons x l ih =>
    obtain ⟨a, j, m⟩ := x
    have h1 := Bool.and_eq_true_iff.mp h
    have h2 : p < a := Nat.blt_eq.mp h1.1
    intro q hq
    rcases List.mem_cons.mp hq with e | e
    · rw [e]; exact h2
    · exact Nat.lt_trans h2 (ih h1.2 q e)
/-- the rows from a place on, and those behind -/
theorem eg_seek_tail {l : eg_W} (ho : eg_ord l = true) {p q : Nat} {i j : Instr} {n m : Nat} {cs : eg_W} (h : eg_seek p l = (p, i, n) :: (q, j, m) :: cs) : eg_seek q l = (q, j, m) :: cs := by
  induction l with
  | nil => cases h
  | cons x l ih =>
    obtain ⟨a, b, c⟩ := x
    have ho2 := (Bool.and_eq_true_iff.mp ho).2
    have hlt := eg_ord_lt ho
    unfold eg_seek at h ⊢
    cases hb : Nat.beq a p with
    | true =>
      rw [hb] at h
      simp only at h
      have e1 : a = p := Nat.eq_of_beq_eq_true hb
      cases h
      have h3 := hlt (q, j, m) List.mem_cons_self
      have h4 : Nat.beq p q = false := by
        cases hq : Nat.beq p q with
        | true => have := Nat.eq_of_beq_eq_true hq; simp only at h3; omega
        | false => rfl
      rw [h4]
      simp only
      unfold eg_seek
      rw [Nat.beq_refl]
    | false =>
      rw [hb] at h
      simp only at h
      have h5 := ih ho2 h
      have hm : (q, j, m) ∈ l := eg_seek_mem (t := q) (by rw [h5]; exact List.mem_cons_self)
      have h3 := hlt _ hm
      have h4 : Nat.beq a q = false := by
        cases hq : Nat.beq a q with
        | true => have := Nat.eq_of_beq_eq_true hq; simp only at h3; omega
        | false => rfl
      rw [h4]
      exact h5
