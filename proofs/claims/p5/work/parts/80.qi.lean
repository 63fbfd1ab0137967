/-! a question: where it says 1, an int lies within bounds -/
def ck_ei (mu : Nat) (lo hi : Int) (ends : List (Nat × ab_S)) : Bool := ends.all (fun e => match ab_ret mu e.1 with
  | none => false
  | some ir => (match ab_rv (eg_md mu).2.2.2 ir e.2.2.1 e.2.2.2.2.1 with
    | some [.inl (0, v)] => (match eg_find 2 e.2.2.1 with
      | some (l2, h2, _) => (decide (v = 1) && decide (lo ≤ l2) && decide (h2 ≤ hi)) || decide (v = 0)
      | none => false)
    | _ => false))
def mc_I (M : ab_M) (h : eg_H) (k lo hi : Int) (vo : Option Value) (h' : eg_H) : Prop := ab_hp h' ∧ ab_fr M h' h ∧ ∃ r : Int32, vo = some (.int r) ∧ ((r.toInt = 1 ∧ lo ≤ k ∧ k ≤ hi) ∨ r.toInt = 0)
theorem mc_qi {q : ab_Q} (hq : ab_Tr q) {lo hi : Int} (ck : (Nat.beq q.2.2.1 0 && Nat.blt 2 q.2.2.2.2.1.1 && ck_ei q.1 lo hi q.2.2.2.2.2.2.1) = true) {sc : List Value} {sp : Nat} (hsc : ab_osc sc) {d : Nat} (hd : q.2.2.2.1 ≤ d) {ν : Nat → Int} {as : List Value} {h : eg_H} (hr : ab_r sc.length ν q.2.2.2.2.1 (eg_args 0 as) [] h) : mc sc sp q.1 q.2.1 d as h (mc_I q.2.2.2.2.2.1 h (ν 2) lo hi) := by
  obtain ⟨u, o, pc, need, P, M, ends, rank⟩ := q
  simp only at *
  have c0 := Bool.and_eq_true_iff.mp ck
  have c1 := Bool.and_eq_true_iff.mp c0.1
  obtain rfl := Nat.eq_of_beq_eq_true c1.1
  have hP2 := Nat.blt_eq.mp c1.2
  obtain ⟨-, -, ht⟩ := hq sc sp hsc
  obtain ⟨e, he, ν', ls', st', h', g1, g2, g3, g4, g5⟩ := ht d hd ν _ _ h hr
  refine ⟨e.1, ls', st', h', g5, ?_⟩
  have c2 := List.all_eq_true.mp c0.2 e he
  split at c2
  next => cases c2
  next ir hir =>
    split at c2
    next v hrv =>
      obtain ⟨vo, v1, v2⟩ := ab_rv_ok g1.2.1 g1.1.2.1 g1.2.2.2.1 hrv
      refine ⟨ir, vo, hir, v1, g1.2.2.2.2.2, g4, ?_⟩
      obtain ⟨_, t, e1, ⟨x, rfl, hj, hx⟩, ht2⟩ := v2
      obtain rfl : t = [] := ht2
      have h0 : ν' 0 = 0 := g1.1.2.1
      have hx : x.toInt = ν' 0 + v := hx
      have hk : ν' 2 = ν 2 := g2 2 hP2
      split at c2
      next l2 h2 z hf =>
        have hb := g1.bnd 2 hf
        cases vo with
        | none => cases e1
        | some w =>
          cases e1
          refine ⟨x, rfl, ?_⟩
          rcases Bool.or_eq_true_iff.mp c2 with c3 | c3
          · have c4 := Bool.and_eq_true_iff.mp c3
            have c5 := Bool.and_eq_true_iff.mp c4.1
            have d1 := of_decide_eq_true c5.1
            have d2 := of_decide_eq_true c5.2
            have d3 := of_decide_eq_true c4.2
            exact Or.inl ⟨by omega, by omega, by omega⟩
          · have d1 := of_decide_eq_true c3
            exact Or.inr (by omega)
      next => cases c2
    next => cases c2
