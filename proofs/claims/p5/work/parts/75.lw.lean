/-! BY HAND: the law's own code, where the engine stops at sp -/
def ab_atL (u pc : Nat) (i : Instr) (len : Nat) : Bool := match eg_seek pc (eg_pg u) with
  | (p, j, n) :: cs => Nat.beq p pc && decide (j = i) && Nat.beq n len && ab_hq cs (pc + len)
  | [] => false
theorem ab_atL_v {u pc : Nat} {i : Instr} {len : Nat} (h : ab_atL u pc i len = true) : eg_seek pc (eg_pg u) = (pc, i, len) :: eg_seek (pc + len) (eg_pg u) := by
  unfold ab_atL at h
  split at h
  next p j n cs hs =>
    have c1 := Bool.and_eq_true_iff.mp h
    have c2 := Bool.and_eq_true_iff.mp c1.1
    have c3 := Bool.and_eq_true_iff.mp c2.1
    obtain rfl := Nat.eq_of_beq_eq_true c3.1
    obtain rfl := of_decide_eq_true c3.2
    obtain rfl := Nat.eq_of_beq_eq_true c2.2
    have := ab_hq_v ab_ord_all hs c1.2
    rw [← this]
    exact hs
  next => cases h
section HL
variable {sc : List Value} {sp u o dq pc : Nat} {K : Nat → eg_L → List Value → eg_H → Prop} {ls : eg_L} {st : List Value} {h : eg_H}
theorem hl_s {i : Instr} {len : Nat} {G : eg_O} {ls' : eg_L} {st' : List Value} {h' : eg_H} (hst : (Nat.beq pc sp && Nat.beq u 9999) = false) (c : ab_atL u pc i len = true) (hG : eg_hd [] sc u o pc i len = some G) (hg : G ls st 999 h 0 0 = some (0, ls', st', 999, h', 0, 0)) (n : hs sc sp u o dq K (pc + len) ls' st' h') : hs sc sp u o dq K pc ls st h :=
  n.pre (ab_Re_step (ab_atL_v c) hst hG hg (Or.inl ⟨rfl, rfl, rfl⟩))
theorem hl_j {i : Instr} {len t : Nat} {G : eg_O} {ls' : eg_L} {st' : List Value} {h' : eg_H} (hst : (Nat.beq pc sp && Nat.beq u 9999) = false) (c : ab_atL u pc i len = true) (hG : eg_hd [] sc u o pc i len = some G) (hg : G ls st 999 h 0 0 = some (Nat.succ t, ls', st', 999, h', 0, 0)) (n : hs sc sp u o dq K t ls' st' h') : hs sc sp u o dq K pc ls st h :=
  n.pre (ab_Re_step (ab_atL_v c) hst hG hg (Or.inr rfl))
/-- a local that is no long -/
theorem hl_ld {i : Instr} {len k : Nat} {v : Value} {ok : Value → Bool} (hst : (Nat.beq pc sp && Nat.beq u 9999) = false) (c : ab_atL u pc i len = true) (hG : eg_hd [] sc u o pc i len = some (eg_ld ok k)) (hl : eg_find k ls = some v) (hv : ok v = true) (n : hs sc sp u o dq K (pc + len) ls (v :: st) h) : hs sc sp u o dq K pc ls st h := hl_s hst c hG (by simp only [eg_ld, hl, hv]) n
theorem hl_iconst {v : Int} (hst : (Nat.beq pc sp && Nat.beq u 9999) = false) (c : ab_atL u pc (.iconst v) 1 = true) (n : hs sc sp u o dq K (pc + 1) ls (.int (Int32.ofInt v) :: st) h) : hs sc sp u o dq K pc ls st h := hl_s (G := eg_cn (.int (Int32.ofInt v))) hst c (by simp only [eg_hd, eg_lok, Nat.beq_refl, eg_hd0, eg_ni_e, Option.map]) rfl n
theorem hl_iadd {x y : Int32} (hst : (Nat.beq pc sp && Nat.beq u 9999) = false) (c : ab_atL u pc .iadd 1 = true) (n : hs sc sp u o dq K (pc + 1) ls (.int (x + y) :: st) h) : hs sc sp u o dq K pc ls (.int y :: .int x :: st) h := hl_s hst c rfl (by simp only [eg_b2, eg_ii, eg_ni_e]) n
/-- an int of the script -/
theorem hl_scr {x : Int32} {k : Nat} {v : Value} (hst : (Nat.beq pc sp && Nat.beq u 9999) = false) (c : ab_atL u pc .iaload 1 = true) (hx : x.toInt = (k : Int)) (hk : eg_nth sc k = some v) (n : hs sc sp u o dq K (pc + 1) ls (v :: st) h) : hs sc sp u o dq K pc ls (.int x :: .float 1 :: st) h := by
  have h0 : 0 ≤ x.toInt := by omega
  have e3 : x.toInt.toNat = k := by omega
  refine hl_s (G := eg_ar sc (fun t => Nat.beq t 0)) hst c rfl ?_ n
  have e1 : ((1 : UInt32) == 1) = true := rfl
  simp only [eg_ar, ab_ix h0, e3, hk]
  rfl
theorem hl_ic {cd : ClassFile.Cond} {off : Int} {t : Nat} {x y : Int32} (hst : (Nat.beq pc sp && Nat.beq u 9999) = false) (c : ab_atL u pc (.if_icmp cd off) 3 = true) (ht : eg_tgt pc off = some t) (n1 : hs_cd cd x.toInt y.toInt → hs sc sp u o dq K t ls st h) (n2 : hs_cd (ab_not cd) x.toInt y.toInt → hs sc sp u o dq K (pc + 3) ls st h) : hs sc sp u o dq K pc ls (.int y :: .int x :: st) h := by
  have hG : eg_hd [] sc u o pc (.if_icmp cd off) 3 = some (eg_ic [] cd t) := by simp only [eg_hd, eg_lok, Nat.beq_refl, eg_hd0, ht, Option.map]
  rcases hs_cmp cd x y with ⟨h1, h2⟩ | ⟨h1, h2⟩
  · exact hl_j hst c hG (by simp only [eg_ic, h2]) (n1 h1)
  · exact hl_s hst c hG (by simp only [eg_ic, h2]) (n2 h1)
end HL
/-- one that answers by whether an int lies within bounds -/
def ck_ek (mu : Nat) (lo hi : Int) (ends : List (Nat × ab_S)) : Bool := ends.all (fun e => match ab_ret mu e.1 with
  | none => false
  | some ir => (match ab_rv (eg_md mu).2.2.2 ir e.2.2.1 e.2.2.2.2.1 with
    | some [.inl (0, v)] => (match eg_find 2 e.2.2.1 with
      | some (l2, h2, _) => (decide (v = 1) && decide (lo ≤ l2) && decide (h2 ≤ hi)) || (decide (v = 0) && (decide (h2 < lo) || decide (hi < l2)))
      | none => false)
    | _ => false))
def mc_K (M : ab_M) (h : eg_H) (k lo hi : Int) (vo : Option Value) (h' : eg_H) : Prop := ab_hp h' ∧ ab_fr M h' h ∧ ∃ r : Int32, vo = some (.int r) ∧ ((r.toInt = 1 ∧ lo ≤ k ∧ k ≤ hi) ∨ (r.toInt = 0 ∧ ¬ (lo ≤ k ∧ k ≤ hi)))
theorem mc_qk {q : ab_Q} (hq : ab_Tr q) {lo hi : Int} (ck : (Nat.beq q.2.2.1 0 && Nat.blt 2 q.2.2.2.2.1.1 && ck_ek q.1 lo hi q.2.2.2.2.2.2.1) = true) {sc : List Value} {sp : Nat} (hsc : ab_osc sc) {d : Nat} (hd : q.2.2.2.1 ≤ d) {ν : Nat → Int} {as : List Value} {h : eg_H} (hr : ab_r sc.length ν q.2.2.2.2.1 (eg_args 0 as) [] h) : mc sc sp q.1 q.2.1 d as h (mc_K q.2.2.2.2.2.1 h (ν 2) lo hi) := by
  obtain ⟨u, o, pc, need, P, M, ends, rank⟩ := q
  simp only at *
  have c0 := Bool.and_eq_true_iff.mp ck
  have c1 := Bool.and_eq_true_iff.mp c0.1
  obtain rfl := Nat.eq_of_beq_eq_true c1.1
  have hP2 := Nat.blt_eq.mp c1.2
  obtain ⟨-, -, ht⟩ := hq sc sp hsc
  obtain ⟨e, he, ν', ls', st', h', g1, g2, g3, g4, g5⟩ := ht d hd ν _ _ h hr
  refine ⟨e.1, ls', st', h', g5, ?_⟩
  have c2 := List.all_eq_true.mp c0.2 e he
  split at c2
  next => cases c2
  next ir hir =>
    split at c2
    next v hrv =>
      obtain ⟨vo, v1, v2⟩ := ab_rv_ok g1.2.1 g1.1.2.1 g1.2.2.2.1 hrv
      refine ⟨ir, vo, hir, v1, g1.2.2.2.2.2, g4, ?_⟩
      obtain ⟨_, t, e1, ⟨x, rfl, hj, hx⟩, ht2⟩ := v2
      obtain rfl : t = [] := ht2
      have h0 : ν' 0 = 0 := g1.1.2.1
      have hx : x.toInt = ν' 0 + v := hx
      have hk : ν' 2 = ν 2 := g2 2 hP2
      split at c2
      next l2 h2 z hf =>
        have hb := g1.bnd 2 hf
        cases vo with
        | none => cases e1
        | some w =>
          cases e1
          refine ⟨x, rfl, ?_⟩
          rcases Bool.or_eq_true_iff.mp c2 with c3 | c3
          · have c4 := Bool.and_eq_true_iff.mp c3
            have c5 := Bool.and_eq_true_iff.mp c4.1
            have d1 := of_decide_eq_true c5.1
            have d2 := of_decide_eq_true c5.2
            have d3 := of_decide_eq_true c4.2
            exact Or.inl ⟨by omega, by omega, by omega⟩
          · have c4 := Bool.and_eq_true_iff.mp c3
            have d1 := of_decide_eq_true c4.1
            refine Or.inr ⟨by omega, ?_⟩
            rcases Bool.or_eq_true_iff.mp c4.2 with c5 | c5
            · have := of_decide_eq_true c5; omega
            · have := of_decide_eq_true c5; omega
      next => cases c2
    next => cases c2
