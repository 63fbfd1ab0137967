/-! summaries hold -/
theorem ab_run_ok {sc : List Value} {sp : Nat} {M : ab_M} {n0 : Nat} {ν0 : Nat → Int} (hsc : ∀ k v, eg_nth sc k = some v → ∃ x : Int32, v = .int x) (hlen : sc.length < 2 ^ 31) (hord : ab_ordok) {lw : Option Nat} (hlw : lw = none ∨ lw = some sp) {T : List ab_Q} (hT : ∀ q ∈ T, ab_trs sc sp q) {self : Option ab_Q} (hself : ∀ q, self = some q → 2 ≤ q.2.2.2.2.1.1 ∧ (∀ e ∈ q.2.2.2.2.2.2.1, ab_nd e.2.2.1 = true ∧ q.2.2.2.2.1.1 ≤ e.2.1) ∧ (∀ p w, q.2.2.2.2.2.2.2 = some (p, w) → p < n0) ∧ ∀ dq, q.2.2.2.1 ≤ dq → ∀ (νc : Nat → Int) (ls : eg_L) (st : List Value) (h : eg_H), ab_r sc.length νc q.2.2.2.2.1 ls st h → ab_rk q ν0 νc → ab_co sc sp q.2.2.2.2.2.1 q.1 q.2.1 dq q.2.2.1 νc q.2.2.2.2.1.1 ls st h q.2.2.2.2.2.2.1) {su : Nat} {stops : List Nat} (n : Nat) : ab_So sc sp M n0 ν0 (ab_run lw M T self su stops n) := by
  induction n with
  | zero => intro u o dp pc cs σ L hL; cases hL
  | succ n ih => exact ab_step_ok hsc hlen hord hlw hT hself ih
theorem ab_id_v {n j : Nat} (h : j < n) : eg_find j (ab_id n) = some (j, 0) := by
  induction n with
  | zero => omega
  | succ n ih =>
    unfold ab_id
    rw [ab_find_cons]
    by_cases e : n = j
    · rw [if_pos e, e]
    · rw [if_neg e]
      exact ih (by omega)
theorem ab_id_bi {n m : Nat} (h : n ≤ m) : ab_bi m (ab_id n) := by
  induction n with
  | zero => intro p x hx; cases hx
  | succ n ih =>
    intro p x hx
    unfold ab_id at hx
    rw [ab_find_cons] at hx
    by_cases e : n = p
    · rw [if_pos e] at hx; cases hx; simp only; omega
    · rw [if_neg e] at hx
      exact ih (by omega) p x hx
/-- an end that is one of those told -/
theorem ab_sub_ok {L : Nat} {ν ν' : Nat → Int} {n0 : Nat} {ls : eg_L} {st : List Value} {h : eg_H} {e : Nat × ab_S} (hr : ab_r L ν' e.2 ls st h) (hn0 : n0 ≤ e.2.1) (h2 : 2 ≤ n0) (hx : ab_ext ν ν' n0) (ends : List (Nat × ab_S)) (hends : ∀ x ∈ ends, n0 ≤ x.2.1) (hs : ab_sube n0 ends e = true) : ∃ x ∈ ends, x.1 = e.1 ∧ ∃ ν2, ab_r L ν2 x.2 ls st h ∧ ab_ext ν ν2 n0 := by
  induction ends with
  | nil => cases hs
  | cons x l ih =>
    unfold ab_sube at hs
    rcases Bool.or_eq_true_iff.mp hs with h1 | h1
    · have c := Bool.and_eq_true_iff.mp h1
      have e1 := Nat.eq_of_beq_eq_true c.1
      have c2 := c.2
      split at c2
      next => cases c2
      next σ1 he1 =>
        split at c2
        next b hm =>
          obtain ⟨ν1, hr1, hx1, hn1⟩ := ab_ens_ok _ _ σ1 he1 ν' hr
          have hle : n0 ≤ σ1.1 := Nat.le_trans hn0 hn1
          obtain ⟨m1, m2, m3⟩ := ab_mat_ok hr1 (ab_id_bi hle) (ab_id_v (by omega)) (ab_id_v (by omega)) (Nat.le_trans h2 (hends x List.mem_cons_self)) hm
          refine ⟨x, List.mem_cons_self, e1, _, m3, fun j hj => ?_⟩
          rw [ab_bv_v (m2 _ _ (ab_id_v hj))]
          simp only
          rw [hx1 j (Nat.lt_of_lt_of_le hj hn0), hx j hj]
          omega
        next => cases c2
    · obtain ⟨y, hy, r⟩ := ih (fun x hx => hends x (List.mem_cons_of_mem _ hx)) h1
      exact ⟨y, List.mem_cons_of_mem _ hy, r⟩
theorem ab_alls_ok {n0 : Nat} {ends : List (Nat × ab_S)} {L : List (Nat × ab_S)} (h : ab_alls n0 ends L = true) : ∀ e ∈ L, ab_sube n0 ends e = true := by
  induction L with
  | nil => intro e he; cases he
  | cons x l ih =>
    have c := Bool.and_eq_true_iff.mp h
    intro e he
    rcases List.mem_cons.mp he with e1 | e1
    · rw [e1]; exact c.1
    · exact ih c.2 e e1
/-- how far it is -/
def ab_ms (q : ab_Q) (ν : Nat → Int) : Nat := match q.2.2.2.2.2.2.2 with
  | none => 0
  | some (p, w) => match eg_find p q.2.2.2.2.1.2.1 with
    | none => 0
    | some (lo, hi, _) => match w with
      | .ofNat _ => (hi - ν p).toNat
      | .negSucc _ => (ν p - lo).toNat
set_option maxHeartbeats 1000000 in
theorem ab_good_ok {sc : List Value} {sp : Nat} (hsc : ∀ k v, eg_nth sc k = some v → ∃ x : Int32, v = .int x) (hlen : sc.length < 2 ^ 31) (hord : ab_ordok) {lw : Option Nat} (hlw : lw = none ∨ lw = some sp) {T : List ab_Q} (hT : ∀ q ∈ T, ab_trs sc sp q) {stops : List Nat} {n : Nat} {q : ab_Q} (hg : ab_good lw T stops n q = true) : ab_trs sc sp q := by
  obtain ⟨u, o, pc, need, P, M, ends, rank⟩ := q
  simp only [ab_good] at hg
  have c1 := Bool.and_eq_true_iff.mp hg
  have c2 := Bool.and_eq_true_iff.mp c1.1
  have c3 := Bool.and_eq_true_iff.mp c2.1
  have c4 := Bool.and_eq_true_iff.mp c3.1
  have hP2 : 2 ≤ P.1 := Nat.le_of_ble_eq_true c2.2
  have hends : ∀ e ∈ ends, ab_nd e.2.2.1 = true ∧ P.1 ≤ e.2.1 := fun e he => by
    have := Bool.and_eq_true_iff.mp (List.all_eq_true.mp c3.2 e he)
    exact ⟨this.1, Nat.le_of_ble_eq_true this.2⟩
  refine ⟨hends, hP2, ?_⟩
  have key : ∀ m, ∀ dq, need ≤ dq → ∀ (ν : Nat → Int) (ls : eg_L) (st : List Value) (h : eg_H), ab_r sc.length ν P ls st h → ab_ms (u, o, pc, need, P, M, ends, rank) ν ≤ m → ab_co sc sp M u o dq pc ν P.1 ls st h ends := by
    intro m
    induction m using Nat.strongRecOn with
    | _ m ih =>
      intro dq hdq ν ls st h hr hm
      have hself : ∀ q, (match rank with
          | none => none
          | some _ => some (u, o, pc, need, P, M, ends, rank)) = some q → 2 ≤ q.2.2.2.2.1.1 ∧ (∀ e ∈ q.2.2.2.2.2.2.1, ab_nd e.2.2.1 = true ∧ q.2.2.2.2.1.1 ≤ e.2.1) ∧ (∀ p w, q.2.2.2.2.2.2.2 = some (p, w) → p < P.1) ∧ ∀ dq, q.2.2.2.1 ≤ dq → ∀ (νc : Nat → Int) (ls : eg_L) (st : List Value) (h : eg_H), ab_r sc.length νc q.2.2.2.2.1 ls st h → ab_rk q ν νc → ab_co sc sp q.2.2.2.2.2.1 q.1 q.2.1 dq q.2.2.1 νc q.2.2.2.2.1.1 ls st h q.2.2.2.2.2.2.1 := by
        intro q hq
        cases rank with
        | none => cases hq
        | some pw =>
          obtain ⟨p, w⟩ := pw
          simp only at hq
          cases hq
          have c5 := c4.1
          simp only at c5
          cases hf : eg_find p P.2.1 with
          | none => rw [hf] at c5; cases c5
          | some B =>
            obtain ⟨lo, hi, z⟩ := B
            rw [hf] at c5
            have hpP : p < P.1 := Nat.blt_eq.mp c5
            refine ⟨hP2, hends, fun p' w' e => by cases e; exact hpP, fun dq hdq νc ls st h hrc hk => ?_⟩
            have hB := hr.2.1 p _ hf
            have hBc := hrc.2.1 p _ hf
            obtain ⟨-, b2, b3, -⟩ := hB
            obtain ⟨-, d2, d3, -⟩ := hBc
            simp only at b2 b3 d2 d3
            have hlt : ab_ms (u, o, pc, need, P, M, ends, some (p, w)) νc < m := by
              refine Nat.lt_of_lt_of_le ?_ hm
              unfold ab_ms
              simp only [hf]
              unfold ab_rk at hk
              simp only at hk
              cases w with
              | ofNat w => simp only at hk ⊢; omega
              | negSucc w => simp only at hk ⊢; omega
            exact ih _ hlt dq hdq νc ls st h hrc (Nat.le_refl _)
      have c6 := c1.2
      split at c6
      next => cases c6
      next L hL =>
        have hSo := ab_one_ok (M := M) (n0 := P.1) (ν0 := ν) hsc hlen hord hlw (ab_run_ok hsc hlen hord hlw hT hself (su := u) (stops := stops) n)
        obtain ⟨e, hem, ν', ls', st', h', g1, g2, g3, g4, g5⟩ := hSo u o need pc _ P L hL rfl dq hdq ν ls st h hr (Nat.le_refl _) ab_ext.rf
        obtain ⟨x, hx, e1, ν2, k1, k2⟩ := ab_sub_ok g1 g3 hP2 g2 ends (fun x hx => (hends x hx).2) (ab_alls_ok c6 e hem)
        exact ⟨x, hx, ν2, ls', st', h', k1, k2, (hends x hx).2, g4, by rw [e1]; exact g5⟩
  exact fun dq hdq ν ls st h hr => key _ dq hdq ν ls st h hr (Nat.le_refl _)
