/-! the run's handlers and the engine's -/
section AH
variable {sc : List Value} {M : ab_M}
theorem ab_isI_v {ν : Nat → Int} {n : Nat} {A : ab_A} {v : Value} (h : ab_v ν n A v) (hi : ab_isI A = true) : eg_isI v = true := by
  match A, h, hi with
  | .inl q, ⟨x, e, _, _⟩, _ => rw [e]; rfl
theorem ab_isJ_v {ν : Nat → Int} {n : Nat} {A : ab_A} {v : Value} (h : ab_v ν n A v) (hi : ab_isJ A = true) : eg_isJ v = true := by
  match A, h, hi with
  | .inr 0, ⟨x, e⟩, _ => rw [e]; rfl
theorem ab_isR_v {ν : Nat → Int} {n : Nat} {A : ab_A} {v : Value} (h : ab_v ν n A v) (hi : ab_isR A = true) : eg_isA v = true := by
  match A, h, hi with
  | .inr 1, e, _ => rw [show v = .float 1 from e]; rfl
  | .inr (k + 2), e, _ => rw [show v = .ref k from e]; rfl
theorem ah_ld {ok : ab_A → Bool} {ok' : Value → Bool} {k : Nat} (hok : ∀ {ν : Nat → Int} {n : Nat} {A : ab_A} {v : Value}, ab_v ν n A v → ok A = true → ok' v = true) : ab_ok sc M (eg_ld ok' k) (ab_ld ok k) := by
  intro ν σ K ls st h hr hg
  obtain ⟨n, en, la, sa, ov⟩ := σ
  simp only [ab_ld] at hg
  cases hf : eg_find k la with
  | none => rw [hf] at hg; cases hg
  | some A =>
    rw [hf] at hg
    simp only at hg
    cases ho : ok A with
    | false => rw [ho] at hg; cases hg
    | true =>
      rw [ho] at hg
      obtain ⟨v, h1, h2⟩ := hr.2.2.1 k A (eg_find_mem hf)
      refine ab_ok0 hr (sn' := v :: st) ?_ hg ⟨v, st, rfl, h2, hr.2.2.2.1⟩
      simp only [eg_ld, h1, hok h2 ho]
theorem ah_cn {A : ab_A} {v : Value} (hv : ∀ {ν : Nat → Int} {n : Nat}, 2 ≤ n → ν 0 = 0 → ab_v ν n A v) : ab_ok sc M (eg_cn v) (ab_cn A) := by
  intro ν σ K ls st h hr hg
  obtain ⟨n, en, la, sa, ov⟩ := σ
  exact ab_ok0 hr (sn' := v :: st) rfl hg ⟨v, st, rfl, hv hr.1.1 hr.1.2.1, hr.2.2.2.1⟩
theorem eg_ni_e (v : Int32) : eg_ni v = some (.int v) := by
  cases h : eg_ni v with
  | none =>
    unfold eg_ni at h
    split at h <;> cases h
  | some w => rw [eg_ni_v h]
theorem eg_nl_e (v : Int64) : eg_nl v = some (.long v) := by
  cases h : eg_nl v with
  | none =>
    unfold eg_nl at h
    split at h <;> cases h
  | some w => rw [eg_nl_v h]
/-- two ints on the stack -/
theorem ab_top2 {ν : Nat → Int} {n j1 j2 : Nat} {d1 d2 : Int} {l : List ab_A} {st : List Value} (h : ab_vs ν n (.inl (j2, d2) :: .inl (j1, d1) :: l) st) : ∃ (x y : Int32) (t : List Value), st = .int y :: .int x :: t ∧ (j2 < n ∧ y.toInt = ν j2 + d2) ∧ (j1 < n ∧ x.toInt = ν j1 + d1) ∧ ab_vs ν n l t := by
  obtain ⟨_, _, rfl, ⟨y, rfl, hy1, hy2⟩, _, t, rfl, ⟨x, rfl, hx1, hx2⟩, ht⟩ := h
  exact ⟨x, y, t, rfl, ⟨hy1, hy2⟩, ⟨hx1, hx2⟩, ht⟩
theorem ab_top1 {ν : Nat → Int} {n j : Nat} {d : Int} {l : List ab_A} {st : List Value} (h : ab_vs ν n (.inl (j, d) :: l) st) : ∃ (x : Int32) (t : List Value), st = .int x :: t ∧ (j < n ∧ x.toInt = ν j + d) ∧ ab_vs ν n l t := by
  obtain ⟨_, t, rfl, ⟨x, rfl, hx1, hx2⟩, ht⟩ := h
  exact ⟨x, t, rfl, ⟨hx1, hx2⟩, ht⟩
theorem ah_b2 {f : Int32 → Int32 → Int32} {g : ab_P} (hf : ab_num f g) {F : Value → Value → Option Value} (hF : ∀ x y : Int32, F (.int y) (.int x) = eg_ni (f x y)) : ab_ok sc M (eg_b2 F) (ab_b2 g) := by
  intro ν σ K ls st h hr hg
  obtain ⟨n, en, la, sa, ov⟩ := σ
  simp only [ab_b2] at hg
  split at hg
  next sa j2 d2 j1 d1 sa2 =>
    obtain ⟨x, y, t, rfl, hy, hx, ht⟩ := ab_top2 hr.2.2.2.1
    split at hg
    next lo hi hi2 =>
      have := hf _ _ _ x y hi2 (ab_iv_v hr.2.1 hr.1.2.1 hx.2) (ab_iv_v hr.2.1 hr.1.2.1 hy.2)
      refine ab_ok1 hr (x := f x y) (sn' := t) ?_ ht this.1 this.2 hg
      simp only [eg_b2, hF, eg_ni_e]
    next => cases hg
  next => cases hg
theorem ab_toInt_add {x y : Int32} {z : Int} (hz : x.toInt + y.toInt = z) (h1 : ab_min ≤ z) (h2 : z ≤ ab_max) : (x + y).toInt = z := by
  rw [Int32.toInt_add, hz]
  exact ab_bm h1 h2
theorem ab_toInt_sub {x y : Int32} {z : Int} (hz : x.toInt - y.toInt = z) (h1 : ab_min ≤ z) (h2 : z ≤ ab_max) : (x - y).toInt = z := by
  rw [Int32.toInt_sub, hz]
  exact ab_bm h1 h2
/-- what a symbol and so much more may be, if it is within bounds -/
theorem ab_isof_v {ν : Nat → Int} {n : Nat} {en : ab_E} (he : ab_e ν n en) (h0 : ν 0 = 0) {j : Nat} {e : Int} (h : ab_isof en j e = true) : ab_min ≤ ν j + e ∧ ν j + e ≤ ab_max := by
  unfold ab_isof at h
  match j, h with
  | 0, h =>
    have h1 := Bool.and_eq_true_iff.mp h
    have g1 := of_decide_eq_true h1.1
    have g2 := of_decide_eq_true h1.2
    rw [h0]; omega
  | j + 1, h =>
    simp only [Nat.succ_eq_add_one] at h
    cases hB : eg_find (j + 1) en with
    | none => rw [hB] at h; cases h
    | some B =>
      rw [hB] at h
      obtain ⟨lo, hi, q⟩ := B
      obtain ⟨-, h2, h3, -⟩ := he _ _ hB
      simp only at h h2 h3
      have h1 := Bool.and_eq_true_iff.mp h
      have g1 := of_decide_eq_true h1.1
      have g2 := of_decide_eq_true h1.2
      omega
theorem ah_ad : ab_ok sc M (eg_b2 (eg_ii (fun x y => x + y))) ab_ad := by
  intro ν σ K ls st h hr hg
  obtain ⟨n, en, la, sa, ov⟩ := σ
  have base : ab_b2 ab_add (n, en, la, sa, ov) = some K → _ := fun hg => ah_b2 (sc := sc) (M := M) ab_num_add (F := eg_ii (fun x y => x + y)) (fun _ _ => rfl) ν _ K ls st h hr hg
  simp only [ab_ad] at hg
  split at hg
  next sa d2 j1 d1 sa2 =>
    split at hg
    next hi =>
      obtain ⟨x, y, t, rfl, hy, hx, ht⟩ := ab_top2 hr.2.2.2.1
      obtain ⟨g1, g2⟩ := ab_isof_v hr.2.1 hr.1.2.1 hi
      simp only [ab_fi_eq] at hg
      have h0 : ν 0 = 0 := hr.1.2.1
      have e : (x + y).toInt = ν j1 + (d1 + d2) := ab_toInt_add (by rw [hx.2, hy.2, h0]; omega) g1 g2
      refine ab_ok0 hr (sn' := .int (x + y) :: t) ?_ hg ⟨_, t, rfl, ⟨_, rfl, hx.1, e⟩, ht⟩
      simp only [eg_b2, eg_ii, eg_ni_e]
    next => exact base hg
  next sa j2 d2 d1 sa2 hne =>
    split at hg
    next hi =>
      obtain ⟨x, y, t, rfl, hy, hx, ht⟩ := ab_top2 hr.2.2.2.1
      obtain ⟨g1, g2⟩ := ab_isof_v hr.2.1 hr.1.2.1 hi
      simp only [ab_fi_eq] at hg
      have h0 : ν 0 = 0 := hr.1.2.1
      have e : (x + y).toInt = ν j2 + (d2 + d1) := ab_toInt_add (by rw [hx.2, hy.2, h0]; omega) g1 g2
      refine ab_ok0 hr (sn' := .int (x + y) :: t) ?_ hg ⟨_, t, rfl, ⟨_, rfl, hy.1, e⟩, ht⟩
      simp only [eg_b2, eg_ii, eg_ni_e]
    next => exact base hg
  next => exact base hg
theorem ah_sb : ab_ok sc M (eg_b2 (eg_ii (fun x y => x - y))) ab_sb := by
  intro ν σ K ls st h hr hg
  obtain ⟨n, en, la, sa, ov⟩ := σ
  have base : ab_b2 ab_sub (n, en, la, sa, ov) = some K → _ := fun hg => ah_b2 (sc := sc) (M := M) ab_num_sub (F := eg_ii (fun x y => x - y)) (fun _ _ => rfl) ν _ K ls st h hr hg
  simp only [ab_sb] at hg
  split at hg
  next sa d2 j1 d1 sa2 =>
    split at hg
    next hi =>
      obtain ⟨x, y, t, rfl, hy, hx, ht⟩ := ab_top2 hr.2.2.2.1
      obtain ⟨g1, g2⟩ := ab_isof_v hr.2.1 hr.1.2.1 hi
      simp only [ab_fi_eq] at hg
      have h0 : ν 0 = 0 := hr.1.2.1
      have e : (x - y).toInt = ν j1 + (d1 - d2) := ab_toInt_sub (by rw [hx.2, hy.2, h0]; omega) g1 g2
      refine ab_ok0 hr (sn' := .int (x - y) :: t) ?_ hg ⟨_, t, rfl, ⟨_, rfl, hx.1, e⟩, ht⟩
      simp only [eg_b2, eg_ii, eg_ni_e]
    next => exact base hg
  next => exact base hg
theorem ab_nz_v {ν : Nat → Int} {n : Nat} {en : ab_E} (he : ab_e ν n en) (h0 : ν 0 = 0) {j : Nat} {d : Int} {x : Int32} (hx : x.toInt = ν j + d) (h : ab_nz en j d = true) : x.toInt ≠ 0 := by
  have hi := ab_iv_v he h0 hx
  unfold ab_nz at h
  generalize ab_iv en j d = q at h hi
  obtain ⟨q1, q2⟩ := q
  simp only at h hi
  rcases Bool.or_eq_true_iff.mp h with h | h
  · rcases Bool.or_eq_true_iff.mp h with h | h
    · have := of_decide_eq_true h; omega
    · have := of_decide_eq_true h; omega
  · split at h
    next lo hi z r hf =>
      have h1 := Bool.and_eq_true_iff.mp h
      have h2 := of_decide_eq_true h1.2
      obtain ⟨-, -, -, h4, -⟩ := he _ _ hf
      have := h4 h1.1
      rw [hx, h2]; omega
    next => cases h
theorem ah_dv {f : Int32 → Int32 → Int32} {g : ab_P} (hf : ab_num f g) : ab_ok sc M (eg_b2 (eg_iz f)) (ab_dv g) := by
  intro ν σ K ls st h hr hg
  obtain ⟨n, en, la, sa, ov⟩ := σ
  simp only [ab_dv] at hg
  split at hg
  next sa j2 d2 sa2 =>
    split at hg
    next hz =>
      simp only [ab_b2] at hg
      split at hg
      next sa3 j2' d2' j1 d1 sa4 e9 =>
        cases e9
        obtain ⟨x, y, t, rfl, hy, hx, ht⟩ := ab_top2 hr.2.2.2.1
        split at hg
        next lo hi hi2 =>
          have := hf _ _ _ x y hi2 (ab_iv_v hr.2.1 hr.1.2.1 hx.2) (ab_iv_v hr.2.1 hr.1.2.1 hy.2)
          have hy0 : ¬ y = 0 := fun e => ab_nz_v hr.2.1 hr.1.2.1 hy.2 hz (by rw [e]; rfl)
          refine ab_ok1 hr (x := f x y) (sn' := t) ?_ ht this.1 this.2 hg
          simp only [eg_b2, eg_iz, if_neg hy0, eg_ni_e]
        next => cases hg
      next => cases hg
    next => cases hg
  next => cases hg
theorem ah_ll {f : Int64 → Int64 → Int64} : ab_ok sc M (eg_b2 (eg_ll f)) ab_ll := by
  intro ν σ K ls st h hr hg
  obtain ⟨n, en, la, sa, ov⟩ := σ
  simp only [ab_ll] at hg
  split at hg
  next sa sa2 =>
    obtain ⟨_, _, rfl, ⟨y, rfl⟩, _, t, rfl, ⟨x, rfl⟩, ht⟩ := hr.2.2.2.1
    refine ab_ok0 hr (sn' := .long (f x y) :: t) ?_ hg ⟨_, t, rfl, ⟨_, rfl⟩, ht⟩
    simp only [eg_b2, eg_ll, eg_nl_e]
  next => cases hg
theorem ah_li {f : Int64 → Int32 → Int64} : ab_ok sc M (eg_b2 (eg_li f)) ab_li := by
  intro ν σ K ls st h hr hg
  obtain ⟨n, en, la, sa, ov⟩ := σ
  simp only [ab_li] at hg
  split at hg
  next sa q sa2 =>
    obtain ⟨_, _, rfl, ⟨y, rfl, _, _⟩, _, t, rfl, ⟨x, rfl⟩, ht⟩ := hr.2.2.2.1
    refine ab_ok0 hr (sn' := .long (f x y) :: t) ?_ hg ⟨_, t, rfl, ⟨_, rfl⟩, ht⟩
    simp only [eg_b2, eg_li, eg_nl_e]
  next => cases hg
theorem ab_lcmp (x y : Int64) : -1 ≤ (lg_cmp x y).toInt ∧ (lg_cmp x y).toInt ≤ 1 := by
  unfold lg_cmp
  split
  · decide
  · split <;> decide
theorem ah_lc : ab_ok sc M (eg_b2 eg_lc) ab_lc := by
  intro ν σ K ls st h hr hg
  obtain ⟨n, en, la, sa, ov⟩ := σ
  simp only [ab_lc] at hg
  split at hg
  next sa sa2 =>
    obtain ⟨_, _, rfl, ⟨y, rfl⟩, _, t, rfl, ⟨x, rfl⟩, ht⟩ := hr.2.2.2.1
    refine ab_ok1 hr (x := lg_cmp x y) (sn' := t) ?_ ht (ab_lcmp x y).1 (ab_lcmp x y).2 hg
    simp only [eg_b2, eg_lc, eg_ni_e]
  next => cases hg
theorem ah_i1 {f : Int32 → Int32} {g : Int × Int → Int × Int} (hf : ∀ (a : Int × Int) (x : Int32), ab_inn a x → ab_inn (g a) (f x)) {F : Value → Option Value} (hF : ∀ x : Int32, F (.int x) = eg_ni (f x)) : ab_ok sc M (eg_b1 F) (ab_i1 g) := by
  intro ν σ K ls st h hr hg
  obtain ⟨n, en, la, sa, ov⟩ := σ
  simp only [ab_i1] at hg
  split at hg
  next sa j d sa2 =>
    obtain ⟨x, t, rfl, hx, ht⟩ := ab_top1 hr.2.2.2.1
    have := hf _ x (ab_iv_v hr.2.1 hr.1.2.1 hx.2)
    refine ab_ok1 hr (x := f x) (sn' := t) ?_ ht this.1 this.2 hg
    simp only [eg_b1, hF, eg_ni_e]
  next => cases hg
theorem ah_ineg : ab_ok sc M (eg_b1 (eg_i1 (fun x => -x))) (ab_i1 (fun q => ab_fit (-q.2, -q.1))) := ah_i1 (f := fun x => -x) (fun a x h => ab_fit_v (z := -x.toInt) (Int32.toInt_neg x) (by show -a.2 ≤ _; have := h.2; omega) (by show _ ≤ -a.1; have := h.1; omega)) (fun _ => rfl)
theorem ah_i2b : ab_ok sc M (eg_b1 eg_ib) (ab_i1 (fun _ => (-128, 127))) := ah_i1 (f := fun x => x.toInt8.toInt32) (fun a x h => by
  show -128 ≤ x.toInt8.toInt32.toInt ∧ x.toInt8.toInt32.toInt ≤ 127
  rw [Int8.toInt_toInt32]
  exact ⟨Int8.le_toInt _, Int8.toInt_le _⟩) (fun _ => rfl)
theorem ah_il : ab_ok sc M (eg_b1 eg_il) ab_il := by
  intro ν σ K ls st h hr hg
  obtain ⟨n, en, la, sa, ov⟩ := σ
  simp only [ab_il] at hg
  split at hg
  next sa q sa2 =>
    obtain ⟨_, t, rfl, ⟨x, rfl, _, _⟩, ht⟩ := hr.2.2.2.1
    refine ab_ok0 hr (sn' := .long x.toInt64 :: t) ?_ hg ⟨_, t, rfl, ⟨_, rfl⟩, ht⟩
    simp only [eg_b1, eg_il, eg_nl_e]
  next => cases hg
theorem ah_l2 : ab_ok sc M (eg_b1 eg_l2) ab_l2 := by
  intro ν σ K ls st h hr hg
  obtain ⟨n, en, la, sa, ov⟩ := σ
  simp only [ab_l2] at hg
  split at hg
  next sa sa2 =>
    obtain ⟨_, t, rfl, ⟨x, rfl⟩, ht⟩ := hr.2.2.2.1
    refine ab_ok1 hr (x := x.toInt32) (sn' := t) ?_ ht (ab_inn_full _).1 (ab_inn_full _).2 hg
    simp only [eg_b1, eg_l2, eg_ni_e]
  next => cases hg
theorem ah_dup : ab_ok sc M eg_dup (ab_sk ab_dup) := by
  intro ν σ K ls st h hr hg
  obtain ⟨n, en, la, sa, ov⟩ := σ
  obtain ⟨hb, he, hl, hs, ho, hh⟩ := id hr
  match sa, hs, hg with
  | y :: sa, ⟨v, t, e, hv, ht⟩, hg =>
    subst e
    have h1 := (ab_is1_c hv).1
    simp only [ab_sk, ab_dup] at hg
    cases hi : ab_is1 y with
    | false => rw [hi] at hg; cases hg
    | true =>
      rw [hi] at hg h1
      refine ab_ok0 hr (sn' := v :: v :: t) ?_ hg ⟨_, _, rfl, hv, _, _, rfl, hv, ht⟩
      simp only [eg_dup, h1, cond_true]
  | [], _, hg => cases hg
theorem ah_pop : ab_ok sc M eg_pp (ab_sk ab_pop) := by
  intro ν σ K ls st h hr hg
  obtain ⟨n, en, la, sa, ov⟩ := σ
  obtain ⟨hb, he, hl, hs, ho, hh⟩ := id hr
  match sa, hs, hg with
  | y :: sa, ⟨v, t, e, hv, ht⟩, hg =>
    subst e
    have h1 := (ab_is1_c hv).1
    simp only [ab_sk, ab_pop] at hg
    cases hi : ab_is1 y with
    | false => rw [hi] at hg; cases hg
    | true =>
      rw [hi] at hg h1
      refine ab_ok0 hr (sn' := t) ?_ hg ht
      simp only [eg_pp, h1, cond_true]
  | [], _, hg => cases hg
theorem ah_dx : ab_ok sc M eg_dx (ab_sk ab_dx) := by
  intro ν σ K ls st h hr hg
  obtain ⟨n, en, la, sa, ov⟩ := σ
  obtain ⟨hb, he, hl, hs, ho, hh⟩ := id hr
  match sa, hs, hg with
  | y :: x :: sa, ⟨v, _, e, hv, w, t, e2, hw, ht⟩, hg =>
    subst e; subst e2
    have h1 := (ab_is1_c hv).1
    have h2 := (ab_is1_c hw).1
    simp only [ab_sk, ab_dx] at hg
    cases hi : (ab_is1 y && ab_is1 x) with
    | false => rw [hi] at hg; cases hg
    | true =>
      rw [hi] at hg
      rw [← h1, ← h2] at hi
      refine ab_ok0 hr (sn' := v :: w :: v :: t) ?_ hg ⟨_, _, rfl, hv, _, _, rfl, hw, _, _, rfl, hv, ht⟩
      simp only [eg_dx, hi, cond_true]
  | [_], _, hg => cases hg
  | [], _, hg => cases hg
theorem ah_d2 : ab_ok sc M eg_d2 (ab_sk ab_d2) := by
  intro ν σ K ls st h hr hg
  obtain ⟨n, en, la, sa, ov⟩ := σ
  obtain ⟨hb, he, hl, hs, ho, hh⟩ := id hr
  match sa, hs, hg with
  | y :: x :: sa, ⟨v, _, e, hv, w, t, e2, hw, ht⟩, hg =>
    subst e; subst e2
    have h1 := (ab_is1_c hv).1
    have h2 := (ab_is1_c hw).1
    simp only [ab_sk, ab_d2] at hg
    cases hi : (ab_is1 y && ab_is1 x) with
    | false => rw [hi] at hg; cases hg
    | true =>
      rw [hi] at hg
      rw [← h1, ← h2] at hi
      refine ab_ok0 hr (sn' := v :: w :: v :: w :: t) ?_ hg ⟨_, _, rfl, hv, _, _, rfl, hw, _, _, rfl, hv, _, _, rfl, hw, ht⟩
      simp only [eg_d2, hi, cond_true]
  | [_], _, hg => cases hg
  | [], _, hg => cases hg
theorem ah_s1 {ok : ab_A → Bool} {ok' : Value → Bool} {k : Nat} (hok : ∀ {ν : Nat → Int} {n : Nat} {A : ab_A} {v : Value}, ab_v ν n A v → ok A = true → ok' v = true) : ab_ok sc M (eg_s1 ok' k) (ab_s1 ok k) := by
  intro ν σ K ls st h hr hg
  obtain ⟨n, en, la, sa, ov⟩ := σ
  obtain ⟨hb, he, hl, hs, ho, hh⟩ := id hr
  match sa, hs, hg with
  | A :: sa, ⟨v, t, e, hv, ht⟩, hg =>
    subst e
    simp only [ab_s1] at hg
    cases hi : ok A with
    | false => rw [hi] at hg; cases hg
    | true =>
      rw [hi] at hg
      cases hg
      refine ⟨0, _, ν, (k, v) :: eg_fil (eg_k1 k) ls, t, h, List.mem_cons_self, by simp only [eg_s1, hok hv hi], ⟨hb, he, hl.put hv _ _ (fun j B w hw hp => ab_k1_v hw hp), ht, ho, hh⟩, ab_ext.rf, Nat.le_refl _, ab_fr.rf⟩
  | [], _, hg => cases hg
theorem ah_s2 {k : Nat} : ab_ok sc M (eg_s2 k) (ab_s2 k) := by
  intro ν σ K ls st h hr hg
  obtain ⟨n, en, la, sa, ov⟩ := σ
  obtain ⟨hb, he, hl, hs, ho, hh⟩ := id hr
  match sa, hs, hg with
  | A :: sa, ⟨v, t, e, hv, ht⟩, hg =>
    subst e
    simp only [ab_s2] at hg
    cases hi : ab_isJ A with
    | false => rw [hi] at hg; cases hg
    | true =>
      rw [hi] at hg
      cases hg
      refine ⟨0, _, ν, (k, v) :: eg_fil (eg_k2 k) ls, t, h, List.mem_cons_self, by simp only [eg_s2, ab_isJ_v hv hi], ⟨hb, he, hl.put hv _ _ (fun j B w hw hp => ab_k2_v hw hp), ht, ho, hh⟩, ab_ext.rf, Nat.le_refl _, ab_fr.rf⟩
  | [], _, hg => cases hg
theorem ah_in {k : Nat} {v : Int} : ab_ok sc M (eg_in k v) (ab_in k (Int32.ofInt v).toInt) := by
  intro ν σ K ls st h hr hg
  obtain ⟨n, en, la, sa, ov⟩ := σ
  obtain ⟨hb, he, hl, hs, ho, hh⟩ := id hr
  simp only [ab_in] at hg
  split at hg
  next j d hf =>
    obtain ⟨w, h1, ⟨x, rfl, hj, hx⟩⟩ := hl k _ (eg_find_mem hf)
    split at hg
    next hi =>
      obtain ⟨g1, g2⟩ := ab_isof_v he hb.2.1 hi
      simp only [ab_fi_eq] at hg
      cases hg
      have e : (x + Int32.ofInt v).toInt = ν j + (d + (Int32.ofInt v).toInt) := ab_toInt_add (by rw [hx]; simp only; omega) g1 g2
      refine ⟨0, _, ν, (k, .int (x + Int32.ofInt v)) :: eg_fil (eg_k1 k) ls, st, h, List.mem_cons_self, by simp only [eg_in, h1, eg_ni_e], ⟨hb, he, hl.put (A := .inl (j, d + (Int32.ofInt v).toInt)) (v := .int (x + Int32.ofInt v)) ⟨_, rfl, hj, e⟩ _ _ (fun j B w hw hp => ab_k1_v hw hp), hs, ho, hh⟩, ab_ext.rf, Nat.le_refl _, ab_fr.rf⟩
    next =>
      cases hg
      have hq := ab_upd_ext (ν := ν) (n := n) (x := (x + Int32.ofInt v).toInt)
      have hi := ab_inn_full (x + Int32.ofInt v)
      refine ⟨0, _, ab_upd ν n (x + Int32.ofInt v).toInt, (k, .int (x + Int32.ofInt v)) :: eg_fil (eg_k1 k) ls, st, h, List.mem_cons_self, by simp only [eg_in, h1, eg_ni_e], ⟨ab_base hb hq (Nat.le_succ n), (he.up hq (Nat.le_succ n)).cons (ab_upd_be hi.1 hi.2), (hl.up hq (Nat.le_succ n)).put (A := .inl (n, 0)) (v := .int (x + Int32.ofInt v)) ⟨_, rfl, Nat.lt_succ_self n, ?_⟩ _ _ (fun j B w hw hp => ab_k1_v hw hp), hs.up hq (Nat.le_succ n), ho.up hq (Nat.le_succ n), hh⟩, hq, Nat.le_succ n, ab_fr.rf⟩
      show _ = ab_upd ν n _ n + 0
      rw [ab_upd_n]; omega
  next => cases hg
end AH
