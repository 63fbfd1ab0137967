/-! summaries used -/
/-- one of these ends is come to -/
def ab_co (sc : List Value) (sp : Nat) (M : ab_M) (u o dq pc : Nat) (ν : Nat → Int) (n : Nat) (ls : eg_L) (st : List Value) (h : eg_H) (L : List (Nat × ab_S)) : Prop := ∃ e ∈ L, ∃ (ν' : Nat → Int) (ls' : eg_L) (st' : List Value) (h' : eg_H), ab_r sc.length ν' e.2 ls' st' h' ∧ ab_ext ν ν' n ∧ n ≤ e.2.1 ∧ ab_fr M h' h ∧ ab_Re sc sp u o dq pc ls st h e.1 ls' st' h'
theorem ab_find_nd {α : Type} {l : List (Nat × α)} (h : ab_nd l = true) {k : Nat} {v : α} (hm : (k, v) ∈ l) : eg_find k l = some v := by
  induction l with
  | nil => cases hm
  | cons q l ih =>
    obtain ⟨a, w⟩ := q
    have h1 := Bool.and_eq_true_iff.mp h
    rw [ab_find_cons]
    rcases List.mem_cons.mp hm with e | e
    · cases e
      rw [if_pos rfl]
    · have : a ≠ k := by
        have h2 := h1.1
        clear ih h h1
        induction l with
        | nil => cases e
        | cons x l ih =>
          have h3 := Bool.and_eq_true_iff.mp h2
          rcases List.mem_cons.mp e with e | e
          · intro e2
            rw [← e, e2] at h3
            have := h3.1
            simp only [Nat.beq_refl] at this
            cases this
          · exact ih (List.mem_cons_of_mem _ e) e h3.2
      rw [if_neg this]
      exact ih h1.2 e
theorem ab_ens_ok {L : Nat} {ls : eg_L} {st : List Value} {h : eg_H} (l : ab_O) : ∀ (σ σ1 : ab_S), ab_ens l σ = some σ1 → ∀ ν, ab_r L ν σ ls st h → ∃ ν1, ab_r L ν1 σ1 ls st h ∧ ab_ext ν ν1 σ.1 ∧ σ.1 ≤ σ1.1 := by
  induction l with
  | nil =>
    intro σ σ1 hs ν hr
    cases hs
    exact ⟨ν, hr, ab_ext.rf, Nat.le_refl _⟩
  | cons q l ih =>
    obtain ⟨key, q⟩ := q
    intro σ σ1 hs ν hr
    obtain ⟨n, en, la, sa, ov⟩ := σ
    simp only [ab_ens] at hs
    split at hs
    next => exact ih _ σ1 hs ν hr
    next =>
      split at hs
      next tag rg ha =>
        split at hs
        next lo hi hsl =>
          obtain ⟨hb, he, hl, hst, ho, hh⟩ := hr
          obtain ⟨-, h3⟩ := hh.1 _ _ ha
          obtain ⟨v, h4, ⟨x, rfl, h5, h6⟩⟩ := h3 _ _ hsl
          have hx := ab_upd_ext (ν := ν) (n := n) (x := x.toInt)
          have e0 : x.toInt = ab_upd ν n x.toInt n + 0 := by rw [ab_upd_n]; omega
          obtain ⟨ν1, g1, g2, g3⟩ := ih _ σ1 hs (ab_upd ν n x.toInt) ⟨ab_base hb hx (Nat.le_succ n), (he.up hx (Nat.le_succ n)).cons (ab_upd_be h5 h6), hl.up hx (Nat.le_succ n), hst.up hx (Nat.le_succ n), (ho.up hx (Nat.le_succ n)).cons ⟨x, h4, Nat.lt_succ_self n, e0⟩, hh⟩
          exact ⟨ν1, g1, hx.tr g2 (Nat.le_succ n), Nat.le_trans (Nat.le_succ n) g3⟩
        next => cases hs
      next => cases hs
/-! bindings -/
def ab_bv (ν : Nat → Int) (b : ab_D) (p : Nat) : Int := match eg_find p b with
  | some q => ν q.1 + q.2
  | none => 0
def ab_bi (n : Nat) (b : ab_D) : Prop := ∀ p x, eg_find p b = some x → x.1 < n
def ab_bs (b b2 : ab_D) : Prop := ∀ p x, eg_find p b = some x → eg_find p b2 = some x
theorem ab_bs.rf {b : ab_D} : ab_bs b b := fun _ _ h => h
theorem ab_bs.tr {b b2 b3 : ab_D} (h : ab_bs b b2) (h2 : ab_bs b2 b3) : ab_bs b b3 := fun p x hx => h2 p x (h p x hx)
theorem ab_bv_v {ν : Nat → Int} {b : ab_D} {p : Nat} {x : Nat × Int} (h : eg_find p b = some x) : ab_bv ν b p = ν x.1 + x.2 := by
  unfold ab_bv
  rw [h]
theorem ab_uni_ok {ν : Nat → Int} {n n0 : Nat} {en : ab_E} (he : ab_e ν n en) (h0 : ν 0 = 0) {j p : Nat} {d e : Int} {b b' : ab_D} {x : Int32} (h : ab_uni en n0 j d p e b = some b') (hx : j < n ∧ x.toInt = ν j + d) (hb : ab_bi n b) : ab_bi n b' ∧ ab_bs b b' ∧ ∀ b2, ab_bs b' b2 → eg_find 0 b2 = some (0, 0) → p < n0 ∧ x.toInt = ab_bv ν b2 p + e := by
  unfold ab_uni at h
  cases hp : Nat.beq p 0 with
  | true =>
    rw [hp] at h
    obtain rfl := Nat.eq_of_beq_eq_true hp
    have hi := ab_iv_v he h0 hx.2
    generalize hq : ab_iv en j d = q at h hi
    obtain ⟨lo, hi2⟩ := q
    simp only at h hi
    cases hc : (decide (lo = e) && decide (hi2 = e) && Nat.blt 0 n0) with
    | false => rw [hc] at h; cases h
    | true =>
      rw [hc] at h
      cases h
      simp only [Bool.and_eq_true, decide_eq_true_eq] at hc
      refine ⟨hb, ab_bs.rf, fun b2 h2 h3 => ⟨Nat.blt_eq.mp hc.2, ?_⟩⟩
      rw [ab_bv_v h3]
      simp only
      omega
  | false =>
    rw [hp] at h
    simp only at h
    cases hlt : Nat.blt p n0 with
    | false => rw [hlt] at h; cases h
    | true =>
      rw [hlt] at h
      have hlt2 := Nat.blt_eq.mp hlt
      simp only [cond_true] at h
      cases hf : eg_find p b with
      | some y =>
        obtain ⟨j', d'⟩ := y
        rw [hf] at h
        simp only at h
        cases hc : (Nat.beq j' j && decide (d' + e = d)) with
        | false => rw [hc] at h; cases h
        | true =>
          rw [hc] at h
          cases h
          have c := Bool.and_eq_true_iff.mp hc
          obtain rfl := Nat.eq_of_beq_eq_true c.1
          have c2 := of_decide_eq_true c.2
          refine ⟨hb, ab_bs.rf, fun b2 h2 h3 => ⟨hlt2, ?_⟩⟩
          rw [ab_bv_v (h2 _ _ hf), hx.2]
          simp only
          omega
      | none =>
        rw [hf] at h
        simp only [ab_fi_eq] at h
        cases h
        have hfp : eg_find p ((p, j, d - e) :: b) = some (j, d - e) := by rw [ab_find_cons, if_pos rfl]
        refine ⟨fun p' y hy => ?_, fun p' y hy => ?_, fun b2 h2 h3 => ⟨hlt2, ?_⟩⟩
        · rw [ab_find_cons] at hy
          by_cases e1 : p = p'
          · rw [if_pos e1] at hy; cases hy; exact hx.1
          · rw [if_neg e1] at hy; exact hb p' y hy
        · rw [ab_find_cons]
          by_cases e1 : p = p'
          · rw [← e1, hf] at hy; cases hy
          · rw [if_neg e1]; exact hy
        · rw [ab_bv_v (h2 _ _ hfp), hx.2]
          simp only
          omega
theorem ab_un_ok {ν : Nat → Int} {n n0 : Nat} {en : ab_E} (he : ab_e ν n en) (h0 : ν 0 = 0) {A P : ab_A} {b b' : ab_D} {v : Value} (h : ab_un en n0 A P b = some b') (hv : ab_v ν n A v) (hb : ab_bi n b) : ab_bi n b' ∧ ab_bs b b' ∧ ∀ b2, ab_bs b' b2 → eg_find 0 b2 = some (0, 0) → ab_v (ab_bv ν b2) n0 P v := by
  match A, hv, h with
  | .inl (j, d), ⟨x, e, hj, hx⟩, h =>
    match P, h with
    | .inl (p, e2), h =>
      obtain ⟨g1, g2, g3⟩ := ab_uni_ok he h0 (x := x) h ⟨hj, hx⟩ hb
      exact ⟨g1, g2, fun b2 k1 k2 => ⟨x, e, (g3 b2 k1 k2).1, (g3 b2 k1 k2).2⟩⟩
    | .inr q, h => cases h
  | .inr q, hv, h =>
    match P, h with
    | .inl _, h => cases h
    | .inr q2, h =>
      simp only [ab_un] at h
      cases hc : Nat.beq q q2 with
      | false => rw [hc] at h; cases h
      | true =>
        rw [hc] at h
        cases h
        obtain rfl := Nat.eq_of_beq_eq_true hc
        refine ⟨hb, ab_bs.rf, fun b2 _ _ => ?_⟩
        match q, hv with
        | 0, hv => exact hv
        | 1, hv => exact hv
        | q + 2, hv => exact hv
theorem ab_unL_ok {ν : Nat → Int} {n n0 : Nat} {en : ab_E} (he : ab_e ν n en) (h0 : ν 0 = 0) {la : List (Nat × ab_A)} {lc : eg_L} (hl : ab_vl ν n la lc) (l : List (Nat × ab_A)) : ∀ (b b' : ab_D), ab_unL en n0 la l b = some b' → ab_bi n b → ab_bi n b' ∧ ab_bs b b' ∧ ∀ b2, ab_bs b' b2 → eg_find 0 b2 = some (0, 0) → ab_vl (ab_bv ν b2) n0 l lc := by
  induction l with
  | nil =>
    intro b b' h hb
    cases h
    exact ⟨hb, ab_bs.rf, fun b2 _ _ k A hm => by cases hm⟩
  | cons q l ih =>
    obtain ⟨k, P⟩ := q
    intro b b' h hb
    simp only [ab_unL] at h
    split at h
    next => cases h
    next A hf =>
      split at h
      next => cases h
      next b1 hu =>
        obtain ⟨v, h1, h2⟩ := hl k A (eg_find_mem hf)
        obtain ⟨g1, g2, g3⟩ := ab_un_ok he h0 hu h2 hb
        obtain ⟨k1, k2, k3⟩ := ih b1 b' h g1
        refine ⟨k1, g2.tr k2, fun b2 m1 m2 k' B hm => ?_⟩
        rcases List.mem_cons.mp hm with e | e
        · cases e
          exact ⟨v, h1, g3 b2 (k2.tr m1) m2⟩
        · exact k3 b2 m1 m2 k' B e
theorem ab_unS_ok {ν : Nat → Int} {n n0 : Nat} {en : ab_E} (he : ab_e ν n en) (h0 : ν 0 = 0) (l : List ab_A) : ∀ (sa : List ab_A) (st : List Value) (b b' : ab_D), ab_unS en n0 sa l b = some b' → ab_vs ν n sa st → ab_bi n b → ab_bi n b' ∧ ab_bs b b' ∧ ∀ b2, ab_bs b' b2 → eg_find 0 b2 = some (0, 0) → ab_vs (ab_bv ν b2) n0 l st := by
  induction l with
  | nil =>
    intro sa st b b' h hs hb
    match sa, hs, h with
    | [], hs, h =>
      cases h
      exact ⟨hb, ab_bs.rf, fun b2 _ _ => hs⟩
    | A :: sa, _, h => cases h
  | cons P l ih =>
    intro sa st b b' h hs hb
    match sa, hs, h with
    | [], _, h => cases h
    | A :: sa, ⟨v, t, e, hv, ht⟩, h =>
      simp only [ab_unS] at h
      split at h
      next => cases h
      next b1 hu =>
        obtain ⟨g1, g2, g3⟩ := ab_un_ok he h0 hu hv hb
        obtain ⟨k1, k2, k3⟩ := ih sa t b1 b' h ht g1
        exact ⟨k1, g2.tr k2, fun b2 m1 m2 => ⟨v, t, e, g3 b2 (k2.tr m1) m2, k3 b2 m1 m2⟩⟩
theorem ab_unO_ok {ν : Nat → Int} {n n0 : Nat} {en : ab_E} (he : ab_e ν n en) (h0 : ν 0 = 0) {ov : ab_O} {h : eg_H} (ho : ab_vo ν n ov h) (l : ab_O) : ∀ (b b' : ab_D), ab_unO en n0 ov l b = some b' → ab_bi n b → ab_bi n b' ∧ ab_bs b b' ∧ ∀ b2, ab_bs b' b2 → eg_find 0 b2 = some (0, 0) → ∀ key j d, (key, j, d) ∈ l → ∃ x : Int32, ab_slot h (key / 1024) (key % 1024) = some (.int x) ∧ j < n0 ∧ x.toInt = ab_bv ν b2 j + d := by
  induction l with
  | nil =>
    intro b b' h hb
    cases h
    exact ⟨hb, ab_bs.rf, fun b2 _ _ k j d hm => by cases hm⟩
  | cons q l ih =>
    obtain ⟨key, p, e⟩ := q
    intro b b' h hb
    simp only [ab_unO] at h
    split at h
    next => cases h
    next j d hf =>
      split at h
      next => cases h
      next b1 hu =>
        obtain ⟨x, h1, h2, h3⟩ := ho key j d hf
        obtain ⟨g1, g2, g3⟩ := ab_uni_ok he h0 (x := x) hu ⟨h2, h3⟩ hb
        obtain ⟨k1, k2, k3⟩ := ih b1 b' h g1
        refine ⟨k1, g2.tr k2, fun b2 m1 m2 k' j' d' hm => ?_⟩
        rcases List.mem_cons.mp hm with e | e
        · cases e
          exact ⟨x, h1, g3 b2 (k2.tr m1) m2⟩
        · exact k3 b2 m1 m2 k' j' d' e
theorem ab_chk_ok {ν : Nat → Int} {n n0 : Nat} {en : ab_E} (he : ab_e ν n en) (h0 : ν 0 = 0) {b : ab_D} (l : ab_E) (h : ab_chk n0 en b l = true) : ∀ p B, (p, B) ∈ l → ab_be (ab_bv ν b) n0 p B := by
  induction l with
  | nil => intro p B hm; cases hm
  | cons q l ih =>
    intro p B hm
    have h1 := Bool.and_eq_true_iff.mp h
    rcases List.mem_cons.mp hm with e | e
    · subst e
      obtain ⟨lo, hi, z, r⟩ := B
      have h2 := h1.1
      simp only [ab_chk1] at h2
      have h3 := Bool.and_eq_true_iff.mp h2
      have hp := Nat.blt_eq.mp h3.1
      have h4 := h3.2
      split at h4
      next => cases h4
      next j d hf =>
        split at h4
        next => cases h4
        next l2 u2 hbd =>
          have hbd2 := ab_bd_v he h0 hbd
          have hv := ab_bv_v (ν := ν) hf
          simp only at hv
          have h5 := Bool.and_eq_true_iff.mp h4
          have h6 := Bool.and_eq_true_iff.mp h5.1
          have h7 := Bool.and_eq_true_iff.mp h6.1
          have c1 := of_decide_eq_true h7.1
          have c2 := of_decide_eq_true h7.2
          refine ⟨hp, by simp only; omega, by simp only; omega, fun hz => ?_, fun p2 s hr => ?_⟩
          · simp only at hz
            have h8 := h6.2
            rw [hz] at h8
            simp only [Bool.not_true, Bool.false_or] at h8
            rcases Bool.or_eq_true_iff.mp h8 with h8 | h8
            · rcases Bool.or_eq_true_iff.mp h8 with h8 | h8
              · have := of_decide_eq_true h8; omega
              · have := of_decide_eq_true h8; omega
            · split at h8
              next lo3 hi3 z2 r3 hf2 =>
                have h9 := Bool.and_eq_true_iff.mp h8
                have h10 := of_decide_eq_true h9.2
                obtain ⟨-, -, -, k4, -⟩ := he _ _ hf2
                have := k4 h9.1
                rw [hv, h10]
                omega
              next => cases h8
          · simp only at hr
            have h8 := h5.2
            rw [hr] at h8
            simp only at h8
            have h9 := Bool.and_eq_true_iff.mp h8
            refine ⟨Nat.blt_eq.mp h9.1, ?_⟩
            have h10 := h9.2
            split at h10
            next => cases h10
            next j2 d2 hf2 =>
              have := ab_geq_v he h0 16 h10
              have hv2 := ab_bv_v (ν := ν) hf2
              simp only at hv2
              omega
    · exact ih h1.2 p B e
/-- the state is as the summary has it -/
theorem ab_mat_ok {L : Nat} {ν : Nat → Int} {σ P : ab_S} {ls : eg_L} {st : List Value} {h : eg_H} (hr : ab_r L ν σ ls st h) {b b' : ab_D} (hb : ab_bi σ.1 b) (hb0 : eg_find 0 b = some (0, 0)) (hb1 : eg_find 1 b = some (1, 0)) (hP : 2 ≤ P.1) (hm : ab_mat σ P b = some b') : ab_bi σ.1 b' ∧ ab_bs b b' ∧ ab_r L (ab_bv ν b') P ls st h := by
  obtain ⟨n, en, la, sa, ov⟩ := σ
  obtain ⟨n0, en0, la0, sa0, ov0⟩ := P
  obtain ⟨hbs, he, hl, hs, ho, hh⟩ := hr
  have h0 : ν 0 = 0 := hbs.2.1
  simp only [ab_mat] at hm
  split at hm
  next => cases hm
  next b1 h1 =>
    split at hm
    next => cases hm
    next b2 h2 =>
      split at hm
      next => cases hm
      next b3 h3 =>
        cases hc : ab_chk n0 en b3 en0 with
        | false => rw [hc] at hm; cases hm
        | true =>
          rw [hc] at hm
          cases hm
          obtain ⟨g1, g2, g3⟩ := ab_unL_ok he h0 hl la0 b b1 h1 hb
          obtain ⟨k1, k2, k3⟩ := ab_unS_ok he h0 sa0 sa st b1 b2 h2 hs g1
          obtain ⟨m1, m2, m3⟩ := ab_unO_ok he h0 ho ov0 b2 b' h3 k1
          have hs9 := g2.tr (k2.tr m2)
          have z0 := hs9 _ _ hb0
          have z1 := hs9 _ _ hb1
          refine ⟨m1, hs9, ⟨hP, ?_, ?_⟩, fun j B hf => ab_chk_ok he h0 en0 hc j B (eg_find_mem hf), g3 b' (k2.tr m2) z0, k3 b' m2 z0, fun key j d hf => m3 b' ab_bs.rf z0 key j d (eg_find_mem hf), hh⟩
          · rw [ab_bv_v z0]; simp only; rw [h0]; rfl
          · rw [ab_bv_v z1]; simp only; rw [hbs.2.2]; omega
