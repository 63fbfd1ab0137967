/-! branches -/
theorem ab_ub_v {ν : Nat → Int} {n : Nat} {en : ab_E} (he : ab_e ν n en) (h0 : ν 0 = 0) {j : Nat} {v : Int} (h : ν j ≤ v) : ∃ en', ab_ub en j v = some en' ∧ ab_e ν n en' := by
  unfold ab_ub
  match j, h with
  | 0, h => rw [h0] at h; exact ⟨en, by rw [if_pos h], he⟩
  | j + 1, h =>
    simp only [Nat.succ_eq_add_one, ab_fi_eq]
    cases hf : eg_find (j + 1) en with
    | none => exact ⟨en, rfl, he⟩
    | some B =>
      obtain ⟨lo, hi, z, r⟩ := B
      obtain ⟨g1, g2, g3, g4, g5⟩ := he _ _ hf
      simp only at g2 g3 ⊢
      by_cases h1 : hi ≤ v
      · exact ⟨en, by rw [if_pos h1], he⟩
      · refine ⟨(j + 1, lo, v, z, r) :: en, by rw [if_neg h1, if_pos (by omega)], he.cons ⟨g1, g2, h, g4, g5⟩⟩
theorem ab_lb_v {ν : Nat → Int} {n : Nat} {en : ab_E} (he : ab_e ν n en) (h0 : ν 0 = 0) {j : Nat} {v : Int} (h : v ≤ ν j) : ∃ en', ab_lb en j v = some en' ∧ ab_e ν n en' := by
  unfold ab_lb
  match j, h with
  | 0, h => rw [h0] at h; exact ⟨en, by rw [if_pos h], he⟩
  | j + 1, h =>
    simp only [Nat.succ_eq_add_one, ab_fi_eq]
    cases hf : eg_find (j + 1) en with
    | none => exact ⟨en, rfl, he⟩
    | some B =>
      obtain ⟨lo, hi, z, r⟩ := B
      obtain ⟨g1, g2, g3, g4, g5⟩ := he _ _ hf
      simp only at g2 g3 ⊢
      by_cases h1 : v ≤ lo
      · exact ⟨en, by rw [if_pos h1], he⟩
      · refine ⟨(j + 1, v, hi, z, r) :: en, by rw [if_neg h1, if_pos (by omega)], he.cons ⟨g1, h, g3, g4, g5⟩⟩
theorem ab_rel_v {ν : Nat → Int} {n : Nat} {en : ab_E} (he : ab_e ν n en) {j b : Nat} {r : Int} (hb : b < n) (h : ν b + r ≤ ν j) : ab_e ν n (ab_rel en j b r) := by
  unfold ab_rel
  split
  next lo hi z hf =>
    cases (Nat.beq j 0 || Nat.beq b 0) with
    | true => exact he
    | false =>
      simp only [cond_false, ab_fi_eq]
      obtain ⟨g1, g2, g3, g4, -⟩ := he _ _ hf
      refine he.cons ⟨g1, g2, g3, g4, fun b' r' e => ?_⟩
      cases e
      exact ⟨hb, h⟩
  next => exact he
theorem ab_le_v {ν : Nat → Int} {n : Nat} {en : ab_E} (he : ab_e ν n en) (h0 : ν 0 = 0) {j1 j2 : Nat} {d1 d2 s : Int} {x y : Int32} (hx : j1 < n ∧ x.toInt = ν j1 + d1) (hy : j2 < n ∧ y.toInt = ν j2 + d2) (h : x.toInt + s ≤ y.toInt) : ∃ en', ab_le en j1 d1 j2 d2 s = some en' ∧ ab_e ν n en' := by
  unfold ab_le
  have ix := ab_iv_v he h0 hx.2
  have iy := ab_iv_v he h0 hy.2
  cases hb : Nat.beq j1 j2 with
  | true =>
    obtain rfl := Nat.eq_of_beq_eq_true hb
    exact ⟨en, by simp only; rw [if_pos (by omega)], he⟩
  | false =>
    simp only
    obtain ⟨e1, h1, h2⟩ := ab_ub_v he h0 (j := j1) (v := (ab_iv en j2 d2).2 - s - d1) (by omega)
    rw [h1]
    simp only
    obtain ⟨e2, h3, h4⟩ := ab_lb_v h2 h0 (j := j2) (v := (ab_iv en j1 d1).1 + s - d2) (by omega)
    rw [h3]
    simp only
    exact ⟨_, rfl, ab_rel_v h4 hx.1 (by omega)⟩
theorem ab_eq_v {ν : Nat → Int} {n : Nat} {en : ab_E} (he : ab_e ν n en) (h0 : ν 0 = 0) {j1 j2 : Nat} {d1 d2 : Int} {x y : Int32} (hx : j1 < n ∧ x.toInt = ν j1 + d1) (hy : j2 < n ∧ y.toInt = ν j2 + d2) (h : x.toInt = y.toInt) : ∃ en', ab_eq en j1 d1 j2 d2 = some en' ∧ ab_e ν n en' := by
  unfold ab_eq
  obtain ⟨e1, h1, h2⟩ := ab_le_v he h0 hx hy (s := 0) (by omega)
  rw [h1]
  exact ab_le_v h2 h0 hy hx (s := 0) (by omega)
theorem ab_nv_v {ν : Nat → Int} {n : Nat} {en : ab_E} (he : ab_e ν n en) (h0 : ν 0 = 0) {j : Nat} {d v : Int} {x : Int32} (hx : j < n ∧ x.toInt = ν j + d) (h : x.toInt ≠ v) : ∃ en', ab_nv en j d v = some en' ∧ ab_e ν n en' := by
  unfold ab_nv
  have ix := ab_iv_v he h0 hx.2
  generalize hq : ab_iv en j d = q at ix ⊢
  obtain ⟨lo, hi⟩ := q
  simp only at ix ⊢
  by_cases h1 : lo = v
  · rw [if_pos h1]
    by_cases h2 : hi = v
    · omega
    · rw [if_neg h2]
      exact ab_lb_v he h0 (by omega)
  · rw [if_neg h1]
    by_cases h2 : hi = v
    · rw [if_pos h2]
      exact ab_ub_v he h0 (by omega)
    · rw [if_neg h2]
      refine ⟨_, rfl, ?_⟩
      cases hb : (decide (v = 0) && decide (d = 0) && !(Nat.beq j 0)) with
      | false => exact he
      | true =>
        simp only [cond_true]
        have h3 := Bool.and_eq_true_iff.mp hb
        have h4 := Bool.and_eq_true_iff.mp h3.1
        have h5 := of_decide_eq_true h4.1
        have h6 := of_decide_eq_true h4.2
        unfold ab_zz
        split
        next lo' hi' r hf =>
          obtain ⟨g1, g2, g3, -, g5⟩ := he _ _ hf
          exact he.cons ⟨g1, g2, g3, fun _ => by omega, g5⟩
        next => exact he
theorem ab_ne_v {ν : Nat → Int} {n : Nat} {en : ab_E} (he : ab_e ν n en) (h0 : ν 0 = 0) {j1 j2 : Nat} {d1 d2 : Int} {x y : Int32} (hx : j1 < n ∧ x.toInt = ν j1 + d1) (hy : j2 < n ∧ y.toInt = ν j2 + d2) (h : x.toInt ≠ y.toInt) : ∃ en', ab_ne en j1 d1 j2 d2 = some en' ∧ ab_e ν n en' := by
  unfold ab_ne
  have iy := ab_iv_v he h0 hy.2
  cases hb : Nat.beq j1 j2 with
  | true =>
    obtain rfl := Nat.eq_of_beq_eq_true hb
    exact ⟨en, by simp only; rw [if_neg (by omega)], he⟩
  | false =>
    simp only
    generalize hq : ab_iv en j2 d2 = q at iy ⊢
    obtain ⟨lo, hi⟩ := q
    simp only at iy ⊢
    by_cases h1 : lo = hi
    · rw [if_pos h1]
      exact ab_nv_v he h0 hx (by omega)
    · rw [if_neg h1]
      exact ⟨en, rfl, he⟩
theorem ab_cmp_v {ν : Nat → Int} {n : Nat} {en : ab_E} (he : ab_e ν n en) (h0 : ν 0 = 0) {c : ClassFile.Cond} {j1 j2 : Nat} {d1 d2 : Int} {x y : Int32} (hx : j1 < n ∧ x.toInt = ν j1 + d1) (hy : j2 < n ∧ y.toInt = ν j2 + d2) (h : eg_holds c x y) : ∃ en', ab_cmp en c j1 d1 j2 d2 = some en' ∧ ab_e ν n en' := by
  cases c with
  | eq => exact ab_eq_v he h0 hx hy (by rw [show x = y from h])
  | ne => exact ab_ne_v he h0 hx hy (fun e => h (Int32.toInt_inj.mp e))
  | lt => exact ab_le_v he h0 hx hy (by have := Int32.lt_iff_toInt_lt.mp (show x < y from h); omega)
  | ge => exact ab_le_v he h0 hy hx (by have := Int32.le_iff_toInt_le.mp (show y ≤ x from h); omega)
  | gt => exact ab_le_v he h0 hy hx (by have := Int32.lt_iff_toInt_lt.mp (show y < x from h); omega)
  | le => exact ab_le_v he h0 hx hy (by have := Int32.le_iff_toInt_le.mp (show x ≤ y from h); omega)
theorem ab_not_v {c : ClassFile.Cond} {x y : Int32} (h : ¬ eg_holds c x y) : eg_holds (ab_not c) x y := by
  cases c with
  | eq => exact h
  | ne => exact Classical.not_not.mp h
  | lt => exact Int32.not_lt.mp h
  | ge => exact Int32.not_le.mp h
  | gt => exact Int32.not_lt.mp h
  | le => exact Int32.not_le.mp h
theorem eg_cmp_e {en : List (Int × Int)} (c : ClassFile.Cond) (x y : Int32) : (eg_holds c x y → eg_cmp en c (.int x) (.int y) = some true) ∧ (¬ eg_holds c x y → eg_cmp en c (.int x) (.int y) = some false) := by
  have hl : ∀ a b : Int32, eg_lt (a.toInt, a.toInt) (b.toInt, b.toInt) = some (decide (a < b)) := fun a b => by
    unfold eg_lt
    by_cases h : a < b
    · rw [if_pos (Int32.lt_iff_toInt_lt.mp h)]; simp [h]
    · have h2 := Int32.le_iff_toInt_le.mp (Int32.not_lt.mp h)
      rw [if_neg (by show ¬ a.toInt < b.toInt; omega), if_pos h2]; simp [h]
  have hq : ∀ a b : Int32, eg_eq (a.toInt, a.toInt) (b.toInt, b.toInt) = some (decide (a = b)) := fun a b => by
    unfold eg_eq
    by_cases h : a = b
    · rw [h, if_neg (by simp), if_neg (by simp), if_pos ⟨rfl, rfl, rfl⟩]; simp
    · have h2 : a.toInt ≠ b.toInt := fun e => h (Int32.toInt_inj.mp e)
      by_cases h3 : a.toInt < b.toInt
      · rw [if_pos h3]; simp [h]
      · rw [if_neg h3, if_pos (show b.toInt < a.toInt by omega)]; simp [h]
  have key : eg_cmp en c (.int x) (.int y) = some (match c with
    | .eq => decide (x = y)
    | .ne => !decide (x = y)
    | .lt => decide (x < y)
    | .ge => !decide (x < y)
    | .gt => decide (y < x)
    | .le => !decide (y < x)) := by
    unfold eg_cmp eg_rng
    cases c <;> simp only [hl, hq, Option.map_some]
  rw [key]
  cases c with
  | eq => exact ⟨fun h => by simp [show x = y from h], fun h => by simp [show ¬ x = y from h]⟩
  | ne => exact ⟨fun h => by simp [show ¬ x = y from h], fun h => by simp [show x = y from Classical.not_not.mp h]⟩
  | lt => exact ⟨fun h => by simp [show x < y from h], fun h => by simp [show ¬ x < y from h]⟩
  | ge => exact ⟨fun h => by simp [Int32.not_lt.mpr (show y ≤ x from h)], fun h => by simp [Int32.not_le.mp (show ¬ y ≤ x from h)]⟩
  | gt => exact ⟨fun h => by simp [show y < x from h], fun h => by simp [show ¬ y < x from h]⟩
  | le => exact ⟨fun h => by simp [Int32.not_lt.mpr (show x ≤ y from h)], fun h => by simp [Int32.not_le.mp (show ¬ x ≤ y from h)]⟩
section AB
variable {sc : List Value} {M : ab_M}
/-- one of the ways, with what it tells -/
theorem ab_okw {G : eg_O} {n t : Nat} {en en' : ab_E} {ls : List (Nat × ab_A)} {st st2 : List ab_A} {ov : ab_O} {ν : Nat → Int} {lc : eg_L} {sn sn' : List Value} {h : eg_H} (hr : ab_r sc.length ν (n, en, ls, st, ov) lc sn h) (hG : G lc sn 999 h 0 0 = some (t, lc, sn', 999, h, 0, 0)) (he : ab_e ν n en') (hs : ab_vs ν n st2 sn') {K : List (Nat × ab_S)} (hK : (t, n, en', ls, st2, ov) ∈ K) :
  ∃ (t : Nat) (σ' : ab_S) (ν' : Nat → Int) (ls' : eg_L) (st' : List Value) (h' : eg_H), (t, σ') ∈ K ∧ G lc sn 999 h 0 0 = some (t, ls', st', 999, h', 0, 0) ∧ ab_r sc.length ν' σ' ls' st' h' ∧ ab_ext ν ν' n ∧ n ≤ σ'.1 ∧ ab_fr M h' h := by
  obtain ⟨hb, -, hl, -, ho, hh⟩ := hr
  exact ⟨t, _, ν, lc, sn', h, hK, hG, ⟨hb, he, hl, hs, ho, hh⟩, ab_ext.rf, Nat.le_refl _, ab_fr.rf⟩
theorem ah_jp {t : Nat} : ab_ok sc M (eg_jp t) (ab_jp t) := by
  intro ν σ K ls st h hr hg
  cases hg
  exact ⟨_, _, ν, ls, st, h, List.mem_cons_self, rfl, hr, ab_ext.rf, Nat.le_refl _, ab_fr.rf⟩
theorem ah_if {c : ClassFile.Cond} {t : Nat} : ab_ok sc M (eg_if [] c t) (ab_if c t) := by
  intro ν σ K ls st h hr hg
  obtain ⟨n, en, la, sa, ov⟩ := σ
  simp only [ab_if] at hg
  split at hg
  next sa j d sa2 =>
    obtain ⟨x, tl, rfl, hx, ht⟩ := ab_top1 hr.2.2.2.1
    have h0 : ν 0 = 0 := hr.1.2.1
    have hz : 0 < n ∧ (0 : Int32).toInt = ν 0 + 0 := ⟨by have := hr.1.1; simp only at this; omega, by rw [h0]; rfl⟩
    cases hg
    by_cases hc : eg_holds c x 0
    · obtain ⟨en', h1, h2⟩ := ab_cmp_v hr.2.1 h0 hx hz hc
      refine ab_okw (t := t + 1) (en' := en') (sn' := tl) hr ?_ h2 ht (List.mem_append_left _ ?_)
      · simp only [eg_if, (eg_cmp_e c x 0).1 hc]
      · rw [h1]; exact List.mem_cons_self
    · obtain ⟨en', h1, h2⟩ := ab_cmp_v hr.2.1 h0 hx hz (ab_not_v hc)
      refine ab_okw (t := 0) (en' := en') (sn' := tl) hr ?_ h2 ht (List.mem_append_right _ ?_)
      · simp only [eg_if, (eg_cmp_e c x 0).2 hc]
      · rw [h1]; exact List.mem_cons_self
  next => cases hg
theorem ah_ic {c : ClassFile.Cond} {t : Nat} : ab_ok sc M (eg_ic [] c t) (ab_ic c t) := by
  intro ν σ K ls st h hr hg
  obtain ⟨n, en, la, sa, ov⟩ := σ
  simp only [ab_ic] at hg
  split at hg
  next sa j2 d2 j1 d1 sa2 =>
    obtain ⟨x, y, tl, rfl, hy, hx, ht⟩ := ab_top2 hr.2.2.2.1
    have h0 : ν 0 = 0 := hr.1.2.1
    cases hg
    by_cases hc : eg_holds c x y
    · obtain ⟨en', h1, h2⟩ := ab_cmp_v hr.2.1 h0 hx hy hc
      refine ab_okw (t := t + 1) (en' := en') (sn' := tl) hr ?_ h2 ht (List.mem_append_left _ ?_)
      · simp only [eg_ic, (eg_cmp_e c x y).1 hc]
      · rw [h1]; exact List.mem_cons_self
    · obtain ⟨en', h1, h2⟩ := ab_cmp_v hr.2.1 h0 hx hy (ab_not_v hc)
      refine ab_okw (t := 0) (en' := en') (sn' := tl) hr ?_ h2 ht (List.mem_append_right _ ?_)
      · simp only [eg_ic, (eg_cmp_e c x y).2 hc]
      · rw [h1]; exact List.mem_cons_self
  next => cases hg
theorem ab_tl_v {pc n : Nat} {en : ab_E} {la : List (Nat × ab_A)} {sa sa2 : List ab_A} {ov : ab_O} {j : Nat} {d : Int} {ν : Nat → Int} (he : ab_e ν n en) (h0 : ν 0 = 0) (hn : 0 < n) {x : Int32} (hx : j < n ∧ x.toInt = ν j + d) (l : List Int) : ∀ (v : Int) (L : List (Nat × ab_S)), ab_tl pc (n, en, la, sa, ov) j d sa2 l v = some L → ∀ k : Nat, k < l.length → x.toInt = v + k → ∃ off t en', l[k]? = some off ∧ eg_tgt pc off = some t ∧ ab_e ν n en' ∧ (t + 1, n, en', la, sa2, ov) ∈ L := by
  induction l with
  | nil => intro v L _ k hk; exact absurd hk (Nat.not_lt_zero _)
  | cons off l ih =>
    intro v L hL k hk hv
    simp only [ab_tl] at hL
    cases ht : eg_tgt pc off with
    | none => rw [ht] at hL; cases hL
    | some t =>
      rw [ht] at hL
      simp only at hL
      cases hr : ab_tl pc (n, en, la, sa, ov) j d sa2 l (v + 1) with
      | none => rw [hr] at hL; cases hL
      | some L2 =>
        rw [hr] at hL
        cases hL
        cases k with
        | zero =>
          have hz : 0 < n ∧ x.toInt = ν 0 + v := ⟨hn, by rw [h0, hv]; simp⟩
          obtain ⟨en', h1, h2⟩ := ab_eq_v he h0 hx hz rfl
          refine ⟨off, t, en', rfl, ht, h2, List.mem_append_left _ ?_⟩
          rw [h1]; exact List.mem_cons_self
        | succ k =>
          obtain ⟨o2, t2, en', h1, h2, h3, h4⟩ := ih (v + 1) L2 hr k (by simp at hk; omega) (by rw [hv]; omega)
          exact ⟨o2, t2, en', by simpa using h1, h2, h3, List.mem_append_right _ h4⟩
theorem ah_tb {pc : Nat} {df lo hi : Int} {offs : Array Int} (hlo : (Int32.ofInt lo).toInt = lo) (hhi : (Int32.ofInt hi).toInt = hi) : ab_ok sc M (eg_tb [] pc df lo hi offs) (ab_tb pc df lo hi offs) := by
  intro ν σ K ls st h hr hg
  obtain ⟨n, en, la, sa, ov⟩ := σ
  simp only [ab_tb] at hg
  split at hg
  next sa j d sa2 =>
    obtain ⟨x, tl, rfl, hx, ht⟩ := ab_top1 hr.2.2.2.1
    have h0 : ν 0 = 0 := hr.1.2.1
    have hn : 0 < n := by have := hr.1.1; simp only at this; omega
    cases htd : eg_tgt pc df with
    | none => rw [htd] at hg; cases hg
    | some t =>
      rw [htd] at hg
      simp only at hg
      cases hdc : decide (hi < lo + (offs.toList.length : Int)) with
      | false => rw [hdc] at hg; cases hg
      | true =>
        rw [hdc] at hg
        have hlen := of_decide_eq_true hdc
        simp only at hg
        cases hL : ab_tl pc (n, en, la, .inl (j, d) :: sa2, ov) j d sa2 offs.toList lo with
        | none => rw [hL] at hg; cases hg
        | some L =>
          rw [hL] at hg
          cases hg
          by_cases h1 : x.toInt < lo
          · obtain ⟨en', g1, g2⟩ := ab_le_v hr.2.1 h0 hx (y := Int32.ofInt lo) (j2 := 0) (d2 := lo) ⟨hn, by rw [h0, hlo]; omega⟩ (s := 1) (by rw [hlo]; omega)
            refine ab_okw (t := t + 1) (en' := en') (sn' := tl) hr ?_ g2 ht (List.mem_append_left _ ?_)
            · simp only [eg_tb, eg_rng]
              rw [if_pos (Or.inl h1), htd]
            · rw [g1]; exact List.mem_cons_self
          · by_cases h2 : hi < x.toInt
            · obtain ⟨en', g1, g2⟩ := ab_le_v hr.2.1 h0 (x := Int32.ofInt hi) (j1 := 0) (d1 := hi) ⟨hn, by rw [h0, hhi]; omega⟩ hx (s := 1) (by rw [hhi]; omega)
              refine ab_okw (t := t + 1) (en' := en') (sn' := tl) hr ?_ g2 ht (List.mem_append_right _ (List.mem_append_left _ ?_))
              · simp only [eg_tb, eg_rng]
                rw [if_pos (Or.inr h2), htd]
              · rw [g1]; exact List.mem_cons_self
            · have hk : ((x.toInt - lo).toNat : Int) = x.toInt - lo := Int.toNat_of_nonneg (by omega)
              obtain ⟨off, t2, en', g1, g2, g3, g4⟩ := ab_tl_v hr.2.1 h0 hn hx offs.toList lo L hL (x.toInt - lo).toNat (by omega) (by omega)
              refine ab_okw (t := t2 + 1) (en' := en') (sn' := tl) hr ?_ g3 ht (List.mem_append_right _ (List.mem_append_right _ g4))
              have g5 : offs[(x.toInt - lo).toNat]? = some off := by rw [← Array.getElem?_toList]; exact g1
              simp only [eg_tb, eg_rng]
              rw [if_neg (fun q => q.elim h1 h2), if_pos ⟨trivial, h1, h2⟩, g5]
              simp only [g2]
  next => cases hg
end AB
