/-! slots of cells -/
theorem ab_sh_slot {h : eg_H} {a tag : Nat} {xs : List Value} (hs : ab_sh h a tag xs) (k : Nat) : ab_slot h a k = eg_nth xs k := by
  unfold ab_slot
  rcases hs with ⟨-, e⟩ | ⟨ci, -, e⟩ <;> rw [e]
theorem ab_sl_len {rg : List (Nat × ab_G)} {k : Nat} {g : ab_G} (h : ab_sl rg k = some g) : k < ab_len rg := by
  induction rg generalizing k with
  | nil => cases h
  | cons q l ih =>
    obtain ⟨n, g0⟩ := q
    simp only [ab_sl] at h
    simp only [ab_len]
    cases hb : Nat.blt k n with
    | true => have := Nat.blt_eq.mp hb; omega
    | false =>
      rw [hb] at h
      have := ih h
      have h2 : ¬ k < n := fun e => by rw [Nat.blt_eq.mpr e] at hb; cases hb
      omega
theorem ab_sl_some {rg : List (Nat × ab_G)} {k : Nat} (h : k < ab_len rg) : ∃ g, ab_sl rg k = some g := by
  induction rg generalizing k with
  | nil => simp [ab_len] at h
  | cons q l ih =>
    obtain ⟨n, g0⟩ := q
    simp only [ab_sl]
    simp only [ab_len] at h
    cases hb : Nat.blt k n with
    | true => exact ⟨g0, rfl⟩
    | false =>
      have h2 : ¬ k < n := fun e => by rw [Nat.blt_eq.mpr e] at hb; cases hb
      exact ih (by omega)
theorem ab_blt {a b : Nat} : (Nat.blt a b = true ∧ a < b) ∨ (Nat.blt a b = false ∧ ¬ a < b) := by
  cases hb : Nat.blt a b with
  | true => exact Or.inl ⟨rfl, Nat.blt_eq.mp hb⟩
  | false => exact Or.inr ⟨rfl, fun e => by rw [Nat.blt_eq.mpr e] at hb; cases hb⟩
theorem ab_jr_v {rg : List (Nat × ab_G)} : ∀ {k1 k2 : Nat} {lo hi : Int}, ab_jr rg k1 k2 = some (lo, hi) → ∀ k, k1 ≤ k → k ≤ k2 → ∃ lo' hi', ab_sl rg k = some (.inl (lo', hi')) ∧ lo ≤ lo' ∧ hi' ≤ hi := by
  induction rg with
  | nil => intro k1 k2 lo hi h; cases h
  | cons q l ih =>
    obtain ⟨n, g⟩ := q
    intro k1 k2 lo hi h k hk1 hk2
    simp only [ab_jr] at h
    simp only [ab_sl]
    rcases ab_blt (a := k1) (b := n) with ⟨hb, h1⟩ | ⟨hb, h1⟩
    · rw [hb] at h
      simp only at h
      match g, h with
      | .inl (l0, h0), h =>
        simp only at h
        rcases ab_blt (a := k2) (b := n) with ⟨hb2, h2⟩ | ⟨hb2, h2⟩
        · rw [hb2] at h
          cases h
          rw [Nat.blt_eq.mpr (show k < n by omega)]
          exact ⟨lo, hi, rfl, Int.le_refl _, Int.le_refl _⟩
        · rw [hb2] at h
          simp only at h
          cases hr : ab_jr l 0 (k2 - n) with
          | none => rw [hr] at h; cases h
          | some r =>
            obtain ⟨l3, h3⟩ := r
            rw [hr] at h
            cases h
            rcases ab_blt (a := k) (b := n) with ⟨hb3, h4⟩ | ⟨hb3, h4⟩
            · rw [hb3]
              exact ⟨l0, h0, rfl, (ab_lmin_v _ _).1, (ab_lmax_v _ _).1⟩
            · rw [hb3]
              obtain ⟨l4, h5, e, q1, q2⟩ := ih hr (k - n) (by omega) (by omega)
              exact ⟨l4, h5, e, Int.le_trans (ab_lmin_v _ _).2 q1, Int.le_trans q2 (ab_lmax_v _ _).2⟩
      | .inr q, h => cases h
    · rw [hb] at h
      simp only at h
      obtain ⟨l4, h5, e, q1, q2⟩ := ih h (k - n) (by omega) (by omega)
      rcases ab_blt (a := k) (b := n) with ⟨hb3, h4⟩ | ⟨hb3, h4⟩
      · omega
      · rw [hb3]
        exact ⟨l4, h5, e, q1, q2⟩
theorem ab_mr_v {rg : List (Nat × ab_G)} : ∀ {k1 k2 : Nat} {lo hi : Int}, ab_mr rg k1 k2 = some (lo, hi) → ∀ k, k1 ≤ k → k ≤ k2 → ∃ lo' hi', ab_sl rg k = some (.inl (lo', hi')) ∧ lo' ≤ lo ∧ hi ≤ hi' := by
  induction rg with
  | nil => intro k1 k2 lo hi h; cases h
  | cons q l ih =>
    obtain ⟨n, g⟩ := q
    intro k1 k2 lo hi h k hk1 hk2
    simp only [ab_mr] at h
    simp only [ab_sl]
    rcases ab_blt (a := k1) (b := n) with ⟨hb, h1⟩ | ⟨hb, h1⟩
    · rw [hb] at h
      simp only at h
      match g, h with
      | .inl (l0, h0), h =>
        simp only at h
        rcases ab_blt (a := k2) (b := n) with ⟨hb2, h2⟩ | ⟨hb2, h2⟩
        · rw [hb2] at h
          cases h
          rw [Nat.blt_eq.mpr (show k < n by omega)]
          exact ⟨lo, hi, rfl, Int.le_refl _, Int.le_refl _⟩
        · rw [hb2] at h
          simp only at h
          cases hr : ab_mr l 0 (k2 - n) with
          | none => rw [hr] at h; cases h
          | some r =>
            obtain ⟨l3, h3⟩ := r
            rw [hr] at h
            cases h
            rcases ab_blt (a := k) (b := n) with ⟨hb3, h4⟩ | ⟨hb3, h4⟩
            · rw [hb3]
              exact ⟨l0, h0, rfl, (ab_lmax_v _ _).1, (ab_lmin_v _ _).1⟩
            · rw [hb3]
              obtain ⟨l4, h5, e, q1, q2⟩ := ih hr (k - n) (by omega) (by omega)
              exact ⟨l4, h5, e, Int.le_trans q1 (ab_lmax_v _ _).2, Int.le_trans (ab_lmin_v _ _).2 q2⟩
      | .inr q, h => cases h
    · rw [hb] at h
      simp only at h
      obtain ⟨l4, h5, e, q1, q2⟩ := ih h (k - n) (by omega) (by omega)
      rcases ab_blt (a := k) (b := n) with ⟨hb3, h4⟩ | ⟨hb3, h4⟩
      · omega
      · rw [hb3]
        exact ⟨l4, h5, e, q1, q2⟩
theorem ab_inr_v {M : ab_M} {a k1 k2 k : Nat} (h : ab_inr M a k1 k2 = true) (h1 : k1 ≤ k) (h2 : k ≤ k2) : ab_inr M a k k = true := by
  induction M with
  | nil => cases h
  | cons q l ih =>
    obtain ⟨b, f, t⟩ := q
    simp only [ab_inr] at h ⊢
    cases hb : (Nat.beq a b && Nat.ble f k1 && Nat.ble k2 t) with
    | true =>
      have g1 := Bool.and_eq_true_iff.mp hb
      have g2 := Bool.and_eq_true_iff.mp g1.1
      have g3 := Nat.le_of_ble_eq_true g2.2
      have g4 := Nat.le_of_ble_eq_true g1.2
      have g5 : Nat.ble f k = true := Nat.ble_eq.mpr (by omega)
      have g6 : Nat.ble k t = true := Nat.ble_eq.mpr (by omega)
      rw [g2.1, g5, g6]
      rfl
    | false =>
      rw [hb] at h
      cases (Nat.beq a b && Nat.ble f k && Nat.ble k t) with
      | true => rfl
      | false => exact ih h
/-- a slot written -/
theorem ab_slot_set {h : eg_H} {a k tag : Nat} {xs : List Value} {w : Value} {c : eg_C} (hs : ab_sh h a tag xs) (hk : k < xs.length) (hc : ab_sh (eg_set h a c) a tag (eg_put xs k w) ) (hg : ∀ b, eg_get (eg_set h a c) b = if b = a then some c else eg_get h b) (b m : Nat) : ab_slot (eg_set h a c) b m = if b = a ∧ m = k then some w else ab_slot h b m := by
  by_cases e : b = a
  · subst e
    rw [ab_sh_slot hc, eg_put_nth, ab_sh_slot hs]
    by_cases e2 : m = k
    · rw [if_pos e2, if_pos ⟨rfl, e2⟩, eg_nth_eq, List.getElem?_eq_getElem hk]
      rfl
    · rw [if_neg e2, if_neg (fun q => e2 q.2)]
  · rw [if_neg (fun q => e q.1)]
    unfold ab_slot
    rw [hg b, if_neg e]
theorem ab_npr_v {a i1 i2 k : Nat} (h : ab_npr a i1 i2 = true) (h1 : i1 ≤ k) (h2 : k ≤ i2) : ab_pr a k = false := by
  unfold ab_npr at h
  unfold ab_pr
  cases e1 : (Nat.beq a 184 || Nat.beq a 201) with
  | true =>
    rw [e1] at h
    have h3 := Nat.blt_eq.mp h
    have h4 : Nat.ble 126 k = false := by
      cases hb : Nat.ble 126 k with
      | false => rfl
      | true => have := Nat.le_of_ble_eq_true hb; omega
    rw [h4]
    rcases Bool.or_eq_true_iff.mp e1 with e | e <;> rw [Nat.eq_of_beq_eq_true e] <;> rfl
  | false =>
    rw [e1] at h
    simp only at h
    have h4 : (Nat.beq a 113 || Nat.beq a 114) = false := by
      cases hb : (Nat.beq a 113 || Nat.beq a 114) with
      | false => rfl
      | true => rw [hb] at h; cases h
    have h5 := Bool.or_eq_false_iff.mp h4
    rw [h5.1, h5.2]; rfl
theorem ab_J.set {h h' : eg_H} {a k : Nat} {w : Value} (hJ : ab_J h) (hn : ab_pr a k = false) (hs : ∀ b m, ab_slot h' b m = if b = a ∧ m = k then some w else ab_slot h b m) : ab_J h' := hJ.same (fun b m hb => by
  rw [hs b m, if_neg]
  rintro ⟨rfl, rfl⟩
  rw [hn] at hb
  cases hb)
theorem ab_hp_set {h : eg_H} {a k tag : Nat} {rg : List (Nat × ab_G)} {xs : List Value} {w : Value} {c : eg_C} {g : ab_G} (hh : ab_hp0 h) (ha : ab_get a = some (tag, rg)) (hs : ab_sh h a tag xs) (hg : ab_sl rg k = some g) (hv : ab_gv g w) (hc : ab_sh (eg_set h a c) a tag (eg_put xs k w)) (hg2 : ∀ b, eg_get (eg_set h a c) b = if b = a then some c else eg_get h b) (hk : k < xs.length) : ab_hp0 (eg_set h a c) := by
  intro b cb hb
  obtain ⟨⟨ys, h1, h2⟩, h3⟩ := hh b cb hb
  by_cases e : b = a
  · subst e
    obtain rfl : cb = (tag, rg) := Option.some.inj (hb.symm.trans ha)
    have hxy : ys.length = xs.length := by
      rcases h1 with ⟨_, e1⟩ | ⟨ci, e0, e1⟩ <;> rcases hs with ⟨q0, e2⟩ | ⟨cj, e3, e2⟩
      · rw [e1] at e2; cases e2; rfl
      · rw [e1] at e2; cases e2
      · rw [e1] at e2; cases e2
      · rw [e1] at e2; cases e2; rfl
    refine ⟨⟨_, hc, by rw [eg_put_len, ← hxy]; exact h2⟩, fun m g' hm => ?_⟩
    rw [ab_slot_set hs hk hc hg2]
    by_cases e2 : m = k
    · rw [if_pos ⟨rfl, e2⟩]
      subst e2
      obtain rfl : g' = g := Option.some.inj (hm.symm.trans hg)
      exact ⟨w, rfl, hv⟩
    · rw [if_neg (fun q => e2 q.2)]
      exact h3 m g' hm
  · refine ⟨⟨ys, ?_, h2⟩, fun m g' hm => ?_⟩
    · unfold ab_sh at h1 ⊢
      rw [hg2 b, if_neg e]
      exact h1
    · rw [ab_slot_set hs hk hc hg2, if_neg (fun q => e q.1)]
      exact h3 m g' hm
theorem ab_find_filk {α : Type} {key : Nat} {l : List (Nat × α)} {p : Nat × α → Bool} {v : α} (hp : ∀ k x y, p (k, x) = p (k, y)) (h : eg_find key (eg_fil p l) = some v) : p (key, v) = true ∧ eg_find key l = some v := by
  induction l with
  | nil => cases h
  | cons q l ih =>
    obtain ⟨a, w⟩ := q
    unfold eg_fil at h
    rw [ab_find_cons]
    cases hb : p (a, w) with
    | true =>
      rw [hb] at h
      simp only at h
      rw [ab_find_cons] at h
      by_cases e : a = key
      · rw [if_pos e] at h ⊢
        cases h
        rw [← e]
        exact ⟨hb, rfl⟩
      · rw [if_neg e] at h ⊢
        exact ih h
    | false =>
      rw [hb] at h
      simp only at h
      by_cases e : a = key
      · have h1 := (ih h).1
        rw [← e, hp a v w, hb] at h1
        cases h1
      · rw [if_neg e]
        exact ih h
/-- what is known of slots, one written -/
theorem ab_vo_set {h h' : eg_H} {ν : Nat → Int} {n a k : Nat} {ov : ab_O} {w : Value} (ho : ab_vo ν n ov h) (hs : ∀ b m, ab_slot h' b m = if b = a ∧ m = k then some w else ab_slot h b m) (p : Nat × Nat × Int → Bool) (hk : ∀ k x y, p (k, x) = p (k, y)) (hp : ∀ key x, p (key, x) = true → ¬ (key / 1024 = a ∧ key % 1024 = k)) : ab_vo ν n (eg_fil p ov) h' := by
  intro key j d hf
  obtain ⟨h1, h2⟩ := ab_find_filk hk hf
  rw [hs, if_neg (hp key _ h1)]
  exact ho key j d h2
/-- the same, with what was written -/
theorem ab_vo_put {h h' : eg_H} {ν : Nat → Int} {n a k j : Nat} {d : Int} {ov : ab_O} {x : Int32} (ho : ab_vo ν n ov h) (hk : k < 1024) (hs : ∀ b m, ab_slot h' b m = if b = a ∧ m = k then some (.int x) else ab_slot h b m) (hx : j < n ∧ x.toInt = ν j + d) : ab_vo ν n ((ab_key a k, j, d) :: ov) h' := by
  intro key j' d' hf
  rw [ab_find_cons] at hf
  have hkey := ab_key_d a k hk
  by_cases e : ab_key a k = key
  · rw [if_pos e] at hf
    cases hf
    rw [← e, hkey.1, hkey.2, hs, if_pos ⟨rfl, rfl⟩]
    exact ⟨x, rfl, hx.1, hx.2⟩
  · rw [if_neg e] at hf
    rw [hs, if_neg (fun q => e (by unfold ab_key; omega))]
    exact ho key j' d' hf
theorem ab_fr_set {M : ab_M} {h h' : eg_H} {a k : Nat} {w : Value} (hM : ab_inr M a k k = true) (hs : ∀ b m, ab_slot h' b m = if b = a ∧ m = k then some w else ab_slot h b m) : ab_fr M h' h := fun b m hb => by
  rw [hs, if_neg]
  rintro ⟨rfl, rfl⟩
  rw [hM] at hb
  cases hb
/-- an object's slot written -/
theorem ab_objset {h : eg_H} {a ci k : Nat} {xs : List Value} {w : Value} (hg : eg_get h a = some (.inr (ci, xs))) : (∀ b, eg_get (eg_set h a (.inr (ci, eg_put xs k w))) b = if b = a then some (.inr (ci, eg_put xs k w)) else eg_get h b) ∧ ab_sh (eg_set h a (.inr (ci, eg_put xs k w))) a (100 + ci) (eg_put xs k w) := by
  have h1 := fun b => eg_get_set (c := (.inr (ci, eg_put xs k w) : eg_C)) hg b
  exact ⟨h1, Or.inr ⟨ci, rfl, by rw [h1, if_pos rfl]⟩⟩
theorem ab_arrset {h : eg_H} {a t k : Nat} {xs : List Value} {w : Value} (ht : t < 100) (hg : eg_get h a = some (.inl (t, xs))) : (∀ b, eg_get (eg_set h a (.inl (t, eg_put xs k w))) b = if b = a then some (.inl (t, eg_put xs k w)) else eg_get h b) ∧ ab_sh (eg_set h a (.inl (t, eg_put xs k w))) a t (eg_put xs k w) := by
  have h1 := fun b => eg_get_set (c := (.inl (t, eg_put xs k w) : eg_C)) hg b
  exact ⟨h1, Or.inl ⟨ht, by rw [h1, if_pos rfl]⟩⟩
theorem ab_sh_obj {h : eg_H} {a ci : Nat} {xs : List Value} (hs : ab_sh h a (100 + ci) xs) : eg_get h a = some (.inr (ci, xs)) := by
  rcases hs with ⟨e, -⟩ | ⟨cj, e, e2⟩
  · omega
  · obtain rfl : cj = ci := by omega
    exact e2
theorem ab_sh_arr {h : eg_H} {a t : Nat} {xs : List Value} (ht : t < 100) (hs : ab_sh h a t xs) : eg_get h a = some (.inl (t, xs)) := by
  rcases hs with ⟨-, e⟩ | ⟨cj, e, e2⟩
  · exact e
  · omega
section AM
variable {sc : List Value} {M : ab_M}
/-- one slot read -/
theorem ah_rd {G : eg_O} {n : Nat} {en : ab_E} {la : List (Nat × ab_A)} {sa st2 : List ab_A} {ov : ab_O} {ν : Nat → Int} {lc : eg_L} {sn sn' : List Value} {h : eg_H} {a k : Nat} {g : ab_G} {v : Value} {K : List (Nat × ab_S)} (hr : ab_r sc.length ν (n, en, la, sa, ov) lc sn h) (hk : k < 1024) (hv : ab_slot h a k = some v) (hgv : ab_gv g v) (hG : G lc sn 999 h 0 0 = some (0, lc, v :: sn', 999, h, 0, 0)) (hs : ab_vs ν n st2 sn') (hg : ab_rd (n, en, la, sa, ov) a k g st2 = some K) :
  ∃ (t : Nat) (σ' : ab_S) (ν' : Nat → Int) (ls' : eg_L) (st' : List Value) (h' : eg_H), (t, σ') ∈ K ∧ G lc sn 999 h 0 0 = some (t, ls', st', 999, h', 0, 0) ∧ ab_r sc.length ν' σ' ls' st' h' ∧ ab_ext ν ν' n ∧ n ≤ σ'.1 ∧ ab_fr M h' h := by
  have hkey := ab_key_d a k hk
  match g, hgv, hg with
  | .inr q, hgv, hg =>
    refine ab_ok0 hr hG hg ⟨v, sn', rfl, ?_, hs⟩
    match q, hgv with
    | 0, hgv => exact hgv
    | q + 2, hgv => exact hgv
  | .inl (lo, hi), ⟨x, e, h1, h2⟩, hg =>
    subst e
    simp only [ab_rd] at hg
    split at hg
    next j d hf =>
      obtain ⟨y, g1, g2, g3⟩ := hr.2.2.2.2.1 _ _ _ hf
      rw [hkey.1, hkey.2, hv] at g1
      cases g1
      exact ab_ok0 hr hG hg ⟨_, sn', rfl, ⟨x, rfl, g2, g3⟩, hs⟩
    next =>
      cases hg
      obtain ⟨hb, he, hl, -, ho, hh⟩ := hr
      have hx := ab_upd_ext (ν := ν) (n := n) (x := x.toInt)
      have e0 : x.toInt = ab_upd ν n x.toInt n + 0 := by rw [ab_upd_n]; omega
      refine ⟨0, _, ab_upd ν n x.toInt, lc, _, h, List.mem_cons_self, hG, ⟨ab_base hb hx (Nat.le_succ n), (he.up hx (Nat.le_succ n)).cons (ab_upd_be h1 h2), hl.up hx (Nat.le_succ n), ⟨_, _, rfl, ⟨x, rfl, Nat.lt_succ_self n, e0⟩, hs.up hx (Nat.le_succ n)⟩, (ho.up hx (Nat.le_succ n)).cons ⟨x, ?_, Nat.lt_succ_self n, e0⟩, hh⟩, hx, Nat.le_succ n, ab_fr.rf⟩
      rw [hkey.1, hkey.2]
      exact hv
theorem ab_1024 : (List.range 256).all (fun a => match ab_get a with
  | some (_, rg) => Nat.ble (ab_len rg) 1024
  | none => true) = true := by decide +kernel
theorem ab_get_lt {a : Nat} {c : ab_C} (h : ab_get a = some c) : a < 256 := by
  unfold ab_get at h
  have hl : ab_gH.length ≤ 16 := by decide +kernel
  cases hr : eg_nth ab_gH (a / 16) with
  | none => rw [hr] at h; cases h
  | some r =>
    have := eg_nth_lt hr
    omega
theorem ab_k1024 {a k : Nat} {tag : Nat} {rg : List (Nat × ab_G)} (h : ab_get a = some (tag, rg)) (hk : k < ab_len rg) : k < 1024 := by
  have h1 := List.all_eq_true.mp ab_1024 a (List.mem_range.mpr (ab_get_lt h))
  rw [h] at h1
  have := Nat.le_of_ble_eq_true h1
  omega
theorem ah_gf {ci fk : Nat} : ab_ok sc M (eg_gf ci fk) (ab_gf ci fk) := by
  intro ν σ K ls st h hr hg
  obtain ⟨n, en, la, sa, ov⟩ := σ
  simp only [ab_gf] at hg
  split at hg
  next sa a sa2 =>
    obtain ⟨_, t, rfl, hv, ht⟩ := hr.2.2.2.1
    obtain rfl : _ = Value.ref a := hv
    split at hg
    next tag rg ha =>
      split at hg
      next hb =>
        obtain rfl := Nat.eq_of_beq_eq_true hb
        split at hg
        next g hsl =>
          obtain ⟨⟨xs, h1, h2⟩, h3⟩ := hr.2.2.2.2.2.1 a _ ha
          obtain ⟨v, h4, h5⟩ := h3 fk g hsl
          have h6 := ab_sh_obj h1
          have h7 : eg_nth xs fk = some v := by rw [← ab_sh_slot h1]; exact h4
          refine ah_rd hr (ab_k1024 ha (ab_sl_len hsl)) h4 h5 ?_ ht hg
          simp only [eg_gf, eg_obj, h6, Nat.beq_refl, h7]
        next => cases hg
      next => cases hg
    next => cases hg
  next => cases hg
theorem ah_pf {ci fk : Nat} : ab_ok sc M (eg_pf (eg_fit (eg_fty ci fk)) ci fk) (ab_pf M ci fk) := by
  intro ν σ K ls st h hr hg
  obtain ⟨n, en, la, sa, ov⟩ := σ
  obtain ⟨hb, he, hl, hs, ho, hh⟩ := id hr
  have he : ab_e ν n en := he
  simp only [ab_pf] at hg
  split at hg
  next sa A a sa2 =>
    obtain ⟨v, _, rfl, hv, _, t, rfl, hva, ht⟩ := hs
    obtain rfl : _ = Value.ref a := hva
    split at hg
    next tag rg ha =>
      split at hg
      next hbq =>
        have hq := Bool.and_eq_true_iff.mp hbq
        have hqw := Bool.and_eq_true_iff.mp hq.2
        obtain rfl := Nat.eq_of_beq_eq_true hq.1
        obtain ⟨⟨xs, h1, h2⟩, h3⟩ := hh.1 a _ ha
        have h6 := ab_sh_obj h1
        split at hg
        next lo hi hsl =>
          split at hg
          next j d =>
            obtain ⟨x, rfl, hj, hx⟩ := hv
            have hx : x.toInt = ν j + d := hx
            have hi2 := ab_iv_v (en := en) he hb.2.1 hx
            cases hcnd : (decide (lo ≤ (ab_iv en j d).1) && decide ((ab_iv en j d).2 ≤ hi) && ab_bool (eg_fty ci fk) ((ab_iv en j d).1, (ab_iv en j d).2)) with
            | false =>
              have : (none : ab_N) = some K := by rw [← hg]; simp only [hcnd]; rfl
              cases this
            | true =>
              have hg2 : ab_go (n, en, la, sa2, (ab_key a fk, j, d) :: ov) = some K := by rw [← hg]; simp only [hcnd]; rfl
              cases hg2
              have c1 := Bool.and_eq_true_iff.mp hcnd
              have c2 := Bool.and_eq_true_iff.mp c1.1
              have c3 := of_decide_eq_true c2.1
              have c4 := of_decide_eq_true c2.2
              have hfit : eg_fit (eg_fty ci fk) (.int x) = true := by
                have c5 := c1.2
                cases hty : eg_fty ci fk with
                | int => rfl
                | boolean =>
                  rw [hty] at c5
                  have c6 := Bool.and_eq_true_iff.mp c5
                  have c7 := of_decide_eq_true c6.1
                  have c8 := of_decide_eq_true c6.2
                  simp only at c7 c8
                  have : x.toInt = 0 ∨ x.toInt = 1 := by omega
                  rcases this with e | e
                  · obtain rfl : x = 0 := Int32.toInt_inj.mp (by rw [e]; rfl)
                    rfl
                  · obtain rfl : x = 1 := Int32.toInt_inj.mp (by rw [e]; rfl)
                    rfl
                | _ => rw [hty] at c5; cases c5
              have hkx : fk < xs.length := by rw [h2]; exact ab_sl_len hsl
              obtain ⟨s1, s2⟩ := ab_objset (k := fk) (w := .int x) h6
              have hslot := ab_slot_set (w := .int x) h1 hkx s2 s1
              refine ⟨0, _, ν, ls, t, _, List.mem_cons_self, ?_, ⟨hb, he, hl, ht, ab_vo_put ho (ab_k1024 ha (ab_sl_len hsl)) hslot ⟨hj, hx⟩, ⟨ab_hp_set hh.1 ha h1 hsl ⟨x, rfl, by omega, by omega⟩ s2 s1 hkx, hh.2.set (ab_npr_v hqw.2 (Nat.le_refl _) (Nat.le_refl _)) hslot⟩⟩, ab_ext.rf, Nat.le_refl _, ab_fr_set hqw.1 hslot⟩
              simp only [eg_pf, eg_obj, h6, Nat.beq_refl, hfit, Bool.and_self]
          next => cases hg
        next hsl =>
          split at hg
          next =>
            obtain ⟨x, rfl⟩ := hv
            split at hg
            next hty =>
              cases hg
              have hkx : fk < xs.length := by rw [h2]; exact ab_sl_len hsl
              obtain ⟨s1, s2⟩ := ab_objset (k := fk) (w := .long x) h6
              have hslot := ab_slot_set (w := .long x) h1 hkx s2 s1
              have hov : ab_vo ν n ov (eg_set h a (.inr (ci, eg_put xs fk (.long x)))) := fun key j d hf => by
                obtain ⟨y, g1, g2⟩ := ho key j d hf
                refine ⟨y, ?_, g2⟩
                rw [hslot]
                by_cases e : key / 1024 = a ∧ key % 1024 = fk
                · exfalso
                  rw [e.1, e.2] at g1
                  obtain ⟨v0, k1, k2⟩ := h3 fk _ hsl
                  rw [k1] at g1
                  obtain ⟨z, hz⟩ := k2
                  rw [hz] at g1
                  cases g1
                · rw [if_neg e]; exact g1
              refine ⟨0, _, ν, ls, t, _, List.mem_cons_self, ?_, ⟨hb, he, hl, ht, hov, ⟨ab_hp_set hh.1 ha h1 hsl ⟨x, rfl⟩ s2 s1 hkx, hh.2.set (ab_npr_v hqw.2 (Nat.le_refl _) (Nat.le_refl _)) hslot⟩⟩, ab_ext.rf, Nat.le_refl _, ab_fr_set hqw.1 hslot⟩
              simp only [eg_pf, eg_obj, h6, Nat.beq_refl, hty, eg_fit, eg_isJ, Bool.and_self]
            next => cases hg
          next => cases hg
        next => cases hg
      next => cases hg
    next => cases hg
  next => cases hg
theorem ab_ix {i : Int32} (h : 0 ≤ i.toInt) : eg_ix (.int i) = some i.toInt.toNat := by
  simp only [eg_ix]
  rw [if_neg]
  · rfl
  · intro q
    have := Int32.lt_iff_toInt_lt.mp q
    have e : (0 : Int32).toInt = 0 := rfl
    omega
theorem ab_bd_v {ν : Nat → Int} {n : Nat} {en : ab_E} (he : ab_e ν n en) (h0 : ν 0 = 0) {j : Nat} {lo hi : Int} (h : ab_bd en j = some (lo, hi)) : lo ≤ ν j ∧ ν j ≤ hi := by
  unfold ab_bd at h
  match j, h with
  | 0, h => cases h; rw [h0]; exact ⟨Int.le_refl _, Int.le_refl _⟩
  | j + 1, h =>
    simp only [Nat.succ_eq_add_one] at h
    cases hf : eg_find (j + 1) en with
    | none => rw [hf] at h; cases h
    | some B =>
      obtain ⟨l, u, q⟩ := B
      rw [hf] at h
      cases h
      obtain ⟨-, h2, h3, -⟩ := he _ _ hf
      exact ⟨h2, h3⟩
theorem ab_geq_v {ν : Nat → Int} {n : Nat} {en : ab_E} (he : ab_e ν n en) (h0 : ν 0 = 0) {j2 : Nat} {d2 : Int} (f : Nat) : ∀ {j1 : Nat} {d1 : Int}, ab_geq en j2 d2 f j1 d1 = true → ν j2 + d2 ≤ ν j1 + d1 := by
  induction f with
  | zero => intro j1 d1 h; cases h
  | succ f ih =>
    intro j1 d1 h
    simp only [ab_geq] at h
    rcases Bool.or_eq_true_iff.mp h with h | h
    · rcases Bool.or_eq_true_iff.mp h with h | h
      · have h1 := Bool.and_eq_true_iff.mp h
        obtain rfl := Nat.eq_of_beq_eq_true h1.1
        have := of_decide_eq_true h1.2
        omega
      · unfold ab_bl at h
        cases hb2 : ab_bd en j2 with
        | none => rw [hb2] at h; cases h
        | some q2 =>
          obtain ⟨l2, u2⟩ := q2
          rw [hb2] at h
          cases hb1 : ab_bd en j1 with
          | none => rw [hb1] at h; cases h
          | some q1 =>
            obtain ⟨l1, u1⟩ := q1
            rw [hb1] at h
            have h3 : u2 + d2 ≤ l1 + d1 := of_decide_eq_true h
            have g2 := ab_bd_v he h0 hb2
            have g1 := ab_bd_v he h0 hb1
            omega
    · split at h
      next lo hi z b r hf =>
        obtain ⟨-, -, -, -, h5⟩ := he _ _ hf
        have := (h5 b r rfl).2
        have := ih h
        omega
      next => cases h
theorem ah_al (hlen : sc.length < 2 ^ 31) : ab_ok sc M (eg_al sc) ab_al := by
  intro ν σ K ls st h hr hg
  obtain ⟨n, en, la, sa, ov⟩ := σ
  simp only [ab_al] at hg
  split at hg
  next sa sa2 =>
    obtain ⟨_, t, rfl, hv, ht⟩ := hr.2.2.2.1
    obtain rfl : _ = Value.float 1 := hv
    have h1L : ν 1 = sc.length := hr.1.2.2
    have hL : (Int32.ofNat sc.length).toInt = ν 1 + 0 := by
      rw [h1L, Int32.toInt_ofNat_of_lt hlen]
      omega
    refine ab_ok0 hr (sn' := .int (Int32.ofNat sc.length) :: t) rfl hg ⟨_, t, rfl, ⟨_, rfl, by have := hr.1.1; simp only at this ⊢; omega, hL⟩, ht⟩
  next => cases hg
theorem ab_aa_v {n : Nat} {en : ab_E} {la : List (Nat × ab_A)} {sa st2 : List ab_A} {ov : ab_O} {j : Nat} {d : Int} {rg : List (Nat × ab_G)} {ν : Nat → Int} (he : ab_e ν n en) (h0 : ν 0 = 0) (hn : 0 < n) {x : Int32} (hx : j < n ∧ x.toInt = ν j + d) (m : Nat) : ∀ (k : Nat) (L : List (Nat × ab_S)), ab_aa (n, en, la, sa, ov) j d rg st2 k m = some L → ∀ i : Nat, i < m → x.toInt = (k + i : Nat) → ∃ b en', ab_sl rg (k + i) = some (.inr (b + 2)) ∧ ab_e ν n en' ∧ (0, n, en', la, .inr (b + 2) :: st2, ov) ∈ L := by
  induction m with
  | zero => intro k L _ i hi; exact absurd hi (Nat.not_lt_zero _)
  | succ m ih =>
    intro k L hL i hi hv
    simp only [ab_aa] at hL
    split at hL
    next b hb =>
      cases hr : ab_aa (n, en, la, sa, ov) j d rg st2 (k + 1) m with
      | none => rw [hr] at hL; cases hL
      | some L2 =>
        rw [hr] at hL
        cases hL
        cases i with
        | zero =>
          have hz : 0 < n ∧ x.toInt = ν 0 + (k : Int) := ⟨hn, by rw [h0, hv]; simp⟩
          obtain ⟨en', h1, h2⟩ := ab_eq_v he h0 hx hz rfl
          refine ⟨b, en', by simpa using hb, h2, List.mem_append_left _ ?_⟩
          rw [h1]; exact List.mem_cons_self
        | succ i =>
          obtain ⟨b2, en', h1, h2, h3⟩ := ih (k + 1) L2 hr i (by omega) (by rw [hv]; congr 1; omega)
          exact ⟨b2, en', by rw [show k + (i + 1) = k + 1 + i by omega]; exact h1, h2, List.mem_append_right _ h3⟩
    next => cases hL
theorem ah_ar {ok : Nat → Bool} (hsc : ∀ k v, eg_nth sc k = some v → ∃ x : Int32, v = .int x) : ab_ok sc M (eg_ar sc ok) (ab_ar ok) := by
  intro ν σ K ls st h hr hg
  obtain ⟨n, en, la, sa, ov⟩ := σ
  obtain ⟨hb, he, hl, hs, ho, hh⟩ := id hr
  have he : ab_e ν n en := he
  have h0 : ν 0 = 0 := hb.2.1
  have hn : 0 < n := by have := hb.1; simp only at this; omega
  simp only [ab_ar] at hg
  split at hg
  next sa j d a sa2 =>
    obtain ⟨_, _, rfl, ⟨x, rfl, hj, hx⟩, _, t, rfl, hva, ht⟩ := hs
    obtain rfl : _ = Value.ref a := hva
    have hx : x.toInt = ν j + d := hx
    have hi := ab_iv_v (en := en) he h0 hx
    split at hg
    next tag rg ha =>
      split at hg
      next hok =>
        have hok2 := Bool.and_eq_true_iff.mp hok
        have htag := Nat.blt_eq.mp hok2.2
        obtain ⟨⟨xs, h1, h2⟩, h3⟩ := hh.1 a _ ha
        have h6 := ab_sh_arr htag h1
        generalize hq : ab_iv en j d = q at hg hi
        obtain ⟨i1, i2⟩ := q
        simp only at hg hi
        cases hc : (decide (0 ≤ i1) && decide (i2 < (ab_len rg : Int))) with
        | false => rw [hc] at hg; cases hg
        | true =>
          rw [hc] at hg
          simp only [cond_true] at hg
          have c1 := Bool.and_eq_true_iff.mp hc
          have c2 := of_decide_eq_true c1.1
          have c3 := of_decide_eq_true c1.2
          have hx0 : 0 ≤ x.toInt := by omega
          have hxn : (x.toInt.toNat : Int) = x.toInt := Int.toNat_of_nonneg hx0
          have hlt : x.toInt.toNat < ab_len rg := by omega
          obtain ⟨g, hg1⟩ := ab_sl_some hlt
          obtain ⟨v, h4, h5⟩ := h3 _ g hg1
          have h7 : eg_nth xs x.toInt.toNat = some v := by rw [← ab_sh_slot h1]; exact h4
          have hG : eg_ar sc ok ls (.int x :: .ref a :: t) 999 h 0 0 = some (0, ls, v :: t, 999, h, 0, 0) := by
            simp only [eg_ar, eg_arr, h6, hok2.1, ab_ix hx0, h7]
          cases he1 : decide (i1 = i2) with
          | true =>
            rw [he1] at hg
            simp only [cond_true] at hg
            have c4 := of_decide_eq_true he1
            have e5 : i1.toNat = x.toInt.toNat := by omega
            rw [e5, hg1] at hg
            exact ah_rd hr (ab_k1024 ha hlt) h4 h5 hG ht hg
          | false =>
            rw [he1] at hg
            simp only [cond_false] at hg
            split at hg
            next m1 =>
              have e1 : g = .inr 0 := by
                simp only [ab_sl] at hg1
                split at hg1
                · exact (Option.some.inj hg1).symm
                · cases hg1
              rw [e1] at h5
              exact ab_ok0 hr hG hg ⟨_, t, rfl, h5, ht⟩
            next =>
              cases ht4 : Nat.ble 4 tag with
              | true =>
                rw [ht4] at hg
                simp only [cond_true] at hg
                obtain ⟨b, en', k1, k2, k3⟩ := ab_aa_v he h0 hn ⟨hj, hx⟩ _ i1.toNat K hg (x.toInt.toNat - i1.toNat) (by omega) (by omega)
                rw [show i1.toNat + (x.toInt.toNat - i1.toNat) = x.toInt.toNat by omega, hg1] at k1
                cases k1
                obtain rfl : v = .ref b := h5
                exact ab_okw hr hG k2 (show ab_vs ν n (.inr (b + 2) :: sa2) (.ref b :: t) from ⟨_, t, rfl, rfl, ht⟩) k3
              | false =>
                rw [ht4] at hg
                simp only [cond_false] at hg
                split at hg
                next lo hi3 hjr =>
                  obtain ⟨l4, h8, e9, q1, q2⟩ := ab_jr_v hjr x.toInt.toNat (by omega) (by omega)
                  rw [hg1] at e9
                  cases e9
                  obtain ⟨y, rfl, y1, y2⟩ := h5
                  exact ab_ok1 hr (x := y) (sn' := t) hG ht (Int.le_trans q1 y1) (Int.le_trans y2 q2) hg
                next => cases hg
      next => cases hg
    next => cases hg
  next sa j d sa2 =>
    obtain ⟨_, _, rfl, ⟨x, rfl, hj, hx⟩, _, t, rfl, hva, ht⟩ := hs
    obtain rfl : _ = Value.float 1 := hva
    have hx : x.toInt = ν j + d := hx
    have hi := ab_iv_v (en := en) he h0 hx
    cases hc : (ok 0 && decide (0 ≤ (ab_iv en j d).1) && ab_geq en j (d + 1) 16 1 0) with
    | false => rw [hc] at hg; cases hg
    | true =>
      rw [hc] at hg
      simp only [cond_true] at hg
      have c1 := Bool.and_eq_true_iff.mp hc
      have c2 := Bool.and_eq_true_iff.mp c1.1
      have c3 := of_decide_eq_true c2.2
      have c4 := ab_geq_v he h0 16 c1.2
      have hL : ν 1 = sc.length := hb.2.2
      have hx0 : 0 ≤ x.toInt := by omega
      have hxn : (x.toInt.toNat : Int) = x.toInt := Int.toNat_of_nonneg hx0
      have hlt : x.toInt.toNat < sc.length := by omega
      have h7 : eg_nth sc x.toInt.toNat = some sc[x.toInt.toNat] := by rw [eg_nth_eq, List.getElem?_eq_getElem hlt]
      obtain ⟨y, hy⟩ := hsc _ _ h7
      rw [hy] at h7
      refine ab_ok1 hr (x := y) (sn' := t) ?_ ht (ab_inn_full y).1 (ab_inn_full y).2 hg
      simp only [eg_ar, ab_ix hx0, h7]
      rw [show ((1 : UInt32) == 1 && ok 0) = true by rw [c2.1]; rfl]
      rfl
  next => cases hg
theorem ab_narrow {t : Nat} {q : Int × Int} {x : Int32} (h : ab_nar t q = true) (hx : ab_inn q x) : eg_nar t (.int x) = some (.int x) := by
  obtain ⟨h1, h2⟩ := hx
  match t, h with
  | 0, _ => rfl
  | 2, h =>
    have c := Bool.and_eq_true_iff.mp h
    have c1 := of_decide_eq_true c.1
    have c2 := of_decide_eq_true c.2
    have e : x.toInt8.toInt32 = x := by
      apply Int32.toInt_inj.mp
      rw [Int8.toInt_toInt32, Int32.toInt_toInt8, Int.bmod_def]
      split <;> omega
    simp only [eg_nar, e, eg_ni_e]
  | 3, h =>
    have c := Bool.and_eq_true_iff.mp h
    have c1 := of_decide_eq_true c.1
    have c2 := of_decide_eq_true c.2
    have : x.toInt = 0 ∨ x.toInt = 1 := by omega
    rcases this with e | e
    · obtain rfl : x = 0 := Int32.toInt_inj.mp (by rw [e]; rfl)
      rfl
    · obtain rfl : x = 1 := Int32.toInt_inj.mp (by rw [e]; rfl)
      rfl
  | 1, h => cases h
  | t + 4, h => cases h
theorem ah_aw {ok : Nat → Bool} : ab_ok sc M (eg_aw ok) (ab_aw M ok) := by
  intro ν σ K ls st h hr hg
  obtain ⟨n, en, la, sa, ov⟩ := σ
  obtain ⟨hb, he, hl, hs, ho, hh⟩ := id hr
  have he : ab_e ν n en := he
  have h0 : ν 0 = 0 := hb.2.1
  simp only [ab_aw] at hg
  split at hg
  next sa jv dv j d a sa2 =>
    obtain ⟨_, _, rfl, ⟨y, rfl, hjv, hy⟩, _, _, rfl, ⟨x, rfl, hj, hx⟩, _, t, rfl, hva, ht⟩ := hs
    obtain rfl : _ = Value.ref a := hva
    have hx : x.toInt = ν j + d := hx
    have hy : y.toInt = ν jv + dv := hy
    have hi := ab_iv_v (en := en) he h0 hx
    have hiv := ab_iv_v (en := en) he h0 hy
    split at hg
    next tag rg ha =>
      split at hg
      next hok =>
        have hok2 := Bool.and_eq_true_iff.mp hok
        have htag := Nat.blt_eq.mp hok2.2
        obtain ⟨⟨xs, h1, h2⟩, h3⟩ := hh.1 a _ ha
        have h6 := ab_sh_arr htag h1
        generalize hq : ab_iv en j d = q at hg hi
        obtain ⟨i1, i2⟩ := q
        generalize hqv : ab_iv en jv dv = qv at hg hiv
        obtain ⟨l2, u2⟩ := qv
        simp only at hg hi hiv
        cases hc : (decide (0 ≤ i1) && decide (i2 < (ab_len rg : Int)) && decide (i1 ≤ i2) && ab_nar tag (l2, u2) && ab_inw M a i1.toNat i2.toNat && Nat.ble (ab_len rg) 1024) with
        | false => rw [hc] at hg; cases hg
        | true =>
          rw [hc] at hg
          simp only [cond_true] at hg
          simp only [Bool.and_eq_true, decide_eq_true_eq] at hc
          obtain ⟨⟨⟨⟨⟨c2, c3⟩, -⟩, c5⟩, c6⟩, c7⟩ := hc
          have c6w := Bool.and_eq_true_iff.mp c6
          have hx0 : 0 ≤ x.toInt := by omega
          have hxn : (x.toInt.toNat : Int) = x.toInt := Int.toNat_of_nonneg hx0
          have hlt : x.toInt.toNat < ab_len rg := by omega
          have hkx : x.toInt.toNat < xs.length := by rw [h2]; exact hlt
          obtain ⟨w0, hw0⟩ : ∃ w, eg_nth xs x.toInt.toNat = some w := ⟨_, by rw [eg_nth_eq, List.getElem?_eq_getElem hkx]⟩
          have hna := ab_narrow c5 (x := y) hiv
          have hMx : ab_inr M a x.toInt.toNat x.toInt.toNat = true := ab_inr_v c6w.1 (by omega) (by omega)
          obtain ⟨s1, s2⟩ := ab_arrset (k := x.toInt.toNat) (w := .int y) htag h6
          have hslot := ab_slot_set (w := .int y) h1 hkx s2 s1
          have hG : eg_aw ok ls (.int y :: .int x :: .ref a :: t) 999 h 0 0 = some (0, ls, t, 999, eg_set h a (.inl (tag, eg_put xs x.toInt.toNat (.int y))), 0, 0) := by
            simp only [eg_aw, eg_arr, h6, hok2.1, ab_ix hx0, hw0, hna]
          split at hg
          next lo hi3 hmr =>
            cases hc8 : (decide (lo ≤ l2) && decide (u2 ≤ hi3)) with
            | false => rw [hc8] at hg; cases hg
            | true =>
              rw [hc8] at hg
              simp only [cond_true] at hg
              simp only [Bool.and_eq_true, decide_eq_true_eq] at hc8
              obtain ⟨l4, h8, e9, q1, q2⟩ := ab_mr_v hmr x.toInt.toNat (by omega) (by omega)
              have hhp : ab_hp _ := ⟨ab_hp_set hh.1 ha h1 e9 (w := .int y) ⟨y, rfl, by simp only; omega, by simp only; omega⟩ s2 s1 hkx, hh.2.set (ab_npr_v c6w.2 (k := x.toInt.toNat) (by omega) (by omega)) hslot⟩
              cases he1 : decide (i1 = i2) with
              | true =>
                rw [he1] at hg
                simp only [cond_true] at hg
                cases hg
                have c4 := of_decide_eq_true he1
                have e5 : i1.toNat = x.toInt.toNat := by omega
                rw [e5]
                exact ⟨0, _, ν, ls, t, _, List.mem_cons_self, hG, ⟨hb, he, hl, ht, ab_vo_put ho (ab_k1024 ha hlt) hslot ⟨hjv, hy⟩, hhp⟩, ab_ext.rf, Nat.le_refl _, ab_fr_set hMx hslot⟩
              | false =>
                rw [he1] at hg
                simp only [cond_false] at hg
                cases hg
                have c7' := Nat.le_of_ble_eq_true c7
                refine ⟨0, _, ν, ls, t, _, List.mem_cons_self, hG, ⟨hb, he, hl, ht, ab_vo_set ho hslot _ (fun _ _ _ => rfl) (fun key z hz q => ?_), hhp⟩, ab_ext.rf, Nat.le_refl _, ab_fr_set hMx hslot⟩
                unfold ab_out ab_key at hz
                rcases Bool.or_eq_true_iff.mp hz with e | e
                · have := Nat.blt_eq.mp e
                  simp only at this
                  omega
                · have := Nat.blt_eq.mp e
                  simp only at this
                  omega
          next => cases hg
      next => cases hg
    next => cases hg
  next sa j d a sa2 =>
    obtain ⟨_, _, rfl, ⟨y, rfl⟩, _, _, rfl, ⟨x, rfl, hj, hx⟩, _, t, rfl, hva, ht⟩ := hs
    obtain rfl : _ = Value.ref a := hva
    have hx : x.toInt = ν j + d := hx
    have hi := ab_iv_v (en := en) he h0 hx
    split at hg
    next tag rg ha =>
      split at hg
      next hok =>
        have hok2 := Bool.and_eq_true_iff.mp hok
        obtain rfl := Nat.eq_of_beq_eq_true hok2.2
        obtain ⟨⟨xs, h1, h2⟩, h3⟩ := hh.1 a _ ha
        have h6 := ab_sh_arr (show 1 < 100 by decide) h1
        split at hg
        next m1 =>
          generalize hq : ab_iv en j d = q at hg hi
          obtain ⟨i1, i2⟩ := q
          simp only at hg hi
          cases hc : (decide (0 ≤ i1) && decide (i2 < (ab_len [(m1, Sum.inr 0)] : Int)) && ab_inw M a i1.toNat i2.toNat) with
          | false => rw [hc] at hg; cases hg
          | true =>
            rw [hc] at hg
            simp only [cond_true] at hg
            cases hg
            simp only [Bool.and_eq_true, decide_eq_true_eq] at hc
            obtain ⟨⟨c2, c3⟩, c6⟩ := hc
            have c6w := Bool.and_eq_true_iff.mp c6
            have hx0 : 0 ≤ x.toInt := by omega
            have hxn : (x.toInt.toNat : Int) = x.toInt := Int.toNat_of_nonneg hx0
            have hlt : x.toInt.toNat < ab_len [(m1, (Sum.inr 0 : ab_G))] := by omega
            have hkx : x.toInt.toNat < xs.length := by rw [h2]; exact hlt
            obtain ⟨w0, hw0⟩ : ∃ w, eg_nth xs x.toInt.toNat = some w := ⟨_, by rw [eg_nth_eq, List.getElem?_eq_getElem hkx]⟩
            have hMx : ab_inr M a x.toInt.toNat x.toInt.toNat = true := ab_inr_v c6w.1 (by omega) (by omega)
            obtain ⟨s1, s2⟩ := ab_arrset (k := x.toInt.toNat) (w := .long y) (show 1 < 100 by decide) h6
            have hslot := ab_slot_set (w := .long y) h1 hkx s2 s1
            obtain ⟨g, hg1⟩ := ab_sl_some hlt
            have e1 : g = .inr 0 := by
              simp only [ab_sl] at hg1
              split at hg1
              · exact (Option.some.inj hg1).symm
              · cases hg1
            subst e1
            have hhp : ab_hp _ := ⟨ab_hp_set hh.1 ha h1 hg1 (w := .long y) ⟨y, rfl⟩ s2 s1 hkx, hh.2.set (ab_npr_v c6w.2 (k := x.toInt.toNat) (by omega) (by omega)) hslot⟩
            have hov : ab_vo ν n ov (eg_set h a (.inl (1, eg_put xs x.toInt.toNat (.long y)))) := fun key j d hf => by
              obtain ⟨z, g1, g2⟩ := ho key j d hf
              refine ⟨z, ?_, g2⟩
              rw [hslot]
              by_cases e : key / 1024 = a ∧ key % 1024 = x.toInt.toNat
              · exfalso
                rw [e.1, e.2] at g1
                obtain ⟨v0, k1, k2⟩ := h3 _ _ hg1
                rw [k1] at g1
                obtain ⟨z2, hz⟩ := k2
                rw [hz] at g1
                cases g1
              · rw [if_neg e]; exact g1
            refine ⟨0, _, ν, ls, t, _, List.mem_cons_self, ?_, ⟨hb, he, hl, ht, hov, hhp⟩, ab_ext.rf, Nat.le_refl _, ab_fr_set hMx hslot⟩
            simp only [eg_aw, eg_arr, h6, hok2.1, ab_ix hx0, hw0, eg_nar]
            rfl
        next => cases hg
      next => cases hg
    next => cases hg
  next => cases hg
theorem ah_lk {pc : Nat} {df : Int} {ps : Array (Int × Int)} (hs : eg_srt ps = true) : ab_ok sc M (eg_lk pc df ps) (ab_lk pc df ps) := by
  intro ν σ K ls st h hr hg
  obtain ⟨n, en, la, sa, ov⟩ := σ
  simp only [ab_lk] at hg
  split at hg
  next sa j d sa2 =>
    obtain ⟨x, tl, rfl, hx, ht⟩ := ab_top1 hr.2.2.2.1
    have h0 : ν 0 = 0 := hr.1.2.1
    have hn : 0 < n := by have := hr.1.1; simp only at this; omega
    cases htd : eg_tgt pc df with
    | none => rw [htd] at hg; cases hg
    | some t =>
      rw [htd] at hg
      simp only at hg
      cases hL : ab_kl pc (n, en, la, .inl (j, d) :: sa2, ov) j d sa2 ps.toList with
      | none => rw [hL] at hg; cases hg
      | some L =>
        rw [hL] at hg
        cases hg
        have key : ∀ (l : List (Int × Int)) (L : List (Nat × ab_S)), ab_kl pc (n, en, la, .inl (j, d) :: sa2, ov) j d sa2 l = some L → Op.lookupswitch.offset l df x.toInt = df ∨ ∃ t2 en', eg_tgt pc (Op.lookupswitch.offset l df x.toInt) = some t2 ∧ ab_e ν n en' ∧ (t2 + 1, n, en', la, sa2, ov) ∈ L := by
          intro l
          induction l with
          | nil => intro L _; exact Or.inl (by simp [Op.lookupswitch.offset])
          | cons q l ih =>
            obtain ⟨v, off⟩ := q
            intro L hL
            simp only [ab_kl] at hL
            cases ht2 : eg_tgt pc off with
            | none => rw [ht2] at hL; cases hL
            | some t2 =>
              rw [ht2] at hL
              simp only at hL
              cases hr2 : ab_kl pc (n, en, la, .inl (j, d) :: sa2, ov) j d sa2 l with
              | none => rw [hr2] at hL; cases hL
              | some L2 =>
                rw [hr2] at hL
                cases hL
                rw [Op.lookupswitch.offset_cons]
                by_cases e : v = x.toInt
                · right
                  rw [if_pos e]
                  obtain ⟨en', h1, h2⟩ := ab_eq_v hr.2.1 h0 hx (y := x) (j2 := 0) (d2 := v) ⟨hn, by rw [h0, e]; omega⟩ rfl
                  refine ⟨t2, en', ht2, h2, List.mem_append_left _ ?_⟩
                  rw [h1]; exact List.mem_cons_self
                · rw [if_neg e]
                  rcases ih L2 hr2 with h1 | ⟨t3, en', h1, h2, h3⟩
                  · exact Or.inl h1
                  · exact Or.inr ⟨t3, en', h1, h2, List.mem_append_right _ h3⟩
        rcases key _ _ hL with h1 | ⟨t2, en', h1, h2, h3⟩
        · refine ab_okw (t := t + 1) (en' := en) (sn' := tl) hr ?_ hr.2.1 ht (List.mem_append_left _ List.mem_cons_self)
          simp only [eg_lk, hs, h1, htd, cond_true]
        · refine ab_okw (t := t2 + 1) (en' := en') (sn' := tl) hr ?_ h2 ht (List.mem_append_right _ h3)
          simp only [eg_lk, hs, h1, cond_true]
  next => cases hg
end AM
