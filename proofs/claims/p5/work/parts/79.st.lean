/-! behind the constructors each slot is as it shall be -/
def hz_v (g : ab_G) (v : Value) : Bool := match g with
  | .inl q => (match v with
    | .int x => decide (q.1 ≤ x.toInt) && decide (x.toInt ≤ q.2)
    | _ => false)
  | .inr 0 => (match v with
    | .long _ => true
    | _ => false)
  | .inr 1 => false
  | .inr (k + 2) => (match v with
    | .ref j => Nat.beq j k
    | _ => false)
theorem hz_v_ok {g : ab_G} {v : Value} (h : hz_v g v = true) : ab_gv g v := by
  unfold hz_v at h
  split at h
  · split at h
    next q _ x =>
      have c := Bool.and_eq_true_iff.mp h
      exact ⟨x, rfl, of_decide_eq_true c.1, of_decide_eq_true c.2⟩
    · cases h
  · split at h
    next _ x => exact ⟨x, rfl⟩
    · cases h
  · cases h
  · split at h
    next k _ j =>
      have e := Nat.eq_of_beq_eq_true h
      show Value.ref j = Value.ref k
      rw [e]
    · cases h
def hz_l (l : List (Nat × ab_G)) : Nat → List Value → Bool
  | _, [] => true
  | k, v :: xs => (match ab_sl l k with
    | some g => hz_v g v
    | none => true) && hz_l l (k + 1) xs
theorem hz_l_ok {l : List (Nat × ab_G)} {xs : List Value} : ∀ {k : Nat}, hz_l l k xs = true → ∀ j v, eg_nth xs j = some v → ∀ g, ab_sl l (k + j) = some g → ab_gv g v := by
  induction xs with
  | nil => intro k _ j v hv; cases hv
  | cons x xs ih =>
    intro k h j v hv g hg
    have c := Bool.and_eq_true_iff.mp h
    cases j with
    | zero =>
      cases hv
      have c1 := c.1
      rw [show k + 0 = k from rfl] at hg
      rw [hg] at c1
      exact hz_v_ok c1
    | succ j => exact ih c.2 j v hv g (by rw [show k + 1 + j = k + (j + 1) by omega]; exact hg)
theorem hz_sl {l : List (Nat × ab_G)} : ∀ {k : Nat} {g : ab_G}, ab_sl l k = some g → k < ab_len l := by
  induction l with
  | nil => intro k g h; cases h
  | cons q l ih =>
    intro k g h
    obtain ⟨n, g0⟩ := q
    show k < n + ab_len l
    unfold ab_sl at h
    split at h
    next hb => have := Nat.blt_eq.mp hb; omega
    next => have := ih h; omega
def hz_c (h : eg_H) (a : Nat) : Bool := match ab_get a with
  | none => true
  | some c => (match eg_get h a with
    | some (.inl q) => Nat.beq q.1 c.1 && Nat.blt q.1 100 && Nat.beq q.2.length (ab_len c.2) && hz_l c.2 0 q.2
    | some (.inr q) => Nat.beq c.1 (100 + q.1) && Nat.beq q.2.length (ab_len c.2) && hz_l c.2 0 q.2
    | none => false)
theorem hz_nth {α : Type} {xs : List α} {k : Nat} (h : k < xs.length) : ∃ v, eg_nth xs k = some v := ⟨xs[k], by rw [eg_nth_eq, List.getElem?_eq_getElem h]⟩
theorem hz_c_ok {h : eg_H} {a : Nat} (hc : hz_c h a = true) {c : ab_C} (e : ab_get a = some c) : (∃ xs, ab_sh h a c.1 xs ∧ xs.length = ab_len c.2) ∧ ∀ k g, ab_sl c.2 k = some g → ∃ v, ab_slot h a k = some v ∧ ab_gv g v := by
  unfold hz_c at hc
  rw [e] at hc
  simp only at hc
  split at hc
  next q hq =>
    have c1 := Bool.and_eq_true_iff.mp hc
    have c2 := Bool.and_eq_true_iff.mp c1.1
    have c3 := Bool.and_eq_true_iff.mp c2.1
    have e1 := Nat.eq_of_beq_eq_true c3.1
    have e2 := Nat.eq_of_beq_eq_true c2.2
    have e3 := Nat.blt_eq.mp c3.2
    refine ⟨⟨q.2, Or.inl ⟨by omega, by rw [← e1]; exact hq⟩, e2⟩, fun k g hg => ?_⟩
    obtain ⟨v, hv⟩ := hz_nth (show k < q.2.length by rw [e2]; exact hz_sl hg)
    exact ⟨v, by unfold ab_slot; rw [hq]; exact hv, hz_l_ok c1.2 k v hv g (by rw [Nat.zero_add]; exact hg)⟩
  next q hq =>
    have c1 := Bool.and_eq_true_iff.mp hc
    have c2 := Bool.and_eq_true_iff.mp c1.1
    have e1 := Nat.eq_of_beq_eq_true c2.1
    have e2 := Nat.eq_of_beq_eq_true c2.2
    refine ⟨⟨q.2, Or.inr ⟨q.1, e1, hq⟩, e2⟩, fun k g hg => ?_⟩
    obtain ⟨v, hv⟩ := hz_nth (show k < q.2.length by rw [e2]; exact hz_sl hg)
    exact ⟨v, by unfold ab_slot; rw [hq]; exact hv, hz_l_ok c1.2 k v hv g (by rw [Nat.zero_add]; exact hg)⟩
  next => cases hc
theorem hz_all : (List.range 208).all (hz_c eg_h23) = true := by decide +kernel
theorem hz_out {a : Nat} (ha : 208 ≤ a) : ab_get a = none := by
  have h1 : 13 ≤ a / 16 := by omega
  have h2 : eg_nth ab_gH (a / 16) = none := by
    rw [eg_nth_eq]
    exact List.getElem?_eq_none (by show 13 ≤ a / 16; exact h1)
  unfold ab_get
  rw [h2]
theorem hz_hp0 : ab_hp0 eg_h23 := fun a c e => by
  by_cases ha : a < 208
  · exact hz_c_ok (List.all_eq_true.mp hz_all a (List.mem_range.mpr ha)) e
  · rw [hz_out (by omega)] at e
    cases e
theorem hz_rep {α : Type} {v w : α} (n : Nat) : ∀ k, eg_nth (eg_rep v n) k = some w → w = v := by
  induction n with
  | zero => intro k q; cases q
  | succ n ih =>
    intro k q
    cases k with
    | zero => cases q; rfl
    | succ k => exact ih k q
theorem hz_114 : eg_get eg_h23 114 = some (.inl (0, eg_rep (.int 0) 40)) := by decide +kernel
theorem hz_b (k : Nat) : (hv eg_h23 114 k).toInt = 0 := by
  unfold hv ab_slot
  rw [hz_114]
  simp only
  cases hk : eg_nth (eg_rep (Value.int 0) 40) k with
  | none => rfl
  | some w =>
    rw [hz_rep 40 k hk]
    rfl
theorem hz_w {a b : Nat} (e : (hv eg_h23 a b).toInt.toNat = 0) : ab_Jc eg_h23 a b := fun i hi => absurd hi (by rw [e]; exact Nat.not_lt_zero i)
theorem hz_hp : ab_hp eg_h23 := ⟨hz_hp0, hz_w (by decide +kernel), hz_w (by decide +kernel), hz_w (by decide +kernel), fun k _ => by rw [hz_b k]; decide⟩
