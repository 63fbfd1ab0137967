/-! BY HAND: ops that read one int of the script twice -/
/-- the text is one in both; the words kept back are as they were made -/
def jt (h : eg_H) : Prop := hv h 1 1 = hv h 182 2 ∧ (∀ k : Nat, (k : Int) < (hv h 1 1).toInt → bA h k = bM h k) ∧ kwok h ∧ rwok h
def jn_ck (M : ab_M) (a : Nat) : Bool := M.all (fun q => !(Nat.beq q.1 a))
theorem jn_v {M : ab_M} {a : Nat} (c : jn_ck M a = true) (k : Nat) : ab_inr M a k k = false := by
  induction M with
  | nil => rfl
  | cons q l ih =>
    obtain ⟨b, f, t⟩ := q
    have c := Bool.and_eq_true_iff.mp c
    have hb : Nat.beq b a = false := by
      cases hb : Nat.beq b a with
      | false => rfl
      | true =>
        have c1 : (!(Nat.beq b a)) = true := c.1
        rw [hb] at c1
        cases c1
    have hb2 : Nat.beq a b = false := by
      cases hc : Nat.beq a b with
      | false => rfl
      | true =>
        have := Nat.eq_of_beq_eq_true hc
        rw [this, Nat.beq_refl] at hb
        cases hb
    unfold ab_inr
    rw [hb2]
    exact ih c.2
def jk_ck (M : ab_M) : Bool := jn_ck M 4 && jn_ck M 188
def jt_ck (M : ab_M) : Bool := (!(ab_inr M 1 1 1) && !(ab_inr M 182 2 2)) && (jn_ck M 2 && jn_ck M 183) && jk_ck M
theorem jk_fr {M : ab_M} {h h' : eg_H} (c : jk_ck M = true) (f : ab_fr M h' h) (k : kwok h ∧ rwok h) : kwok h' ∧ rwok h' := by
  have c := Bool.and_eq_true_iff.mp c
  exact ⟨k.1.fr f (jn_v c.1), k.2.fr f (jn_v c.2)⟩
theorem jt_fr {M : ab_M} {h h' : eg_H} (c : jt_ck M = true) (f : ab_fr M h' h) (j : jt h) : jt h' := by
  obtain ⟨j1, j2, j3⟩ := j
  have c1 := Bool.and_eq_true_iff.mp c
  have c2 := Bool.and_eq_true_iff.mp c1.1
  have c3 := Bool.and_eq_true_iff.mp c2.1
  have c4 := Bool.and_eq_true_iff.mp c2.2
  have n1 : ab_inr M 1 1 1 = false := by
    cases hb : ab_inr M 1 1 1 with
    | false => rfl
    | true => have := c3.1; rw [hb] at this; cases this
  have n2 : ab_inr M 182 2 2 = false := by
    cases hb : ab_inr M 182 2 2 with
    | false => rfl
    | true => have := c3.2; rw [hb] at this; cases this
  refine ⟨by rw [hv_same (f 1 1 n1), hv_same (f 182 2 n2)]; exact j1, fun k hk => ?_, jk_fr c1.2 f j3⟩
  rw [hv_same (f 1 1 n1)] at hk
  have := j2 k hk
  unfold bA bM at this ⊢
  rw [hv_same (f 2 k (jn_v c4.1 k)), hv_same (f 183 k (jn_v c4.2 k))]
  exact this
/-- both texts are empty -/
theorem jt_z {h h' : eg_H} (e1 : (hv h' 1 1).toInt = 0) (e2 : (hv h' 182 2).toInt = 0) (k : kwok h' ∧ rwok h') : jt h' := ⟨Int32.toInt_inj.mp (e1.trans e2.symm), fun q hq => by omega, k⟩
/-- which slot of the reference's headland a slot of the class's is -/
def lpi (i : Nat) : Nat := ([2, 3, 5, 6, 0, 1, 4] : List Nat).getD i 0
theorem lpi_b : ∀ i, i < 7 → lpi i < 7 := by decide
def lp (h : eg_H) (a b o nc no : Nat) : Prop := (∀ i, i < 7 → hv h a i = hv h b (o + lpi i)) ∧ ((hv h a 4).toInt ≤ 6 ∧ (hv h a 5).toInt ≤ 10) ∧ (∀ q : Nat, (q : Int) < (hv h a 4).toInt → tx_co (hl h (a + 1) q).toInt (hl h nc (no + q)).toInt) ∧ ∀ q : Nat, (q : Int) < (hv h a 5).toInt → tx_co (hl h (a + 4) q).toInt (hl h nc (no + 6 + q)).toInt
theorem lp_mv {h h' : eg_H} {a b o nc no a' b' o' nc' no' : Nat} (l : lp h a b o nc no) (s : ∀ i, i < 7 → hv h' a' i = hv h a i) (u : ∀ k, k < 6 → hl h' (a' + 1) k = hl h (a + 1) k) (u4 : ∀ k, k < 10 → hl h' (a' + 4) k = hl h (a + 4) k) (t : ∀ q, q < 7 → hv h' b' (o' + q) = hv h b (o + q)) (v : ∀ q, q < 16 → hl h' nc' (no' + q) = hl h nc (no + q)) : lp h' a' b' o' nc' no' := by
  obtain ⟨l1, ⟨l2, l5⟩, l3, l4⟩ := l
  have e4 := s 4 (by decide)
  have e5 := s 5 (by decide)
  refine ⟨fun i hi => ?_, ⟨by rw [e4]; exact l2, by rw [e5]; exact l5⟩, fun q hq => ?_, fun q hq => ?_⟩
  · have lb := lpi_b i hi
    rw [s i hi, t (lpi i) (by omega)]
    exact l1 i hi
  · rw [e4] at hq
    rw [u q (by omega), v q (by omega)]
    exact l3 q hq
  · rw [e5] at hq
    rw [u4 q (by omega), Nat.add_assoc, v (6 + q) (by omega), ← Nat.add_assoc]
    exact l4 q hq
theorem bnf {b : Bool} (h : (!b) = true) : b = false := by
  cases b with
  | false => rfl
  | true => cases h
/-- what is kept -/
def jv (h : eg_H) : Prop := hv h 129 0 = hv h 203 0 ∧ hv h 129 1 = hv h 203 1 ∧ ((hv h 129 0).toInt = 1 → lp h 130 201 0 202 0) ∧ ((hv h 129 1).toInt = 1 → lp h 156 201 307 202 16)
def jr (h : eg_H) : Prop := lp h 8 184 0 187 0 ∧ jv h
def lo_ck (M : ab_M) (a o : Nat) : Bool := (List.range 7).all (fun i => !(ab_inr M a (o + i) (o + i)))
theorem lo_v {M : ab_M} {a o : Nat} (c : lo_ck M a o = true) {i : Nat} (hi : i < 7) : ab_inr M a (o + i) (o + i) = false := by
  have := List.all_eq_true.mp c i (List.mem_range.mpr hi)
  cases hb : ab_inr M a (o + i) (o + i) with
  | false => rfl
  | true => rw [hb] at this; cases this
def nk_ck (M : ab_M) (a nc no : Nat) : Bool := (List.range 6).all (fun i => !(ab_inr M (a + 1) i i)) && (List.range 10).all (fun i => !(ab_inr M (a + 4) i i)) && (List.range 16).all (fun i => !(ab_inr M nc (no + i) (no + i)))
theorem nk_v {M : ab_M} {a nc no : Nat} (c : nk_ck M a nc no = true) : (∀ i, i < 6 → ab_inr M (a + 1) i i = false) ∧ (∀ i, i < 10 → ab_inr M (a + 4) i i = false) ∧ ∀ i, i < 16 → ab_inr M nc (no + i) (no + i) = false := by
  have c1 := Bool.and_eq_true_iff.mp c
  have c2 := Bool.and_eq_true_iff.mp c1.1
  exact ⟨fun i hi => bnf (List.all_eq_true.mp c2.1 i (List.mem_range.mpr hi)), fun i hi => bnf (List.all_eq_true.mp c2.2 i (List.mem_range.mpr hi)), fun i hi => bnf (List.all_eq_true.mp c1.2 i (List.mem_range.mpr hi))⟩
theorem lp_fr {M : ab_M} {h h' : eg_H} {a b o nc no : Nat} (c : (lo_ck M a 0 && lo_ck M b o && nk_ck M a nc no) = true) (f : ab_fr M h' h) (l : lp h a b o nc no) : lp h' a b o nc no := by
  have c := Bool.and_eq_true_iff.mp c
  have c9 := Bool.and_eq_true_iff.mp c.1
  obtain ⟨n1, n2, n3⟩ := nk_v c.2
  have ca : ∀ i, i < 7 → ab_inr M a i i = false := fun i hi => by
    have := lo_v c9.1 hi
    rw [Nat.zero_add] at this
    exact this
  exact lp_mv l (fun i hi => hv_same (f a i (ca i hi))) (fun k hk => hl_same (f _ k (n1 k hk))) (fun k hk => hl_same (f _ k (n2 k hk))) (fun q hq => hv_same (f b (o + q) (lo_v c9.2 hq))) (fun q hq => hl_same (f nc (no + q) (n3 q hq)))
def jv_ck (M : ab_M) : Bool := (!(ab_inr M 129 0 0) && !(ab_inr M 129 1 1)) && (!(ab_inr M 203 0 0) && !(ab_inr M 203 1 1)) && ((lo_ck M 130 0 && lo_ck M 201 0 && nk_ck M 130 202 0) && (lo_ck M 156 0 && lo_ck M 201 307 && nk_ck M 156 202 16))
theorem jv_fr {M : ab_M} {h h' : eg_H} (c : jv_ck M = true) (f : ab_fr M h' h) (j : jv h) : jv h' := by
  obtain ⟨j1, j2, j3, j4⟩ := j
  have c1 := Bool.and_eq_true_iff.mp c
  have c2 := Bool.and_eq_true_iff.mp c1.1
  have c3 := Bool.and_eq_true_iff.mp c2.1
  have c4 := Bool.and_eq_true_iff.mp c2.2
  have c5 := Bool.and_eq_true_iff.mp c1.2
  have n0 := hv_same (f 129 0 (bnf c3.1))
  have n1 := hv_same (f 129 1 (bnf c3.2))
  have n2 := hv_same (f 203 0 (bnf c4.1))
  have n3 := hv_same (f 203 1 (bnf c4.2))
  refine ⟨by rw [n0, n2]; exact j1, by rw [n1, n3]; exact j2, fun g => ?_, fun g => ?_⟩
  · rw [n0] at g
    exact lp_fr c5.1 f (j3 g)
  · rw [n1] at g
    exact lp_fr c5.2 f (j4 g)
def jr_ck (M : ab_M) : Bool := (lo_ck M 8 0 && lo_ck M 184 0 && nk_ck M 8 187 0) && jv_ck M
theorem jr_fr {M : ab_M} {h h' : eg_H} (c : jr_ck M = true) (f : ab_fr M h' h) (j : jr h) : jr h' := by
  have c := Bool.and_eq_true_iff.mp c
  exact ⟨lp_fr c.1 f j.1, jv_fr c.2 f j.2⟩
/-- the kind of the latest fault -/
def jf (h : eg_H) : Prop := hv h 0 15 = hv h 182 15
def jf_ck (M : ab_M) : Bool := !(ab_inr M 0 15 15) && !(ab_inr M 182 15 15)
theorem jf_fr {M : ab_M} {h h' : eg_H} (c : jf_ck M = true) (f : ab_fr M h' h) (j : jf h) : jf h' := by
  have c := Bool.and_eq_true_iff.mp c
  unfold jf
  rw [hv_same (f 0 15 (bnf c.1)), hv_same (f 182 15 (bnf c.2))]
  exact j
def jq (h : eg_H) : Prop := jr h ∧ jf h
def jq_ck (M : ab_M) : Bool := jr_ck M && jf_ck M
theorem jq_fr {M : ab_M} {h h' : eg_H} (c : jq_ck M = true) (f : ab_fr M h' h) (j : jq h) : jq h' := by
  have c := Bool.and_eq_true_iff.mp c
  exact ⟨jr_fr c.1 f j.1, jf_fr c.2 f j.2⟩
/-- the text, the headland, what is kept, the kind of the latest fault: one in both -/
def jj (h : eg_H) : Prop := jt h ∧ jq h
def jj_ck (M : ab_M) : Bool := jt_ck M && jq_ck M
theorem jj_fr {M : ab_M} {h h' : eg_H} (c : jj_ck M = true) (f : ab_fr M h' h) (j : jj h) : jj h' := by
  have c := Bool.and_eq_true_iff.mp c
  exact ⟨jt_fr c.1 f j.1, jq_fr c.2 f j.2⟩
theorem lr_v {h : eg_H} {p : PS} (l : lr h p) : ∀ i, i < 7 → (hv h 184 (0 + lpi i)).toInt = p.1 i := by
  obtain ⟨l0, l1, l2, l3, l4, l5, l6, -⟩ := l
  intro i hi
  have hi2 : i = 0 ∨ i = 1 ∨ i = 2 ∨ i = 3 ∨ i = 4 ∨ i = 5 ∨ i = 6 := by omega
  rcases hi2 with rfl | rfl | rfl | rfl | rfl | rfl | rfl
  · exact l2
  · exact l3
  · exact l5
  · exact l6
  · exact l0
  · exact l1
  · exact l4
theorem lr_m {h : eg_H} {p : PS} (l : lr h p) : ∀ q : Nat, (q : Int) < p.1 4 → tx_co (p.2 0 q) (hl h 187 q).toInt := l.2.2.2.2.2.2.2.2.1
theorem lr_p {h : eg_H} {p : PS} (l : lr h p) : ∀ q : Nat, (q : Int) < p.1 5 → tx_co (p.2 3 q) (hl h 187 (6 + q)).toInt := l.2.2.2.2.2.2.2.2.2
theorem tx_10_same {B B' : Nat → Int} {q : Nat} : ∀ k, (∀ j, j < k → B (q + j) = B' (q + j)) → tx_10 B q k = tx_10 B' q k
  | 0, _ => rfl
  | k + 1, h => by
    unfold tx_10
    rw [tx_10_same k (fun j hj => h j (by omega)), h k (by omega)]
theorem tx_rt_same {B B' : Nat → Int} {q e n : Nat} {t : tx_K} (hq : q < e) (he : e ≤ n) (h : ∀ k, k < n → B k = B' k) (x : tx_rt B q e t) : tx_rt B' q e t := by
  have h1 : tx_27 B q (e - q) = tx_27 B' q (e - q) := tx_27_same _ (fun j hj => h _ (by omega))
  have h2 : tx_256 B q (e - q) = tx_256 B' q (e - q) := tx_256_same _ (fun j hj => h _ (by omega))
  have h3 : tx_10 B q (e - q) = tx_10 B' q (e - q) := tx_10_same _ (fun j hj => h _ (by omega))
  have h4 : tx_lt B q e ↔ tx_lt B' q e := by
    unfold tx_lt
    constructor
    · intro g r r1 r2; rw [← h r (by omega)]; exact g r r1 r2
    · intro g r r1 r2; rw [h r (by omega)]; exact g r r1 r2
  have h5 : tx_dg B q e ↔ tx_dg B' q e := by
    unfold tx_dg
    constructor
    · intro g r r1 r2; rw [← h r (by omega)]; exact g r r1 r2
    · intro g r r1 r2; rw [h r (by omega)]; exact g r r1 r2
  unfold tx_rt at x ⊢
  rw [h1, h2, h3, h4, h5] at x
  exact x
theorem tx_X_same {B B' : Nat → Int} {n lim p : Nat} {t : tx_K} {a p' : Nat} (e : ∀ k, k < n → B k = B' k) (x : tx_X B n lim p t a p') : tx_X B' n lim p t a p' := by
  obtain ⟨q, ⟨s1, s2, s3, s4⟩, h⟩ := x
  refine ⟨q, ⟨s1, s2, fun r r1 r2 => by rw [← e r (by omega)]; exact s3 r r1 r2, fun hq => by rw [← e q hq]; exact s4 hq⟩, ?_⟩
  rcases h with h | h | ⟨a1, a2, a3, a4, a5, a6⟩ | ⟨a1, a2, a3, a4, a5, a6⟩
  · exact Or.inl h
  · exact Or.inr (Or.inl h)
  · rw [e q a2] at a3 a4
    exact Or.inr (Or.inr (Or.inl ⟨a1, a2, a3, a4, a5, a6⟩))
  · obtain ⟨r1, r2, r3, r4⟩ := a4
    refine Or.inr (Or.inr (Or.inr ⟨a1, a2, by rw [← e q a2]; exact a3, ⟨r1, r2, fun r g1 g2 => by rw [← e r (by omega)]; exact r3 r g1 g2, fun hh => by rw [← e _ hh]; exact r4 hh⟩, tx_rt_same r1 r2 e a5, a6⟩))
theorem fed_lo {B B' : Nat → Int} {L : Nat} {a b c d e : Int32} {k : Nat} (h : k < L) (hb : B k = B' k) : fed B L a b c d e k = fed B' L a b c d e k := by
  unfold fed
  rw [if_neg (by omega), if_neg (by omega), if_neg (by omega), if_neg (by omega), if_neg (by omega), if_neg (by omega), if_neg (by omega), if_neg (by omega), if_neg (by omega), if_neg (by omega), if_neg (by omega), if_neg (by omega), if_neg (by omega), if_neg (by omega), if_neg (by omega), if_neg (by omega), if_neg (by omega), if_neg (by omega), if_neg (by omega), if_neg (by omega), if_neg (by omega), if_neg (by omega), if_neg (by omega), if_neg (by omega), if_neg (by omega), if_neg (by omega), if_neg (by omega), if_neg (by omega), if_neg (by omega), if_neg (by omega), if_neg (by omega), if_neg (by omega), if_neg (by omega), if_neg (by omega), if_neg (by omega), if_neg (by omega), if_neg (by omega), if_neg (by omega), if_neg (by omega), if_neg (by omega)]
  exact hb
theorem fed_hi {B B' : Nat → Int} {L : Nat} {a b c d e : Int32} {k : Nat} (h : L ≤ k ∧ k < L + 20) : fed B L a b c d e k = fed B' L a b c d e k := by
  unfold fed
  obtain ⟨i, hi, rfl⟩ : ∃ i, i < 20 ∧ k = L + i := ⟨k - L, by omega, by omega⟩
  have u1 : i = 0 ∨ i = 1 ∨ i = 2 ∨ i = 3 ∨ i = 4 ∨ i = 5 ∨ i = 6 ∨ i = 7 ∨ i = 8 ∨ i = 9 ∨ i = 10 ∨ i = 11 ∨ i = 12 ∨ i = 13 ∨ i = 14 ∨ i = 15 ∨ i = 16 ∨ i = 17 ∨ i = 18 ∨ i = 19 := by omega
  rcases u1 with rfl | rfl | rfl | rfl | rfl | rfl | rfl | rfl | rfl | rfl | rfl | rfl | rfl | rfl | rfl | rfl | rfl | rfl | rfl | rfl
  · rw [if_pos (by omega), if_pos (by omega)]
  · rw [if_neg (by omega), if_pos (by omega), if_neg (by omega), if_pos (by omega)]
  · rw [if_neg (by omega), if_neg (by omega), if_pos (by omega), if_neg (by omega), if_neg (by omega), if_pos (by omega)]
  · rw [if_neg (by omega), if_neg (by omega), if_neg (by omega), if_pos (by omega), if_neg (by omega), if_neg (by omega), if_neg (by omega), if_pos (by omega)]
  · rw [if_neg (by omega), if_neg (by omega), if_neg (by omega), if_neg (by omega), if_pos (by omega), if_neg (by omega), if_neg (by omega), if_neg (by omega), if_neg (by omega), if_pos (by omega)]
  · rw [if_neg (by omega), if_neg (by omega), if_neg (by omega), if_neg (by omega), if_neg (by omega), if_pos (by omega), if_neg (by omega), if_neg (by omega), if_neg (by omega), if_neg (by omega), if_neg (by omega), if_pos (by omega)]
  · rw [if_neg (by omega), if_neg (by omega), if_neg (by omega), if_neg (by omega), if_neg (by omega), if_neg (by omega), if_pos (by omega), if_neg (by omega), if_neg (by omega), if_neg (by omega), if_neg (by omega), if_neg (by omega), if_neg (by omega), if_pos (by omega)]
  · rw [if_neg (by omega), if_neg (by omega), if_neg (by omega), if_neg (by omega), if_neg (by omega), if_neg (by omega), if_neg (by omega), if_pos (by omega), if_neg (by omega), if_neg (by omega), if_neg (by omega), if_neg (by omega), if_neg (by omega), if_neg (by omega), if_neg (by omega), if_pos (by omega)]
  · rw [if_neg (by omega), if_neg (by omega), if_neg (by omega), if_neg (by omega), if_neg (by omega), if_neg (by omega), if_neg (by omega), if_neg (by omega), if_pos (by omega), if_neg (by omega), if_neg (by omega), if_neg (by omega), if_neg (by omega), if_neg (by omega), if_neg (by omega), if_neg (by omega), if_neg (by omega), if_pos (by omega)]
  · rw [if_neg (by omega), if_neg (by omega), if_neg (by omega), if_neg (by omega), if_neg (by omega), if_neg (by omega), if_neg (by omega), if_neg (by omega), if_neg (by omega), if_pos (by omega), if_neg (by omega), if_neg (by omega), if_neg (by omega), if_neg (by omega), if_neg (by omega), if_neg (by omega), if_neg (by omega), if_neg (by omega), if_neg (by omega), if_pos (by omega)]
  · rw [if_neg (by omega), if_neg (by omega), if_neg (by omega), if_neg (by omega), if_neg (by omega), if_neg (by omega), if_neg (by omega), if_neg (by omega), if_neg (by omega), if_neg (by omega), if_pos (by omega), if_neg (by omega), if_neg (by omega), if_neg (by omega), if_neg (by omega), if_neg (by omega), if_neg (by omega), if_neg (by omega), if_neg (by omega), if_neg (by omega), if_neg (by omega), if_pos (by omega)]
  · rw [if_neg (by omega), if_neg (by omega), if_neg (by omega), if_neg (by omega), if_neg (by omega), if_neg (by omega), if_neg (by omega), if_neg (by omega), if_neg (by omega), if_neg (by omega), if_neg (by omega), if_pos (by omega), if_neg (by omega), if_neg (by omega), if_neg (by omega), if_neg (by omega), if_neg (by omega), if_neg (by omega), if_neg (by omega), if_neg (by omega), if_neg (by omega), if_neg (by omega), if_neg (by omega), if_pos (by omega)]
  · rw [if_neg (by omega), if_neg (by omega), if_neg (by omega), if_neg (by omega), if_neg (by omega), if_neg (by omega), if_neg (by omega), if_neg (by omega), if_neg (by omega), if_neg (by omega), if_neg (by omega), if_neg (by omega), if_pos (by omega), if_neg (by omega), if_neg (by omega), if_neg (by omega), if_neg (by omega), if_neg (by omega), if_neg (by omega), if_neg (by omega), if_neg (by omega), if_neg (by omega), if_neg (by omega), if_neg (by omega), if_neg (by omega), if_pos (by omega)]
  · rw [if_neg (by omega), if_neg (by omega), if_neg (by omega), if_neg (by omega), if_neg (by omega), if_neg (by omega), if_neg (by omega), if_neg (by omega), if_neg (by omega), if_neg (by omega), if_neg (by omega), if_neg (by omega), if_neg (by omega), if_pos (by omega), if_neg (by omega), if_neg (by omega), if_neg (by omega), if_neg (by omega), if_neg (by omega), if_neg (by omega), if_neg (by omega), if_neg (by omega), if_neg (by omega), if_neg (by omega), if_neg (by omega), if_neg (by omega), if_neg (by omega), if_pos (by omega)]
  · rw [if_neg (by omega), if_neg (by omega), if_neg (by omega), if_neg (by omega), if_neg (by omega), if_neg (by omega), if_neg (by omega), if_neg (by omega), if_neg (by omega), if_neg (by omega), if_neg (by omega), if_neg (by omega), if_neg (by omega), if_neg (by omega), if_pos (by omega), if_neg (by omega), if_neg (by omega), if_neg (by omega), if_neg (by omega), if_neg (by omega), if_neg (by omega), if_neg (by omega), if_neg (by omega), if_neg (by omega), if_neg (by omega), if_neg (by omega), if_neg (by omega), if_neg (by omega), if_neg (by omega), if_pos (by omega)]
  · rw [if_neg (by omega), if_neg (by omega), if_neg (by omega), if_neg (by omega), if_neg (by omega), if_neg (by omega), if_neg (by omega), if_neg (by omega), if_neg (by omega), if_neg (by omega), if_neg (by omega), if_neg (by omega), if_neg (by omega), if_neg (by omega), if_neg (by omega), if_pos (by omega), if_neg (by omega), if_neg (by omega), if_neg (by omega), if_neg (by omega), if_neg (by omega), if_neg (by omega), if_neg (by omega), if_neg (by omega), if_neg (by omega), if_neg (by omega), if_neg (by omega), if_neg (by omega), if_neg (by omega), if_neg (by omega), if_neg (by omega), if_pos (by omega)]
  · rw [if_neg (by omega), if_neg (by omega), if_neg (by omega), if_neg (by omega), if_neg (by omega), if_neg (by omega), if_neg (by omega), if_neg (by omega), if_neg (by omega), if_neg (by omega), if_neg (by omega), if_neg (by omega), if_neg (by omega), if_neg (by omega), if_neg (by omega), if_neg (by omega), if_pos (by omega), if_neg (by omega), if_neg (by omega), if_neg (by omega), if_neg (by omega), if_neg (by omega), if_neg (by omega), if_neg (by omega), if_neg (by omega), if_neg (by omega), if_neg (by omega), if_neg (by omega), if_neg (by omega), if_neg (by omega), if_neg (by omega), if_neg (by omega), if_neg (by omega), if_pos (by omega)]
  · rw [if_neg (by omega), if_neg (by omega), if_neg (by omega), if_neg (by omega), if_neg (by omega), if_neg (by omega), if_neg (by omega), if_neg (by omega), if_neg (by omega), if_neg (by omega), if_neg (by omega), if_neg (by omega), if_neg (by omega), if_neg (by omega), if_neg (by omega), if_neg (by omega), if_neg (by omega), if_pos (by omega), if_neg (by omega), if_neg (by omega), if_neg (by omega), if_neg (by omega), if_neg (by omega), if_neg (by omega), if_neg (by omega), if_neg (by omega), if_neg (by omega), if_neg (by omega), if_neg (by omega), if_neg (by omega), if_neg (by omega), if_neg (by omega), if_neg (by omega), if_neg (by omega), if_neg (by omega), if_pos (by omega)]
  · rw [if_neg (by omega), if_neg (by omega), if_neg (by omega), if_neg (by omega), if_neg (by omega), if_neg (by omega), if_neg (by omega), if_neg (by omega), if_neg (by omega), if_neg (by omega), if_neg (by omega), if_neg (by omega), if_neg (by omega), if_neg (by omega), if_neg (by omega), if_neg (by omega), if_neg (by omega), if_neg (by omega), if_pos (by omega), if_neg (by omega), if_neg (by omega), if_neg (by omega), if_neg (by omega), if_neg (by omega), if_neg (by omega), if_neg (by omega), if_neg (by omega), if_neg (by omega), if_neg (by omega), if_neg (by omega), if_neg (by omega), if_neg (by omega), if_neg (by omega), if_neg (by omega), if_neg (by omega), if_neg (by omega), if_neg (by omega), if_pos (by omega)]
  · rw [if_neg (by omega), if_neg (by omega), if_neg (by omega), if_neg (by omega), if_neg (by omega), if_neg (by omega), if_neg (by omega), if_neg (by omega), if_neg (by omega), if_neg (by omega), if_neg (by omega), if_neg (by omega), if_neg (by omega), if_neg (by omega), if_neg (by omega), if_neg (by omega), if_neg (by omega), if_neg (by omega), if_neg (by omega), if_pos (by omega), if_neg (by omega), if_neg (by omega), if_neg (by omega), if_neg (by omega), if_neg (by omega), if_neg (by omega), if_neg (by omega), if_neg (by omega), if_neg (by omega), if_neg (by omega), if_neg (by omega), if_neg (by omega), if_neg (by omega), if_neg (by omega), if_neg (by omega), if_neg (by omega), if_neg (by omega), if_neg (by omega), if_neg (by omega), if_pos (by omega)]
theorem cl_224 : ab_atL 9999 224 (.aload_n 1) 1 = true := by decide +kernel
theorem cl_225 : ab_atL 9999 225 (.aload_n 0) 1 = true := by decide +kernel
theorem cl_226 : ab_atL 9999 226 (.iload 4) 2 = true := by decide +kernel
theorem cl_228 : ab_atL 9999 228 (.iconst 1) 1 = true := by decide +kernel
theorem cl_229 : ab_atL 9999 229 (.iadd) 1 = true := by decide +kernel
theorem cl_230 : ab_atL 9999 230 (.iaload) 1 = true := by decide +kernel
theorem cl_231 : ab_atL 9999 231 (.aload_n 0) 1 = true := by decide +kernel
theorem cl_232 : ab_atL 9999 232 (.iload 4) 2 = true := by decide +kernel
theorem cl_234 : ab_atL 9999 234 (.iconst 2) 1 = true := by decide +kernel
theorem cl_235 : ab_atL 9999 235 (.iadd) 1 = true := by decide +kernel
theorem cl_236 : ab_atL 9999 236 (.iaload) 1 = true := by decide +kernel
theorem cl_237 : ab_atL 9999 237 (.aload_n 0) 1 = true := by decide +kernel
theorem cl_238 : ab_atL 9999 238 (.iload 4) 2 = true := by decide +kernel
theorem cl_240 : ab_atL 9999 240 (.iconst 3) 1 = true := by decide +kernel
theorem cl_241 : ab_atL 9999 241 (.iadd) 1 = true := by decide +kernel
theorem cl_242 : ab_atL 9999 242 (.iaload) 1 = true := by decide +kernel
theorem cl_243 : ab_atL 9999 243 (.aload_n 0) 1 = true := by decide +kernel
theorem cl_244 : ab_atL 9999 244 (.iload 4) 2 = true := by decide +kernel
theorem cl_246 : ab_atL 9999 246 (.iconst 4) 1 = true := by decide +kernel
theorem cl_247 : ab_atL 9999 247 (.iadd) 1 = true := by decide +kernel
theorem cl_248 : ab_atL 9999 248 (.iaload) 1 = true := by decide +kernel
theorem cl_249 : ab_atL 9999 249 (.aload_n 0) 1 = true := by decide +kernel
theorem cl_250 : ab_atL 9999 250 (.iload 4) 2 = true := by decide +kernel
theorem cl_252 : ab_atL 9999 252 (.iconst 5) 1 = true := by decide +kernel
theorem cl_253 : ab_atL 9999 253 (.iadd) 1 = true := by decide +kernel
theorem cl_254 : ab_atL 9999 254 (.iaload) 1 = true := by decide +kernel
theorem cl_255 : ab_atL 9999 255 (.invokevirtual 22) 3 = true := by decide +kernel
theorem cl_258 : ab_atL 9999 258 (.pop) 1 = true := by decide +kernel
theorem cl_259 : ab_atL 9999 259 (.aload_n 2) 1 = true := by decide +kernel
theorem cl_260 : ab_atL 9999 260 (.aload_n 0) 1 = true := by decide +kernel
theorem cl_261 : ab_atL 9999 261 (.iload 4) 2 = true := by decide +kernel
theorem cl_263 : ab_atL 9999 263 (.iconst 1) 1 = true := by decide +kernel
theorem cl_264 : ab_atL 9999 264 (.iadd) 1 = true := by decide +kernel
theorem cl_265 : ab_atL 9999 265 (.iaload) 1 = true := by decide +kernel
theorem cl_266 : ab_atL 9999 266 (.aload_n 0) 1 = true := by decide +kernel
theorem cl_267 : ab_atL 9999 267 (.iload 4) 2 = true := by decide +kernel
theorem cl_269 : ab_atL 9999 269 (.iconst 2) 1 = true := by decide +kernel
theorem cl_270 : ab_atL 9999 270 (.iadd) 1 = true := by decide +kernel
theorem cl_271 : ab_atL 9999 271 (.iaload) 1 = true := by decide +kernel
theorem cl_272 : ab_atL 9999 272 (.aload_n 0) 1 = true := by decide +kernel
theorem cl_273 : ab_atL 9999 273 (.iload 4) 2 = true := by decide +kernel
theorem cl_275 : ab_atL 9999 275 (.iconst 3) 1 = true := by decide +kernel
theorem cl_276 : ab_atL 9999 276 (.iadd) 1 = true := by decide +kernel
theorem cl_277 : ab_atL 9999 277 (.iaload) 1 = true := by decide +kernel
theorem cl_278 : ab_atL 9999 278 (.aload_n 0) 1 = true := by decide +kernel
theorem cl_279 : ab_atL 9999 279 (.iload 4) 2 = true := by decide +kernel
theorem cl_281 : ab_atL 9999 281 (.iconst 4) 1 = true := by decide +kernel
theorem cl_282 : ab_atL 9999 282 (.iadd) 1 = true := by decide +kernel
theorem cl_283 : ab_atL 9999 283 (.iaload) 1 = true := by decide +kernel
theorem cl_284 : ab_atL 9999 284 (.aload_n 0) 1 = true := by decide +kernel
theorem cl_285 : ab_atL 9999 285 (.iload 4) 2 = true := by decide +kernel
theorem cl_287 : ab_atL 9999 287 (.iconst 5) 1 = true := by decide +kernel
theorem cl_288 : ab_atL 9999 288 (.iadd) 1 = true := by decide +kernel
theorem cl_289 : ab_atL 9999 289 (.iaload) 1 = true := by decide +kernel
theorem cl_290 : ab_atL 9999 290 (.invokevirtual 26) 3 = true := by decide +kernel
theorem cl_293 : ab_atL 9999 293 (.pop) 1 = true := by decide +kernel
theorem cl_294 : ab_atL 9999 294 (.goto 998) 3 = true := by decide +kernel
theorem cl_297 : ab_atL 9999 297 (.aload_n 1) 1 = true := by decide +kernel
theorem cl_298 : ab_atL 9999 298 (.aload_n 0) 1 = true := by decide +kernel
theorem cl_299 : ab_atL 9999 299 (.iload 4) 2 = true := by decide +kernel
theorem cl_301 : ab_atL 9999 301 (.iconst 1) 1 = true := by decide +kernel
theorem cl_302 : ab_atL 9999 302 (.iadd) 1 = true := by decide +kernel
theorem cl_303 : ab_atL 9999 303 (.iaload) 1 = true := by decide +kernel
theorem cl_304 : ab_atL 9999 304 (.invokevirtual 27) 3 = true := by decide +kernel
theorem cl_307 : ab_atL 9999 307 (.pop) 1 = true := by decide +kernel
theorem cl_308 : ab_atL 9999 308 (.aload_n 2) 1 = true := by decide +kernel
theorem cl_309 : ab_atL 9999 309 (.aload_n 0) 1 = true := by decide +kernel
theorem cl_310 : ab_atL 9999 310 (.iload 4) 2 = true := by decide +kernel
theorem cl_312 : ab_atL 9999 312 (.iconst 1) 1 = true := by decide +kernel
theorem cl_313 : ab_atL 9999 313 (.iadd) 1 = true := by decide +kernel
theorem cl_314 : ab_atL 9999 314 (.iaload) 1 = true := by decide +kernel
theorem cl_315 : ab_atL 9999 315 (.invokevirtual 31) 3 = true := by decide +kernel
theorem cl_318 : ab_atL 9999 318 (.pop) 1 = true := by decide +kernel
theorem cl_319 : ab_atL 9999 319 (.goto 973) 3 = true := by decide +kernel
theorem cl_322 : ab_atL 9999 322 (.aload_n 1) 1 = true := by decide +kernel
theorem cl_323 : ab_atL 9999 323 (.invokevirtual 32) 3 = true := by decide +kernel
theorem cl_326 : ab_atL 9999 326 (.pop) 1 = true := by decide +kernel
theorem cl_327 : ab_atL 9999 327 (.aload_n 2) 1 = true := by decide +kernel
theorem cl_328 : ab_atL 9999 328 (.invokevirtual 36) 3 = true := by decide +kernel
theorem cl_331 : ab_atL 9999 331 (.pop) 1 = true := by decide +kernel
theorem cl_332 : ab_atL 9999 332 (.goto 960) 3 = true := by decide +kernel
theorem cl_1129 : ab_atL 9999 1129 (.aload_n 1) 1 = true := by decide +kernel
theorem cl_1130 : ab_atL 9999 1130 (.aload_n 0) 1 = true := by decide +kernel
theorem cl_1131 : ab_atL 9999 1131 (.iload 4) 2 = true := by decide +kernel
theorem cl_1133 : ab_atL 9999 1133 (.iconst 1) 1 = true := by decide +kernel
theorem cl_1134 : ab_atL 9999 1134 (.iadd) 1 = true := by decide +kernel
theorem cl_1135 : ab_atL 9999 1135 (.iaload) 1 = true := by decide +kernel
theorem cl_1136 : ab_atL 9999 1136 (.invokevirtual 168) 3 = true := by decide +kernel
theorem cl_1139 : ab_atL 9999 1139 (.pop) 1 = true := by decide +kernel
theorem cl_1140 : ab_atL 9999 1140 (.aload_n 2) 1 = true := by decide +kernel
theorem cl_1141 : ab_atL 9999 1141 (.aload_n 0) 1 = true := by decide +kernel
theorem cl_1142 : ab_atL 9999 1142 (.iload 4) 2 = true := by decide +kernel
theorem cl_1144 : ab_atL 9999 1144 (.iconst 1) 1 = true := by decide +kernel
theorem cl_1145 : ab_atL 9999 1145 (.iadd) 1 = true := by decide +kernel
theorem cl_1146 : ab_atL 9999 1146 (.iaload) 1 = true := by decide +kernel
theorem cl_1147 : ab_atL 9999 1147 (.invokevirtual 171) 3 = true := by decide +kernel
theorem cl_1150 : ab_atL 9999 1150 (.pop) 1 = true := by decide +kernel
theorem cl_1151 : ab_atL 9999 1151 (.goto 141) 3 = true := by decide +kernel
set_option maxHeartbeats 1000000 in
theorem hl_call {sc : List Value} {sp u o d pc : Nat} {K : Nat → eg_L → List Value → eg_H → Prop} {ls : eg_L} {st0 as st1 as2 st2 : List Value} {h : eg_H} {i : Instr} {ik k mu o' np : Nat} {Post : Option Value → eg_H → Prop} (hst : (Nat.beq pc sp && Nat.beq u 9999) = false) (c : ab_atL u pc i 3 = true) (hks : eg_ks i 3 = some (ik, k)) (hG : eg_hd [] sc u o pc i 3 = none) (hcx : ck_cl o k ik mu o' np = true) (hpop : eg_pop np st0 [] = some (as, st1)) (hrcv : eg_rcv ik o' h as st1 = some (as2, st2)) (hcat : (Nat.ble (eg_cat st2) 8 && Nat.ble (eg_cat as2) (eg_md mu).2.2.1) = true) (m : mc sc sp mu o' d as2 h Post) (n : ∀ vo h', Post vo h' → hs sc sp u o (d + 1) K (pc + 3) ls (vo.toList ++ st2) h') : hs sc sp u o (d + 1) K pc ls st0 h := by
  have hs0 := ab_atL_v c
  obtain ⟨pc1, ls1, st3, h1, g1, ir, vo, hir, hrv, hpost⟩ := m
  refine (n vo h1 hpost).pre ?_
  intro r hr
  unfold ck_cl at hcx
  have c1 := Bool.and_eq_true_iff.mp hcx
  have c2 := Bool.and_eq_true_iff.mp c1.1
  have c3 := Bool.and_eq_true_iff.mp c2.1
  have c4 := Bool.and_eq_true_iff.mp c3.1
  have c5 := Bool.and_eq_true_iff.mp c4.1
  have hb1 := Nat.eq_of_beq_eq_true c3.2
  have hb2 := Nat.eq_of_beq_eq_true c2.2
  have hmu : Nat.beq mu 9999 = false := by
    have := c4.2
    cases hb : Nat.beq mu 9999 with
    | false => rfl
    | true => rw [hb] at this; cases this
  cases ha : eg_at o eg_cx k with
  | none => have := c5.1; rw [ha] at this; cases this
  | some e =>
    obtain ⟨kd, pl, m', oo, n', pa, pb, pi⟩ := e
    have c6 := c5.1
    rw [ha] at c6
    simp only at c6
    have d1 := Bool.and_eq_true_iff.mp c6
    have d2 := Bool.and_eq_true_iff.mp d1.1
    have d3 := Bool.and_eq_true_iff.mp d2.1
    obtain rfl := Nat.eq_of_beq_eq_true d3.1
    obtain rfl := Nat.eq_of_beq_eq_true d3.2
    obtain rfl := Nat.eq_of_beq_eq_true d2.2
    obtain rfl := Nat.eq_of_beq_eq_true d1.2
    have hk02 : kd = 0 ∨ kd = 2 := by
      rcases Bool.or_eq_true_iff.mp c5.2 with e | e
      · exact Or.inl (Nat.eq_of_beq_eq_true e)
      · exact Or.inr (Nat.eq_of_beq_eq_true e)
    have hik : Nat.ble 3 kd = false := by rcases hk02 with rfl | rfl <;> rfl
    have hk4 : Nat.ble 4 kd = false := by rcases hk02 with rfl | rfl <;> rfl
    have hkb : (bif Nat.beq kd 3 then Nat.beq kd 1 else Nat.beq kd kd) = true := by rcases hk02 with rfl | rfl <;> rfl
    have hk13 : (Nat.beq kd 1 || Nat.beq kd 3) = false := by rcases hk02 with rfl | rfl <;> rfl
    refine ab_Re_call hs0 hst hG hks hik ?_
    obtain ⟨m1, hm1⟩ := g1 _ (ab_ret_v hmu hir)
    obtain ⟨m2, hm2⟩ := hr
    refine ⟨m1 + m2, ?_⟩
    have w1 := eg_run_mo (Nat.le_add_right m1 m2) _ _ _ _ _ _ _ _ _ _ _ _ hm1
    have w2 := eg_run_mo (Nat.le_add_left m2 m1) _ _ _ _ _ _ _ _ _ _ _ _ hm2
    have hpg : eg_seek 0 (eg_pg m') = eg_pg m' := by
      have := c1.2
      split at this
      next p i0 l0 cs0 hpg =>
        rw [hpg]
        unfold eg_seek
        rw [this]
      next => cases this
    rw [hpg] at w1
    have hcat2 := Bool.and_eq_true_iff.mp hcat
    have hcc : (!(Nat.beq m' 9999) && Nat.ble (eg_cat st2) 8 && Nat.ble (eg_cat as2) (eg_md m').2.2.1 && Nat.ble 0 0 && Nat.ble 0 0) = true := by rw [hmu, hcat2.1, hcat2.2]; rfl
    simp only [eg_call, ha, hk4, hkb, cond_true, hpop, hrcv, hb1, hb2, hcc, w1, hrv]
    cases vo with
    | none => exact w2
    | some z =>
      simp only [hk13, cond_false]
      exact w2
theorem hl_pop {sc : List Value} {sp u o dq pc : Nat} {K : Nat → eg_L → List Value → eg_H → Prop} {ls : eg_L} {st : List Value} {h : eg_H} {v : Value} (hst : (Nat.beq pc sp && Nat.beq u 9999) = false) (c : ab_atL u pc .pop 1 = true) (hv : eg_is1 v = true) (n : hs sc sp u o dq K (pc + 1) ls st h) : hs sc sp u o dq K pc ls (v :: st) h := hl_s hst c rfl (by simp only [eg_pp, hv, cond_true]) n
theorem hl_goto {sc : List Value} {sp u o dq pc : Nat} {K : Nat → eg_L → List Value → eg_H → Prop} {ls : eg_L} {st : List Value} {h : eg_H} {off : Int} {t : Nat} (hst : (Nat.beq pc sp && Nat.beq u 9999) = false) (c : ab_atL u pc (.goto off) 3 = true) (ht : eg_tgt pc off = some t) (n : hs sc sp u o dq K t ls st h) : hs sc sp u o dq K pc ls st h := hl_j (G := eg_jp t) hst c (by simp only [eg_hd, eg_lok, Nat.beq_refl, eg_hd0, ht, Option.map]) rfl n
/-! the law's locals -/
def lg_ls : List (Nat × ab_A) := [(0, .inr 1), (1, .inr 2), (2, .inr 184), (3, .inr 206), (4, .inl (2, .ofNat 0))]
def lg_L (ls : eg_L) (i : Int) : Prop := eg_find 0 ls = some (.float 1) ∧ eg_find 1 ls = some (.ref 0) ∧ eg_find 2 ls = some (.ref 182) ∧ eg_find 3 ls = some (.ref 204) ∧ ∃ x : Int32, eg_find 4 ls = some (.int x) ∧ x.toInt = i
theorem lg_scr {sc : List Value} (hsc : ab_osc sc) {i : Int} (h0 : 0 ≤ i) (h1 : i + 6 ≤ sc.length) {xi : Int32} (hxi : xi.toInt = i) (hL : sc.length ≤ 3072) : ∃ (k : Nat) (x : Int32), (xi + Int32.ofInt 1).toInt = (k : Int) ∧ eg_nth sc k = some (.int x) := by
  obtain ⟨j, hj⟩ : ∃ j : Nat, xi.toInt = (j : Int) := ⟨xi.toInt.toNat, by omega⟩
  have hlt : j + 1 < sc.length := by omega
  have hk0 : eg_nth sc (j + 1) = some sc[j + 1] := by rw [eg_nth_eq, List.getElem?_eq_getElem hlt]
  obtain ⟨x, hx⟩ := hsc.1 _ _ hk0
  rw [hx] at hk0
  exact ⟨j + 1, x, (i32_add hj (b := 1) rfl (by omega) (by omega)).trans (by omega), hk0⟩
theorem lg_scrn {sc : List Value} (hsc : ab_osc sc) {i : Int} (h0 : 0 ≤ i) (h1 : i + 6 ≤ sc.length) {xi v : Int32} (hxi : xi.toInt = i) (hL : sc.length ≤ 3072) (n : Nat) (hn : n ≤ 5) (hv : v.toInt = (n : Int)) : ∃ (k : Nat) (x : Int32), (xi + v).toInt = (k : Int) ∧ eg_nth sc k = some (.int x) := by
  obtain ⟨j, hj⟩ : ∃ j : Nat, xi.toInt = (j : Int) := ⟨xi.toInt.toNat, by omega⟩
  have hlt : j + n < sc.length := by omega
  have hk0 : eg_nth sc (j + n) = some sc[j + n] := by rw [eg_nth_eq, List.getElem?_eq_getElem hlt]
  obtain ⟨x, hx⟩ := hsc.1 _ _ hk0
  rw [hx] at hk0
  exact ⟨j + n, x, (i32_add hj hv (by omega) (by omega)).trans (by omega), hk0⟩
theorem hl_1 {sc : List Value} (hsc : ab_osc sc) (hL : sc.length ≤ 3072) {d : Nat} {i : Int} (h0 : 0 ≤ i) (h1 : i + 6 ≤ sc.length) {ls : eg_L} {h : eg_H} (hl : lg_L ls i) (hp : ab_hp h) (hj : jj h) : hs sc 1292 9999 12 (d + 14 + 1) (fun pc' ls' st' h' => pc' = 1292 ∧ ls' = ls ∧ st' = [] ∧ ab_hp h' ∧ jj h') 297 ls [] h := by
  obtain ⟨l0, l1, l2, l3, xi, l4, hxi⟩ := hl
  obtain ⟨k, x, ei, hk0⟩ := lg_scr hsc h0 h1 hxi hL
  refine hl_ld rfl cl_297 rfl l1 rfl ?_
  refine hl_ld rfl cl_298 rfl l0 rfl ?_
  refine hl_ld rfl cl_299 rfl l4 rfl ?_
  refine hl_iconst rfl cl_301 ?_
  refine hl_iadd rfl cl_302 ?_
  refine hl_scr rfl cl_303 ei hk0 ?_
  refine hl_call (np := 1) rfl cl_304 rfl rfl (by decide +kernel) rfl (ck_ob_v hp.1 (by decide +kernel) _ _) (by rw [ml_enX]; rfl) (c_enX x hp) ?_
  rintro v9 h2 ⟨hp2, f2, r1, e8, a0, a1⟩
  rw [e8]
  clear e8 v9
  simp only [Option.toList, List.cons_append, List.nil_append]
  refine hl_pop rfl cl_307 rfl ?_
  refine hl_ld rfl cl_308 rfl l2 rfl ?_
  refine hl_ld rfl cl_309 rfl l0 rfl ?_
  refine hl_ld rfl cl_310 rfl l4 rfl ?_
  refine hl_iconst rfl cl_312 ?_
  refine hl_iadd rfl cl_313 ?_
  refine hl_scr rfl cl_314 ei hk0 ?_
  refine hl_call (np := 1) rfl cl_315 rfl rfl (by decide +kernel) rfl (ck_ob_v hp2.1 (by decide +kernel) _ _) (by rw [ml_enM]; rfl) (c_enM x hp2) ?_
  rintro v9 h3 ⟨hp3, f3, r2, e8, b0, b1⟩
  rw [e8]
  clear e8 v9
  simp only [Option.toList, List.cons_append, List.nil_append]
  refine hl_pop rfl cl_318 rfl ?_
  refine hl_goto (t := 1292) rfl cl_319 rfl ?_
  obtain ⟨⟨j1, j2, j3⟩, jr0⟩ := hj
  have q1 : hv h3 1 1 = hv h2 1 1 := hv_same (f3 1 1 rfl)
  have q2 : hv h2 182 2 = hv h 182 2 := hv_same (f2 182 2 rfl)
  refine hs_k ⟨rfl, rfl, rfl, hp3, ⟨Int32.toInt_inj.mp ?_, fun q hq => ?_, jk_fr (by decide +kernel) f3 (jk_fr (by decide +kernel) f2 j3)⟩, jq_fr (by decide +kernel) f3 (jq_fr (by decide +kernel) f2 jr0)⟩
  · rw [q1, a1, b1, q2, j1]
  · rw [q1, a1] at hq
    have hq2 : (q : Int) < (hv h 1 1).toInt := by
      split at hq
      · omega
      · exact hq
    have := j2 q hq2
    unfold bA bM at this ⊢
    rw [hv_same (f3 2 q rfl), hv_same (f2 2 q rfl), hv_same (f3 183 q rfl), hv_same (f2 183 q rfl)]
    exact this
theorem ml_hdX : (eg_md 688).2.2.1 = 2 := by decide +kernel
theorem ml_hdM : (eg_md 1650).2.2.1 = 2 := by decide +kernel
theorem hl_2 {sc : List Value} (hsc : ab_osc sc) (hL : sc.length ≤ 3072) {d : Nat} {i : Int} (h0 : 0 ≤ i) (h1 : i + 6 ≤ sc.length) {ls : eg_L} {h : eg_H} (hl : lg_L ls i) (hp : ab_hp h) (hj : jj h) : hs sc 1292 9999 12 (d + 14 + 1) (fun pc' ls' st' h' => pc' = 1292 ∧ ls' = ls ∧ st' = [] ∧ ab_hp h' ∧ jj h') 322 ls [] h := by
  obtain ⟨l0, l1, l2, l3, xi, l4, hxi⟩ := hl
  obtain ⟨⟨j1, j2, j3, j4⟩, jr0⟩ := hj
  refine hl_ld rfl cl_322 rfl l1 rfl ?_
  refine hl_call (np := 0) rfl cl_323 rfl rfl (by decide +kernel) rfl (ck_ob_v hp.1 (by decide +kernel) _ _) (by rw [ml_hdX]; rfl) (k_head hsc hp j3) ?_
  rintro v9 h2 ⟨hp2, f2, a1, r1, tk, ta, P, m, e8, ⟨m2, m1, m4, m5, m7⟩, b1⟩
  rw [e8]
  clear e8 v9
  simp only [Option.toList, List.cons_append, List.nil_append]
  refine hl_pop rfl cl_326 rfl ?_
  have eB : bM h2 = bM h := funext (fun q => by unfold bM; rw [hv_same (f2 183 q rfl)])
  have eN : hv h2 182 2 = hv h 182 2 := hv_same (f2 182 2 rfl)
  have ts : TS (bM h) (hv h 1 1).toInt.toNat 900 tk ta P := fun t => tx_X_same (fun q hq => j2 q (by omega)) (m5 t)
  obtain ⟨-, c1, c2⟩ := sb_v (a := 1) (k := 1) (lo := .ofNat 0) (hi := .ofNat 940) hp (by decide +kernel)
  have c1 : (0 : Int) ≤ (hv h 1 1).toInt := c1
  refine hl_ld rfl cl_327 rfl l2 rfl ?_
  refine hl_call (np := 0) rfl cl_328 rfl rfl (by decide +kernel) rfl (ck_ob_v hp2.1 (by decide +kernel) _ _) (by rw [ml_hdM]; rfl) (m_head (m := m) hsc ts (fun t ht => (m7 t ht).1) m1 m2 m4 eB (by rw [eN, ← j1]; omega) hp2 (j4.fr f2 (fun _ => rfl))) ?_
  rintro v9 h3 ⟨hp3, f3, b2, r2, e8, b3⟩
  rw [e8]
  clear e8 v9
  simp only [Option.toList, List.cons_append, List.nil_append]
  have e : r1.toInt = r2.toInt ∧ jf h3 ∧ lp h3 8 184 0 187 0 := by
    rcases b1 with ⟨p, n, x1, x2, x15, x3, x5, x4, x6, x7, x8⟩ | ⟨k, a, x1, x2, x15, x3, x4, x5, x6⟩
    · rcases b3 with ⟨p', n', y1, y2, y15, y3⟩ | ⟨k', a', y1, y2, -⟩
      · obtain ⟨e8, e9⟩ := Prod.mk.inj (Sum.inr.inj (x1.symm.trans y1))
        have e5 : (hv h3 8 5).toInt = p.1 5 := by rw [hv_same (f3 8 5 rfl)]; exact x3 5 (by decide)
        have e4 : (hv h3 8 4).toInt = p.1 4 := by rw [hv_same (f3 8 4 rfl)]; exact x3 4 (by decide)
        refine ⟨by omega, Int32.toInt_inj.mp (by rw [hv_same (f3 0 15 rfl)]; omega), fun i hi => Int32.toInt_inj.mp ?_, ⟨by rw [e4]; exact x6, by rw [e5]; exact x5⟩, fun q hq => ?_, fun q hq => ?_⟩
        · rw [hv_same (f3 8 i rfl), x3 i hi, lr_v y3 i hi, e8]
        · rw [e4] at hq
          show tx_co (hl h3 9 q).toInt (hl h3 187 (0 + q)).toInt
          rw [Nat.zero_add, hl_same (f3 9 q rfl), x7 q hq]
          rw [e8] at hq ⊢
          exact lr_m y3 q hq
        · rw [e5] at hq
          show tx_co (hl h3 12 q).toInt (hl h3 187 (0 + 6 + q)).toInt
          rw [Nat.zero_add, hl_same (f3 12 q rfl), x8 q hq]
          rw [e8] at hq ⊢
          exact lr_p y3 q hq
      · exact absurd (x1.symm.trans y1) (by simp)
    · rcases b3 with ⟨p', n', y1, y2, -⟩ | ⟨k', a', y1, y2, y15, y3, y4⟩
      · exact absurd (x1.symm.trans y1) (by simp)
      · obtain ⟨e8, e9⟩ := Prod.mk.inj (Sum.inl.inj (x1.symm.trans y1))
        refine ⟨by omega, Int32.toInt_inj.mp (by rw [hv_same (f3 0 15 rfl)]; omega), lp_mv jr0.1.1 (fun i hi => ?_) (fun k _ => ?_) (fun k _ => ?_) (fun q hq => ?_) (fun q hq => ?_)⟩
        · rw [hv_same (f3 8 i rfl), x3 i hi]
        · show hl h3 9 k = hl h 9 k
          rw [hl_same (f3 9 k rfl), x5 k]
        · show hl h3 12 k = hl h 12 k
          rw [hl_same (f3 12 k rfl), x6 k]
        · rw [Nat.zero_add, y3 q (by omega), hv_same (f2 184 q rfl)]
        · rw [Nat.zero_add, y4 q hq, hl_same (f2 187 q rfl)]
  have hj3 : jj h3 := ⟨jt_z (h := h) (by rw [hv_same (f3 1 1 rfl)]; exact a1) b2 (jk_fr (by decide +kernel) f3 (jk_fr (by decide +kernel) f2 ⟨j3, j4⟩)), ⟨e.2.2, jv_fr (by decide +kernel) f3 (jv_fr (by decide +kernel) f2 jr0.1.2)⟩, e.2.1⟩
  replace e := e.1
  refine hl_pop rfl cl_331 rfl ?_
  refine hl_goto (t := 1292) rfl cl_332 rfl ?_
  exact hs_k ⟨rfl, rfl, rfl, hp3, hj3⟩
theorem ml_fdX : (eg_md 676).2.2.1 = 6 := by decide +kernel
theorem ml_fdM : (eg_md 1442).2.2.1 = 6 := by decide +kernel
theorem hl_0 {sc : List Value} (hsc : ab_osc sc) (hL : sc.length ≤ 3072) {d : Nat} {i : Int} (h0 : 0 ≤ i) (h1 : i + 6 ≤ sc.length) {ls : eg_L} {h : eg_H} (hl : lg_L ls i) (hp : ab_hp h) (hj : jj h) : hs sc 1292 9999 12 (d + 14 + 1) (fun pc' ls' st' h' => pc' = 1292 ∧ ls' = ls ∧ st' = [] ∧ ab_hp h' ∧ jj h') 224 ls [] h := by
  obtain ⟨l0, l1, l2, l3, xi, l4, hxi⟩ := hl
  obtain ⟨i1, x1, ei1, hk1⟩ := lg_scrn hsc h0 h1 hxi hL 1 (by decide) (show (Int32.ofInt 1).toInt = ((1 : Nat) : Int) by decide)
  obtain ⟨i2, x2, ei2, hk2⟩ := lg_scrn hsc h0 h1 hxi hL 2 (by decide) (show (Int32.ofInt 2).toInt = ((2 : Nat) : Int) by decide)
  obtain ⟨i3, x3, ei3, hk3⟩ := lg_scrn hsc h0 h1 hxi hL 3 (by decide) (show (Int32.ofInt 3).toInt = ((3 : Nat) : Int) by decide)
  obtain ⟨i4, x4, ei4, hk4⟩ := lg_scrn hsc h0 h1 hxi hL 4 (by decide) (show (Int32.ofInt 4).toInt = ((4 : Nat) : Int) by decide)
  obtain ⟨i5, x5, ei5, hk5⟩ := lg_scrn hsc h0 h1 hxi hL 5 (by decide) (show (Int32.ofInt 5).toInt = ((5 : Nat) : Int) by decide)
  refine hl_ld rfl cl_224 rfl l1 rfl ?_
  refine hl_ld rfl cl_225 rfl l0 rfl ?_
  refine hl_ld rfl cl_226 rfl l4 rfl ?_
  refine hl_iconst rfl cl_228 ?_
  refine hl_iadd rfl cl_229 ?_
  refine hl_scr rfl cl_230 ei1 hk1 ?_
  refine hl_ld rfl cl_231 rfl l0 rfl ?_
  refine hl_ld rfl cl_232 rfl l4 rfl ?_
  refine hl_iconst rfl cl_234 ?_
  refine hl_iadd rfl cl_235 ?_
  refine hl_scr rfl cl_236 ei2 hk2 ?_
  refine hl_ld rfl cl_237 rfl l0 rfl ?_
  refine hl_ld rfl cl_238 rfl l4 rfl ?_
  refine hl_iconst rfl cl_240 ?_
  refine hl_iadd rfl cl_241 ?_
  refine hl_scr rfl cl_242 ei3 hk3 ?_
  refine hl_ld rfl cl_243 rfl l0 rfl ?_
  refine hl_ld rfl cl_244 rfl l4 rfl ?_
  refine hl_iconst rfl cl_246 ?_
  refine hl_iadd rfl cl_247 ?_
  refine hl_scr rfl cl_248 ei4 hk4 ?_
  refine hl_ld rfl cl_249 rfl l0 rfl ?_
  refine hl_ld rfl cl_250 rfl l4 rfl ?_
  refine hl_iconst rfl cl_252 ?_
  refine hl_iadd rfl cl_253 ?_
  refine hl_scr rfl cl_254 ei5 hk5 ?_
  refine hl_call (np := 5) rfl cl_255 rfl rfl (by decide +kernel) rfl (ck_ob_v hp.1 (by decide +kernel) _ _) (by rw [ml_fdX]; rfl) (k_feX x1 x2 x3 x4 x5 hp) ?_
  rintro v9 h2 ⟨hp2, f2, ⟨r1, e8⟩, a1⟩
  rw [e8]
  clear e8 v9
  simp only [Option.toList, List.cons_append, List.nil_append]
  refine hl_pop rfl cl_258 rfl ?_
  refine hl_ld rfl cl_259 rfl l2 rfl ?_
  refine hl_ld rfl cl_260 rfl l0 rfl ?_
  refine hl_ld rfl cl_261 rfl l4 rfl ?_
  refine hl_iconst rfl cl_263 ?_
  refine hl_iadd rfl cl_264 ?_
  refine hl_scr rfl cl_265 ei1 hk1 ?_
  refine hl_ld rfl cl_266 rfl l0 rfl ?_
  refine hl_ld rfl cl_267 rfl l4 rfl ?_
  refine hl_iconst rfl cl_269 ?_
  refine hl_iadd rfl cl_270 ?_
  refine hl_scr rfl cl_271 ei2 hk2 ?_
  refine hl_ld rfl cl_272 rfl l0 rfl ?_
  refine hl_ld rfl cl_273 rfl l4 rfl ?_
  refine hl_iconst rfl cl_275 ?_
  refine hl_iadd rfl cl_276 ?_
  refine hl_scr rfl cl_277 ei3 hk3 ?_
  refine hl_ld rfl cl_278 rfl l0 rfl ?_
  refine hl_ld rfl cl_279 rfl l4 rfl ?_
  refine hl_iconst rfl cl_281 ?_
  refine hl_iadd rfl cl_282 ?_
  refine hl_scr rfl cl_283 ei4 hk4 ?_
  refine hl_ld rfl cl_284 rfl l0 rfl ?_
  refine hl_ld rfl cl_285 rfl l4 rfl ?_
  refine hl_iconst rfl cl_287 ?_
  refine hl_iadd rfl cl_288 ?_
  refine hl_scr rfl cl_289 ei5 hk5 ?_
  refine hl_call (np := 5) rfl cl_290 rfl rfl (by decide +kernel) rfl (ck_ob_v hp2.1 (by decide +kernel) _ _) (by rw [ml_fdM]; rfl) (k_feM x1 x2 x3 x4 x5 hp2) ?_
  rintro v9 h3 ⟨hp3, f3, ⟨r2, e8⟩, b1⟩
  rw [e8]
  clear e8 v9
  simp only [Option.toList, List.cons_append, List.nil_append]
  refine hl_pop rfl cl_293 rfl ?_
  refine hl_goto (t := 1292) rfl cl_294 rfl ?_
  obtain ⟨⟨j1, j2, j3⟩, jr0⟩ := hj
  obtain ⟨-, c1, c2⟩ := sb_v (a := 1) (k := 1) (lo := .ofNat 0) (hi := .ofNat 940) hp (by decide +kernel)
  have c1 : (0 : Int) ≤ (hv h 1 1).toInt := c1
  have n1 : hv h3 1 1 = hv h2 1 1 := hv_same (f3 1 1 rfl)
  have n2 : hv h2 182 2 = hv h 182 2 := hv_same (f2 182 2 rfl)
  rw [n2, ← j1] at b1
  have kk := jk_fr (by decide +kernel) f3 (jk_fr (by decide +kernel) f2 j3)
  have bb : ∀ q, bA h3 q = (hv h2 2 q).toInt % 256 := fun q => by unfold bA; rw [hv_same (f3 2 q rfl)]
  have bm : ∀ q, (hv h2 183 q).toInt % 256 = bM h q := fun q => by unfold bM; rw [hv_same (f2 183 q rfl)]
  rcases a1 with ⟨u1, u2, u3⟩ | ⟨u1, u2, u3⟩
  · rcases b1 with ⟨w1, w2, w3⟩ | ⟨w1, w2, w3⟩
    · refine hs_k ⟨rfl, rfl, rfl, hp3, ⟨Int32.toInt_inj.mp (by rw [n1, u2, w2]), fun q hq => ?_, kk⟩, jq_fr (by decide +kernel) f3 (jq_fr (by decide +kernel) f2 jr0)⟩
      rw [n1, u2] at hq
      rw [bb q, u3 q]
      refine (j2 q hq).trans ?_
      rw [← bm q]
      exact (w3 q).symm
    · omega
  · rcases b1 with ⟨w1, w2, w3⟩ | ⟨w1, w2, w3⟩
    · omega
    · refine hs_k ⟨rfl, rfl, rfl, hp3, ⟨Int32.toInt_inj.mp (by rw [n1, u2, w2]), fun q hq => ?_, kk⟩, jq_fr (by decide +kernel) f3 (jq_fr (by decide +kernel) f2 jr0)⟩
      rw [n1, u2] at hq
      rw [bb q, u3 q]
      refine Eq.trans ?_ (w3 q).symm
      by_cases g : (q : Int) < (hv h 1 1).toInt
      · refine fed_lo (by omega) ?_
        rw [bm q]
        exact j2 q g
      · exact fed_hi (by omega)
theorem cl_1179 : ab_atL 9999 1179 (.aload_n 1) 1 = true := by decide +kernel
theorem cl_1180 : ab_atL 9999 1180 (.invokevirtual 176) 3 = true := by decide +kernel
theorem cl_1183 : ab_atL 9999 1183 (.pop) 1 = true := by decide +kernel
theorem cl_1184 : ab_atL 9999 1184 (.aload_n 2) 1 = true := by decide +kernel
theorem cl_1185 : ab_atL 9999 1185 (.invokevirtual 179) 3 = true := by decide +kernel
theorem cl_1188 : ab_atL 9999 1188 (.pop) 1 = true := by decide +kernel
theorem cl_1189 : ab_atL 9999 1189 (.goto 103) 3 = true := by decide +kernel
theorem cl_1217 : ab_atL 9999 1217 (.aload_n 1) 1 = true := by decide +kernel
theorem cl_1218 : ab_atL 9999 1218 (.aload_n 0) 1 = true := by decide +kernel
theorem cl_1219 : ab_atL 9999 1219 (.iload 4) 2 = true := by decide +kernel
theorem cl_1221 : ab_atL 9999 1221 (.iconst 1) 1 = true := by decide +kernel
theorem cl_1222 : ab_atL 9999 1222 (.iadd) 1 = true := by decide +kernel
theorem cl_1223 : ab_atL 9999 1223 (.iaload) 1 = true := by decide +kernel
theorem cl_1224 : ab_atL 9999 1224 (.invokevirtual 184) 3 = true := by decide +kernel
theorem cl_1227 : ab_atL 9999 1227 (.pop) 1 = true := by decide +kernel
theorem cl_1228 : ab_atL 9999 1228 (.aload_n 2) 1 = true := by decide +kernel
theorem cl_1229 : ab_atL 9999 1229 (.aload_n 0) 1 = true := by decide +kernel
theorem cl_1230 : ab_atL 9999 1230 (.iload 4) 2 = true := by decide +kernel
theorem cl_1232 : ab_atL 9999 1232 (.iconst 1) 1 = true := by decide +kernel
theorem cl_1233 : ab_atL 9999 1233 (.iadd) 1 = true := by decide +kernel
theorem cl_1234 : ab_atL 9999 1234 (.iaload) 1 = true := by decide +kernel
theorem cl_1235 : ab_atL 9999 1235 (.invokevirtual 187) 3 = true := by decide +kernel
theorem cl_1238 : ab_atL 9999 1238 (.pop) 1 = true := by decide +kernel
theorem cl_1239 : ab_atL 9999 1239 (.goto 53) 3 = true := by decide +kernel
theorem cl_1242 : ab_atL 9999 1242 (.aload_n 1) 1 = true := by decide +kernel
theorem cl_1243 : ab_atL 9999 1243 (.aload_n 0) 1 = true := by decide +kernel
theorem cl_1244 : ab_atL 9999 1244 (.iload 4) 2 = true := by decide +kernel
theorem cl_1246 : ab_atL 9999 1246 (.iconst 1) 1 = true := by decide +kernel
theorem cl_1247 : ab_atL 9999 1247 (.iadd) 1 = true := by decide +kernel
theorem cl_1248 : ab_atL 9999 1248 (.iaload) 1 = true := by decide +kernel
theorem cl_1249 : ab_atL 9999 1249 (.invokevirtual 188) 3 = true := by decide +kernel
theorem cl_1252 : ab_atL 9999 1252 (.pop) 1 = true := by decide +kernel
theorem cl_1253 : ab_atL 9999 1253 (.aload_n 2) 1 = true := by decide +kernel
theorem cl_1254 : ab_atL 9999 1254 (.aload_n 0) 1 = true := by decide +kernel
theorem cl_1255 : ab_atL 9999 1255 (.iload 4) 2 = true := by decide +kernel
theorem cl_1257 : ab_atL 9999 1257 (.iconst 1) 1 = true := by decide +kernel
theorem cl_1258 : ab_atL 9999 1258 (.iadd) 1 = true := by decide +kernel
theorem cl_1259 : ab_atL 9999 1259 (.iaload) 1 = true := by decide +kernel
theorem cl_1260 : ab_atL 9999 1260 (.invokevirtual 191) 3 = true := by decide +kernel
theorem cl_1263 : ab_atL 9999 1263 (.pop) 1 = true := by decide +kernel
theorem cl_1264 : ab_atL 9999 1264 (.goto 28) 3 = true := by decide +kernel
theorem ml_imX : (eg_md 1351).2.2.1 = 2 := by decide +kernel
theorem ml_reX : (eg_md 1355).2.2.1 = 2 := by decide +kernel
theorem ml_imM : (eg_md 2113).2.2.1 = 3 := by decide +kernel
theorem ml_reM : (eg_md 2117).2.2.1 = 3 := by decide +kernel
theorem hl_39 {sc : List Value} (hsc : ab_osc sc) (hL : sc.length ≤ 3072) {d : Nat} {i : Int} (h0 : 0 ≤ i) (h1 : i + 6 ≤ sc.length) {ls : eg_L} {h : eg_H} (hl : lg_L ls i) (hp : ab_hp h) (hj : jj h) : hs sc 1292 9999 12 (d + 14 + 1) (fun pc' ls' st' h' => pc' = 1292 ∧ ls' = ls ∧ st' = [] ∧ ab_hp h' ∧ jj h') 1217 ls [] h := by
  obtain ⟨l0, l1, l2, l3, xi, l4, hxi⟩ := hl
  obtain ⟨k, x, ei, hk0⟩ := lg_scr hsc h0 h1 hxi hL
  refine hl_ld rfl cl_1217 rfl l1 rfl ?_
  refine hl_ld rfl cl_1218 rfl l0 rfl ?_
  refine hl_ld rfl cl_1219 rfl l4 rfl ?_
  refine hl_iconst rfl cl_1221 ?_
  refine hl_iadd rfl cl_1222 ?_
  refine hl_scr rfl cl_1223 ei hk0 ?_
  refine hl_call (np := 1) rfl cl_1224 rfl rfl (by decide +kernel) rfl (ck_ob_v hp.1 (by decide +kernel) _ _) (by rw [ml_imX]; rfl) (k_imX hsc x hp) ?_
  rintro v9 h2 ⟨hp2, f2, ⟨r1, e8⟩, a0, a1, a2, a3, -, -, a4, a5, a6, a7⟩
  rw [e8]
  clear e8 v9
  simp only [Option.toList, List.cons_append, List.nil_append]
  refine hl_pop rfl cl_1227 rfl ?_
  refine hl_ld rfl cl_1228 rfl l2 rfl ?_
  refine hl_ld rfl cl_1229 rfl l0 rfl ?_
  refine hl_ld rfl cl_1230 rfl l4 rfl ?_
  refine hl_iconst rfl cl_1232 ?_
  refine hl_iadd rfl cl_1233 ?_
  refine hl_scr rfl cl_1234 ei hk0 ?_
  refine hl_call (np := 1) rfl cl_1235 rfl rfl (by decide +kernel) rfl (ck_ob_v hp2.1 (by decide +kernel) _ _) (by rw [ml_imM]; rfl) (m_imM hsc x hp2) ?_
  rintro v9 h3 ⟨hp3, f3, ⟨r2, e8⟩, b0, b1, b2, b3, b4, b5⟩
  rw [e8]
  clear e8 v9
  simp only [Option.toList, List.cons_append, List.nil_append]
  refine hl_pop rfl cl_1238 rfl ?_
  refine hl_goto (t := 1292) rfl cl_1239 rfl ?_
  obtain ⟨jt0, ⟨jl, jv1, jv2, jv3, jv4⟩, jf0⟩ := hj
  have jf3 : jf h3 := jf_fr (by decide +kernel) f3 (jf_fr (by decide +kernel) f2 jf0)
  have jt3 : jt h3 := jt_fr (by decide +kernel) f3 (jt_fr (by decide +kernel) f2 jt0)
  have m0 : hv h3 129 0 = hv h2 129 0 := hv_same (f3 129 0 rfl)
  have m1 : hv h3 129 1 = hv h2 129 1 := hv_same (f3 129 1 rfl)
  have w0 : hv h2 203 0 = hv h 203 0 := hv_same (f2 203 0 rfl)
  have w1 : hv h2 203 1 = hv h 203 1 := hv_same (f2 203 1 rfl)
  refine hs_k ⟨rfl, rfl, rfl, hp3, jt3, ⟨lp_fr (by decide +kernel) f3 (lp_fr (by decide +kernel) f2 jl), Int32.toInt_inj.mp ?_, Int32.toInt_inj.mp ?_, fun g => ?_, fun g => ?_⟩, jf3⟩
  · rw [m0, a0, b0, w0, jv1]
  · rw [m1, a1, b1, w1, jv2]
  · rw [m0, a0] at g
    by_cases e : x.toInt = 0
    · refine lp_mv jl (fun i hi => by rw [hv_same (f3 130 i rfl), a2 i hi, if_pos e]) (fun k hk => (hl_same (f3 131 k rfl)).trans ((a4 k hk).trans (if_pos e))) (fun k hk => (hl_same (f3 134 k rfl)).trans ((a6 k hk).trans (if_pos e))) (fun q hq => ?_) (fun q hq => ?_)
      · rw [Nat.zero_add, b2 q (by omega), if_pos e, hv_same (f2 184 q rfl)]
      · rw [Nat.zero_add, b4 q hq, if_pos e, hl_same (f2 187 q rfl)]
    · rw [if_neg e] at g
      refine lp_mv (jv3 g) (fun i hi => by rw [hv_same (f3 130 i rfl), a2 i hi, if_neg e]) (fun k hk => (hl_same (f3 131 k rfl)).trans ((a4 k hk).trans (if_neg e))) (fun k hk => (hl_same (f3 134 k rfl)).trans ((a6 k hk).trans (if_neg e))) (fun q hq => ?_) (fun q hq => ?_)
      · rw [Nat.zero_add, b2 q (by omega), if_neg e, hv_same (f2 201 q rfl)]
      · rw [Nat.zero_add, b4 q hq, if_neg e, hl_same (f2 202 q rfl)]
  · rw [m1, a1] at g
    by_cases e : x.toInt = 1
    · refine lp_mv jl (fun i hi => by rw [hv_same (f3 156 i rfl), a3 i hi, if_pos e]) (fun k hk => (hl_same (f3 157 k rfl)).trans ((a5 k hk).trans (if_pos e))) (fun k hk => (hl_same (f3 160 k rfl)).trans ((a7 k hk).trans (if_pos e))) (fun q hq => ?_) (fun q hq => ?_)
      · rw [Nat.zero_add, b3 q (by omega), if_pos e, hv_same (f2 184 q rfl)]
      · rw [Nat.zero_add, b5 q hq, if_pos e, hl_same (f2 187 q rfl)]
    · rw [if_neg e] at g
      refine lp_mv (jv4 g) (fun i hi => by rw [hv_same (f3 156 i rfl), a3 i hi, if_neg e]) (fun k hk => (hl_same (f3 157 k rfl)).trans ((a5 k hk).trans (if_neg e))) (fun k hk => (hl_same (f3 160 k rfl)).trans ((a7 k hk).trans (if_neg e))) (fun q hq => ?_) (fun q hq => ?_)
      · rw [b3 q (by omega), if_neg e, hv_same (f2 201 (307 + q) rfl)]
      · rw [b5 q hq, if_neg e, hl_same (f2 202 (16 + q) rfl)]
theorem hl_40 {sc : List Value} (hsc : ab_osc sc) (hL : sc.length ≤ 3072) {d : Nat} {i : Int} (h0 : 0 ≤ i) (h1 : i + 6 ≤ sc.length) {ls : eg_L} {h : eg_H} (hl : lg_L ls i) (hp : ab_hp h) (hj : jj h) : hs sc 1292 9999 12 (d + 14 + 1) (fun pc' ls' st' h' => pc' = 1292 ∧ ls' = ls ∧ st' = [] ∧ ab_hp h' ∧ jj h') 1242 ls [] h := by
  obtain ⟨l0, l1, l2, l3, xi, l4, hxi⟩ := hl
  obtain ⟨k, x, ei, hk0⟩ := lg_scr hsc h0 h1 hxi hL
  refine hl_ld rfl cl_1242 rfl l1 rfl ?_
  refine hl_ld rfl cl_1243 rfl l0 rfl ?_
  refine hl_ld rfl cl_1244 rfl l4 rfl ?_
  refine hl_iconst rfl cl_1246 ?_
  refine hl_iadd rfl cl_1247 ?_
  refine hl_scr rfl cl_1248 ei hk0 ?_
  refine hl_call (np := 1) rfl cl_1249 rfl rfl (by decide +kernel) rfl (ck_ob_v hp.1 (by decide +kernel) _ _) (by rw [ml_reX]; rfl) (k_reX hsc x hp) ?_
  rintro v9 h2 ⟨hp2, f2, ⟨r1, e8⟩, a2, -, a3, a4⟩
  rw [e8]
  clear e8 v9
  simp only [Option.toList, List.cons_append, List.nil_append]
  refine hl_pop rfl cl_1252 rfl ?_
  refine hl_ld rfl cl_1253 rfl l2 rfl ?_
  refine hl_ld rfl cl_1254 rfl l0 rfl ?_
  refine hl_ld rfl cl_1255 rfl l4 rfl ?_
  refine hl_iconst rfl cl_1257 ?_
  refine hl_iadd rfl cl_1258 ?_
  refine hl_scr rfl cl_1259 ei hk0 ?_
  refine hl_call (np := 1) rfl cl_1260 rfl rfl (by decide +kernel) rfl (ck_ob_v hp2.1 (by decide +kernel) _ _) (by rw [ml_reM]; rfl) (m_reM hsc x hp2) ?_
  rintro v9 h3 ⟨hp3, f3, ⟨r2, e8⟩, b2, b4⟩
  rw [e8]
  clear e8 v9
  simp only [Option.toList, List.cons_append, List.nil_append]
  refine hl_pop rfl cl_1263 rfl ?_
  refine hl_goto (t := 1292) rfl cl_1264 rfl ?_
  obtain ⟨jt0, ⟨jl, jv0⟩, jf0⟩ := hj
  have jf3 : jf h3 := jf_fr (by decide +kernel) f3 (jf_fr (by decide +kernel) f2 jf0)
  have jt3 : jt h3 := jt_fr (by decide +kernel) f3 (jt_fr (by decide +kernel) f2 jt0)
  have w0 : hv h2 203 0 = hv h 203 0 := hv_same (f2 203 0 rfl)
  have w1 : hv h2 203 1 = hv h 203 1 := hv_same (f2 203 1 rfl)
  have jv9 := jv_fr (M := MRM) (by decide +kernel) f3 (jv_fr (M := MRX) (by decide +kernel) f2 jv0)
  obtain ⟨jv1, jv2, jv3, jv4⟩ := jv0
  have b9 : ∀ q, q < 7 → hv h3 184 (0 + q) = if x.toInt = 0 ∧ (hv h 129 0).toInt = 1 then hv h2 201 q else if x.toInt = 1 ∧ (hv h 129 1).toInt = 1 then hv h2 201 (307 + q) else hv h2 184 q := fun q hq => by
    rw [Nat.zero_add, b2 q (by omega), w0, w1, ← jv1, ← jv2]
  have b8 : ∀ q, q < 16 → hl h3 187 (0 + q) = if x.toInt = 0 ∧ (hv h 129 0).toInt = 1 then hl h2 202 q else if x.toInt = 1 ∧ (hv h 129 1).toInt = 1 then hl h2 202 (16 + q) else hl h2 187 q := fun q hq => by
    rw [Nat.zero_add, b4 q (by omega), w0, w1, ← jv1, ← jv2]
  refine hs_k ⟨rfl, rfl, rfl, hp3, jt3, ⟨?_, jv9⟩, jf3⟩
  by_cases c0 : x.toInt = 0 ∧ (hv h 129 0).toInt = 1
  · refine lp_mv (jv3 c0.2) (fun i hi => by rw [hv_same (f3 8 i rfl), a2 i hi, if_pos c0]) (fun k hk => (hl_same (f3 9 k rfl)).trans ((a3 k hk).trans (if_pos c0))) (fun k hk => (hl_same (f3 12 k rfl)).trans ((a4 k hk).trans (if_pos c0))) (fun q hq => ?_) (fun q hq => ?_)
    · rw [b9 q hq, if_pos c0, hv_same (f2 201 q rfl), Nat.zero_add]
    · rw [b8 q hq, if_pos c0, hl_same (f2 202 q rfl), Nat.zero_add]
  · by_cases c1 : x.toInt = 1 ∧ (hv h 129 1).toInt = 1
    · refine lp_mv (jv4 c1.2) (fun i hi => by rw [hv_same (f3 8 i rfl), a2 i hi, if_neg c0, if_pos c1]) (fun k hk => (hl_same (f3 9 k rfl)).trans ((a3 k hk).trans ((if_neg c0).trans (if_pos c1)))) (fun k hk => (hl_same (f3 12 k rfl)).trans ((a4 k hk).trans ((if_neg c0).trans (if_pos c1)))) (fun q hq => ?_) (fun q hq => ?_)
      · rw [b9 q hq, if_neg c0, if_pos c1, hv_same (f2 201 (307 + q) rfl)]
      · rw [b8 q hq, if_neg c0, if_pos c1, hl_same (f2 202 (16 + q) rfl)]
    · refine lp_mv jl (fun i hi => by rw [hv_same (f3 8 i rfl), a2 i hi, if_neg c0, if_neg c1]) (fun k hk => (hl_same (f3 9 k rfl)).trans ((a3 k hk).trans ((if_neg c0).trans (if_neg c1)))) (fun k hk => (hl_same (f3 12 k rfl)).trans ((a4 k hk).trans ((if_neg c0).trans (if_neg c1)))) (fun q hq => ?_) (fun q hq => ?_)
      · rw [b9 q hq, if_neg c0, if_neg c1, hv_same (f2 184 q rfl), Nat.zero_add]
      · rw [b8 q hq, if_neg c0, if_neg c1, hl_same (f2 187 q rfl), Nat.zero_add]
theorem ml_snX : (eg_md 1242).2.2.1 = 2 := by decide +kernel
theorem ml_snM : (eg_md 2073).2.2.1 = 3 := by decide +kernel
/-- the names of the headland -/
def pz (h : eg_H) : PS := (fun k => (hv h 8 k).toInt, fun b q => if b = 0 then (hl h 9 q).toInt else (hl h 12 q).toInt)
theorem hl_37 {sc : List Value} (hsc : ab_osc sc) (hL : sc.length ≤ 3072) {d : Nat} {i : Int} (h0 : 0 ≤ i) (h1 : i + 6 ≤ sc.length) {ls : eg_L} {h : eg_H} (hl : lg_L ls i) (hp : ab_hp h) (hj : jj h) : hs sc 1292 9999 12 (d + 38 + 1) (fun pc' ls' st' h' => pc' = 1292 ∧ ls' = ls ∧ st' = [] ∧ ab_hp h' ∧ jj h') 1179 ls [] h := by
  obtain ⟨l0, l1, l2, l3, xi, l4, hxi⟩ := hl
  obtain ⟨⟨j1, j2, j3, j4⟩, ⟨jl, jv0⟩, -⟩ := hj
  have hL0 : LN h (pz h) := ⟨rfl, fun q _ => rfl⟩
  refine hl_ld rfl cl_1179 rfl l1 rfl ?_
  refine hl_call (np := 0) rfl cl_1180 rfl rfl (by decide +kernel) rfl (ck_ob_v hp.1 (by decide +kernel) _ _) (by rw [ml_snX]; rfl) (k_sent hsc hp j3 hL0) ?_
  rintro v9 h2 ⟨hp2, f2, a1, r1, tk, ta, P, m, e8, ⟨m2, m1, m4, m5, m7⟩, b1⟩
  rw [e8]
  clear e8 v9
  simp only [Option.toList, List.cons_append, List.nil_append]
  refine hl_pop rfl cl_1183 rfl ?_
  have eB : bM h2 = bM h := funext (fun q => by unfold bM; rw [hv_same (f2 183 q rfl)])
  have eN : hv h2 182 2 = hv h 182 2 := hv_same (f2 182 2 rfl)
  have ts : TS (bM h) (hv h 1 1).toInt.toNat 200 tk ta P := fun t => tx_X_same (fun q hq => j2 q (by omega)) (m5 t)
  obtain ⟨-, c1, c2⟩ := sb_v (a := 1) (k := 1) (lo := .ofNat 0) (hi := .ofNat 940) hp (by decide +kernel)
  have c1 : (0 : Int) ≤ (hv h 1 1).toInt := c1
  have e4 : hv h 8 4 = hv h 184 0 := jl.1 4 (by decide)
  have hN0 : RN h2 (pz h) := ⟨by rw [hv_same (f2 184 0 rfl), ← e4]; rfl, fun q hq => by
    have := jl.2.2.1 q hq
    rw [Nat.zero_add] at this
    rw [hl_same (f2 187 q rfl)]
    exact this⟩
  refine hl_ld rfl cl_1184 rfl l2 rfl ?_
  refine hl_call (np := 0) rfl cl_1185 rfl rfl (by decide +kernel) rfl (ck_ob_v hp2.1 (by decide +kernel) _ _) (by rw [ml_snM]; rfl) (m_sent (m := m) hsc ts m4 eB (by rw [eN, ← j1]; omega) hp2 (j4.fr f2 (fun _ => rfl)) hN0) ?_
  rintro v9 h3 ⟨hp3, f3, b2, r2, e8, b3⟩
  rw [e8]
  clear e8 v9
  simp only [Option.toList, List.cons_append, List.nil_append]
  obtain ⟨e, e15⟩ := sa_one b1 b3
  have hj3 : jj h3 := ⟨jt_z (h := h) (by rw [hv_same (f3 1 1 rfl)]; exact a1) b2 (jk_fr (by decide +kernel) f3 (jk_fr (by decide +kernel) f2 ⟨j3, j4⟩)), jr_fr (by decide +kernel) f3 (jr_fr (by decide +kernel) f2 ⟨jl, jv0⟩), Int32.toInt_inj.mp (by rw [hv_same (f3 0 15 rfl)]; exact e15)⟩
  refine hl_pop rfl cl_1188 rfl ?_
  refine hl_goto (t := 1292) rfl cl_1189 rfl ?_
  exact hs_k ⟨rfl, rfl, rfl, hp3, hj3⟩
theorem hl_35 {sc : List Value} (hsc : ab_osc sc) (hL : sc.length ≤ 3072) {d : Nat} {i : Int} (h0 : 0 ≤ i) (h1 : i + 6 ≤ sc.length) {ls : eg_L} {h : eg_H} (hl : lg_L ls i) (hp : ab_hp h) (hj : jj h) : hs sc 1292 9999 12 (d + 14 + 1) (fun pc' ls' st' h' => pc' = 1292 ∧ ls' = ls ∧ st' = [] ∧ ab_hp h' ∧ jj h') 1129 ls [] h := by
  obtain ⟨l0, l1, l2, l3, xi, l4, hxi⟩ := hl
  obtain ⟨k, x, ei, hk0⟩ := lg_scr hsc h0 h1 hxi hL
  by_cases hx : 0 ≤ x.toInt ∧ x.toInt ≤ 1
  · obtain ⟨⟨j1, j2, j3, j4⟩, ⟨jl, jv0⟩, -⟩ := hj
    have hN0 : PN h (pz h) := ⟨rfl, fun q _ => rfl⟩
    refine hl_ld rfl cl_1129 rfl l1 rfl ?_
    refine hl_ld rfl cl_1130 rfl l0 rfl ?_
    refine hl_ld rfl cl_1131 rfl l4 rfl ?_
    refine hl_iconst rfl cl_1133 ?_
    refine hl_iadd rfl cl_1134 ?_
    refine hl_scr rfl cl_1135 ei hk0 ?_
    refine hl_call (np := 1) rfl cl_1136 rfl rfl (by decide +kernel) rfl (ck_ob_v hp.1 (by decide +kernel) _ _) (by rw [ml_bkX]; rfl) (k_book hsc hp j3 hN0 hx.1 hx.2) ?_
    rintro v9 h2 ⟨hp2, f2, a1, ⟨r1, e8⟩, tk, ta, P, m, ⟨m2, m1, m4, m5, m7⟩, b1⟩
    rw [e8]
    clear e8 v9
    simp only [Option.toList, List.cons_append, List.nil_append]
    refine hl_pop rfl cl_1139 rfl ?_
    have eB : bM h2 = bM h := funext (fun q => by unfold bM; rw [hv_same (f2 183 q rfl)])
    have eN : hv h2 182 2 = hv h 182 2 := hv_same (f2 182 2 rfl)
    have ts : TS (bM h) (hv h 1 1).toInt.toNat 400 tk ta P := fun t => tx_X_same (fun q hq => j2 q (by omega)) (m5 t)
    obtain ⟨-, c1, c2⟩ := sb_v (a := 1) (k := 1) (lo := .ofNat 0) (hi := .ofNat 940) hp (by decide +kernel)
    have c1 : (0 : Int) ≤ (hv h 1 1).toInt := c1
    have e4 : hv h 8 5 = hv h 184 1 := jl.1 5 (by decide)
    have hN2 : RP h2 (pz h) := ⟨by rw [hv_same (f2 184 1 rfl), ← e4]; rfl, fun q hq => by
      have := jl.2.2.2 q hq
      rw [Nat.zero_add] at this
      rw [hl_same (f2 187 (6 + q) rfl)]
      exact this⟩
    refine hl_ld rfl cl_1140 rfl l2 rfl ?_
    refine hl_ld rfl cl_1141 rfl l0 rfl ?_
    refine hl_ld rfl cl_1142 rfl l4 rfl ?_
    refine hl_iconst rfl cl_1144 ?_
    refine hl_iadd rfl cl_1145 ?_
    refine hl_scr rfl cl_1146 ei hk0 ?_
    refine hl_call (np := 1) rfl cl_1147 rfl rfl (by decide +kernel) rfl (ck_ob_v hp2.1 (by decide +kernel) _ _) (by rw [ml_bkM]; rfl) (m_book (m := m) hsc ts m4 eB (by rw [eN, ← j1]; omega) hp2 (j4.fr f2 (fun _ => rfl)) hN2 hx.1 hx.2) ?_
    rintro v9 h3 ⟨hp3, f3, b2, ⟨r2, e8⟩, b3⟩
    rw [e8]
    clear e8 v9
    simp only [Option.toList, List.cons_append, List.nil_append]
    refine hl_pop rfl cl_1150 rfl ?_
    refine hl_goto (t := 1292) rfl cl_1151 rfl ?_
    exact hs_k ⟨rfl, rfl, rfl, hp3, jt_z (h := h) (by rw [hv_same (f3 1 1 rfl)]; exact a1) b2 (jk_fr (by decide +kernel) f3 (jk_fr (by decide +kernel) f2 ⟨j3, j4⟩)), jr_fr (by decide +kernel) f3 (jr_fr (by decide +kernel) f2 ⟨jl, jv0⟩), Int32.toInt_inj.mp (by rw [hv_same (f3 0 15 rfl)]; exact bkq_one b1 b3)⟩
  · refine hl_ld rfl cl_1129 rfl l1 rfl ?_
    refine hl_ld rfl cl_1130 rfl l0 rfl ?_
    refine hl_ld rfl cl_1131 rfl l4 rfl ?_
    refine hl_iconst rfl cl_1133 ?_
    refine hl_iadd rfl cl_1134 ?_
    refine hl_scr rfl cl_1135 ei hk0 ?_
    refine hl_call (np := 1) rfl cl_1136 rfl rfl (by decide +kernel) rfl (ck_ob_v hp.1 (by decide +kernel) _ _) (by rw [ml_bkX]; rfl) (k_bookN hp hx) ?_
    rintro v9 h9 ⟨e9, r1, e8⟩
    rw [e8, e9]
    clear e8 e9 v9 h9
    simp only [Option.toList, List.cons_append, List.nil_append]
    refine hl_pop rfl cl_1139 rfl ?_
    refine hl_ld rfl cl_1140 rfl l2 rfl ?_
    refine hl_ld rfl cl_1141 rfl l0 rfl ?_
    refine hl_ld rfl cl_1142 rfl l4 rfl ?_
    refine hl_iconst rfl cl_1144 ?_
    refine hl_iadd rfl cl_1145 ?_
    refine hl_scr rfl cl_1146 ei hk0 ?_
    refine hl_call (np := 1) rfl cl_1147 rfl rfl (by decide +kernel) rfl (ck_ob_v hp.1 (by decide +kernel) _ _) (by rw [ml_bkM]; rfl) (m_bookN hp hx) ?_
    rintro v9 h3 ⟨hp3, f3, r2, e8⟩
    rw [e8]
    clear e8 v9
    simp only [Option.toList, List.cons_append, List.nil_append]
    refine hl_pop rfl cl_1150 rfl ?_
    refine hl_goto (t := 1292) rfl cl_1151 rfl ?_
    exact hs_k ⟨rfl, rfl, rfl, hp3, jj_fr (by decide +kernel) f3 hj⟩
theorem cl_335 : ab_atL 9999 335 (.aload_n 1) 1 = true := by decide +kernel
theorem cl_336 : ab_atL 9999 336 (.invokevirtual 37) 3 = true := by decide +kernel
theorem cl_339 : ab_atL 9999 339 (.aload_n 2) 1 = true := by decide +kernel
theorem cl_340 : ab_atL 9999 340 (.invokevirtual 40) 3 = true := by decide +kernel
theorem cl_343 : ab_atL 9999 343 (.if_icmp .eq 949) 3 = true := by decide +kernel
theorem ml_ftX : (eg_md 851).2.2.1 = 1 := by decide +kernel
theorem ml_ftM : (eg_md 1742).2.2.1 = 1 := by decide +kernel
theorem hl_3 {sc : List Value} (hsc : ab_osc sc) (hL : sc.length ≤ 3072) {d : Nat} {i : Int} (h0 : 0 ≤ i) (h1 : i + 6 ≤ sc.length) {ls : eg_L} {h : eg_H} (hl : lg_L ls i) (hp : ab_hp h) (hj : jj h) : hs sc 1292 9999 12 (d + 14 + 1) (fun pc' ls' st' h' => pc' = 1292 ∧ ls' = ls ∧ st' = [] ∧ ab_hp h' ∧ jj h') 335 ls [] h := by
  obtain ⟨l0, l1, l2, l3, xi, l4, hxi⟩ := hl
  refine hl_ld rfl cl_335 rfl l1 rfl ?_
  refine hl_call (np := 0) rfl cl_336 rfl rfl (by decide +kernel) rfl (ck_ob_v hp.1 (by decide +kernel) _ _) (by rw [ml_ftX]; rfl) (k_flt hp) ?_
  rintro v9 h9 ⟨e9, e8⟩
  rw [e8, e9]
  clear e8 e9 v9 h9
  simp only [Option.toList, List.cons_append, List.nil_append]
  refine hl_ld rfl cl_339 rfl l2 rfl ?_
  refine hl_call (np := 0) rfl cl_340 rfl rfl (by decide +kernel) rfl (ck_ob_v hp.1 (by decide +kernel) _ _) (by rw [ml_ftM]; rfl) (m_flt hp) ?_
  rintro v9 h3 ⟨hp3, f3, e8⟩
  rw [e8]
  clear e8 v9
  simp only [Option.toList, List.cons_append, List.nil_append]
  have e : (hv h 0 15).toInt = (hv h3 182 15).toInt := by
    have e1 : hv h 0 15 = hv h 182 15 := hj.2.2
    rw [hv_same (f3 182 15 rfl), e1]
  refine hl_ic (t := 1292) rfl cl_343 rfl (fun b => ?_) (fun b => ?_)
  · exact hs_k ⟨rfl, rfl, rfl, hp3, jj_fr (by decide +kernel) f3 hj⟩
  · simp only [hs_cd, ab_not] at b
    omega
