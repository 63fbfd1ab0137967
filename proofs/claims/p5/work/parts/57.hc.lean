/-! BY HAND: calls -/
/-- a call comes back: what it answers, the heap then -/
def mc (sc : List Value) (sp mu o d : Nat) (as : List Value) (h : eg_H) (Post : Option Value → eg_H → Prop) : Prop := hs sc sp mu o d (fun pc' _ st' h' => ∃ ik vo, ab_ret mu pc' = some ik ∧ eg_rv (eg_md mu).2.2.2 ik st' = some vo ∧ Post vo h') 0 (eg_args 0 as) [] h
theorem mc.mono {sc : List Value} {sp mu o d : Nat} {as : List Value} {h : eg_H} {P Q : Option Value → eg_H → Prop} (m : mc sc sp mu o d as h P) (hk : ∀ vo h', P vo h' → Q vo h') : mc sc sp mu o d as h Q := hs.mono m (fun _ _ _ _ ⟨ik, vo, h1, h2, h3⟩ => ⟨ik, vo, h1, h2, hk _ _ h3⟩)
def ck_cl (o k kind mu o' np : Nat) : Bool := (match eg_at o eg_cx k with
  | some (kd, _, m, oo, n, _) => Nat.beq kd kind && Nat.beq m mu && Nat.beq oo o' && Nat.beq n np
  | none => false) && (Nat.beq kind 0 || Nat.beq kind 2) && !(Nat.beq mu 9999) && Nat.beq (eg_bud mu).1 0 && Nat.beq (eg_bud mu).2 0 && (match eg_pg mu with
  | (p, _, _) :: _ => Nat.beq p 0
  | [] => false)
set_option maxHeartbeats 1000000 in
theorem hs_call {sc : List Value} {sp u o d pc : Nat} {K : Nat → eg_L → List Value → eg_H → Prop} {ls : eg_L} {st0 as st1 as2 st2 : List Value} {h : eg_H} {i : Instr} {ik k mu o' np : Nat} {Post : Option Value → eg_H → Prop} (c : ab_at u pc i 3 = true) (hks : eg_ks i 3 = some (ik, k)) (hG : eg_hd [] sc u o pc i 3 = none) (hcx : ck_cl o k ik mu o' np = true) (hpop : eg_pop np st0 [] = some (as, st1)) (hrcv : eg_rcv ik o' h as st1 = some (as2, st2)) (hcat : (Nat.ble (eg_cat st2) 8 && Nat.ble (eg_cat as2) (eg_md mu).2.2.1) = true) (m : mc sc sp mu o' d as2 h Post) (n : ∀ vo h', Post vo h' → hs sc sp u o (d + 1) K (pc + 3) ls (vo.toList ++ st2) h') : hs sc sp u o (d + 1) K pc ls st0 h := by
  obtain ⟨hu, hs0⟩ := ab_at_v c
  obtain ⟨pc1, ls1, st3, h1, g1, ir, vo, hir, hrv, hpost⟩ := m
  refine (n vo h1 hpost).pre ?_
  intro r hr
  unfold ck_cl at hcx
  have c1 := Bool.and_eq_true_iff.mp hcx
  have c2 := Bool.and_eq_true_iff.mp c1.1
  have c3 := Bool.and_eq_true_iff.mp c2.1
  have c4 := Bool.and_eq_true_iff.mp c3.1
  have c5 := Bool.and_eq_true_iff.mp c4.1
  have hb1 := Nat.eq_of_beq_eq_true c3.2
  have hb2 := Nat.eq_of_beq_eq_true c2.2
  have hmu : Nat.beq mu 9999 = false := by
    have := c4.2
    cases hb : Nat.beq mu 9999 with
    | false => rfl
    | true => rw [hb] at this; cases this
  cases ha : eg_at o eg_cx k with
  | none => have := c5.1; rw [ha] at this; cases this
  | some e =>
    obtain ⟨kd, pl, m', oo, n', pa, pb, pi⟩ := e
    have c6 := c5.1
    rw [ha] at c6
    simp only at c6
    have d1 := Bool.and_eq_true_iff.mp c6
    have d2 := Bool.and_eq_true_iff.mp d1.1
    have d3 := Bool.and_eq_true_iff.mp d2.1
    obtain rfl := Nat.eq_of_beq_eq_true d3.1
    obtain rfl := Nat.eq_of_beq_eq_true d3.2
    obtain rfl := Nat.eq_of_beq_eq_true d2.2
    obtain rfl := Nat.eq_of_beq_eq_true d1.2
    have hk02 : kd = 0 ∨ kd = 2 := by
      rcases Bool.or_eq_true_iff.mp c5.2 with e | e
      · exact Or.inl (Nat.eq_of_beq_eq_true e)
      · exact Or.inr (Nat.eq_of_beq_eq_true e)
    have hik : Nat.ble 3 kd = false := by rcases hk02 with rfl | rfl <;> rfl
    have hk4 : Nat.ble 4 kd = false := by rcases hk02 with rfl | rfl <;> rfl
    have hkb : (bif Nat.beq kd 3 then Nat.beq kd 1 else Nat.beq kd kd) = true := by rcases hk02 with rfl | rfl <;> rfl
    have hk13 : (Nat.beq kd 1 || Nat.beq kd 3) = false := by rcases hk02 with rfl | rfl <;> rfl
    refine ab_Re_call hs0 (by rw [hu, Bool.and_false]) hG hks hik ?_
    obtain ⟨m1, hm1⟩ := g1 _ (ab_ret_v hmu hir)
    obtain ⟨m2, hm2⟩ := hr
    refine ⟨m1 + m2, ?_⟩
    have w1 := eg_run_mo (Nat.le_add_right m1 m2) _ _ _ _ _ _ _ _ _ _ _ _ hm1
    have w2 := eg_run_mo (Nat.le_add_left m2 m1) _ _ _ _ _ _ _ _ _ _ _ _ hm2
    have hpg : eg_seek 0 (eg_pg m') = eg_pg m' := by
      have := c1.2
      split at this
      next p i0 l0 cs0 hpg =>
        rw [hpg]
        unfold eg_seek
        rw [this]
      next => cases this
    rw [hpg] at w1
    have hcat2 := Bool.and_eq_true_iff.mp hcat
    have hcc : (!(Nat.beq m' 9999) && Nat.ble (eg_cat st2) 8 && Nat.ble (eg_cat as2) (eg_md m').2.2.1 && Nat.ble 0 0 && Nat.ble 0 0) = true := by rw [hmu, hcat2.1, hcat2.2]; rfl
    simp only [eg_call, ha, hk4, hkb, cond_true, hpop, hrcv, hb1, hb2, hcc, w1, hrv]
    cases vo with
    | none => exact w2
    | some z =>
      simp only [hk13, cond_false]
      exact w2
/-- the object is of this class -/
def ck_ob (a o' : Nat) : Bool := match ab_get a with
  | some (tag, _) => Nat.beq tag (100 + o')
  | none => false
theorem ck_ob_v {h : eg_H} {a o' : Nat} (hp : ab_hp0 h) (c : ck_ob a o' = true) (as st : List Value) : eg_rcv 0 o' h as (.ref a :: st) = some (.ref a :: as, st) := by
  unfold ck_ob at c
  cases hg : ab_get a with
  | none => rw [hg] at c; cases c
  | some cc =>
    obtain ⟨tag, rg⟩ := cc
    rw [hg] at c
    obtain rfl := Nat.eq_of_beq_eq_true (show Nat.beq tag (100 + o') = true from c)
    obtain ⟨⟨xs, s1, -⟩, -⟩ := hp a _ hg
    have h6 := ab_sh_obj s1
    simp only [eg_rcv, eg_obj, h6, Nat.beq_refl, cond_true]
section HC
variable {sc : List Value} {sp u o d pc : Nat} {K : Nat → eg_L → List Value → eg_H → Prop} {ls : eg_L} {st : List Value} {h : eg_H}
theorem hs_cv {k a : Nat} {st0 as : List Value} (mu o' np : Nat) {Post : Option Value → eg_H → Prop} (c : ab_at u pc (.invokevirtual k) 3 = true) (hcx : ck_cl o k 0 mu o' np = true) (hob : ck_ob a o' = true) (hp : ab_hp0 h) (hpop : eg_pop np st0 [] = some (as, .ref a :: st)) (hcat : (Nat.ble (eg_cat st) 8 && Nat.ble (eg_cat (.ref a :: as)) (eg_md mu).2.2.1) = true) (m : mc sc sp mu o' d (.ref a :: as) h Post) (n : ∀ vo h', Post vo h' → hs sc sp u o (d + 1) K (pc + 3) ls (vo.toList ++ st) h') : hs sc sp u o (d + 1) K pc ls st0 h := hs_call c rfl rfl hcx hpop (ck_ob_v hp hob as st) hcat m n
theorem hs_cs {k : Nat} {st0 as : List Value} (mu o' np : Nat) {Post : Option Value → eg_H → Prop} (c : ab_at u pc (.invokestatic k) 3 = true) (hcx : ck_cl o k 2 mu o' np = true) (hpop : eg_pop np st0 [] = some (as, st)) (hcat : (Nat.ble (eg_cat st) 8 && Nat.ble (eg_cat as) (eg_md mu).2.2.1) = true) (m : mc sc sp mu o' d as h Post) (n : ∀ vo h', Post vo h' → hs sc sp u o (d + 1) K (pc + 3) ls (vo.toList ++ st) h') : hs sc sp u o (d + 1) K pc ls st0 h := hs_call c rfl rfl hcx hpop rfl hcat m n
end HC
/-! a summary as a contract -/
/-- every end is a return; what is known of what it answers: an int within bounds, or nothing at all -/
def ck_en (mu : Nat) (iv : Option (Int × Int)) (ends : List (Nat × ab_S)) : Bool := ends.all (fun e => match ab_ret mu e.1 with
  | none => false
  | some ir => (match ab_rv (eg_md mu).2.2.2 ir e.2.2.1 e.2.2.2.2.1 with
    | some [.inl (j, d)] => (match iv with
      | some (lo, hi) => decide (lo ≤ (ab_iv e.2.2.1 j d).1) && decide ((ab_iv e.2.2.1 j d).2 ≤ hi)
      | none => false)
    | some [] => (match iv with
      | none => true
      | _ => false)
    | _ => false))
def mc_P (M : ab_M) (h : eg_H) (iv : Option (Int × Int)) (vo : Option Value) (h' : eg_H) : Prop := ab_hp h' ∧ ab_fr M h' h ∧ (match iv with
  | some (lo, hi) => ∃ r : Int32, vo = some (.int r) ∧ lo ≤ r.toInt ∧ r.toInt ≤ hi
  | none => vo = none)
theorem mc_q {q : ab_Q} (hq : ab_Tr q) {iv : Option (Int × Int)} (ck : (Nat.beq q.2.2.1 0 && ck_en q.1 iv q.2.2.2.2.2.2.1) = true) {sc : List Value} {sp : Nat} (hsc : ab_osc sc) {d : Nat} (hd : q.2.2.2.1 ≤ d) {ν : Nat → Int} {as : List Value} {h : eg_H} (hr : ab_r sc.length ν q.2.2.2.2.1 (eg_args 0 as) [] h) : mc sc sp q.1 q.2.1 d as h (mc_P q.2.2.2.2.2.1 h iv) := by
  obtain ⟨u, o, pc, need, P, M, ends, rank⟩ := q
  simp only at *
  have c1 := Bool.and_eq_true_iff.mp ck
  obtain rfl := Nat.eq_of_beq_eq_true c1.1
  obtain ⟨-, -, ht⟩ := hq sc sp hsc
  obtain ⟨e, he, ν', ls', st', h', g1, g2, g3, g4, g5⟩ := ht d hd ν _ _ h hr
  refine ⟨e.1, ls', st', h', g5, ?_⟩
  have c2 := List.all_eq_true.mp c1.2 e he
  split at c2
  next => cases c2
  next ir hir =>
    split at c2
    next j dd hrv =>
      obtain ⟨vo, v1, v2⟩ := ab_rv_ok g1.2.1 g1.1.2.1 g1.2.2.2.1 hrv
      refine ⟨ir, vo, hir, v1, g1.2.2.2.2.2, g4, ?_⟩
      split at c2
      next lo hi =>
        obtain ⟨_, t, e1, ⟨x, rfl, hj, hx⟩, ht2⟩ := v2
        obtain rfl : t = [] := ht2
        have hx : x.toInt = ν' j + dd := hx
        have hi2 := ab_iv_v (en := e.2.2.1) (j := j) (d := dd) g1.2.1 g1.1.2.1 hx
        have c3 := Bool.and_eq_true_iff.mp c2
        have c4 := of_decide_eq_true c3.1
        have c5 := of_decide_eq_true c3.2
        cases vo with
        | none => cases e1
        | some z =>
          cases e1
          exact ⟨x, rfl, by omega, by omega⟩
      next => cases c2
    next hrv =>
      obtain ⟨vo, v1, v2⟩ := ab_rv_ok g1.2.1 g1.1.2.1 g1.2.2.2.1 hrv
      refine ⟨ir, vo, hir, v1, g1.2.2.2.2.2, g4, ?_⟩
      split at c2
      next =>
        cases vo with
        | none => rfl
        | some z => cases (show [z] = [] from v2)
      next => cases c2
    next => cases c2
/-! how a state is as a summary has it -/
/-- locals, one by one; the bounds of ints -/
def ar_v (as : List Value) : Nat → ab_A → Nat → Prop
  | i, .inl (j, 0), n => ∃ x : Int32, eg_find i (eg_args 0 as) = some (.int x) ∧ j < n
  | i, .inr (k + 2), _ => eg_find i (eg_args 0 as) = some (.ref k)
  | _, _, _ => False
/-- the valuation that the int arguments give: symbol 2 the first, and so on -/
def ar_n (L : Nat) (xs : List Int32) : Nat → Int
  | 0 => 0
  | 1 => L
  | j + 2 => match xs[j]? with
    | some x => x.toInt
    | none => 0
theorem ar_e {L : Nat} {xs : List Int32} {n : Nat} {en : ab_E} (hm : ∀ q ∈ en, ∃ lo hi, q.2 = (lo, hi, false, none) ∧ q.1 < n ∧ lo ≤ ar_n L xs q.1 ∧ ar_n L xs q.1 ≤ hi) : ab_e (ar_n L xs) n en := fun j B hf => by
  obtain ⟨lo, hi, e, h1, h2, h3⟩ := hm _ (eg_find_mem hf)
  simp only at e h1 h2 h3
  subst e
  exact ⟨h1, h2, h3, (fun e => by cases e), fun b r e => by cases e⟩
/-- an object and ints -/
theorem ar_r {L : Nat} {a n : Nat} {xs : List Int32} {en : ab_E} {la : List (Nat × ab_A)} {as : List Value} {h : eg_H} (hn : 2 ≤ n) (hp : ab_hp h) (he : ∀ q ∈ en, ∃ lo hi, q.2 = (lo, hi, false, none) ∧ q.1 < n ∧ lo ≤ ar_n L xs q.1 ∧ ar_n L xs q.1 ≤ hi) (hl : ∀ q ∈ la, ∃ v, eg_find q.1 (eg_args 0 as) = some v ∧ ab_v (ar_n L xs) n q.2 v) : ab_r L (ar_n L xs) (n, en, la, [], []) (eg_args 0 as) [] h :=
  ⟨⟨hn, rfl, rfl⟩, ar_e he, fun k A hm => hl (k, A) hm, rfl, (fun _ _ _ hf => by cases hf), hp⟩
/-- this, and no int -/
theorem ar_0 {L a : Nat} {h : eg_H} (hp : ab_hp h) : ab_r L (ar_n L []) (2, [], [(0, .inr (a + 2))], [], []) (eg_args 0 [.ref a]) [] h := ar_r (a := a) (by omega) hp (fun q hq => nomatch hq) (fun q hq => by
  simp only [List.mem_cons, List.not_mem_nil, or_false] at hq
  subst hq
  exact ⟨.ref a, rfl, rfl⟩)
theorem ar_1 {L a : Nat} {lo hi : Int} {h : eg_H} {x : Int32} (hp : ab_hp h) (h1 : lo ≤ x.toInt) (h2 : x.toInt ≤ hi) : ab_r L (ar_n L [x]) (3, [(2, lo, hi, false, none)], [(0, .inr (a + 2)), (1, .inl (2, .ofNat 0))], [], []) (eg_args 0 [.ref a, .int x]) [] h := ar_r (a := a) (by omega) hp (fun q hq => by
  simp only [List.mem_cons, List.not_mem_nil, or_false] at hq
  subst hq
  exact ⟨lo, hi, rfl, by show 2 < _; decide, h1, h2⟩) (fun q hq => by
  simp only [List.mem_cons, List.not_mem_nil, or_false] at hq
  rcases hq with rfl | rfl
  · exact ⟨.ref a, rfl, rfl⟩
  · exact ⟨.int x, rfl, x, rfl, by decide, by show x.toInt = x.toInt + 0; omega⟩)
theorem ar_2 {L a : Nat} {lo hi lo2 hi2 : Int} {h : eg_H} {x y : Int32} (hp : ab_hp h) (h1 : lo ≤ x.toInt) (h2 : x.toInt ≤ hi) (h3 : lo2 ≤ y.toInt) (h4 : y.toInt ≤ hi2) : ab_r L (ar_n L [x, y]) (4, [(2, lo, hi, false, none), (3, lo2, hi2, false, none)], [(0, .inr (a + 2)), (1, .inl (2, .ofNat 0)), (2, .inl (3, .ofNat 0))], [], []) (eg_args 0 [.ref a, .int x, .int y]) [] h := ar_r (a := a) (by omega) hp (fun q hq => by
  simp only [List.mem_cons, List.not_mem_nil, or_false] at hq
  rcases hq with rfl | rfl
  · exact ⟨lo, hi, rfl, by show 2 < _; decide, h1, h2⟩
  · exact ⟨lo2, hi2, rfl, by show 3 < _; decide, h3, h4⟩) (fun q hq => by
  simp only [List.mem_cons, List.not_mem_nil, or_false] at hq
  rcases hq with rfl | rfl | rfl
  · exact ⟨.ref a, rfl, rfl⟩
  · exact ⟨.int x, rfl, x, rfl, by decide, by show x.toInt = x.toInt + 0; omega⟩
  · exact ⟨.int y, rfl, y, rfl, by decide, by show y.toInt = y.toInt + 0; omega⟩)
/-- one int alone -/
theorem ar_s1 {L : Nat} {lo hi : Int} {h : eg_H} {x : Int32} (hp : ab_hp h) (h1 : lo ≤ x.toInt) (h2 : x.toInt ≤ hi) : ab_r L (ar_n L [x]) (3, [(2, lo, hi, false, none)], [(0, .inl (2, .ofNat 0))], [], []) (eg_args 0 [.int x]) [] h := ar_r (a := 0) (by omega) hp (fun q hq => by
  simp only [List.mem_cons, List.not_mem_nil, or_false] at hq
  subst hq
  exact ⟨lo, hi, rfl, by show 2 < _; decide, h1, h2⟩) (fun q hq => by
  simp only [List.mem_cons, List.not_mem_nil, or_false] at hq
  subst hq
  exact ⟨.int x, rfl, x, rfl, by decide, by show x.toInt = x.toInt + 0; omega⟩)
