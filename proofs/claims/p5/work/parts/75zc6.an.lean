/-! BY HAND: two contracts of one call; a fault's slot that stays 0 -/
section AN
variable {sc : List Value} {sp d : Nat} {h : eg_H}
theorem mc.and {mu o : Nat} {as : List Value} {P Q : Option Value → eg_H → Prop} (hmu : Nat.beq mu 9999 = false) (a : mc sc sp mu o d as h P) (b : mc sc sp mu o d as h Q) : mc sc sp mu o d as h (fun vo h' => P vo h' ∧ Q vo h') := by
  obtain ⟨pc1, ls1, st1, h1, g1, i1, v1, r1, e1, p1⟩ := a
  obtain ⟨pc2, ls2, st2, h2, g2, i2, v2, r2, e2, p2⟩ := b
  obtain ⟨m1, w1⟩ := g1 _ (ab_ret_v hmu r1)
  obtain ⟨m2, w2⟩ := g2 _ (ab_ret_v hmu r2)
  have y1 := eg_run_mo (Nat.le_add_right m1 m2) _ _ _ _ _ _ _ _ _ _ _ _ w1
  have y2 := eg_run_mo (Nat.le_add_left m2 m1) _ _ _ _ _ _ _ _ _ _ _ _ w2
  have y := Option.some.inj (y1.symm.trans y2)
  obtain ⟨z1, y⟩ := Prod.mk.inj y
  obtain ⟨z2, y⟩ := Prod.mk.inj y
  obtain ⟨z3, y⟩ := Prod.mk.inj y
  obtain ⟨z4, y⟩ := Prod.mk.inj y
  obtain ⟨-, z6⟩ := Prod.mk.inj y
  rw [← z4, ← z1] at e2
  have ev : v1 = v2 := Option.some.inj (e1.symm.trans e2)
  rw [← ev, ← z6] at p2
  exact ⟨pc1, ls1, st1, h1, g1, i1, v1, r1, e1, p1, p2⟩
theorem ar_o0 {L : Nat} {ν : Nat → Int} {n : Nat} {en : ab_E} {la : List (Nat × ab_A)} {sa : List ab_A} {ls : eg_L} {st : List Value} (a k : Nat) (hk : k < 1024) (hr : ab_r L ν (n, en, la, sa, []) ls st h) (hs1 : ab_slot h a k = some (.int (hv h a k))) (h0 : (hv h a k).toInt = 0) : ab_r L ν (n, en, la, sa, [(a * 1024 + k, 0, .ofNat 0)]) ls st h := by
  refine ⟨hr.1, hr.2.1, hr.2.2.1, hr.2.2.2.1, fun key j dd hf => ?_, hr.2.2.2.2.2⟩
  have hf : (match Nat.beq (a * 1024 + k) key with
    | true => some ((0 : Nat), Int.ofNat 0)
    | false => eg_find key []) = some (j, dd) := hf
  cases hb : Nat.beq (a * 1024 + k) key with
  | false =>
    rw [hb] at hf
    cases hf
  | true =>
    rw [hb] at hf
    obtain ⟨z1, z2⟩ := Prod.mk.inj (Option.some.inj hf)
    have e := Nat.eq_of_beq_eq_true hb
    subst e
    subst z1
    subst z2
    refine ⟨hv h a k, ?_, ?_, ?_⟩
    · rw [show (a * 1024 + k) / 1024 = a by omega, show (a * 1024 + k) % 1024 = k by omega]
      exact hs1
    · exact Nat.lt_of_lt_of_le (show 0 < 2 by decide) hr.1.1
    · rw [h0, hr.1.2.1]
      rfl
theorem ar_ov {L c : Nat} {lo hi : Int} (a k : Nat) (hk : k < 1024) (hp : ab_hp h) (hs1 : ab_slot h a k = some (.int (hv h a k))) (b1 : lo ≤ (hv h a k).toInt) (b2 : (hv h a k).toInt ≤ hi) : ab_r L (ar_n L [hv h a k]) (3, [(2, lo, hi, false, none)], [(0, .inr (c + 2))], [], [(a * 1024 + k, 2, .ofNat 0)]) (eg_args 0 [.ref c]) [] h := by
  refine ⟨⟨show 2 ≤ 3 by decide, rfl, rfl⟩, ar_e (fun q hq => ?_), vl_ref rfl vl_nil, rfl, fun key j dd hf => ?_, hp⟩
  · obtain rfl := List.mem_singleton.mp hq
    exact ⟨_, _, rfl, (show 2 < 3 by decide), b1, b2⟩
  · have hf : (match Nat.beq (a * 1024 + k) key with
      | true => some ((2 : Nat), Int.ofNat 0)
      | false => eg_find key []) = some (j, dd) := hf
    cases hb : Nat.beq (a * 1024 + k) key with
    | false =>
      rw [hb] at hf
      cases hf
    | true =>
      rw [hb] at hf
      obtain ⟨z1, z2⟩ := Prod.mk.inj (Option.some.inj hf)
      have e := Nat.eq_of_beq_eq_true hb
      subst e
      subst z1
      subst z2
      refine ⟨hv h a k, ?_, show 2 < 3 by decide, (Int.add_zero _).symm⟩
      rw [show (a * 1024 + k) / 1024 = a by omega, show (a * 1024 + k) % 1024 = k by omega]
      exact hs1
theorem ar_o3 {L a k k2 k3 : Nat} {lo2 hi2 lo3 hi3 : Int} {c : Nat} (hk : k < 1024) (hk2 : k2 < 1024) (hk3 : k3 < 1024) (hp : ab_hp h) (s1 : ab_slot h a k = some (.int (hv h a k))) (s2 : ab_slot h a k2 = some (.int (hv h a k2))) (s3 : ab_slot h a k3 = some (.int (hv h a k3))) (h0 : (hv h a k).toInt = 0) (b2 : lo2 ≤ (hv h a k2).toInt) (c2 : (hv h a k2).toInt ≤ hi2) (b3 : lo3 ≤ (hv h a k3).toInt) (c3 : (hv h a k3).toInt ≤ hi3) : ab_r L (ar_n L [hv h a k2, hv h a k3]) (4, [(2, lo2, hi2, false, none), (3, lo3, hi3, false, none)], [(0, .inr (c + 2))], [], [(a * 1024 + k, 0, .ofNat 0), (a * 1024 + k2, 2, .ofNat 0), (a * 1024 + k3, 3, .ofNat 0)]) (eg_args 0 [.ref c]) [] h := by
  have hd : ∀ q, q < 1024 → (a * 1024 + q) / 1024 = a ∧ (a * 1024 + q) % 1024 = q := fun q hq => ⟨by omega, by omega⟩
  refine ⟨⟨show 2 ≤ 4 by decide, rfl, rfl⟩, ar_e (fun q hq => ?_), vl_ref rfl vl_nil, rfl, fun key j dd hf => ?_, hp⟩
  · rcases List.mem_cons.mp hq with e | hq
    · subst e
      exact ⟨_, _, rfl, (show 2 < 4 by decide), b2, c2⟩
    · obtain rfl := List.mem_singleton.mp hq
      exact ⟨_, _, rfl, (show 3 < 4 by decide), b3, c3⟩
  · have hf : (match Nat.beq (a * 1024 + k) key with
      | true => some ((0 : Nat), Int.ofNat 0)
      | false => (match Nat.beq (a * 1024 + k2) key with
        | true => some ((2 : Nat), Int.ofNat 0)
        | false => (match Nat.beq (a * 1024 + k3) key with
          | true => some ((3 : Nat), Int.ofNat 0)
          | false => eg_find key []))) = some (j, dd) := hf
    cases hb : Nat.beq (a * 1024 + k) key with
    | true =>
      rw [hb] at hf
      obtain ⟨z1, z2⟩ := Prod.mk.inj (Option.some.inj hf)
      have e := Nat.eq_of_beq_eq_true hb
      subst e
      subst z1
      subst z2
      refine ⟨hv h a k, ?_, (show 0 < 4 by decide), ?_⟩
      · rw [(hd k hk).1, (hd k hk).2]
        exact s1
      · rw [h0]
        rfl
    | false =>
      rw [hb] at hf
      have hf : (match Nat.beq (a * 1024 + k2) key with
        | true => some ((2 : Nat), Int.ofNat 0)
        | false => (match Nat.beq (a * 1024 + k3) key with
          | true => some ((3 : Nat), Int.ofNat 0)
          | false => eg_find key [])) = some (j, dd) := hf
      cases hb2 : Nat.beq (a * 1024 + k2) key with
      | true =>
        rw [hb2] at hf
        obtain ⟨z1, z2⟩ := Prod.mk.inj (Option.some.inj hf)
        have e := Nat.eq_of_beq_eq_true hb2
        subst e
        subst z1
        subst z2
        refine ⟨hv h a k2, ?_, (show 2 < 4 by decide), (Int.add_zero _).symm⟩
        rw [(hd k2 hk2).1, (hd k2 hk2).2]
        exact s2
      | false =>
        rw [hb2] at hf
        have hf : (match Nat.beq (a * 1024 + k3) key with
          | true => some ((3 : Nat), Int.ofNat 0)
          | false => eg_find key []) = some (j, dd) := hf
        cases hb3 : Nat.beq (a * 1024 + k3) key with
        | true =>
          rw [hb3] at hf
          obtain ⟨z1, z2⟩ := Prod.mk.inj (Option.some.inj hf)
          have e := Nat.eq_of_beq_eq_true hb3
          subst e
          subst z1
          subst z2
          refine ⟨hv h a k3, ?_, (show 3 < 4 by decide), (Int.add_zero _).symm⟩
          rw [(hd k3 hk3).1, (hd k3 hk3).2]
          exact s3
        | false =>
          rw [hb3] at hf
          cases hf
/-- from a place on, to a return -/
theorem hs_qr {q : ab_Q} (hq : ab_Tr q) {iv : Option (Int × Int)} (ck : ck_en q.1 iv q.2.2.2.2.2.2.1 = true) (hsc : ab_osc sc) (hd : q.2.2.2.1 ≤ d) {ν : Nat → Int} {ls : eg_L} {st : List Value} (hr : ab_r sc.length ν q.2.2.2.2.1 ls st h) : hs sc sp q.1 q.2.1 d (fun pc' _ st' h' => ∃ ik vo, ab_ret q.1 pc' = some ik ∧ eg_rv (eg_md q.1).2.2.2 ik st' = some vo ∧ mc_P q.2.2.2.2.2.1 h iv vo h') q.2.2.1 ls st h := by
  obtain ⟨u, o, pc, need, P, M, ends, rank⟩ := q
  simp only at *
  obtain ⟨-, -, ht⟩ := hq sc sp hsc
  obtain ⟨e, he, ν', ls', st', h', g1, g2, g3, g4, g5⟩ := ht d hd ν _ _ h hr
  refine ⟨e.1, ls', st', h', g5, ?_⟩
  have c2 := List.all_eq_true.mp ck e he
  split at c2
  next => cases c2
  next ir hir =>
    split at c2
    next j dd hrv =>
      obtain ⟨vo, v1, v2⟩ := ab_rv_ok g1.2.1 g1.1.2.1 g1.2.2.2.1 hrv
      refine ⟨ir, vo, hir, v1, g1.2.2.2.2.2, g4, ?_⟩
      split at c2
      next lo hi =>
        obtain ⟨_, t, e1, ⟨x, rfl, hj, hx⟩, ht2⟩ := v2
        obtain rfl : t = [] := ht2
        have hx : x.toInt = ν' j + dd := hx
        have hi2 := ab_iv_v (en := e.2.2.1) (j := j) (d := dd) g1.2.1 g1.1.2.1 hx
        have c3 := Bool.and_eq_true_iff.mp c2
        have c4 := of_decide_eq_true c3.1
        have c5 := of_decide_eq_true c3.2
        cases vo with
        | none => cases e1
        | some z =>
          cases e1
          exact ⟨x, rfl, by omega, by omega⟩
      next => cases c2
    next hrv =>
      obtain ⟨vo, v1, v2⟩ := ab_rv_ok g1.2.1 g1.1.2.1 g1.2.2.2.1 hrv
      refine ⟨ir, vo, hir, v1, g1.2.2.2.2.2, g4, ?_⟩
      split at c2
      next =>
        cases vo with
        | none => rfl
        | some z => cases (show [z] = [] from v2)
      next => cases c2
    next => cases c2
/-- where it says yes the fault's slot is 0 -/
def z15 (a k : Nat) (vo : Option Value) (h' : eg_H) : Prop := ∃ r : Int32, vo = some (.int r) ∧ (r.toInt = 1 → (hv h' a k).toInt = 0)
theorem c_15 {q : ab_Q} (hq : ab_Tr q) {a k : Nat} (hk : k < 1024) (ck : (Nat.beq q.2.2.1 0 && ck_eo q.1 (a * 1024 + k) 0 0 q.2.2.2.2.2.2.1) = true) (hsc : ab_osc sc) (hd : q.2.2.2.1 ≤ d) {ν : Nat → Int} {as : List Value} (hr : ab_r sc.length ν q.2.2.2.2.1 (eg_args 0 as) [] h) : mc sc sp q.1 q.2.1 d as h (z15 a k) := (mc_qo hq hk ck hsc hd hr).mono (fun vo h' g => by
  obtain ⟨-, -, r, e, g⟩ := g
  refine ⟨r, e, fun z => ?_⟩
  rcases g with g | ⟨-, g1, g2⟩
  · omega
  · omega)
theorem sl38 (hp : ab_hp h) : ab_slot h 3 8 = some (.int (hv h 3 8)) := (sb_v (a := 3) (k := 8) (lo := .negSucc 2147483647) (hi := .ofNat 2147483647) hp (by decide +kernel)).1
theorem slF (hp : ab_hp h) : ab_slot h 182 15 = some (.int (hv h 182 15)) := (sb_v (a := 182) (k := 15) (lo := .negSucc 2147483647) (hi := .ofNat 2147483647) hp (by decide +kernel)).1
theorem c_lr15 (hsc : ab_osc sc) (hp : ab_hp h) (h0 : (hv h 3 8).toInt = 0) : mc sc sp 728 2 (d + 6) [.ref 22] h (z15 3 8) := c_15 tr_lr15 (by decide) (by decide +kernel) hsc (show 6 ≤ d + 6 by omega) (ar_o0 3 8 (by decide) (ar_0 (a := 22) hp) (sl38 hp) h0)
theorem c_sr15 (hsc : ab_osc sc) (hp : ab_hp h) (h0 : (hv h 3 8).toInt = 0) : mc sc sp 1246 6 (d + 37) [.ref 120] h (z15 3 8) := c_15 tr_sr15 (by decide) (by decide +kernel) hsc (show 37 ≤ d + 37 by omega) (ar_o0 3 8 (by decide) (ar_0 (a := 120) hp) (sl38 hp) h0)
theorem c_br15 (hsc : ab_osc sc) (hp : ab_hp h) (h0 : (hv h 3 8).toInt = 0) : mc sc sp 1200 0 (d + 5) [.ref 112] h (z15 3 8) := c_15 tr_br15 (by decide) (by decide +kernel) hsc (show 5 ≤ d + 5 by omega) (ar_o0 3 8 (by decide) (ar_0 (a := 112) hp) (sl38 hp) h0)
theorem c_ln15 (hsc : ab_osc sc) (hp : ab_hp h) (h0 : (hv h 182 15).toInt = 0) : mc sc sp 1672 11 (d + 7) [.ref 182] h (z15 182 15) := c_15 tr_ln15 (by decide) (by decide +kernel) hsc (show 7 ≤ d + 7 by omega) (ar_o0 182 15 (by decide) (ar_0 (a := 182) hp) (slF hp) h0)
theorem c_sg15 (hsc : ab_osc sc) {x : Int32} (hx : x.toInt = 59) (hp : ab_hp h) (h0 : (hv h 182 15).toInt = 0) : mc sc sp 1734 11 (d + 3) [.ref 182, .int x] h (z15 182 15) := c_15 tr_sg15 (by decide) (by decide +kernel) hsc (show 3 ≤ d + 3 by omega) (ar_o0 182 15 (by decide) (ar_1 (a := 182) hp (by rw [hx]; decide) (by rw [hx]; decide)) (slF hp) h0)
theorem c_lk15 (hsc : ab_osc sc) {x y : Int32} (x1 : 0 ≤ x.toInt) (x2 : x.toInt ≤ 22) (y1 : 0 ≤ y.toInt) (y2 : y.toInt ≤ 10) (hp : ab_hp h) (h0 : (hv h 182 15).toInt = 0) : mc sc sp 1730 11 (d + 2) [.ref 182, .int x, .int y] h (z15 182 15) := c_15 tr_lk15 (by decide) (by decide +kernel) hsc (show 2 ≤ d + 2 by omega) (ar_o0 182 15 (by decide) (ar_2 (a := 182) hp x1 x2 y1 y2) (slF hp) h0)
theorem c_tk15 (hsc : ab_osc sc) (x y : Int32) (hp : ab_hp h) (h0 : (hv h 182 15).toInt = 0) : mc sc sp 1695 11 (d + 3) [.ref 182, .int x, .int y] h (z15 182 15) := c_15 tr_tk15 (by decide) (by decide +kernel) hsc (show 3 ≤ d + 3 by omega) (ar_o0 182 15 (by decide) (ar_2 (a := 182) hp (ab_ige x) (ab_ile x) (ab_ige y) (ab_ile y)) (slF hp) h0)
theorem c_op15 (hsc : ab_osc sc) (hp : ab_hp h) (h0 : (hv h 182 15).toInt = 0) (x2 : (hv h 182 45).toInt ≤ 40) (y2 : (hv h 182 47).toInt ≤ 40) : mc sc sp 2093 11 (d + 3) [.ref 182] h (z15 182 15) := by
  obtain ⟨s2, b2, -⟩ := sb_v (a := 182) (k := 45) (lo := .ofNat 0) (hi := .ofNat 45) hp (by decide +kernel)
  obtain ⟨s3, b3, -⟩ := sb_v (a := 182) (k := 47) (lo := .ofNat 0) (hi := .ofNat 45) hp (by decide +kernel)
  exact c_15 tr_op15 (by decide) (by decide +kernel) hsc (show 3 ≤ d + 3 by omega) (ar_o3 (a := 182) (k := 15) (k2 := 45) (k3 := 47) (by decide) (by decide) (by decide) hp (slF hp) s2 s3 h0 b2 x2 b3 y2)
end AN
