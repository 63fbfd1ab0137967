/-! contracts: image and restore, by k and by what is kept -/
def ck_es (mu : Nat) (rlo rhi : Int) (key : Nat) (lo hi : Int) (ends : List (Nat × ab_S)) : Bool := ends.all (fun e => match ab_ret mu e.1 with
  | none => false
  | some ir => (match ab_rv (eg_md mu).2.2.2 ir e.2.2.1 e.2.2.2.2.1 with
    | some [.inl (j, d)] => decide (rlo ≤ (ab_iv e.2.2.1 j d).1) && decide ((ab_iv e.2.2.1 j d).2 ≤ rhi) && (match eg_find key e.2.2.2.2.2 with
      | some (j2, d2) => decide (lo ≤ (ab_iv e.2.2.1 j2 d2).1) && decide ((ab_iv e.2.2.1 j2 d2).2 ≤ hi)
      | none => false)
    | _ => false))
def mc_S (M : ab_M) (h : eg_H) (rlo rhi : Int) (a k : Nat) (lo hi : Int) (vo : Option Value) (h' : eg_H) : Prop := ab_hp h' ∧ ab_fr M h' h ∧ (∃ r : Int32, vo = some (.int r) ∧ rlo ≤ r.toInt ∧ r.toInt ≤ rhi) ∧ lo ≤ (hv h' a k).toInt ∧ (hv h' a k).toInt ≤ hi
theorem mc_qs {q : ab_Q} (hq : ab_Tr q) {rlo rhi : Int} {a k : Nat} {lo hi : Int} (hk : k < 1024) (ck : (Nat.beq q.2.2.1 0 && ck_es q.1 rlo rhi (a * 1024 + k) lo hi q.2.2.2.2.2.2.1) = true) {sc : List Value} {sp : Nat} (hsc : ab_osc sc) {d : Nat} (hd : q.2.2.2.1 ≤ d) {ν : Nat → Int} {as : List Value} {h : eg_H} (hr : ab_r sc.length ν q.2.2.2.2.1 (eg_args 0 as) [] h) : mc sc sp q.1 q.2.1 d as h (mc_S q.2.2.2.2.2.1 h rlo rhi a k lo hi) := by
  obtain ⟨u, o, pc, need, P, M, ends, rank⟩ := q
  simp only at *
  have c1 := Bool.and_eq_true_iff.mp ck
  obtain rfl := Nat.eq_of_beq_eq_true c1.1
  obtain ⟨-, -, ht⟩ := hq sc sp hsc
  obtain ⟨e, he, ν', ls', st', h', g1, g2, g3, g4, g5⟩ := ht d hd ν _ _ h hr
  refine ⟨e.1, ls', st', h', g5, ?_⟩
  have c2 := List.all_eq_true.mp c1.2 e he
  split at c2
  next => cases c2
  next ir hir =>
    split at c2
    next j dd hrv =>
      obtain ⟨vo, v1, v2⟩ := ab_rv_ok g1.2.1 g1.1.2.1 g1.2.2.2.1 hrv
      refine ⟨ir, vo, hir, v1, g1.2.2.2.2.2, g4, ?_⟩
      obtain ⟨_, t, e1, ⟨x, rfl, hj, hx⟩, ht2⟩ := v2
      obtain rfl : t = [] := ht2
      have h0 : ν' 0 = 0 := g1.1.2.1
      have hx : x.toInt = ν' j + dd := hx
      have hi1 := ab_iv_v (en := e.2.2.1) (j := j) (d := dd) g1.2.1 h0 hx
      have c3 := Bool.and_eq_true_iff.mp c2
      have c4 := Bool.and_eq_true_iff.mp c3.1
      have c5 := of_decide_eq_true c4.1
      have c6 := of_decide_eq_true c4.2
      have c7 := c3.2
      cases vo with
      | none => cases e1
      | some z =>
        cases e1
        refine ⟨⟨x, rfl, by omega, by omega⟩, ?_⟩
        split at c7
        next j2 d2 hf =>
          have c8 := Bool.and_eq_true_iff.mp c7
          have c9 := of_decide_eq_true c8.1
          have c10 := of_decide_eq_true c8.2
          have ho := g1.ov a k hf hk
          have hi2 := ab_iv_v (en := e.2.2.1) (j := j2) (d := d2) g1.2.1 h0 ho
          exact ⟨by omega, by omega⟩
        next => cases c7
    next => cases c2
/-- a slot that holds an int within bounds -/
def ck_sb (a k : Nat) (lo hi : Int) : Bool := match ab_get a with
  | some (_, rg) => decide (ab_sl rg k = some (.inl (lo, hi)))
  | none => false
theorem sb_v {h : eg_H} {a k : Nat} {lo hi : Int} (hp : ab_hp h) (c : ck_sb a k lo hi = true) : ab_slot h a k = some (.int (hv h a k)) ∧ lo ≤ (hv h a k).toInt ∧ (hv h a k).toInt ≤ hi := by
  unfold ck_sb at c
  split at c
  next tag rg hg => exact hv_slot hp.1 hg (of_decide_eq_true c)
  next => cases c
/-- this and an int, and a slot that is known -/
theorem ar_o {L a c k : Nat} {lo hi lo2 hi2 : Int} {h : eg_H} {x : Int32} (hp : ab_hp h) (h1 : lo ≤ x.toInt) (h2 : x.toInt ≤ hi) (hs : ab_slot h c k = some (.int (hv h c k))) (h3 : lo2 ≤ (hv h c k).toInt) (h4 : (hv h c k).toInt ≤ hi2) (hk : k < 1024) : ab_r L (ar_n L [x, hv h c k]) (4, [(2, lo, hi, false, none), (3, lo2, hi2, false, none)], [(0, .inr (a + 2)), (1, .inl (2, .ofNat 0))], [], [(c * 1024 + k, 3, .ofNat 0)]) (eg_args 0 [.ref a, .int x]) [] h := by
  refine ⟨⟨by show 2 ≤ 4; decide, rfl, rfl⟩, ar_e (fun q hq => ?_), fun k' A hm => ?_, rfl, fun key j d hf => ?_, hp⟩
  · simp only [List.mem_cons, List.not_mem_nil, or_false] at hq
    rcases hq with rfl | rfl
    · exact ⟨lo, hi, rfl, by show 2 < 4; decide, h1, h2⟩
    · exact ⟨lo2, hi2, rfl, by show 3 < 4; decide, h3, h4⟩
  · simp only [List.mem_cons, List.not_mem_nil, or_false, Prod.mk.injEq] at hm
    rcases hm with ⟨rfl, rfl⟩ | ⟨rfl, rfl⟩
    · exact ⟨.ref a, rfl, rfl⟩
    · exact ⟨.int x, rfl, x, rfl, by show 2 < 4; decide, by show x.toInt = x.toInt + 0; omega⟩
  · rw [ab_find_cons] at hf
    by_cases e : c * 1024 + k = key
    · rw [if_pos e] at hf
      cases hf
      have e1 : key / 1024 = c := by omega
      have e2 : key % 1024 = k := by omega
      rw [e1, e2]
      exact ⟨_, hs, by show 3 < 4; decide, by show (hv h c k).toInt = (hv h c k).toInt + 0; omega⟩
    · rw [if_neg e] at hf
      cases hf
/-- what is kept under k -/
def tk (h : eg_H) (a : Nat) (x : Int) : Int := if x = 0 then (hv h a 0).toInt else if x = 1 then (hv h a 1).toInt else 0
def im_P (M : ab_M) (h : eg_H) (a : Nat) (x : Int) (vo : Option Value) (h' : eg_H) : Prop := ab_hp h' ∧ ab_fr M h' h ∧ (∃ r : Int32, vo = some (.int r)) ∧ (hv h' a 0).toInt = (if x = 0 then 1 else (hv h a 0).toInt) ∧ (hv h' a 1).toInt = (if x = 1 then 1 else (hv h a 1).toInt)
def re_P (M : ab_M) (h : eg_H) (a : Nat) (x : Int) (vo : Option Value) (h' : eg_H) : Prop := ab_hp h' ∧ ab_fr M h' h ∧ ∃ r : Int32, vo = some (.int r) ∧ r.toInt = tk h a x
theorem ml_imX : (eg_md 1351).2.2.1 = 2 := by decide +kernel
theorem c_imX {sc : List Value} {sp d : Nat} (hsc : ab_osc sc) {h : eg_H} (x : Int32) (hp : ab_hp h) : mc sc sp 1351 10 (d + 2) [.ref 0, .int x] h (im_P [(129, 0, 1), (130, 0, 6), (131, 0, 5), (132, 0, 5), (133, 0, 5), (134, 0, 9), (135, 0, 9), (136, 0, 9), (137, 0, 9), (138, 0, 9), (139, 0, 9), (140, 0, 9), (141, 0, 9), (142, 0, 9), (143, 0, 9), (144, 6, 7), (145, 0, 9), (146, 0, 9), (147, 0, 9), (148, 0, 5), (149, 0, 5), (151, 3, 3), (152, 0, 47), (153, 0, 47), (154, 0, 47), (156, 0, 6), (157, 0, 5), (158, 0, 5), (159, 0, 5), (160, 0, 9), (161, 0, 9), (162, 0, 9), (163, 0, 9), (164, 0, 9), (165, 0, 9), (166, 0, 9), (167, 0, 9), (168, 0, 9), (169, 0, 9), (170, 6, 7), (171, 0, 9), (172, 0, 9), (173, 0, 9), (174, 0, 5), (175, 0, 5), (177, 3, 3), (178, 0, 47), (179, 0, 47), (180, 0, 47)] h 129 x.toInt) := by
  by_cases x0 : x.toInt = 0
  · refine (mc_qs tr_imX0 (rlo := 1) (rhi := 1) (a := 129) (k := 0) (lo := 1) (hi := 1) (by decide) (by decide +kernel) hsc (show 2 ≤ d + 2 by omega) (ar_1 (a := 0) (lo := .ofNat 0) (hi := .ofNat 0) hp (by rw [x0]; decide) (by rw [x0]; decide))).mono (fun vo h' g => ?_)
    obtain ⟨g1, g2, ⟨r, g3, -⟩, g4, g5⟩ := g
    refine ⟨g1, fr_sub (by decide +kernel) g2, ⟨r, g3⟩, ?_, ?_⟩
    · rw [if_pos x0]; omega
    · rw [if_neg (by omega), hv_fr g2 (by decide +kernel)]
  by_cases x1 : x.toInt = 1
  · refine (mc_qs tr_imX1 (rlo := 1) (rhi := 1) (a := 129) (k := 1) (lo := 1) (hi := 1) (by decide) (by decide +kernel) hsc (show 2 ≤ d + 2 by omega) (ar_1 (a := 0) (lo := .ofNat 1) (hi := .ofNat 1) hp (by rw [x1]; decide) (by rw [x1]; decide))).mono (fun vo h' g => ?_)
    obtain ⟨g1, g2, ⟨r, g3, -⟩, g4, g5⟩ := g
    refine ⟨g1, fr_sub (by decide +kernel) g2, ⟨r, g3⟩, ?_, ?_⟩
    · rw [if_neg (by omega), hv_fr g2 (by decide +kernel)]
    · rw [if_pos x1]; omega
  by_cases xl : x.toInt ≤ -1
  · refine (mc_q tr_imXl (iv := some (0, 0)) (by decide +kernel) hsc (show 1 ≤ d + 2 by omega) (ar_1 (a := 0) (lo := .negSucc 2147483647) (hi := .negSucc 0) hp (ab_ige x) xl)).mono (fun vo h' g => ?_)
    obtain ⟨g1, g2, r, g3, -⟩ := g
    refine ⟨g1, fr_sub (by decide +kernel) g2, ⟨r, g3⟩, ?_, ?_⟩
    · rw [if_neg (by omega), hv_fr g2 (by decide +kernel)]
    · rw [if_neg (by omega), hv_fr g2 (by decide +kernel)]
  · refine (mc_q tr_imXh (iv := some (0, 0)) (by decide +kernel) hsc (show 1 ≤ d + 2 by omega) (ar_1 (a := 0) (lo := .ofNat 2) (hi := .ofNat 2147483647) hp (by show (2 : Int) ≤ x.toInt; omega) (ab_ile x))).mono (fun vo h' g => ?_)
    obtain ⟨g1, g2, r, g3, -⟩ := g
    refine ⟨g1, fr_sub (by decide +kernel) g2, ⟨r, g3⟩, ?_, ?_⟩
    · rw [if_neg (by omega), hv_fr g2 (by decide +kernel)]
    · rw [if_neg (by omega), hv_fr g2 (by decide +kernel)]
theorem ml_reX : (eg_md 1355).2.2.1 = 2 := by decide +kernel
theorem c_reX {sc : List Value} {sp d : Nat} (hsc : ab_osc sc) {h : eg_H} (x : Int32) (hp : ab_hp h) : mc sc sp 1355 10 (d + 2) [.ref 0, .int x] h (re_P [(8, 0, 6), (9, 0, 5), (10, 0, 5), (11, 0, 5), (12, 0, 9), (13, 0, 9), (14, 0, 9), (15, 0, 9), (16, 0, 9), (17, 0, 9), (18, 0, 9), (19, 0, 9), (20, 0, 9), (21, 0, 9), (37, 6, 7), (38, 0, 9), (39, 0, 9), (40, 0, 9), (41, 0, 5), (42, 0, 5), (51, 2, 2), (115, 3, 3), (116, 0, 47), (117, 0, 47), (118, 0, 47)] h 129 x.toInt) := by
  by_cases x0 : x.toInt = 0
  · obtain ⟨b1, b2, b3⟩ := sb_v (a := 129) (k := 0) (lo := .ofNat 0) (hi := .ofNat 1) hp (by decide +kernel)
    have b2 : (0 : Int) ≤ (hv h 129 0).toInt := b2
    have b3 : (hv h 129 0).toInt ≤ (1 : Int) := b3
    have et : tk h 129 x.toInt = (hv h 129 0).toInt := by
      unfold tk
      rw [if_pos x0]
    by_cases v1 : (hv h 129 0).toInt = 1
    · refine (mc_q tr_reX01 (iv := some (1, 1)) (by decide +kernel) hsc (show 2 ≤ d + 2 by omega) (ar_o (a := 0) (c := 129) (k := 0) (lo := .ofNat 0) (hi := .ofNat 0) (lo2 := .ofNat 1) (hi2 := .ofNat 1) hp (by rw [x0]; decide) (by rw [x0]; decide) b1 (by rw [v1]; decide) (by rw [v1]; decide) (by decide))).mono (fun vo h' g => ?_)
      obtain ⟨g1, g2, r, g3, g4, g5⟩ := g
      exact ⟨g1, fr_sub (by decide +kernel) g2, r, g3, by omega⟩
    · have v0 : (hv h 129 0).toInt = 0 := by omega
      refine (mc_q tr_reX00 (iv := some (0, 0)) (by decide +kernel) hsc (show 1 ≤ d + 2 by omega) (ar_o (a := 0) (c := 129) (k := 0) (lo := .ofNat 0) (hi := .ofNat 0) (lo2 := .ofNat 0) (hi2 := .ofNat 0) hp (by rw [x0]; decide) (by rw [x0]; decide) b1 (by rw [v0]; decide) (by rw [v0]; decide) (by decide))).mono (fun vo h' g => ?_)
      obtain ⟨g1, g2, r, g3, g4, g5⟩ := g
      exact ⟨g1, fr_sub (by decide +kernel) g2, r, g3, by omega⟩
  by_cases x1 : x.toInt = 1
  · obtain ⟨b1, b2, b3⟩ := sb_v (a := 129) (k := 1) (lo := .ofNat 0) (hi := .ofNat 1) hp (by decide +kernel)
    have b2 : (0 : Int) ≤ (hv h 129 1).toInt := b2
    have b3 : (hv h 129 1).toInt ≤ (1 : Int) := b3
    have et : tk h 129 x.toInt = (hv h 129 1).toInt := by
      unfold tk
      rw [if_neg x0, if_pos x1]
    by_cases v1 : (hv h 129 1).toInt = 1
    · refine (mc_q tr_reX11 (iv := some (1, 1)) (by decide +kernel) hsc (show 2 ≤ d + 2 by omega) (ar_o (a := 0) (c := 129) (k := 1) (lo := .ofNat 1) (hi := .ofNat 1) (lo2 := .ofNat 1) (hi2 := .ofNat 1) hp (by rw [x1]; decide) (by rw [x1]; decide) b1 (by rw [v1]; decide) (by rw [v1]; decide) (by decide))).mono (fun vo h' g => ?_)
      obtain ⟨g1, g2, r, g3, g4, g5⟩ := g
      exact ⟨g1, fr_sub (by decide +kernel) g2, r, g3, by omega⟩
    · have v0 : (hv h 129 1).toInt = 0 := by omega
      refine (mc_q tr_reX10 (iv := some (0, 0)) (by decide +kernel) hsc (show 1 ≤ d + 2 by omega) (ar_o (a := 0) (c := 129) (k := 1) (lo := .ofNat 1) (hi := .ofNat 1) (lo2 := .ofNat 0) (hi2 := .ofNat 0) hp (by rw [x1]; decide) (by rw [x1]; decide) b1 (by rw [v0]; decide) (by rw [v0]; decide) (by decide))).mono (fun vo h' g => ?_)
      obtain ⟨g1, g2, r, g3, g4, g5⟩ := g
      exact ⟨g1, fr_sub (by decide +kernel) g2, r, g3, by omega⟩
  have et : tk h 129 x.toInt = 0 := by
    unfold tk
    rw [if_neg x0, if_neg x1]
  by_cases xl : x.toInt ≤ -1
  · refine (mc_q tr_reXl (iv := some (0, 0)) (by decide +kernel) hsc (show 1 ≤ d + 2 by omega) (ar_1 (a := 0) (lo := .negSucc 2147483647) (hi := .negSucc 0) hp (ab_ige x) xl)).mono (fun vo h' g => ?_)
    obtain ⟨g1, g2, r, g3, g4, g5⟩ := g
    exact ⟨g1, fr_sub (by decide +kernel) g2, r, g3, by omega⟩
  · refine (mc_q tr_reXh (iv := some (0, 0)) (by decide +kernel) hsc (show 1 ≤ d + 2 by omega) (ar_1 (a := 0) (lo := .ofNat 2) (hi := .ofNat 2147483647) hp (by show (2 : Int) ≤ x.toInt; omega) (ab_ile x))).mono (fun vo h' g => ?_)
    obtain ⟨g1, g2, r, g3, g4, g5⟩ := g
    exact ⟨g1, fr_sub (by decide +kernel) g2, r, g3, by omega⟩
theorem ml_imM : (eg_md 2113).2.2.1 = 3 := by decide +kernel
theorem c_imM {sc : List Value} {sp d : Nat} (hsc : ab_osc sc) {h : eg_H} (x : Int32) (hp : ab_hp h) : mc sc sp 2113 11 (d + 2) [.ref 182, .int x] h (im_P [(182, 0, 0), (201, 0, 613), (202, 0, 31), (203, 0, 1)] h 203 x.toInt) := by
  by_cases x0 : x.toInt = 0
  · refine (mc_qs tr_imM0 (rlo := 1) (rhi := 1) (a := 203) (k := 0) (lo := 1) (hi := 1) (by decide) (by decide +kernel) hsc (show 2 ≤ d + 2 by omega) (ar_1 (a := 182) (lo := .ofNat 0) (hi := .ofNat 0) hp (by rw [x0]; decide) (by rw [x0]; decide))).mono (fun vo h' g => ?_)
    obtain ⟨g1, g2, ⟨r, g3, -⟩, g4, g5⟩ := g
    refine ⟨g1, fr_sub (by decide +kernel) g2, ⟨r, g3⟩, ?_, ?_⟩
    · rw [if_pos x0]; omega
    · rw [if_neg (by omega), hv_fr g2 (by decide +kernel)]
  by_cases x1 : x.toInt = 1
  · refine (mc_qs tr_imM1 (rlo := 1) (rhi := 1) (a := 203) (k := 1) (lo := 1) (hi := 1) (by decide) (by decide +kernel) hsc (show 2 ≤ d + 2 by omega) (ar_1 (a := 182) (lo := .ofNat 1) (hi := .ofNat 1) hp (by rw [x1]; decide) (by rw [x1]; decide))).mono (fun vo h' g => ?_)
    obtain ⟨g1, g2, ⟨r, g3, -⟩, g4, g5⟩ := g
    refine ⟨g1, fr_sub (by decide +kernel) g2, ⟨r, g3⟩, ?_, ?_⟩
    · rw [if_neg (by omega), hv_fr g2 (by decide +kernel)]
    · rw [if_pos x1]; omega
  by_cases xl : x.toInt ≤ -1
  · refine (mc_q tr_imMl (iv := some (0, 0)) (by decide +kernel) hsc (show 2 ≤ d + 2 by omega) (ar_1 (a := 182) (lo := .negSucc 2147483647) (hi := .negSucc 0) hp (ab_ige x) xl)).mono (fun vo h' g => ?_)
    obtain ⟨g1, g2, r, g3, -⟩ := g
    refine ⟨g1, fr_sub (by decide +kernel) g2, ⟨r, g3⟩, ?_, ?_⟩
    · rw [if_neg (by omega), hv_fr g2 (by decide +kernel)]
    · rw [if_neg (by omega), hv_fr g2 (by decide +kernel)]
  · refine (mc_q tr_imMh (iv := some (0, 0)) (by decide +kernel) hsc (show 2 ≤ d + 2 by omega) (ar_1 (a := 182) (lo := .ofNat 2) (hi := .ofNat 2147483647) hp (by show (2 : Int) ≤ x.toInt; omega) (ab_ile x))).mono (fun vo h' g => ?_)
    obtain ⟨g1, g2, r, g3, -⟩ := g
    refine ⟨g1, fr_sub (by decide +kernel) g2, ⟨r, g3⟩, ?_, ?_⟩
    · rw [if_neg (by omega), hv_fr g2 (by decide +kernel)]
    · rw [if_neg (by omega), hv_fr g2 (by decide +kernel)]
theorem ml_reM : (eg_md 2117).2.2.1 = 3 := by decide +kernel
theorem c_reM {sc : List Value} {sp d : Nat} (hsc : ab_osc sc) {h : eg_H} (x : Int32) (hp : ab_hp h) : mc sc sp 2117 11 (d + 2) [.ref 182, .int x] h (re_P [(182, 0, 0), (182, 25, 25), (184, 0, 306), (187, 0, 15)] h 203 x.toInt) := by
  by_cases x0 : x.toInt = 0
  · obtain ⟨b1, b2, b3⟩ := sb_v (a := 203) (k := 0) (lo := .ofNat 0) (hi := .ofNat 1) hp (by decide +kernel)
    have b2 : (0 : Int) ≤ (hv h 203 0).toInt := b2
    have b3 : (hv h 203 0).toInt ≤ (1 : Int) := b3
    have et : tk h 203 x.toInt = (hv h 203 0).toInt := by
      unfold tk
      rw [if_pos x0]
    by_cases v1 : (hv h 203 0).toInt = 1
    · refine (mc_q tr_reM01 (iv := some (1, 1)) (by decide +kernel) hsc (show 2 ≤ d + 2 by omega) (ar_o (a := 182) (c := 203) (k := 0) (lo := .ofNat 0) (hi := .ofNat 0) (lo2 := .ofNat 1) (hi2 := .ofNat 1) hp (by rw [x0]; decide) (by rw [x0]; decide) b1 (by rw [v1]; decide) (by rw [v1]; decide) (by decide))).mono (fun vo h' g => ?_)
      obtain ⟨g1, g2, r, g3, g4, g5⟩ := g
      exact ⟨g1, fr_sub (by decide +kernel) g2, r, g3, by omega⟩
    · have v0 : (hv h 203 0).toInt = 0 := by omega
      refine (mc_q tr_reM00 (iv := some (0, 0)) (by decide +kernel) hsc (show 2 ≤ d + 2 by omega) (ar_o (a := 182) (c := 203) (k := 0) (lo := .ofNat 0) (hi := .ofNat 0) (lo2 := .ofNat 0) (hi2 := .ofNat 0) hp (by rw [x0]; decide) (by rw [x0]; decide) b1 (by rw [v0]; decide) (by rw [v0]; decide) (by decide))).mono (fun vo h' g => ?_)
      obtain ⟨g1, g2, r, g3, g4, g5⟩ := g
      exact ⟨g1, fr_sub (by decide +kernel) g2, r, g3, by omega⟩
  by_cases x1 : x.toInt = 1
  · obtain ⟨b1, b2, b3⟩ := sb_v (a := 203) (k := 1) (lo := .ofNat 0) (hi := .ofNat 1) hp (by decide +kernel)
    have b2 : (0 : Int) ≤ (hv h 203 1).toInt := b2
    have b3 : (hv h 203 1).toInt ≤ (1 : Int) := b3
    have et : tk h 203 x.toInt = (hv h 203 1).toInt := by
      unfold tk
      rw [if_neg x0, if_pos x1]
    by_cases v1 : (hv h 203 1).toInt = 1
    · refine (mc_q tr_reM11 (iv := some (1, 1)) (by decide +kernel) hsc (show 2 ≤ d + 2 by omega) (ar_o (a := 182) (c := 203) (k := 1) (lo := .ofNat 1) (hi := .ofNat 1) (lo2 := .ofNat 1) (hi2 := .ofNat 1) hp (by rw [x1]; decide) (by rw [x1]; decide) b1 (by rw [v1]; decide) (by rw [v1]; decide) (by decide))).mono (fun vo h' g => ?_)
      obtain ⟨g1, g2, r, g3, g4, g5⟩ := g
      exact ⟨g1, fr_sub (by decide +kernel) g2, r, g3, by omega⟩
    · have v0 : (hv h 203 1).toInt = 0 := by omega
      refine (mc_q tr_reM10 (iv := some (0, 0)) (by decide +kernel) hsc (show 2 ≤ d + 2 by omega) (ar_o (a := 182) (c := 203) (k := 1) (lo := .ofNat 1) (hi := .ofNat 1) (lo2 := .ofNat 0) (hi2 := .ofNat 0) hp (by rw [x1]; decide) (by rw [x1]; decide) b1 (by rw [v0]; decide) (by rw [v0]; decide) (by decide))).mono (fun vo h' g => ?_)
      obtain ⟨g1, g2, r, g3, g4, g5⟩ := g
      exact ⟨g1, fr_sub (by decide +kernel) g2, r, g3, by omega⟩
  have et : tk h 203 x.toInt = 0 := by
    unfold tk
    rw [if_neg x0, if_neg x1]
  by_cases xl : x.toInt ≤ -1
  · refine (mc_q tr_reMl (iv := some (0, 0)) (by decide +kernel) hsc (show 2 ≤ d + 2 by omega) (ar_1 (a := 182) (lo := .negSucc 2147483647) (hi := .negSucc 0) hp (ab_ige x) xl)).mono (fun vo h' g => ?_)
    obtain ⟨g1, g2, r, g3, g4, g5⟩ := g
    exact ⟨g1, fr_sub (by decide +kernel) g2, r, g3, by omega⟩
  · refine (mc_q tr_reMh (iv := some (0, 0)) (by decide +kernel) hsc (show 2 ≤ d + 2 by omega) (ar_1 (a := 182) (lo := .ofNat 2) (hi := .ofNat 2147483647) hp (by show (2 : Int) ≤ x.toInt; omega) (ab_ile x))).mono (fun vo h' g => ?_)
    obtain ⟨g1, g2, r, g3, g4, g5⟩ := g
    exact ⟨g1, fr_sub (by decide +kernel) g2, r, g3, by omega⟩
