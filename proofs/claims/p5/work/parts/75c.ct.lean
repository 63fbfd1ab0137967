/-! contracts: end and book, by the int told and the length of the text -/
def ck_ev (mu : Nat) (rlo rhi : Int) (key J : Nat) (D : Int) (ends : List (Nat × ab_S)) : Bool := ends.all (fun e => match ab_ret mu e.1 with
  | none => false
  | some ir => (match ab_rv (eg_md mu).2.2.2 ir e.2.2.1 e.2.2.2.2.1 with
    | some [.inl (j, d)] => decide (rlo ≤ (ab_iv e.2.2.1 j d).1) && decide ((ab_iv e.2.2.1 j d).2 ≤ rhi) && (match eg_find key e.2.2.2.2.2 with
      | some (j2, d2) => Nat.beq j2 J && decide (d2 = D)
      | none => false)
    | _ => false))
def mc_V (M : ab_M) (h : eg_H) (rlo rhi : Int) (a k : Nat) (v : Int) (vo : Option Value) (h' : eg_H) : Prop := ab_hp h' ∧ ab_fr M h' h ∧ (∃ r : Int32, vo = some (.int r) ∧ rlo ≤ r.toInt ∧ r.toInt ≤ rhi) ∧ (hv h' a k).toInt = v
theorem mc_qv {q : ab_Q} (hq : ab_Tr q) {rlo rhi : Int} {a k J : Nat} {D : Int} (hk : k < 1024) (hJ : J < q.2.2.2.2.1.1) (ck : (Nat.beq q.2.2.1 0 && ck_ev q.1 rlo rhi (a * 1024 + k) J D q.2.2.2.2.2.2.1) = true) {sc : List Value} {sp : Nat} (hsc : ab_osc sc) {d : Nat} (hd : q.2.2.2.1 ≤ d) {ν : Nat → Int} {as : List Value} {h : eg_H} (hr : ab_r sc.length ν q.2.2.2.2.1 (eg_args 0 as) [] h) : mc sc sp q.1 q.2.1 d as h (mc_V q.2.2.2.2.2.1 h rlo rhi a k (ν J + D)) := by
  obtain ⟨u, o, pc, need, P, M, ends, rank⟩ := q
  simp only at *
  have c1 := Bool.and_eq_true_iff.mp ck
  obtain rfl := Nat.eq_of_beq_eq_true c1.1
  obtain ⟨-, -, ht⟩ := hq sc sp hsc
  obtain ⟨e, he, ν', ls', st', h', g1, g2, g3, g4, g5⟩ := ht d hd ν _ _ h hr
  refine ⟨e.1, ls', st', h', g5, ?_⟩
  have c2 := List.all_eq_true.mp c1.2 e he
  split at c2
  next => cases c2
  next ir hir =>
    split at c2
    next j dd hrv =>
      obtain ⟨vo, v1, v2⟩ := ab_rv_ok g1.2.1 g1.1.2.1 g1.2.2.2.1 hrv
      refine ⟨ir, vo, hir, v1, g1.2.2.2.2.2, g4, ?_⟩
      obtain ⟨_, t, e1, ⟨x, rfl, hj, hx⟩, ht2⟩ := v2
      obtain rfl : t = [] := ht2
      have h0 : ν' 0 = 0 := g1.1.2.1
      have hx : x.toInt = ν' j + dd := hx
      have hi1 := ab_iv_v (en := e.2.2.1) (j := j) (d := dd) g1.2.1 h0 hx
      have c3 := Bool.and_eq_true_iff.mp c2
      have c4 := Bool.and_eq_true_iff.mp c3.1
      have c5 := of_decide_eq_true c4.1
      have c6 := of_decide_eq_true c4.2
      have c7 := c3.2
      cases vo with
      | none => cases e1
      | some z =>
        cases e1
        refine ⟨⟨x, rfl, by omega, by omega⟩, ?_⟩
        split at c7
        next j2 d2 hf =>
          have c8 := Bool.and_eq_true_iff.mp c7
          obtain rfl := Nat.eq_of_beq_eq_true c8.1
          have c9 := of_decide_eq_true c8.2
          have ho := g1.ov a k hf hk
          have e2 : ν' j2 = ν j2 := g2 j2 hJ
          rw [ho, e2, c9]
        next => cases c7
    next => cases c2
/-- a slot that holds an int within bounds -/
def ck_sb (a k : Nat) (lo hi : Int) : Bool := match ab_get a with
  | some (_, rg) => decide (ab_sl rg k = some (.inl (lo, hi)))
  | none => false
theorem sb_v {h : eg_H} {a k : Nat} {lo hi : Int} (hp : ab_hp h) (c : ck_sb a k lo hi = true) : ab_slot h a k = some (.int (hv h a k)) ∧ lo ≤ (hv h a k).toInt ∧ (hv h a k).toInt ≤ hi := by
  unfold ck_sb at c
  split at c
  next tag rg hg => exact hv_slot hp.1 hg (of_decide_eq_true c)
  next => cases c
def bk_P (M : ab_M) (h : eg_H) (a k : Nat) (x : Int) (vo : Option Value) (h' : eg_H) : Prop := ab_hp h' ∧ ab_fr M h' h ∧ (∃ r : Int32, vo = some (.int r)) ∧ (hv h' a k).toInt = if 0 ≤ x ∧ x ≤ 1 then 0 else (hv h a k).toInt
def en_P (M : ab_M) (h : eg_H) (a k : Nat) (x : Int) (vo : Option Value) (h' : eg_H) : Prop := ab_hp h' ∧ ab_fr M h' h ∧ ∃ r : Int32, vo = some (.int r) ∧ r.toInt = (if 0 ≤ x ∧ x ≤ (hv h a k).toInt then 1 else 0) ∧ (hv h' a k).toInt = if 0 ≤ x ∧ x ≤ (hv h a k).toInt then x else (hv h a k).toInt
theorem ml_bkX : (eg_md 1196).2.2.1 = 3 := by decide +kernel
theorem c_bkX {sc : List Value} {sp d : Nat} (hsc : ab_osc sc) {h : eg_H} (x : Int32) (hp : ab_hp h) : mc sc sp 1196 10 (d + 14) [.ref 0, .int x] h (bk_P [(0, 15, 15), (1, 1, 1), (3, 5, 11), (5, 0, 940), (6, 0, 940), (7, 0, 940), (37, 6, 7), (38, 0, 9), (39, 0, 9), (40, 0, 9), (41, 0, 5), (42, 0, 5), (43, 0, 9), (44, 6, 7), (45, 0, 9), (46, 0, 9), (47, 0, 9), (48, 0, 5), (49, 0, 5), (50, 0, 9), (51, 1, 2), (53, 6, 7), (54, 0, 9), (55, 0, 9), (56, 0, 9), (57, 0, 5), (58, 0, 5), (60, 6, 7), (61, 0, 9), (62, 0, 9), (63, 0, 9), (64, 0, 5), (65, 0, 5), (67, 6, 7), (68, 0, 9), (69, 0, 9), (70, 0, 9), (71, 0, 5), (72, 0, 5), (74, 6, 7), (75, 0, 9), (76, 0, 9), (77, 0, 9), (78, 0, 5), (79, 0, 5), (81, 6, 7), (82, 0, 9), (83, 0, 9), (84, 0, 9), (85, 0, 5), (86, 0, 5), (88, 6, 7), (89, 0, 9), (90, 0, 9), (91, 0, 9), (92, 0, 5), (93, 0, 5), (95, 6, 7), (96, 0, 9), (97, 0, 9), (98, 0, 9), (99, 0, 5), (100, 0, 5), (102, 6, 7), (103, 0, 9), (104, 0, 9), (105, 0, 9), (106, 0, 5), (107, 0, 5), (112, 4, 9), (113, 0, 39), (114, 0, 39)] h 1 1 x.toInt) := by
  by_cases xi : 0 ≤ x.toInt ∧ x.toInt ≤ 1
  · refine (mc_qv tr_bkXi (rlo := .negSucc 2147483647) (rhi := .ofNat 2147483647) (a := 1) (k := 1) (J := 0) (D := .ofNat 0) (by decide) (by decide) (by decide +kernel) hsc (show 7 ≤ d + 14 by omega) (ar_1 (a := 0) (lo := .ofNat 0) (hi := .ofNat 1) hp xi.1 xi.2)).mono (fun vo h' g => ?_)
    obtain ⟨g1, g2, ⟨r, g3, -⟩, g4⟩ := g
    refine ⟨g1, fr_sub (by decide +kernel) g2, ⟨r, g3⟩, ?_⟩
    rw [if_pos xi, g4]
    rfl
  by_cases xl : x.toInt ≤ -1
  · refine (mc_q tr_bkXl (iv := some (-1000, -1000)) (by decide +kernel) hsc (show 1 ≤ d + 14 by omega) (ar_1 (a := 0) (lo := .negSucc 2147483647) (hi := .negSucc 0) hp (ab_ige x) xl)).mono (fun vo h' g => ?_)
    obtain ⟨g1, g2, r, g3, -⟩ := g
    refine ⟨g1, fr_sub (by decide +kernel) g2, ⟨r, g3⟩, ?_⟩
    rw [if_neg xi, hv_fr g2 (by decide +kernel)]
  · refine (mc_q tr_bkXh (iv := some (-1000, -1000)) (by decide +kernel) hsc (show 1 ≤ d + 14 by omega) (ar_1 (a := 0) (lo := .ofNat 2) (hi := .ofNat 2147483647) hp (by show (2 : Int) ≤ x.toInt; omega) (ab_ile x))).mono (fun vo h' g => ?_)
    obtain ⟨g1, g2, r, g3, -⟩ := g
    refine ⟨g1, fr_sub (by decide +kernel) g2, ⟨r, g3⟩, ?_⟩
    rw [if_neg xi, hv_fr g2 (by decide +kernel)]
theorem ml_bkM : (eg_md 2057).2.2.1 = 4 := by decide +kernel
theorem c_bkM {sc : List Value} {sp d : Nat} (hsc : ab_osc sc) {h : eg_H} (x : Int32) (hp : ab_hp h) : mc sc sp 2057 11 (d + 14) [.ref 182, .int x] h (bk_P [(182, 0, 0), (182, 2, 5), (182, 11, 18), (182, 22, 22), (182, 25, 25), (182, 41, 41), (182, 43, 43), (184, 89, 125), (186, 0, 134), (189, 0, 9), (190, 0, 295), (191, 0, 36), (198, 0, 3)] h 182 2 x.toInt) := by
  by_cases xi : 0 ≤ x.toInt ∧ x.toInt ≤ 1
  · refine (mc_qv tr_bkMi (rlo := .negSucc 2147483647) (rhi := .ofNat 2147483647) (a := 182) (k := 2) (J := 0) (D := .ofNat 0) (by decide) (by decide) (by decide +kernel) hsc (show 14 ≤ d + 14 by omega) (ar_1 (a := 182) (lo := .ofNat 0) (hi := .ofNat 1) hp xi.1 xi.2)).mono (fun vo h' g => ?_)
    obtain ⟨g1, g2, ⟨r, g3, -⟩, g4⟩ := g
    refine ⟨g1, fr_sub (by decide +kernel) g2, ⟨r, g3⟩, ?_⟩
    rw [if_pos xi, g4]
    rfl
  by_cases xl : x.toInt ≤ -1
  · refine (mc_q tr_bkMl (iv := some (-1000, -1000)) (by decide +kernel) hsc (show 2 ≤ d + 14 by omega) (ar_1 (a := 182) (lo := .negSucc 2147483647) (hi := .negSucc 0) hp (ab_ige x) xl)).mono (fun vo h' g => ?_)
    obtain ⟨g1, g2, r, g3, -⟩ := g
    refine ⟨g1, fr_sub (by decide +kernel) g2, ⟨r, g3⟩, ?_⟩
    rw [if_neg xi, hv_fr g2 (by decide +kernel)]
  · refine (mc_q tr_bkMh (iv := some (-1000, -1000)) (by decide +kernel) hsc (show 2 ≤ d + 14 by omega) (ar_1 (a := 182) (lo := .ofNat 2) (hi := .ofNat 2147483647) hp (by show (2 : Int) ≤ x.toInt; omega) (ab_ile x))).mono (fun vo h' g => ?_)
    obtain ⟨g1, g2, r, g3, -⟩ := g
    refine ⟨g1, fr_sub (by decide +kernel) g2, ⟨r, g3⟩, ?_⟩
    rw [if_neg xi, hv_fr g2 (by decide +kernel)]
theorem ce_684_0 : ab_at 684 0 (.iload_n 1) 1 = true := by decide +kernel
theorem ce_684_1 : ab_at 684 1 (.ifCond .lt 14) 3 = true := by decide +kernel
theorem ce_684_4 : ab_at 684 4 (.iload_n 1) 1 = true := by decide +kernel
theorem ce_684_5 : ab_at 684 5 (.aload_n 0) 1 = true := by decide +kernel
theorem ce_684_6 : ab_at 684 6 (.getfield 18) 3 = true := by decide +kernel
theorem ce_684_9 : ab_at 684 9 (.getfield 110) 3 = true := by decide +kernel
theorem ce_684_12 : ab_at 684 12 (.if_icmp .le 5) 3 = true := by decide +kernel
theorem ce_684_15 : ab_at 684 15 (.iconst 0) 1 = true := by decide +kernel
theorem ce_684_17 : ab_at 684 17 (.aload_n 0) 1 = true := by decide +kernel
theorem ce_684_18 : ab_at 684 18 (.getfield 18) 3 = true := by decide +kernel
theorem ce_684_21 : ab_at 684 21 (.iload_n 1) 1 = true := by decide +kernel
theorem ce_684_22 : ab_at 684 22 (.putfield 110) 3 = true := by decide +kernel
theorem ce_684_25 : ab_at 684 25 (.iconst 1) 1 = true := by decide +kernel
theorem ml_enX : (eg_md 684).2.2.1 = 2 := by decide +kernel
theorem ce_1451_0 : ab_at 1451 0 (.aload_n 0) 1 = true := by decide +kernel
theorem ce_1451_1 : ab_at 1451 1 (.iconst 0) 1 = true := by decide +kernel
theorem ce_1451_2 : ab_at 1451 2 (.putfield 1) 3 = true := by decide +kernel
theorem ce_1451_5 : ab_at 1451 5 (.iload_n 1) 1 = true := by decide +kernel
theorem ce_1451_6 : ab_at 1451 6 (.ifCond .lt 11) 3 = true := by decide +kernel
theorem ce_1451_9 : ab_at 1451 9 (.iload_n 1) 1 = true := by decide +kernel
theorem ce_1451_10 : ab_at 1451 10 (.aload_n 0) 1 = true := by decide +kernel
theorem ce_1451_11 : ab_at 1451 11 (.getfield 7) 3 = true := by decide +kernel
theorem ce_1451_14 : ab_at 1451 14 (.if_icmp .le 5) 3 = true := by decide +kernel
theorem ce_1451_17 : ab_at 1451 17 (.iconst 0) 1 = true := by decide +kernel
theorem ce_1451_19 : ab_at 1451 19 (.aload_n 0) 1 = true := by decide +kernel
theorem ce_1451_20 : ab_at 1451 20 (.iload_n 1) 1 = true := by decide +kernel
theorem ce_1451_21 : ab_at 1451 21 (.putfield 7) 3 = true := by decide +kernel
theorem ce_1451_24 : ab_at 1451 24 (.iconst 1) 1 = true := by decide +kernel
theorem ml_enM : (eg_md 1451).2.2.1 = 2 := by decide +kernel
theorem c_enX {sc : List Value} {sp d : Nat} {h : eg_H} (x : Int32) (hp : ab_hp h) : mc sc sp 684 10 d [.ref 0, .int x] h (en_P [(1, 1, 1)] h 1 1 x.toInt) := by
  have l0 : eg_find 0 (eg_args 0 [.ref 0, .int x]) = some (.ref 0) := rfl
  have l1 : eg_find 1 (eg_args 0 [.ref 0, .int x]) = some (.int x) := rfl
  obtain ⟨b1, b2, b3⟩ := sb_v (a := 1) (k := 1) (lo := .ofNat 0) (hi := .ofNat 940) hp (by decide +kernel)
  have b2 : (0 : Int) ≤ (hv h 1 1).toInt := b2
  have b3 : (hv h 1 1).toInt ≤ (940 : Int) := b3
  unfold mc
  refine hs_iload_n ce_684_0 l1 ?_
  refine hs_if (t := 15) ce_684_1 rfl (fun b => ?_) (fun b => ?_)
  · simp only [hs_cd] at b
    refine hs_iconst ce_684_15 ?_
    refine hs_k ⟨3, some (.int (Int32.ofInt 0)), by decide +kernel, by decide +kernel, hp, ab_fr.rf, Int32.ofInt 0, rfl, ?_, ?_⟩
    · rw [if_neg (by omega)]; decide
    · rw [if_neg (by omega)]
  · simp only [hs_cd, ab_not] at b
    refine hs_iload_n ce_684_4 l1 ?_
    refine hs_aload_n ce_684_5 l0 ?_
    refine hs_gfr 0 1 ce_684_6 (by decide +kernel) hp.1 ?_
    refine hs_gfi 1 ce_684_9 (by decide +kernel) hp.1 ?_
    refine hs_ic (t := 17) ce_684_12 rfl (fun c => ?_) (fun c => ?_)
    · simp only [hs_cd] at c
      refine hs_aload_n ce_684_17 l0 ?_
      refine hs_gfr 0 1 ce_684_18 (by decide +kernel) hp.1 ?_
      refine hs_iload_n ce_684_21 l1 ?_
      refine hs_pfi 1 0 940 ce_684_22 (by decide +kernel) hp.1 (by omega) (by omega) ?_
      intro h2 w2
      refine hs_iconst ce_684_25 ?_
      refine hs_k ⟨3, some (.int (Int32.ofInt 1)), by decide +kernel, by decide +kernel, ⟨w2.1, hp.2.set (by unfold ab_pr; rfl) w2.2⟩, w2.fr rfl, Int32.ofInt 1, rfl, ?_, ?_⟩
      · rw [if_pos (by omega)]; decide
      · rw [if_pos (by omega), w2.v, if_pos ⟨rfl, rfl⟩]
    · simp only [hs_cd, ab_not] at c
      refine hs_iconst ce_684_15 ?_
      refine hs_k ⟨3, some (.int (Int32.ofInt 0)), by decide +kernel, by decide +kernel, hp, ab_fr.rf, Int32.ofInt 0, rfl, ?_, ?_⟩
      · rw [if_neg (by omega)]; decide
      · rw [if_neg (by omega)]
theorem c_enM {sc : List Value} {sp d : Nat} {h : eg_H} (x : Int32) (hp : ab_hp h) : mc sc sp 1451 11 d [.ref 182, .int x] h (en_P [(182, 0, 0), (182, 2, 2)] h 182 2 x.toInt) := by
  have l0 : eg_find 0 (eg_args 0 [.ref 182, .int x]) = some (.ref 182) := rfl
  have l1 : eg_find 1 (eg_args 0 [.ref 182, .int x]) = some (.int x) := rfl
  obtain ⟨b1, b2, b3⟩ := sb_v (a := 182) (k := 2) (lo := .ofNat 0) (hi := .ofNat 940) hp (by decide +kernel)
  have b2 : (0 : Int) ≤ (hv h 182 2).toInt := b2
  have b3 : (hv h 182 2).toInt ≤ (940 : Int) := b3
  unfold mc
  refine hs_aload_n ce_1451_0 l0 ?_
  refine hs_iconst ce_1451_1 ?_
  refine hs_pfi 0 (0) (1) ce_1451_2 (by decide +kernel) hp.1 (by decide) (by decide) ?_
  intro h1 w1
  have hp1 : ab_hp h1 := ⟨w1.1, hp.2.set (by unfold ab_pr; rfl) w1.2⟩
  have hf1 : ab_fr [(182, 0, 0), (182, 2, 2)] h1 h := w1.fr rfl
  have e1 : hv h1 182 2 = hv h 182 2 := by rw [w1.v, if_neg (fun e => absurd e.2 (by decide))]
  refine hs_iload_n ce_1451_5 l1 ?_
  refine hs_if (t := 17) ce_1451_6 rfl (fun b => ?_) (fun b => ?_)
  · simp only [hs_cd] at b
    refine hs_iconst ce_1451_17 ?_
    refine hs_k ⟨3, some (.int (Int32.ofInt 0)), by decide +kernel, by decide +kernel, hp1, hf1, Int32.ofInt 0, rfl, ?_, ?_⟩
    · rw [if_neg (by omega)]; decide
    · rw [if_neg (by omega), e1]
  · simp only [hs_cd, ab_not] at b
    refine hs_iload_n ce_1451_9 l1 ?_
    refine hs_aload_n ce_1451_10 l0 ?_
    refine hs_gfi 2 ce_1451_11 (by decide +kernel) hp1.1 ?_
    rw [e1]
    refine hs_ic (t := 19) ce_1451_14 rfl (fun c => ?_) (fun c => ?_)
    · simp only [hs_cd] at c
      refine hs_aload_n ce_1451_19 l0 ?_
      refine hs_iload_n ce_1451_20 l1 ?_
      refine hs_pfi 2 0 940 ce_1451_21 (by decide +kernel) hp1.1 (by omega) (by omega) ?_
      intro h2 w2
      refine hs_iconst ce_1451_24 ?_
      refine hs_k ⟨3, some (.int (Int32.ofInt 1)), by decide +kernel, by decide +kernel, ⟨w2.1, hp1.2.set (by unfold ab_pr; rfl) w2.2⟩, (w2.fr rfl).tr hf1, Int32.ofInt 1, rfl, ?_, ?_⟩
      · rw [if_pos (by omega)]; decide
      · rw [if_pos (by omega), w2.v, if_pos ⟨rfl, rfl⟩]
    · simp only [hs_cd, ab_not] at c
      refine hs_iconst ce_1451_17 ?_
      refine hs_k ⟨3, some (.int (Int32.ofInt 0)), by decide +kernel, by decide +kernel, hp1, hf1, Int32.ofInt 0, rfl, ?_, ?_⟩
      · rw [if_neg (by omega)]; decide
      · rw [if_neg (by omega), e1]
