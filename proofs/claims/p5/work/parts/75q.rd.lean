/-! BY HAND: the class's reader of a headland: names, and lines of one number -/
theorem ci_766_0 : ab_at 766 0 (.aload_n 0) 1 = true := by decide +kernel
theorem ci_766_1 : ab_at 766 1 (.getfield 18) 3 = true := by decide +kernel
theorem ci_766_4 : ab_at 766 4 (.invokevirtual 173) 3 = true := by decide +kernel
theorem ci_766_7 : ab_at 766 7 (.ifCond .ne 5) 3 = true := by decide +kernel
theorem ci_766_10 : ab_at 766 10 (.iconst 0) 1 = true := by decide +kernel
theorem ci_766_12 : ab_at 766 12 (.aload_n 0) 1 = true := by decide +kernel
theorem ci_766_13 : ab_at 766 13 (.getfield 12) 3 = true := by decide +kernel
theorem ci_766_16 : ab_at 766 16 (.aload_n 0) 1 = true := by decide +kernel
theorem ci_766_17 : ab_at 766 17 (.getfield 18) 3 = true := by decide +kernel
theorem ci_766_20 : ab_at 766 20 (.invokevirtual 104) 3 = true := by decide +kernel
theorem ci_766_23 : ab_at 766 23 (.invokevirtual 176) 3 = true := by decide +kernel
theorem ci_766_26 : ab_at 766 26 (.iconst (-1)) 1 = true := by decide +kernel
theorem ci_766_27 : ab_at 766 27 (.if_icmp .ne 25) 3 = true := by decide +kernel
theorem ci_766_30 : ab_at 766 30 (.aload_n 0) 1 = true := by decide +kernel
theorem ci_766_31 : ab_at 766 31 (.getfield 12) 3 = true := by decide +kernel
theorem ci_766_34 : ab_at 766 34 (.aload_n 0) 1 = true := by decide +kernel
theorem ci_766_35 : ab_at 766 35 (.getfield 18) 3 = true := by decide +kernel
theorem ci_766_38 : ab_at 766 38 (.invokevirtual 104) 3 = true := by decide +kernel
theorem ci_766_41 : ab_at 766 41 (.invokevirtual 180) 3 = true := by decide +kernel
theorem ci_766_44 : ab_at 766 44 (.iconst (-1)) 1 = true := by decide +kernel
theorem ci_766_45 : ab_at 766 45 (.if_icmp .ne 7) 3 = true := by decide +kernel
theorem ci_766_48 : ab_at 766 48 (.iconst 1) 1 = true := by decide +kernel
theorem ci_766_49 : ab_at 766 49 (.goto 4) 3 = true := by decide +kernel
theorem ci_766_52 : ab_at 766 52 (.iconst 0) 1 = true := by decide +kernel
theorem ci_766_53 : ab_at 766 53 (.istore_n 1) 1 = true := by decide +kernel
theorem ci_766_54 : ab_at 766 54 (.iload_n 1) 1 = true := by decide +kernel
theorem ci_766_55 : ab_at 766 55 (.ifCond .ne 14) 3 = true := by decide +kernel
theorem ci_766_58 : ab_at 766 58 (.aload_n 0) 1 = true := by decide +kernel
theorem ci_766_59 : ab_at 766 59 (.getfield 18) 3 = true := by decide +kernel
theorem ci_766_62 : ab_at 766 62 (.iconst 3) 1 = true := by decide +kernel
theorem ci_766_63 : ab_at 766 63 (.invokevirtual 58) 3 = true := by decide +kernel
theorem ci_766_66 : ab_at 766 66 (.ifCond .eq 7) 3 = true := by decide +kernel
theorem ci_766_69 : ab_at 766 69 (.iconst 1) 1 = true := by decide +kernel
theorem ci_766_70 : ab_at 766 70 (.goto 4) 3 = true := by decide +kernel
theorem ci_766_73 : ab_at 766 73 (.iconst 0) 1 = true := by decide +kernel
theorem ci_797_0 : ab_at 797 0 (.aload_n 0) 1 = true := by decide +kernel
theorem ci_797_1 : ab_at 797 1 (.getfield 18) 3 = true := by decide +kernel
theorem ci_797_4 : ab_at 797 4 (.invokevirtual 173) 3 = true := by decide +kernel
theorem ci_797_7 : ab_at 797 7 (.ifCond .ne 5) 3 = true := by decide +kernel
theorem ci_797_10 : ab_at 797 10 (.iconst 0) 1 = true := by decide +kernel
theorem ci_797_12 : ab_at 797 12 (.aload_n 0) 1 = true := by decide +kernel
theorem ci_797_13 : ab_at 797 13 (.aload_n 0) 1 = true := by decide +kernel
theorem ci_797_14 : ab_at 797 14 (.getfield 12) 3 = true := by decide +kernel
theorem ci_797_17 : ab_at 797 17 (.aload_n 0) 1 = true := by decide +kernel
theorem ci_797_18 : ab_at 797 18 (.getfield 18) 3 = true := by decide +kernel
theorem ci_797_21 : ab_at 797 21 (.invokevirtual 104) 3 = true := by decide +kernel
theorem ci_797_24 : ab_at 797 24 (.invokevirtual 176) 3 = true := by decide +kernel
theorem ci_797_27 : ab_at 797 27 (.putfield 136) 3 = true := by decide +kernel
theorem ci_797_30 : ab_at 797 30 (.aload_n 0) 1 = true := by decide +kernel
theorem ci_797_31 : ab_at 797 31 (.getfield 136) 3 = true := by decide +kernel
theorem ci_797_34 : ab_at 797 34 (.iconst (-1)) 1 = true := by decide +kernel
theorem ci_797_35 : ab_at 797 35 (.if_icmp .ne 14) 3 = true := by decide +kernel
theorem ci_797_38 : ab_at 797 38 (.aload_n 0) 1 = true := by decide +kernel
theorem ci_797_39 : ab_at 797 39 (.getfield 18) 3 = true := by decide +kernel
theorem ci_797_42 : ab_at 797 42 (.iconst 3) 1 = true := by decide +kernel
theorem ci_797_43 : ab_at 797 43 (.invokevirtual 58) 3 = true := by decide +kernel
theorem ci_797_46 : ab_at 797 46 (.ifCond .eq 7) 3 = true := by decide +kernel
theorem ci_797_49 : ab_at 797 49 (.iconst 1) 1 = true := by decide +kernel
theorem ci_797_50 : ab_at 797 50 (.goto 4) 3 = true := by decide +kernel
theorem ci_797_53 : ab_at 797 53 (.iconst 0) 1 = true := by decide +kernel
theorem ci_815_0 : ab_at 815 0 (.aload_n 0) 1 = true := by decide +kernel
theorem ci_815_1 : ab_at 815 1 (.getfield 18) 3 = true := by decide +kernel
theorem ci_815_4 : ab_at 815 4 (.invokevirtual 173) 3 = true := by decide +kernel
theorem ci_815_7 : ab_at 815 7 (.ifCond .ne 5) 3 = true := by decide +kernel
theorem ci_815_10 : ab_at 815 10 (.iconst 0) 1 = true := by decide +kernel
theorem ci_815_12 : ab_at 815 12 (.aload_n 0) 1 = true := by decide +kernel
theorem ci_815_13 : ab_at 815 13 (.aload_n 0) 1 = true := by decide +kernel
theorem ci_815_14 : ab_at 815 14 (.getfield 12) 3 = true := by decide +kernel
theorem ci_815_17 : ab_at 815 17 (.aload_n 0) 1 = true := by decide +kernel
theorem ci_815_18 : ab_at 815 18 (.getfield 18) 3 = true := by decide +kernel
theorem ci_815_21 : ab_at 815 21 (.invokevirtual 104) 3 = true := by decide +kernel
theorem ci_815_24 : ab_at 815 24 (.invokevirtual 180) 3 = true := by decide +kernel
theorem ci_815_27 : ab_at 815 27 (.putfield 136) 3 = true := by decide +kernel
theorem ci_815_30 : ab_at 815 30 (.aload_n 0) 1 = true := by decide +kernel
theorem ci_815_31 : ab_at 815 31 (.getfield 136) 3 = true := by decide +kernel
theorem ci_815_34 : ab_at 815 34 (.iconst (-1)) 1 = true := by decide +kernel
theorem ci_815_35 : ab_at 815 35 (.if_icmp .ne 14) 3 = true := by decide +kernel
theorem ci_815_38 : ab_at 815 38 (.aload_n 0) 1 = true := by decide +kernel
theorem ci_815_39 : ab_at 815 39 (.getfield 18) 3 = true := by decide +kernel
theorem ci_815_42 : ab_at 815 42 (.iconst 3) 1 = true := by decide +kernel
theorem ci_815_43 : ab_at 815 43 (.invokevirtual 58) 3 = true := by decide +kernel
theorem ci_815_46 : ab_at 815 46 (.ifCond .eq 7) 3 = true := by decide +kernel
theorem ci_815_49 : ab_at 815 49 (.iconst 1) 1 = true := by decide +kernel
theorem ci_815_50 : ab_at 815 50 (.goto 4) 3 = true := by decide +kernel
theorem ci_815_53 : ab_at 815 53 (.iconst 0) 1 = true := by decide +kernel
theorem ml_770 : (eg_md 770).2.2.1 = 1 := by decide +kernel
theorem ml_774 : (eg_md 774).2.2.1 = 1 := by decide +kernel
theorem ml_778 : (eg_md 778).2.2.1 = 4 := by decide +kernel
theorem ml_782 : (eg_md 782).2.2.1 = 4 := by decide +kernel
/-- the bit of a long -/
def tb (w : Int64) (i : Nat) : Bool := w.toBitVec.getLsbD i
/-- the draft is as told -/
def CP (h : eg_H) (ps : PS) : Prop := (∀ k, k < 7 → (hv h 23 k).toInt = ps.1 k) ∧ ((hv h 22 3).toInt = ps.1 7 ∧ (hv h 22 4).toInt = ps.1 8 ∧ (hv h 22 5).toInt = ps.1 9) ∧ (∀ q : Nat, (q : Int) < ps.1 4 → (hl h 24 q).toInt = ps.2 0 q ∧ (hv h 25 q).toInt = ps.2 1 q ∧ (hv h 26 q).toInt = ps.2 2 q ∧ 0 ≤ ps.2 1 q ∧ ps.2 1 q ≤ 7 ∧ 0 ≤ ps.2 2 q ∧ ps.2 2 q ≤ 7) ∧ (∀ q : Nat, (q : Int) < ps.1 5 → (hl h 27 q).toInt = ps.2 3 q ∧ (hv h 28 q).toInt = ps.2 4 q ∧ (hv h 30 q).toInt = ps.2 6 q ∧ (hv h 31 q).toInt = ps.2 7 q ∧ 0 ≤ ps.2 6 q ∧ ps.2 6 q ≤ 7 ∧ 0 ≤ ps.2 7 q ∧ ps.2 7 q ≤ 7) ∧ (∀ q : Nat, q < 10 → ∀ r : Nat, (fb (hv h 34 q) r = true ↔ ps.2 (10 + q) r ≠ 0)) ∧ (∀ x y : Nat, x < 8 → y < 8 → (tb (hl h 22 6) (8 * y + x) = true ↔ occ ps x y)) ∧ (2 ≤ ps.1 0 ∧ ps.1 0 ≤ 8 ∧ 2 ≤ ps.1 1 ∧ ps.1 1 ≤ 8 ∧ 0 ≤ ps.1 4 ∧ ps.1 4 ≤ 6 ∧ 0 ≤ ps.1 5 ∧ ps.1 5 ≤ 10)
/-- only the cursor and the last cell, the last found, have been written: the draft stays -/
abbrev MCU : ab_M := [(3, 6, 11), (22, 7, 9)]
theorem CP.fr {h h' : eg_H} {ps : PS} (c : CP h ps) (f : ab_fr MCU h' h) : CP h' ps := by
  obtain ⟨c1, ⟨c2, c3, c4⟩, c5, c6, c7, c8, c9⟩ := c
  refine ⟨fun k hk => by rw [hv_same (f 23 k rfl)]; exact c1 k hk, ⟨by rw [hv_same (f 22 3 rfl)]; exact c2, by rw [hv_same (f 22 4 rfl)]; exact c3, by rw [hv_same (f 22 5 rfl)]; exact c4⟩, fun q hq => ?_, fun q hq => ?_, fun q hq => by rw [hv_same (f 34 q rfl)]; exact c7 q hq, fun x y hx hy => by rw [hl_same (f 22 6 rfl)]; exact c8 x y hx hy, c9⟩
  · rw [hl_same (f 24 q rfl), hv_same (f 25 q rfl), hv_same (f 26 q rfl)]
    exact c5 q hq
  · rw [hl_same (f 27 q rfl), hv_same (f 28 q rfl), hv_same (f 30 q rfl), hv_same (f 31 q rfl)]
    exact c6 q hq
theorem cu.fr {h h' : eg_H} {tk : Nat → tx_K} {ta : Nat → Nat} {m j : Nat} (c : cu h tk ta m j) {M : ab_M} (f : ab_fr M h' h) (k6 : ab_inr M 3 6 6 = false) (k7 : ab_inr M 3 7 7 = false) (k10 : ab_inr M 3 10 10 = false) (k11 : ab_inr M 3 11 11 = false) (k4 : ∀ q, ab_inr M 4 q q = false) : cu h' tk ta m j := ⟨by rw [hv_same (f 3 6 k6)]; exact c.1, fun g => (c.2 g).same (hv_same (f 3 10 k10)) (hv_same (f 3 7 k7)) (hl_same (f 3 11 k11)) (fun k => hl_same (f 4 k (k4 k)))⟩
/-- the draft's names are the told ones -/
theorem CP.sf4 {h : eg_H} {ps : PS} (c : CP h ps) (a : Int) : sf (fun q => (hl h 24 q).toInt) a (hv h 23 4).toInt.toNat = sf (ps.2 0) a (ps.1 4).toNat := by
  rw [c.1 4 (by omega)]
  exact sf_same _ (fun q hq => by rw [(c.2.2.1 q (by omega)).1])
theorem CP.sf5 {h : eg_H} {ps : PS} (c : CP h ps) (a : Int) : sf (fun q => (hl h 27 q).toInt) a (hv h 23 5).toInt.toNat = sf (ps.2 3) a (ps.1 5).toNat := by
  rw [c.1 5 (by omega)]
  exact sf_same _ (fun q hq => by rw [(c.2.2.2.1 q (by omega)).1])
/-- what is answered with a thing told: α's thing is in the heap by R -/
def an {α : Type} (h : eg_H) (ps : PS) (tk : Nat → tx_K) (ta : Nat → Nat) (m j' : Nat) (x : Sum ER α) (R : eg_H → α → Prop) (vo : Option Value) (h' : eg_H) : Prop := ab_hp h' ∧ ab_fr MCU h' h ∧ ∃ r : Int32, vo = some (.int r) ∧ ((∃ a, x = .inr a ∧ r.toInt = 1 ∧ cu h' tk ta m j' ∧ R h' a) ∨ (∃ k a, x = .inl (k, a) ∧ r.toInt = 0 ∧ flt h' k a))
theorem rt_766 : (eg_md 766).2.2.2 = some .boolean := by decide +kernel
theorem k_new {sc : List Value} {sp d : Nat} {h : eg_H} {tk : Nat → tx_K} {ta : Nat → Nat} {m j : Nat} {ps : PS} (hq : ab_hp h) (hk : kwok h) (hr : ro h tk ta m) (hc : cu h tk ta m j) (hP : CP h ps) : mc sc sp 766 2 (d + 1 + 1) [.ref 22] h (an h ps tk ta m (j + 1) (sp_new ps (tk j) (ta j)) (fun h' c => (hl h' 3 11).toInt = c)) := by
  have l0 : eg_find 0 (eg_args 0 [.ref 22]) = some (.ref 22) := rfl
  have hp := hq.1
  unfold mc
  refine hs_aload_n ci_766_0 l0 ?_
  refine hs_gfr 0 3 ci_766_1 (by decide +kernel) hp ?_
  refine hs_cv 770 8 0 ci_766_4 (by decide +kernel) (by decide +kernel) hp rfl (by rw [ml_770]; rfl) (k_nam hq hk hr hc) ?_
  rintro v9 h1 ⟨q1, f1, c1, r1, e8, hr1⟩
  rw [e8]
  clear e8 v9
  replace hp := q1.1
  have hk1 : kwok h1 := hk.fr f1 (fun _ => rfl)
  have hP1 : CP h1 ps := hP.fr (fr_sub (by decide +kernel) f1)
  have hcu : cur h1 (tk j) (ta j) := c1.2 (by omega)
  have hkv := (cur_k hcu hk1).2.2.2.2.2.2
  simp only [Option.toList, List.cons_append, List.nil_append]
  refine hs_if (t := 12) ci_766_7 rfl (fun b7 => ?_) (fun b7 => ?_)
  · simp only [hs_cd, ab_not] at b7
    have hy : 4 ≤ (tk j).1 ∧ isnm (tk j).2.1 := by
      rcases hr1 with ⟨-, y⟩ | ⟨y, -⟩
      · exact y
      · omega
    have hval : (hl h1 3 11).toInt = (tk j).2.1 := (hkv hy.1).1
    have hsn : sp_nam (tk j) (ta j) = .inr (tk j).2.1 := by
      unfold sp_nam
      rw [if_pos hy]
    refine hs_aload_n ci_766_12 l0 ?_
    refine hs_gfr 1 23 ci_766_13 (by decide +kernel) hp ?_
    refine hs_aload_n ci_766_16 l0 ?_
    refine hs_gfr 0 3 ci_766_17 (by decide +kernel) hp ?_
    refine hs_cv 774 8 0 ci_766_20 (by decide +kernel) (by decide +kernel) hp rfl (by rw [ml_774]; rfl) (k_lng q1) ?_
    rintro v9 h9 ⟨e9, e8⟩
    rw [e8, e9]
    clear e8 e9 v9 h9
    simp only [Option.toList, List.cons_append, List.nil_append]
    refine hs_cv 778 1 1 ci_766_23 (by decide +kernel) (by decide +kernel) hp rfl (by rw [ml_778]; rfl) (k_mn (hl h1 3 11) q1) ?_
    rintro v9 h9 ⟨e9, mnr, e8, hmnr⟩
    rw [e8, e9]
    clear e8 e9 v9 h9
    rw [hval, hP1.sf4] at hmnr
    simp only [Option.toList, List.cons_append, List.nil_append]
    refine hs_iconst ci_766_26 ?_
    refine hs_ic (t := 52) ci_766_27 rfl (fun b27 => ?_) (fun b27 => ?_)
    · simp only [hs_cd, ab_not, kI_m1] at b27
      refine hs_iconst ci_766_52 ?_
      refine hs_istore2_n ci_766_53 (by decide +kernel) ?_
      intro ls9 q9
      replace l0 := q9.2 0 _ (by decide) (Or.inl rfl) l0
      have l1 := q9.1
      clear q9
      refine hs_iload_n ci_766_54 l1 ?_
      refine hs_if (t := 69) ci_766_55 rfl (fun b55 => ?_) (fun b55 => ?_)
      · simp only [hs_cd, ab_not] at b55
        exact absurd b55 (by decide)
      · simp only [hs_cd, ab_not, kI_0] at b55
        refine hs_aload_n ci_766_58 l0 ?_
        refine hs_gfr 0 3 ci_766_59 (by decide +kernel) hp ?_
        refine hs_iconst ci_766_62 ?_
        refine hs_cv 748 8 1 ci_766_63 (by decide +kernel) (by decide +kernel) hp rfl (by rw [ml_748]; rfl) (k_fail (Int32.ofInt 3) q1) ?_
        rintro v9 h2 ⟨r2, e8, hr2, q2, f2, g8, g9⟩
        rw [e8]
        clear e8 v9
        replace hp := q2.1
        simp only [Option.toList, List.cons_append, List.nil_append]
        refine hs_if (t := 73) ci_766_66 rfl (fun b66 => ?_) (fun b66 => ?_)
        · simp only [hs_cd, ab_not] at b66
          refine hs_iconst ci_766_73 ?_
          exact hs_k ⟨3, some (.int (Int32.ofInt 0)), by decide +kernel, rv_b rt_766 (Or.inl (by decide)), q2, (fr_sub (M := MCU) (by decide +kernel) f2).tr (fr_sub (by decide +kernel) f1), _, rfl, Or.inr ⟨3, ta j, by unfold sp_new; rw [sbn_r hsn, if_pos (Or.inl (by rw [← hmnr]; exact b27))], by decide, g8.trans kI_3, by rw [g9]; exact hcu.1⟩⟩
        · simp only [hs_cd, ab_not] at b66
          omega
    · simp only [hs_cd, ab_not, kI_m1] at b27
      refine hs_aload_n ci_766_30 l0 ?_
      refine hs_gfr 1 23 ci_766_31 (by decide +kernel) hp ?_
      refine hs_aload_n ci_766_34 l0 ?_
      refine hs_gfr 0 3 ci_766_35 (by decide +kernel) hp ?_
      refine hs_cv 774 8 0 ci_766_38 (by decide +kernel) (by decide +kernel) hp rfl (by rw [ml_774]; rfl) (k_lng q1) ?_
      rintro v9 h9 ⟨e9, e8⟩
      rw [e8, e9]
      clear e8 e9 v9 h9
      simp only [Option.toList, List.cons_append, List.nil_append]
      refine hs_cv 782 1 1 ci_766_41 (by decide +kernel) (by decide +kernel) hp rfl (by rw [ml_782]; rfl) (k_pn (hl h1 3 11) q1) ?_
      rintro v9 h9 ⟨e9, pnr, e8, hpnr⟩
      rw [e8, e9]
      clear e8 e9 v9 h9
      rw [hval, hP1.sf5] at hpnr
      simp only [Option.toList, List.cons_append, List.nil_append]
      refine hs_iconst ci_766_44 ?_
      refine hs_ic (t := 52) ci_766_45 rfl (fun b45 => ?_) (fun b45 => ?_)
      · simp only [hs_cd, ab_not, kI_m1] at b45
        refine hs_iconst ci_766_52 ?_
        refine hs_istore2_n ci_766_53 (by decide +kernel) ?_
        intro ls9 q9
        replace l0 := q9.2 0 _ (by decide) (Or.inl rfl) l0
        have l1 := q9.1
        clear q9
        refine hs_iload_n ci_766_54 l1 ?_
        refine hs_if (t := 69) ci_766_55 rfl (fun b55 => ?_) (fun b55 => ?_)
        · simp only [hs_cd, ab_not] at b55
          exact absurd b55 (by decide)
        · simp only [hs_cd, ab_not, kI_0] at b55
          refine hs_aload_n ci_766_58 l0 ?_
          refine hs_gfr 0 3 ci_766_59 (by decide +kernel) hp ?_
          refine hs_iconst ci_766_62 ?_
          refine hs_cv 748 8 1 ci_766_63 (by decide +kernel) (by decide +kernel) hp rfl (by rw [ml_748]; rfl) (k_fail (Int32.ofInt 3) q1) ?_
          rintro v9 h2 ⟨r2, e8, hr2, q2, f2, g8, g9⟩
          rw [e8]
          clear e8 v9
          replace hp := q2.1
          simp only [Option.toList, List.cons_append, List.nil_append]
          refine hs_if (t := 73) ci_766_66 rfl (fun b66 => ?_) (fun b66 => ?_)
          · simp only [hs_cd, ab_not] at b66
            refine hs_iconst ci_766_73 ?_
            exact hs_k ⟨3, some (.int (Int32.ofInt 0)), by decide +kernel, rv_b rt_766 (Or.inl (by decide)), q2, (fr_sub (M := MCU) (by decide +kernel) f2).tr (fr_sub (by decide +kernel) f1), _, rfl, Or.inr ⟨3, ta j, by unfold sp_new; rw [sbn_r hsn, if_pos (Or.inr (by rw [← hpnr]; exact b45))], by decide, g8.trans kI_3, by rw [g9]; exact hcu.1⟩⟩
          · simp only [hs_cd, ab_not] at b66
            omega
      · simp only [hs_cd, ab_not, kI_m1] at b45
        refine hs_iconst ci_766_48 ?_
        refine hs_goto (t := 53) ci_766_49 rfl ?_
        refine hs_istore2_n ci_766_53 (by decide +kernel) ?_
        intro ls9 q9
        replace l0 := q9.2 0 _ (by decide) (Or.inl rfl) l0
        have l1 := q9.1
        clear q9
        refine hs_iload_n ci_766_54 l1 ?_
        refine hs_if (t := 69) ci_766_55 rfl (fun b55 => ?_) (fun b55 => ?_)
        · simp only [hs_cd, ab_not, kI_1] at b55
          refine hs_iconst ci_766_69 ?_
          refine hs_goto (t := 74) ci_766_70 rfl ?_
          refine hs_k ⟨3, some (.int (Int32.ofInt 1)), by decide +kernel, rv_b rt_766 (Or.inr (by decide)), q1, fr_sub (by decide +kernel) f1, _, rfl, Or.inl ⟨(tk j).2.1, ?_, by decide, c1, hval⟩⟩
          unfold sp_new
          rw [sbn_r hsn, if_neg]
          rintro (g | g)
          · exact g (by rw [← hmnr]; exact b27)
          · exact g (by rw [← hpnr]; exact b45)
        · simp only [hs_cd, ab_not] at b55
          exact absurd b55 (by decide)
  · simp only [hs_cd, ab_not] at b7
    refine hs_iconst ci_766_10 ?_
    refine hs_k ⟨3, some (.int (Int32.ofInt 0)), by decide +kernel, rv_b rt_766 (Or.inl (by decide)), q1, fr_sub (by decide +kernel) f1, _, rfl, Or.inr ⟨1, ta j, ?_, by decide, ?_⟩⟩
    · rcases hr1 with ⟨y1, -⟩ | ⟨-, y2, -⟩
      · omega
      · exact sbn_l (by unfold sp_nam; rw [if_neg y2])
    · rcases hr1 with ⟨y1, -⟩ | ⟨-, -, y3⟩
      · omega
      · exact y3
theorem rt_797 : (eg_md 797).2.2.2 = some .boolean := by decide +kernel
theorem k_tman {sc : List Value} {sp d : Nat} {h : eg_H} {tk : Nat → tx_K} {ta : Nat → Nat} {m j : Nat} {ps : PS} (hq : ab_hp h) (hk : kwok h) (hr : ro h tk ta m) (hc : cu h tk ta m j) (hP : CP h ps) : mc sc sp 797 2 (d + 1 + 1) [.ref 22] h (an h ps tk ta m (j + 1) (sp_old ps 0 4 (tk j) (ta j)) (fun h' c => (hv h' 22 9).toInt = c)) := by
  have l0 : eg_find 0 (eg_args 0 [.ref 22]) = some (.ref 22) := rfl
  have hp := hq.1
  have hb := hP.2.2.2.2.2.2
  unfold mc
  refine hs_aload_n ci_797_0 l0 ?_
  refine hs_gfr 0 3 ci_797_1 (by decide +kernel) hp ?_
  refine hs_cv 770 8 0 ci_797_4 (by decide +kernel) (by decide +kernel) hp rfl (by rw [ml_770]; rfl) (k_nam hq hk hr hc) ?_
  rintro v9 h1 ⟨q1, f1, c1, r1, e8, hr1⟩
  rw [e8]
  clear e8 v9
  replace hp := q1.1
  have hk1 : kwok h1 := hk.fr f1 (fun _ => rfl)
  have hP1 : CP h1 ps := hP.fr (fr_sub (by decide +kernel) f1)
  have hcu : cur h1 (tk j) (ta j) := c1.2 (by omega)
  have hkv := (cur_k hcu hk1).2.2.2.2.2.2
  simp only [Option.toList, List.cons_append, List.nil_append]
  refine hs_if (t := 12) ci_797_7 rfl (fun b7 => ?_) (fun b7 => ?_)
  · simp only [hs_cd, ab_not] at b7
    have hy : 4 ≤ (tk j).1 ∧ isnm (tk j).2.1 := by
      rcases hr1 with ⟨-, y⟩ | ⟨y, -⟩
      · exact y
      · omega
    have hval : (hl h1 3 11).toInt = (tk j).2.1 := (hkv hy.1).1
    have hsn : sp_nam (tk j) (ta j) = .inr (tk j).2.1 := by
      unfold sp_nam
      rw [if_pos hy]
    refine hs_aload_n ci_797_12 l0 ?_
    refine hs_aload_n ci_797_13 l0 ?_
    refine hs_gfr 1 23 ci_797_14 (by decide +kernel) hp ?_
    refine hs_aload_n ci_797_17 l0 ?_
    refine hs_gfr 0 3 ci_797_18 (by decide +kernel) hp ?_
    refine hs_cv 774 8 0 ci_797_21 (by decide +kernel) (by decide +kernel) hp rfl (by rw [ml_774]; rfl) (k_lng q1) ?_
    rintro v9 h9 ⟨e9, e8⟩
    rw [e8, e9]
    clear e8 e9 v9 h9
    simp only [Option.toList, List.cons_append, List.nil_append]
    refine hs_cv 778 1 1 ci_797_24 (by decide +kernel) (by decide +kernel) hp rfl (by rw [ml_778]; rfl) (k_mn (hl h1 3 11) q1) ?_
    rintro v9 h9 ⟨e9, mnr, e8, hmnr⟩
    rw [e8, e9]
    clear e8 e9 v9 h9
    rw [hval, hP1.sf4] at hmnr
    simp only [Option.toList, List.cons_append, List.nil_append]
    have hsb := sf_b (g := ps.2 0) (a := (tk j).2.1) (ps.1 4).toNat
    refine hs_pfi 9 (-1) (9) ci_797_27 (by decide +kernel) hp (by rw [hmnr]; omega) (by rw [hmnr]; omega) ?_
    intro h27 w27
    replace hp := w27.1
    have f27 : ab_fr MCU h27 h1 := w27.fr (M := MCU) rfl
    have q27 : ab_hp h27 := ⟨hp, q1.2.fr (M := MCU) (by decide +kernel) f27⟩
    have c27 : cu h27 tk ta m (j + 1) := c1.fr (M := [(22, 9, 9)]) (w27.fr (M := [(22, 9, 9)]) rfl) rfl rfl rfl rfl (fun _ => rfl)
    have n27 : hv h27 22 9 = mnr := by rw [w27.v, if_pos ⟨rfl, rfl⟩]
    refine hs_aload_n ci_797_30 l0 ?_
    refine hs_gfi 9 ci_797_31 (by decide +kernel) hp ?_
    rw [n27]
    refine hs_iconst ci_797_34 ?_
    refine hs_ic (t := 49) ci_797_35 rfl (fun b35 => ?_) (fun b35 => ?_)
    · simp only [hs_cd, ab_not, kI_m1] at b35
      refine hs_iconst ci_797_49 ?_
      refine hs_goto (t := 54) ci_797_50 rfl ?_
      refine hs_k ⟨3, some (.int (Int32.ofInt 1)), by decide +kernel, rv_b rt_797 (Or.inr (by decide)), q27, f27.tr (fr_sub (by decide +kernel) f1), _, rfl, Or.inl ⟨sf (ps.2 0) (tk j).2.1 (ps.1 4).toNat, ?_, by decide, c27, by show (hv _ 22 9).toInt = _; rw [n27]; exact hmnr⟩⟩
      unfold sp_old
      rw [sbn_r hsn, if_neg (by rw [← hmnr]; exact b35)]
    · simp only [hs_cd, ab_not, kI_m1] at b35
      refine hs_aload_n ci_797_38 l0 ?_
      refine hs_gfr 0 3 ci_797_39 (by decide +kernel) hp ?_
      refine hs_iconst ci_797_42 ?_
      refine hs_cv 748 8 1 ci_797_43 (by decide +kernel) (by decide +kernel) hp rfl (by rw [ml_748]; rfl) (k_fail (Int32.ofInt 3) q27) ?_
      rintro v9 h2 ⟨r2, e8, hr2, q2, f2, g8, g9⟩
      rw [e8]
      clear e8 v9
      replace hp := q2.1
      simp only [Option.toList, List.cons_append, List.nil_append]
      refine hs_if (t := 53) ci_797_46 rfl (fun b46 => ?_) (fun b46 => ?_)
      · simp only [hs_cd, ab_not] at b46
        refine hs_iconst ci_797_53 ?_
        refine hs_k ⟨3, some (.int (Int32.ofInt 0)), by decide +kernel, rv_b rt_797 (Or.inl (by decide)), q2, (fr_sub (M := MCU) (by decide +kernel) f2).tr (f27.tr (fr_sub (by decide +kernel) f1)), _, rfl, Or.inr ⟨3, ta j, ?_, by decide, g8.trans kI_3, by rw [g9, w27.v, if_neg (by omega)]; exact hcu.1⟩⟩
        unfold sp_old
        rw [sbn_r hsn, if_pos (by rw [← hmnr]; exact b35)]
      · simp only [hs_cd, ab_not] at b46
        omega
  · simp only [hs_cd, ab_not] at b7
    refine hs_iconst ci_797_10 ?_
    refine hs_k ⟨3, some (.int (Int32.ofInt 0)), by decide +kernel, rv_b rt_797 (Or.inl (by decide)), q1, fr_sub (by decide +kernel) f1, _, rfl, Or.inr ⟨1, ta j, ?_, by decide, ?_⟩⟩
    · rcases hr1 with ⟨y1, -⟩ | ⟨-, y2, -⟩
      · omega
      · exact sbn_l (by unfold sp_nam; rw [if_neg y2])
    · rcases hr1 with ⟨y1, -⟩ | ⟨-, -, y3⟩
      · omega
      · exact y3
theorem rt_815 : (eg_md 815).2.2.2 = some .boolean := by decide +kernel
theorem k_tprm {sc : List Value} {sp d : Nat} {h : eg_H} {tk : Nat → tx_K} {ta : Nat → Nat} {m j : Nat} {ps : PS} (hq : ab_hp h) (hk : kwok h) (hr : ro h tk ta m) (hc : cu h tk ta m j) (hP : CP h ps) : mc sc sp 815 2 (d + 1 + 1) [.ref 22] h (an h ps tk ta m (j + 1) (sp_old ps 3 5 (tk j) (ta j)) (fun h' c => (hv h' 22 9).toInt = c)) := by
  have l0 : eg_find 0 (eg_args 0 [.ref 22]) = some (.ref 22) := rfl
  have hp := hq.1
  have hb := hP.2.2.2.2.2.2
  unfold mc
  refine hs_aload_n ci_815_0 l0 ?_
  refine hs_gfr 0 3 ci_815_1 (by decide +kernel) hp ?_
  refine hs_cv 770 8 0 ci_815_4 (by decide +kernel) (by decide +kernel) hp rfl (by rw [ml_770]; rfl) (k_nam hq hk hr hc) ?_
  rintro v9 h1 ⟨q1, f1, c1, r1, e8, hr1⟩
  rw [e8]
  clear e8 v9
  replace hp := q1.1
  have hk1 : kwok h1 := hk.fr f1 (fun _ => rfl)
  have hP1 : CP h1 ps := hP.fr (fr_sub (by decide +kernel) f1)
  have hcu : cur h1 (tk j) (ta j) := c1.2 (by omega)
  have hkv := (cur_k hcu hk1).2.2.2.2.2.2
  simp only [Option.toList, List.cons_append, List.nil_append]
  refine hs_if (t := 12) ci_815_7 rfl (fun b7 => ?_) (fun b7 => ?_)
  · simp only [hs_cd, ab_not] at b7
    have hy : 4 ≤ (tk j).1 ∧ isnm (tk j).2.1 := by
      rcases hr1 with ⟨-, y⟩ | ⟨y, -⟩
      · exact y
      · omega
    have hval : (hl h1 3 11).toInt = (tk j).2.1 := (hkv hy.1).1
    have hsn : sp_nam (tk j) (ta j) = .inr (tk j).2.1 := by
      unfold sp_nam
      rw [if_pos hy]
    refine hs_aload_n ci_815_12 l0 ?_
    refine hs_aload_n ci_815_13 l0 ?_
    refine hs_gfr 1 23 ci_815_14 (by decide +kernel) hp ?_
    refine hs_aload_n ci_815_17 l0 ?_
    refine hs_gfr 0 3 ci_815_18 (by decide +kernel) hp ?_
    refine hs_cv 774 8 0 ci_815_21 (by decide +kernel) (by decide +kernel) hp rfl (by rw [ml_774]; rfl) (k_lng q1) ?_
    rintro v9 h9 ⟨e9, e8⟩
    rw [e8, e9]
    clear e8 e9 v9 h9
    simp only [Option.toList, List.cons_append, List.nil_append]
    refine hs_cv 782 1 1 ci_815_24 (by decide +kernel) (by decide +kernel) hp rfl (by rw [ml_782]; rfl) (k_pn (hl h1 3 11) q1) ?_
    rintro v9 h9 ⟨e9, pnr, e8, hpnr⟩
    rw [e8, e9]
    clear e8 e9 v9 h9
    rw [hval, hP1.sf5] at hpnr
    simp only [Option.toList, List.cons_append, List.nil_append]
    have hsb := sf_b (g := ps.2 3) (a := (tk j).2.1) (ps.1 5).toNat
    refine hs_pfi 9 (-1) (9) ci_815_27 (by decide +kernel) hp (by rw [hpnr]; omega) (by rw [hpnr]; omega) ?_
    intro h27 w27
    replace hp := w27.1
    have f27 : ab_fr MCU h27 h1 := w27.fr (M := MCU) rfl
    have q27 : ab_hp h27 := ⟨hp, q1.2.fr (M := MCU) (by decide +kernel) f27⟩
    have c27 : cu h27 tk ta m (j + 1) := c1.fr (M := [(22, 9, 9)]) (w27.fr (M := [(22, 9, 9)]) rfl) rfl rfl rfl rfl (fun _ => rfl)
    have n27 : hv h27 22 9 = pnr := by rw [w27.v, if_pos ⟨rfl, rfl⟩]
    refine hs_aload_n ci_815_30 l0 ?_
    refine hs_gfi 9 ci_815_31 (by decide +kernel) hp ?_
    rw [n27]
    refine hs_iconst ci_815_34 ?_
    refine hs_ic (t := 49) ci_815_35 rfl (fun b35 => ?_) (fun b35 => ?_)
    · simp only [hs_cd, ab_not, kI_m1] at b35
      refine hs_iconst ci_815_49 ?_
      refine hs_goto (t := 54) ci_815_50 rfl ?_
      refine hs_k ⟨3, some (.int (Int32.ofInt 1)), by decide +kernel, rv_b rt_815 (Or.inr (by decide)), q27, f27.tr (fr_sub (by decide +kernel) f1), _, rfl, Or.inl ⟨sf (ps.2 3) (tk j).2.1 (ps.1 5).toNat, ?_, by decide, c27, by show (hv _ 22 9).toInt = _; rw [n27]; exact hpnr⟩⟩
      unfold sp_old
      rw [sbn_r hsn, if_neg (by rw [← hpnr]; exact b35)]
    · simp only [hs_cd, ab_not, kI_m1] at b35
      refine hs_aload_n ci_815_38 l0 ?_
      refine hs_gfr 0 3 ci_815_39 (by decide +kernel) hp ?_
      refine hs_iconst ci_815_42 ?_
      refine hs_cv 748 8 1 ci_815_43 (by decide +kernel) (by decide +kernel) hp rfl (by rw [ml_748]; rfl) (k_fail (Int32.ofInt 3) q27) ?_
      rintro v9 h2 ⟨r2, e8, hr2, q2, f2, g8, g9⟩
      rw [e8]
      clear e8 v9
      replace hp := q2.1
      simp only [Option.toList, List.cons_append, List.nil_append]
      refine hs_if (t := 53) ci_815_46 rfl (fun b46 => ?_) (fun b46 => ?_)
      · simp only [hs_cd, ab_not] at b46
        refine hs_iconst ci_815_53 ?_
        refine hs_k ⟨3, some (.int (Int32.ofInt 0)), by decide +kernel, rv_b rt_815 (Or.inl (by decide)), q2, (fr_sub (M := MCU) (by decide +kernel) f2).tr (f27.tr (fr_sub (by decide +kernel) f1)), _, rfl, Or.inr ⟨3, ta j, ?_, by decide, g8.trans kI_3, by rw [g9, w27.v, if_neg (by omega)]; exact hcu.1⟩⟩
        unfold sp_old
        rw [sbn_r hsn, if_pos (by rw [← hpnr]; exact b35)]
      · simp only [hs_cd, ab_not] at b46
        omega
  · simp only [hs_cd, ab_not] at b7
    refine hs_iconst ci_815_10 ?_
    refine hs_k ⟨3, some (.int (Int32.ofInt 0)), by decide +kernel, rv_b rt_815 (Or.inl (by decide)), q1, fr_sub (by decide +kernel) f1, _, rfl, Or.inr ⟨1, ta j, ?_, by decide, ?_⟩⟩
    · rcases hr1 with ⟨y1, -⟩ | ⟨-, y2, -⟩
      · omega
      · exact sbn_l (by unfold sp_nam; rw [if_neg y2])
    · rcases hr1 with ⟨y1, -⟩ | ⟨-, -, y3⟩
      · omega
      · exact y3
