/-! BY HAND: the class's reader: a cell -/
theorem ci_786_0 : ab_at 786 0 (.aload_n 0) 1 = true := by decide +kernel
theorem ci_786_1 : ab_at 786 1 (.getfield 18) 3 = true := by decide +kernel
theorem ci_786_4 : ab_at 786 4 (.iconst 0) 1 = true := by decide +kernel
theorem ci_786_5 : ab_at 786 5 (.aload_n 0) 1 = true := by decide +kernel
theorem ci_786_6 : ab_at 786 6 (.getfield 12) 3 = true := by decide +kernel
theorem ci_786_9 : ab_at 786 9 (.getfield 88) 3 = true := by decide +kernel
theorem ci_786_12 : ab_at 786 12 (.iconst 1) 1 = true := by decide +kernel
theorem ci_786_13 : ab_at 786 13 (.isub) 1 = true := by decide +kernel
theorem ci_786_14 : ab_at 786 14 (.invokevirtual 80) 3 = true := by decide +kernel
theorem ci_786_17 : ab_at 786 17 (.ifCond .ne 5) 3 = true := by decide +kernel
theorem ci_786_20 : ab_at 786 20 (.iconst 0) 1 = true := by decide +kernel
theorem ci_786_22 : ab_at 786 22 (.aload_n 0) 1 = true := by decide +kernel
theorem ci_786_23 : ab_at 786 23 (.aload_n 0) 1 = true := by decide +kernel
theorem ci_786_24 : ab_at 786 24 (.getfield 18) 3 = true := by decide +kernel
theorem ci_786_27 : ab_at 786 27 (.invokevirtual 84) 3 = true := by decide +kernel
theorem ci_786_30 : ab_at 786 30 (.putfield 115) 3 = true := by decide +kernel
theorem ci_786_33 : ab_at 786 33 (.aload_n 0) 1 = true := by decide +kernel
theorem ci_786_34 : ab_at 786 34 (.getfield 18) 3 = true := by decide +kernel
theorem ci_786_37 : ab_at 786 37 (.iconst 0) 1 = true := by decide +kernel
theorem ci_786_38 : ab_at 786 38 (.aload_n 0) 1 = true := by decide +kernel
theorem ci_786_39 : ab_at 786 39 (.getfield 12) 3 = true := by decide +kernel
theorem ci_786_42 : ab_at 786 42 (.getfield 91) 3 = true := by decide +kernel
theorem ci_786_45 : ab_at 786 45 (.iconst 1) 1 = true := by decide +kernel
theorem ci_786_46 : ab_at 786 46 (.isub) 1 = true := by decide +kernel
theorem ci_786_47 : ab_at 786 47 (.invokevirtual 80) 3 = true := by decide +kernel
theorem ci_786_50 : ab_at 786 50 (.ifCond .ne 5) 3 = true := by decide +kernel
theorem ci_786_53 : ab_at 786 53 (.iconst 0) 1 = true := by decide +kernel
theorem ci_786_55 : ab_at 786 55 (.aload_n 0) 1 = true := by decide +kernel
theorem ci_786_56 : ab_at 786 56 (.aload_n 0) 1 = true := by decide +kernel
theorem ci_786_57 : ab_at 786 57 (.getfield 18) 3 = true := by decide +kernel
theorem ci_786_60 : ab_at 786 60 (.invokevirtual 84) 3 = true := by decide +kernel
theorem ci_786_63 : ab_at 786 63 (.putfield 121) 3 = true := by decide +kernel
theorem ci_786_66 : ab_at 786 66 (.aload_n 0) 1 = true := by decide +kernel
theorem ci_786_67 : ab_at 786 67 (.getfield 115) 3 = true := by decide +kernel
theorem ci_786_70 : ab_at 786 70 (.aload_n 0) 1 = true := by decide +kernel
theorem ci_786_71 : ab_at 786 71 (.getfield 121) 3 = true := by decide +kernel
theorem ci_786_74 : ab_at 786 74 (.invokestatic 183) 3 = true := by decide +kernel
theorem ci_786_77 : ab_at 786 77 (.lstore_n 1) 1 = true := by decide +kernel
theorem ci_786_78 : ab_at 786 78 (.aload_n 0) 1 = true := by decide +kernel
theorem ci_786_79 : ab_at 786 79 (.getfield 35) 3 = true := by decide +kernel
theorem ci_786_82 : ab_at 786 82 (.lload_n 1) 1 = true := by decide +kernel
theorem ci_786_83 : ab_at 786 83 (.land) 1 = true := by decide +kernel
theorem ci_786_84 : ab_at 786 84 (.lconst 0) 1 = true := by decide +kernel
theorem ci_786_85 : ab_at 786 85 (.lcmp) 1 = true := by decide +kernel
theorem ci_786_86 : ab_at 786 86 (.ifCond .eq 12) 3 = true := by decide +kernel
theorem ci_786_89 : ab_at 786 89 (.aload_n 0) 1 = true := by decide +kernel
theorem ci_786_90 : ab_at 786 90 (.getfield 18) 3 = true := by decide +kernel
theorem ci_786_93 : ab_at 786 93 (.iconst 3) 1 = true := by decide +kernel
theorem ci_786_94 : ab_at 786 94 (.invokevirtual 58) 3 = true := by decide +kernel
theorem ci_786_98 : ab_at 786 98 (.aload_n 0) 1 = true := by decide +kernel
theorem ci_786_99 : ab_at 786 99 (.dup) 1 = true := by decide +kernel
theorem ci_786_100 : ab_at 786 100 (.getfield 35) 3 = true := by decide +kernel
theorem ci_786_103 : ab_at 786 103 (.lload_n 1) 1 = true := by decide +kernel
theorem ci_786_104 : ab_at 786 104 (.lor) 1 = true := by decide +kernel
theorem ci_786_105 : ab_at 786 105 (.putfield 35) 3 = true := by decide +kernel
theorem ci_786_108 : ab_at 786 108 (.iconst 1) 1 = true := by decide +kernel
theorem ci_789_0 : ab_at 789 0 (.lconst 1) 1 = true := by decide +kernel
theorem ci_789_1 : ab_at 789 1 (.iload_n 1) 1 = true := by decide +kernel
theorem ci_789_2 : ab_at 789 2 (.bipush 8) 2 = true := by decide +kernel
theorem ci_789_4 : ab_at 789 4 (.imul) 1 = true := by decide +kernel
theorem ci_789_5 : ab_at 789 5 (.iload_n 0) 1 = true := by decide +kernel
theorem ci_789_6 : ab_at 789 6 (.iadd) 1 = true := by decide +kernel
theorem ci_789_7 : ab_at 789 7 (.lshl) 1 = true := by decide +kernel
theorem ml_789 : (eg_md 789).2.2.1 = 2 := by decide +kernel
def cbv (x y : Int32) : Int64 := Int64.ofNat 1 <<< ((y * (Int8.ofInt 8).toInt32 + x).toInt64 &&& 63)
theorem cb_all : ∀ i, i < 8 → ∀ k, k < 8 → (cbv (Int32.ofNat i) (Int32.ofNat k)).toBitVec = BitVec.twoPow 64 (8 * k + i) := by decide +kernel
theorem cb_v {x y : Int32} {i k : Nat} (hx : x.toInt = (i : Int)) (hy : y.toInt = (k : Int)) (hi : i < 8) (hk : k < 8) : (cbv x y).toBitVec = BitVec.twoPow 64 (8 * k + i) := by
  rw [i32_of hx (by omega), i32_of hy (by omega)]
  exact cb_all i hi k hk
theorem cb_and {w : Int64} {x y : Int32} {i k : Nat} (hx : x.toInt = (i : Int)) (hy : y.toInt = (k : Int)) (hi : i < 8) (hk : k < 8) : w &&& cbv x y = Int64.ofNat 0 ↔ tb w (8 * k + i) = false := by
  have e1 : (w &&& cbv x y).toBitVec = if w.toBitVec.getLsbD (8 * k + i) then BitVec.twoPow 64 (8 * k + i) else 0#64 := by
    show w.toBitVec &&& (cbv x y).toBitVec = _
    rw [cb_v hx hy hi hk, BitVec.and_twoPow]
  have e0 : (Int64.ofNat 0).toBitVec = 0#64 := rfl
  unfold tb
  constructor
  · intro g
    have g1 : (w &&& cbv x y).toBitVec = 0#64 := by rw [g]; rfl
    rw [e1] at g1
    cases hb : w.toBitVec.getLsbD (8 * k + i) with
    | false => rfl
    | true =>
      rw [hb, if_pos rfl] at g1
      have g2 := congrArg (fun z => z.getLsbD (8 * k + i)) g1
      simp only [BitVec.getLsbD_twoPow, BitVec.getLsbD_zero] at g2
      simp at g2
      omega
  · intro g
    apply Int64.toBitVec_inj.mp
    rw [e1, g, e0]
    rfl
theorem cb_or {w : Int64} {x y : Int32} {i k : Nat} (hx : x.toInt = (i : Int)) (hy : y.toInt = (k : Int)) (hi : i < 8) (hk : k < 8) (q : Nat) : tb (w ||| cbv x y) q = true ↔ (tb w q = true ∨ q = 8 * k + i) := by
  unfold tb
  have e1 : (w ||| cbv x y).toBitVec.getLsbD q = (w.toBitVec.getLsbD q || (BitVec.twoPow 64 (8 * k + i)).getLsbD q) := by
    show (w.toBitVec ||| (cbv x y).toBitVec).getLsbD q = _
    rw [cb_v hx hy hi hk, BitVec.getLsbD_or]
  rw [e1, BitVec.getLsbD_twoPow, Bool.or_eq_true]
  constructor
  · rintro (g | g)
    · exact Or.inl g
    · refine Or.inr ?_
      simp at g
      omega
  · rintro (g | g)
    · exact Or.inl g
    · refine Or.inr ?_
      simp
      omega
theorem rt_789 : (eg_md 789).2.2.2 = some .long := by decide +kernel
theorem k_cbit {sc : List Value} {sp d : Nat} {h : eg_H} (x y : Int32) : mc sc sp 789 1 d [.int x, .int y] h (fun vo h' => h' = h ∧ vo = some (.long (cbv x y))) := by
  have l0 : eg_find 0 (eg_args 0 [.int x, .int y]) = some (.int x) := rfl
  have l1 : eg_find 1 (eg_args 0 [.int x, .int y]) = some (.int y) := rfl
  unfold mc
  refine hs_lconst ci_789_0 ?_
  refine hs_iload_n ci_789_1 l1 ?_
  refine hs_bipush ci_789_2 ?_
  refine hs_imul ci_789_4 ?_
  refine hs_iload_n ci_789_5 l0 ?_
  refine hs_iadd ci_789_6 ?_
  refine hs_lshl ci_789_7 ?_
  exact hs_k ⟨4, some (.long (cbv x y)), by decide +kernel, by rw [rt_789]; rfl, rfl, rfl⟩
abbrev MCL : ab_M := [(3, 6, 11), (22, 6, 9)]
def cl_P (h : eg_H) (tk : Nat → tx_K) (ta : Nat → Nat) (m j' : Nat) (x : Sum ER (Int × Int)) (vo : Option Value) (h' : eg_H) : Prop := ab_hp h' ∧ ab_fr MCL h' h ∧ ∃ r : Int32, vo = some (.int r) ∧ ((∃ a b, x = .inr (a, b) ∧ r.toInt = 1 ∧ cu h' tk ta m j' ∧ (hv h' 22 7).toInt = a ∧ (hv h' 22 8).toInt = b ∧ 0 ≤ a ∧ a ≤ 7 ∧ 0 ≤ b ∧ b ≤ 7 ∧ ∀ q, tb (hl h' 22 6) q = true ↔ (tb (hl h 22 6) q = true ∨ (q : Int) = 8 * b + a)) ∨ (∃ k a, x = .inl (k, a) ∧ r.toInt = 0 ∧ flt h' k a))
theorem rt_786 : (eg_md 786).2.2.2 = some .boolean := by decide +kernel
theorem k_cell {sc : List Value} {sp d : Nat} {h : eg_H} {tk : Nat → tx_K} {ta : Nat → Nat} {m j : Nat} {ps : PS} (hq : ab_hp h) (hk : kwok h) (hr : ro h tk ta m) (hc : cu h tk ta m j) (hP : CP h ps) : mc sc sp 786 2 (d + 1 + 1) [.ref 22] h (cl_P h tk ta m (j + 2) (sp_cell ps (tk j) (ta j) (tk (j + 1)) (ta (j + 1)))) := by
  have l0 : eg_find 0 (eg_args 0 [.ref 22]) = some (.ref 22) := rfl
  have hp := hq.1
  obtain ⟨w1, w2, w3, w4, -⟩ := hP.2.2.2.2.2.2
  have e0 : (hv h 23 0).toInt = ps.1 0 := hP.1 0 (by omega)
  have e1 : (hv h 23 1).toInt = ps.1 1 := hP.1 1 (by omega)
  have d0 : (hv h 23 0 - Int32.ofInt 1).toInt = ps.1 0 - 1 := i32_sub e0 rfl (by omega) (by omega)
  have d1 : (hv h 23 1 - Int32.ofInt 1).toInt = ps.1 1 - 1 := i32_sub e1 rfl (by omega) (by omega)
  unfold mc
  refine hs_aload_n ci_786_0 l0 ?_
  refine hs_gfr 0 3 ci_786_1 (by decide +kernel) hp ?_
  refine hs_iconst ci_786_4 ?_
  refine hs_aload_n ci_786_5 l0 ?_
  refine hs_gfr 1 23 ci_786_6 (by decide +kernel) hp ?_
  refine hs_gfi 0 ci_786_9 (by decide +kernel) hp ?_
  refine hs_iconst ci_786_12 ?_
  refine hs_isub ci_786_13 ?_
  refine hs_cv 752 8 2 ci_786_14 (by decide +kernel) (by decide +kernel) hp rfl (by rw [ml_752]; rfl) (k_num (lo := Int32.ofInt 0) (hi := hv h 23 0 - Int32.ofInt 1) hq hk hr hc) ?_
  rintro v9 h1 ⟨q1, f1, c1, r1, e8, hr1⟩
  rw [e8]
  clear e8 v9
  replace hp := q1.1
  rw [kI_0, d0] at hr1
  simp only [Option.toList, List.cons_append, List.nil_append]
  refine hs_if (t := 22) ci_786_17 rfl (fun b17 => ?_) (fun b17 => ?_)
  · simp only [hs_cd, ab_not] at b17
    refine hs_aload_n ci_786_22 l0 ?_
    refine hs_aload_n ci_786_23 l0 ?_
    refine hs_gfr 0 3 ci_786_24 (by decide +kernel) hp ?_
    refine hs_cv 758 8 0 ci_786_27 (by decide +kernel) (by decide +kernel) hp rfl (by rw [ml_758]; rfl) (k_int q1) ?_
    rintro v9 h9 ⟨e9, e8⟩
    rw [e8, e9]
    clear e8 e9 v9 h9
    obtain ⟨v, hv1, hv2⟩ : ∃ v, sp_num (tk j) (ta j) 0 (ps.1 0 - 1) = .inr v ∧ (hl h1 3 11).toInt = v := by
      rcases hr1 with ⟨v, y1, -, y3⟩ | ⟨k, a, -, y2, -⟩
      · exact ⟨v, y1, y3⟩
      · omega
    have hvb := sp_num_b hv1
    have hv3 : (hl h1 3 11).toInt32.toInt = v := i64_to32 hv2 (by omega) (by omega)
    simp only [Option.toList, List.cons_append, List.nil_append]
    refine hs_pfi 7 (-2147483648) (2147483647) ci_786_30 (by decide +kernel) hp (ab_ige _) (ab_ile _) ?_
    intro h30 w30
    replace hp := w30.1
    refine hs_aload_n ci_786_33 l0 ?_
    refine hs_gfr 0 3 ci_786_34 (by decide +kernel) hp ?_
    refine hs_iconst ci_786_37 ?_
    refine hs_aload_n ci_786_38 l0 ?_
    refine hs_gfr 1 23 ci_786_39 (by decide +kernel) hp ?_
    refine hs_gfi 1 ci_786_42 (by decide +kernel) hp ?_
    refine hs_iconst ci_786_45 ?_
    refine hs_isub ci_786_46 ?_
    have f30 : ab_fr [(22, 7, 9)] h30 h1 := w30.fr rfl
    have q30 : ab_hp h30 := ⟨hp, q1.2.fr (M := [(22, 7, 9)]) (by decide +kernel) f30⟩
    have c30 : cu h30 tk ta m (j + 1) := c1.fr f30 rfl rfl rfl rfl (fun _ => rfl)
    have k30 : kwok h30 := (hk.fr f1 (fun _ => rfl)).fr f30 (fun _ => rfl)
    have r30 : ro h30 tk ta m := (hr.fr (fr_sub (by decide +kernel) f1)).fr (fr_sub (by decide +kernel) f30)
    have e30 : hv h30 23 1 = hv h 23 1 := by rw [hv_same (f30 23 1 rfl), hv_same (f1 23 1 rfl)]
    rw [e30]
    refine hs_cv 752 8 2 ci_786_47 (by decide +kernel) (by decide +kernel) hp rfl (by rw [ml_752]; rfl) (k_num (lo := Int32.ofInt 0) (hi := hv h 23 1 - Int32.ofInt 1) q30 k30 r30 c30) ?_
    rintro v9 h3 ⟨q3, f3, c3, r3, e8, hr3⟩
    rw [e8]
    clear e8 v9
    replace hp := q3.1
    rw [kI_0, d1] at hr3
    simp only [Option.toList, List.cons_append, List.nil_append]
    refine hs_if (t := 55) ci_786_50 rfl (fun b50 => ?_) (fun b50 => ?_)
    · simp only [hs_cd, ab_not] at b50
      refine hs_aload_n ci_786_55 l0 ?_
      refine hs_aload_n ci_786_56 l0 ?_
      refine hs_gfr 0 3 ci_786_57 (by decide +kernel) hp ?_
      refine hs_cv 758 8 0 ci_786_60 (by decide +kernel) (by decide +kernel) hp rfl (by rw [ml_758]; rfl) (k_int q3) ?_
      rintro v9 h9 ⟨e9, e8⟩
      rw [e8, e9]
      clear e8 e9 v9 h9
      obtain ⟨u, hu1, hu2⟩ : ∃ u, sp_num (tk (j + 1)) (ta (j + 1)) 0 (ps.1 1 - 1) = .inr u ∧ (hl h3 3 11).toInt = u := by
        rcases hr3 with ⟨v, y1, -, y3⟩ | ⟨k, a, -, y2, -⟩
        · exact ⟨v, y1, y3⟩
        · omega
      have hub := sp_num_b hu1
      have hu3 : (hl h3 3 11).toInt32.toInt = u := i64_to32 hu2 (by omega) (by omega)
      simp only [Option.toList, List.cons_append, List.nil_append]
      refine hs_pfi 8 (-2147483648) (2147483647) ci_786_63 (by decide +kernel) hp (ab_ige _) (ab_ile _) ?_
      intro h63 w63
      replace hp := w63.1
      refine hs_aload_n ci_786_66 l0 ?_
      refine hs_gfi 7 ci_786_67 (by decide +kernel) hp ?_
      refine hs_aload_n ci_786_70 l0 ?_
      refine hs_gfi 8 ci_786_71 (by decide +kernel) hp ?_
      have x63 : (hv h63 22 7).toInt = v := by
        rw [w63.v, if_neg (by omega), hv_same (f3 22 7 rfl), w30.v, if_pos ⟨rfl, rfl⟩]
        exact hv3
      have y63 : (hv h63 22 8).toInt = u := by
        rw [w63.v, if_pos ⟨rfl, rfl⟩]
        exact hu3
      have t63 : hl h63 22 6 = hl h 22 6 := by rw [w63.l _ _ (by omega), hl_same (f3 22 6 rfl), hl_same (f30 22 6 rfl), hl_same (f1 22 6 rfl)]
      have f63 : ab_fr MCL h63 h := (w63.fr (M := MCL) rfl).tr ((fr_sub (M := MCL) (by decide +kernel) f3).tr ((fr_sub (M := MCL) (by decide +kernel) f30).tr (fr_sub (by decide +kernel) f1)))
      have q63 : ab_hp h63 := ⟨hp, hq.2.fr (M := MCL) (by decide +kernel) f63⟩
      have c63 : cu h63 tk ta m (j + 1 + 1) := c3.fr (M := [(22, 7, 9)]) (w63.fr rfl) rfl rfl rfl rfl (fun _ => rfl)
      have hcu : cur h63 (tk (j + 1)) (ta (j + 1)) := c63.2 (by omega)
      refine hs_cs 789 1 2 ci_786_74 (by decide +kernel) rfl (by rw [ml_789]; rfl) (k_cbit (hv h63 22 7) (hv h63 22 8)) ?_
      rintro v9 h9 ⟨e9, e8⟩
      rw [e8, e9]
      clear e8 e9 v9 h9
      simp only [Option.toList, List.cons_append, List.nil_append]
      refine hs_lstore_n ci_786_77 (by decide +kernel) ?_
      intro ls9 q9
      replace l0 := q9.2 0 _ (by decide) (by decide) (Or.inl rfl) l0
      have l1 := q9.1
      clear q9
      refine hs_aload_n ci_786_78 l0 ?_
      refine hs_gfl 6 ci_786_79 (by decide +kernel) hp ?_
      rw [t63]
      refine hs_lload_n ci_786_82 l1 ?_
      refine hs_land ci_786_83 ?_
      refine hs_lconst ci_786_84 ?_
      refine hs_lcmp ci_786_85 (fun z85 q85 => ?_)
      have hocc : tb (hl h 22 6) (8 * u.toNat + v.toNat) = true ↔ occ ps v u := by
        have g := hP.2.2.2.2.2.1 v.toNat u.toNat (by omega) (by omega)
        have g1 : ((v.toNat : Nat) : Int) = v := by omega
        have g2 : ((u.toNat : Nat) : Int) = u := by omega
        rw [g1, g2] at g
        exact g
      have hand : hl h 22 6 &&& cbv (hv h63 22 7) (hv h63 22 8) = Int64.ofNat 0 ↔ tb (hl h 22 6) (8 * u.toNat + v.toNat) = false := cb_and (i := v.toNat) (k := u.toNat) (by omega) (by omega) (by omega) (by omega)
      refine hs_if (t := 98) ci_786_86 rfl (fun b86 => ?_) (fun b86 => ?_)
      · simp only [hs_cd, ab_not] at b86
        refine hs_aload_n ci_786_98 l0 ?_
        refine hs_dup ci_786_99 rfl ?_
        refine hs_gfl 6 ci_786_100 (by decide +kernel) hp ?_
        rw [t63]
        refine hs_lload_n ci_786_103 l1 ?_
        refine hs_lor ci_786_104 ?_
        refine hs_pfl 6 ci_786_105 (by decide +kernel) hp ?_
        intro h105 w105
        replace hp := w105.1
        refine hs_iconst ci_786_108 ?_
        have f105 : ab_fr MCL h105 h63 := w105.fr (M := MCL) rfl
        have hfree : ¬ occ ps v u := by
          intro g
          have g1 := hocc.mpr g
          rcases q85 with ⟨y1, -⟩ | ⟨-, y2⟩ | ⟨y1, -⟩
          · omega
          · rw [hand.mp y2] at g1
            cases g1
          · omega
        refine hs_k ⟨3, some (.int (Int32.ofInt 1)), by decide +kernel, rv_b rt_786 (Or.inr (by decide)), ⟨hp, q63.2.fr (M := MCL) (by decide +kernel) f105⟩, f105.tr f63, _, rfl, Or.inl ⟨v, u, ?_, by decide, c63.fr (M := [(22, 6, 9)]) (w105.fr rfl) rfl rfl rfl rfl (fun _ => rfl), by rw [w105.i _ _ (by omega)]; exact x63, by rw [w105.i _ _ (by omega)]; exact y63, by omega, by omega, by omega, by omega, fun q => ?_⟩⟩
        · unfold sp_cell
          rw [sbn_r hv1, sbn_r hu1, if_neg hfree]
        · rw [w105.v, if_pos ⟨rfl, rfl⟩]
          refine (cb_or (i := v.toNat) (k := u.toNat) (by omega) (by omega) (by omega) (by omega) q).trans ?_
          constructor
          · rintro (g | g)
            · exact Or.inl g
            · exact Or.inr (by omega)
          · rintro (g | g)
            · exact Or.inl g
            · exact Or.inr (by omega)
      · simp only [hs_cd, ab_not] at b86
        refine hs_aload_n ci_786_89 l0 ?_
        refine hs_gfr 0 3 ci_786_90 (by decide +kernel) hp ?_
        refine hs_iconst ci_786_93 ?_
        refine hs_cv 748 8 1 ci_786_94 (by decide +kernel) (by decide +kernel) hp rfl (by rw [ml_748]; rfl) (k_fail (Int32.ofInt 3) q63) ?_
        rintro v9 h2 ⟨r2, e8, hr2, q2, f2, g8, g9⟩
        rw [e8]
        clear e8 v9
        replace hp := q2.1
        simp only [Option.toList, List.cons_append, List.nil_append]
        have hful : occ ps v u := by
          refine hocc.mp ?_
          cases hb : tb (hl h 22 6) (8 * u.toNat + v.toNat) with
          | true => rfl
          | false =>
            have g := hand.mpr hb
            rcases q85 with ⟨y1, y2⟩ | ⟨y1, -⟩ | ⟨y1, y2⟩
            · rw [g] at y2
              exact absurd y2 (Int.lt_irrefl _)
            · omega
            · rw [g] at y2
              exact absurd y2 (Int.lt_irrefl _)
        refine hs_k ⟨3, some (.int r2), by decide +kernel, rv_b rt_786 (Or.inl hr2), q2, (fr_sub (M := MCL) (by decide +kernel) f2).tr f63, _, rfl, Or.inr ⟨3, ta (j + 1), ?_, hr2, g8.trans kI_3, by rw [g9]; exact hcu.1⟩⟩
        unfold sp_cell
        rw [sbn_r hv1, sbn_r hu1, if_pos hful]
    · simp only [hs_cd, ab_not] at b50
      refine hs_iconst ci_786_53 ?_
      rcases hr3 with ⟨w, -, y2, -⟩ | ⟨k, a, y1, y2, y3⟩
      · omega
      · refine hs_k ⟨3, some (.int (Int32.ofInt 0)), by decide +kernel, rv_b rt_786 (Or.inl (by decide)), q3, (fr_sub (M := MCL) (by decide +kernel) f3).tr ((fr_sub (M := MCL) (by decide +kernel) f30).tr (fr_sub (by decide +kernel) f1)), _, rfl, Or.inr ⟨k, a, ?_, by decide, y3⟩⟩
        unfold sp_cell
        rw [sbn_r hv1, sbn_l y1]
  · simp only [hs_cd, ab_not] at b17
    refine hs_iconst ci_786_20 ?_
    rcases hr1 with ⟨w, -, y2, -⟩ | ⟨k, a, y1, y2, y3⟩
    · omega
    · refine hs_k ⟨3, some (.int (Int32.ofInt 0)), by decide +kernel, rv_b rt_786 (Or.inl (by decide)), q1, fr_sub (by decide +kernel) f1, _, rfl, Or.inr ⟨k, a, ?_, by decide, y3⟩⟩
      unfold sp_cell
      rw [sbn_l y1]
