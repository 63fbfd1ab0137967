/-! BY HAND: the class's reader: land and man -/
theorem ci_744_0 : ab_at 744 0 (.aload_n 0) 1 = true := by decide +kernel
theorem ci_744_1 : ab_at 744 1 (.getfield 25) 3 = true := by decide +kernel
theorem ci_744_4 : ab_at 744 4 (.ifCond .ne 12) 3 = true := by decide +kernel
theorem ci_744_7 : ab_at 744 7 (.aload_n 0) 1 = true := by decide +kernel
theorem ci_744_8 : ab_at 744 8 (.getfield 35) 3 = true := by decide +kernel
theorem ci_744_11 : ab_at 744 11 (.lconst 0) 1 = true := by decide +kernel
theorem ci_744_12 : ab_at 744 12 (.lcmp) 1 = true := by decide +kernel
theorem ci_744_13 : ab_at 744 13 (.ifCond .eq 12) 3 = true := by decide +kernel
theorem ci_744_16 : ab_at 744 16 (.aload_n 0) 1 = true := by decide +kernel
theorem ci_744_17 : ab_at 744 17 (.getfield 18) 3 = true := by decide +kernel
theorem ci_744_20 : ab_at 744 20 (.iconst 3) 1 = true := by decide +kernel
theorem ci_744_21 : ab_at 744 21 (.invokevirtual 58) 3 = true := by decide +kernel
theorem ci_744_25 : ab_at 744 25 (.aload_n 0) 1 = true := by decide +kernel
theorem ci_744_26 : ab_at 744 26 (.iconst 1) 1 = true := by decide +kernel
theorem ci_744_27 : ab_at 744 27 (.putfield 25) 3 = true := by decide +kernel
theorem ci_744_30 : ab_at 744 30 (.aload_n 0) 1 = true := by decide +kernel
theorem ci_744_31 : ab_at 744 31 (.getfield 18) 3 = true := by decide +kernel
theorem ci_744_34 : ab_at 744 34 (.iconst 2) 1 = true := by decide +kernel
theorem ci_744_35 : ab_at 744 35 (.bipush 8) 2 = true := by decide +kernel
theorem ci_744_37 : ab_at 744 37 (.invokevirtual 80) 3 = true := by decide +kernel
theorem ci_744_40 : ab_at 744 40 (.ifCond .ne 5) 3 = true := by decide +kernel
theorem ci_744_43 : ab_at 744 43 (.iconst 0) 1 = true := by decide +kernel
theorem ci_744_45 : ab_at 744 45 (.aload_n 0) 1 = true := by decide +kernel
theorem ci_744_46 : ab_at 744 46 (.getfield 12) 3 = true := by decide +kernel
theorem ci_744_49 : ab_at 744 49 (.aload_n 0) 1 = true := by decide +kernel
theorem ci_744_50 : ab_at 744 50 (.getfield 18) 3 = true := by decide +kernel
theorem ci_744_53 : ab_at 744 53 (.invokevirtual 84) 3 = true := by decide +kernel
theorem ci_744_56 : ab_at 744 56 (.putfield 88) 3 = true := by decide +kernel
theorem ci_744_59 : ab_at 744 59 (.aload_n 0) 1 = true := by decide +kernel
theorem ci_744_60 : ab_at 744 60 (.getfield 18) 3 = true := by decide +kernel
theorem ci_744_63 : ab_at 744 63 (.iconst 2) 1 = true := by decide +kernel
theorem ci_744_64 : ab_at 744 64 (.bipush 8) 2 = true := by decide +kernel
theorem ci_744_66 : ab_at 744 66 (.invokevirtual 80) 3 = true := by decide +kernel
theorem ci_744_69 : ab_at 744 69 (.ifCond .ne 5) 3 = true := by decide +kernel
theorem ci_744_72 : ab_at 744 72 (.iconst 0) 1 = true := by decide +kernel
theorem ci_744_74 : ab_at 744 74 (.aload_n 0) 1 = true := by decide +kernel
theorem ci_744_75 : ab_at 744 75 (.getfield 12) 3 = true := by decide +kernel
theorem ci_744_78 : ab_at 744 78 (.aload_n 0) 1 = true := by decide +kernel
theorem ci_744_79 : ab_at 744 79 (.getfield 18) 3 = true := by decide +kernel
theorem ci_744_82 : ab_at 744 82 (.invokevirtual 84) 3 = true := by decide +kernel
theorem ci_744_85 : ab_at 744 85 (.putfield 91) 3 = true := by decide +kernel
theorem ci_744_88 : ab_at 744 88 (.iconst 1) 1 = true := by decide +kernel
theorem tb_0 {w : Int64} : w = Int64.ofNat 0 ↔ ∀ x y : Nat, x < 8 → y < 8 → tb w (8 * y + x) = false := by
  constructor
  · rintro rfl x y - -
    unfold tb
    show (0#64).getLsbD (8 * y + x) = false
    exact BitVec.getLsbD_zero
  · intro h
    apply Int64.toBitVec_inj.mp
    apply BitVec.eq_of_getLsbD_eq
    intro i hi
    have e : 8 * (i / 8) + i % 8 = i := by omega
    have g := h (i % 8) (i / 8) (by omega) (by omega)
    rw [e] at g
    have g : w.toBitVec.getLsbD i = false := g
    rw [g]
    show false = (0#64).getLsbD i
    exact BitVec.getLsbD_zero.symm
theorem CP.taken {h : eg_H} {ps : PS} (c : CP h ps) : hl h 22 6 = Int64.ofNat 0 ↔ (ps.1 4 = 0 ∧ ps.1 5 = 0) := by
  obtain ⟨c1, -, c5, c6, c7, c8, c9⟩ := c
  constructor
  · intro g
    have g1 := tb_0.mp g
    constructor
    · rcases Int.lt_trichotomy (ps.1 4) 0 with e | e | e
      · omega
      · exact e
      · obtain ⟨-, -, -, b1, b2, b3, b4⟩ := c5 0 e
        have g2 := (c8 (ps.2 1 0).toNat (ps.2 2 0).toNat (by omega) (by omega)).mpr (Or.inl ⟨0, e, by omega, by omega⟩)
        rw [g1 _ _ (by omega) (by omega)] at g2
        cases g2
    · rcases Int.lt_trichotomy (ps.1 5) 0 with e | e | e
      · omega
      · exact e
      · obtain ⟨-, -, -, -, b1, b2, b3, b4⟩ := c6 0 e
        have g2 := (c8 (ps.2 6 0).toNat (ps.2 7 0).toNat (by omega) (by omega)).mpr (Or.inr ⟨0, e, by omega, by omega⟩)
        rw [g1 _ _ (by omega) (by omega)] at g2
        cases g2
  · rintro ⟨g1, g2⟩
    refine tb_0.mpr (fun x y hx hy => ?_)
    cases hb : tb (hl h 22 6) (8 * y + x) with
    | false => rfl
    | true =>
      rcases (c8 x y hx hy).mp hb with ⟨q, q1, -⟩ | ⟨q, q1, -⟩ <;> omega
theorem rt_744 : (eg_md 744).2.2.2 = some .boolean := by decide +kernel
theorem k_size {sc : List Value} {sp d : Nat} {h : eg_H} {tk : Nat → tx_K} {ta : Nat → Nat} {m j : Nat} {ps : PS} (hq : ab_hp h) (hk : kwok h) (hr : ro h tk ta m) (hc : cu h tk ta m j) (hj : 1 ≤ j) (hP : CP h ps) : mc sc sp 744 2 (d + 1 + 1) [.ref 22] h (ln_P h tk ta m (sp_size tk ta ps j)) := by
  have l0 : eg_find 0 (eg_args 0 [.ref 22]) = some (.ref 22) := rfl
  have hp := hq.1
  have hcj := hc.2 hj
  obtain ⟨hs7, hs8, hs9⟩ := hP.2.1
  have htk := hP.taken
  unfold mc
  refine hs_aload_n ci_744_0 l0 ?_
  refine hs_gfi 3 ci_744_1 (by decide +kernel) hp ?_
  refine hs_if (t := 16) ci_744_4 rfl (fun b4 => ?_) (fun b4 => ?_)
  · simp only [hs_cd, ab_not] at b4
    refine hs_aload_n ci_744_16 l0 ?_
    refine hs_gfr 0 3 ci_744_17 (by decide +kernel) hp ?_
    refine hs_iconst ci_744_20 ?_
    refine hs_cv 748 8 1 ci_744_21 (by decide +kernel) (by decide +kernel) hp rfl (by rw [ml_748]; rfl) (k_fail (Int32.ofInt 3) hq) ?_
    rintro v9 h2 ⟨r2, e8, hr2, q2, f2, g8, g9⟩
    rw [e8]
    clear e8 v9
    replace hp := q2.1
    simp only [Option.toList, List.cons_append, List.nil_append]
    refine hs_k ⟨3, some (.int r2), by decide +kernel, rv_b rt_744 (Or.inl hr2), q2, fr_sub (by decide +kernel) f2, _, rfl, Or.inr ⟨3, ta (j - 1), ?_, hr2, g8.trans kI_3, by rw [g9]; exact hcj.1⟩⟩
    unfold sp_size
    rw [if_pos]
    omega
  · simp only [hs_cd, ab_not] at b4
    refine hs_aload_n ci_744_7 l0 ?_
    refine hs_gfl 6 ci_744_8 (by decide +kernel) hp ?_
    refine hs_lconst ci_744_11 ?_
    refine hs_lcmp ci_744_12 (fun z12 q12 => ?_)
    refine hs_if (t := 25) ci_744_13 rfl (fun b13 => ?_) (fun b13 => ?_)
    · simp only [hs_cd, ab_not] at b13
      refine hs_aload_n ci_744_25 l0 ?_
      refine hs_iconst ci_744_26 ?_
      refine hs_pfi 3 (0) (1) ci_744_27 (by decide +kernel) hp (by decide) (by decide) ?_
      intro h27 w27
      replace hp := w27.1
      have f27 : ab_fr [(22, 3, 5)] h27 h := w27.fr rfl
      have q27 : ab_hp h27 := ⟨hp, hq.2.fr (M := [(22, 3, 5)]) (by decide +kernel) f27⟩
      have c27 : cu h27 tk ta m j := hc.fr f27 rfl rfl rfl rfl (fun _ => rfl)
      have k27 : kwok h27 := hk.fr f27 (fun _ => rfl)
      have r27 : ro h27 tk ta m := hr.fr (fr_sub (by decide +kernel) f27)
      refine hs_aload_n ci_744_30 l0 ?_
      refine hs_gfr 0 3 ci_744_31 (by decide +kernel) hp ?_
      refine hs_iconst ci_744_34 ?_
      refine hs_bipush ci_744_35 ?_
      refine hs_cv 752 8 2 ci_744_37 (by decide +kernel) (by decide +kernel) hp rfl (by rw [ml_752]; rfl) (k_num (lo := Int32.ofInt 2) (hi := (Int8.ofInt 8).toInt32) q27 k27 r27 c27) ?_
      rintro v9 hA ⟨qA, fA, cA, rA, e8, hrA⟩
      rw [e8]
      clear e8 v9
      replace hp := qA.1
      rw [kI_2, kB_8] at hrA
      simp only [Option.toList, List.cons_append, List.nil_append]
      refine hs_if (t := 45) ci_744_40 rfl (fun b40 => ?_) (fun b40 => ?_)
      · simp only [hs_cd, ab_not] at b40
        refine hs_aload_n ci_744_45 l0 ?_
        refine hs_gfr 1 23 ci_744_46 (by decide +kernel) hp ?_
        refine hs_aload_n ci_744_49 l0 ?_
        refine hs_gfr 0 3 ci_744_50 (by decide +kernel) hp ?_
        refine hs_cv 758 8 0 ci_744_53 (by decide +kernel) (by decide +kernel) hp rfl (by rw [ml_758]; rfl) (k_int qA) ?_
        rintro v9 h9 ⟨e9, e8⟩
        rw [e8, e9]
        clear e8 e9 v9 h9
        obtain ⟨v, hv1, hv2⟩ : ∃ v, sp_num (tk j) (ta j) 2 8 = .inr v ∧ (hl hA 3 11).toInt = v := by
          rcases hrA with ⟨v, y1, -, y3⟩ | ⟨k, a, -, y2, -⟩
          · exact ⟨v, y1, y3⟩
          · omega
        have hvb := sp_num_b hv1
        have hv3 : (hl hA 3 11).toInt32.toInt = v := i64_to32 hv2 (by omega) (by omega)
        simp only [Option.toList, List.cons_append, List.nil_append]
        refine hs_pfi 0 (-2147483648) (2147483647) ci_744_56 (by decide +kernel) hp (ab_ige _) (ab_ile _) ?_
        intro h56 w56
        replace hp := w56.1
        have f56 : ab_fr [(23, 0, 6)] h56 hA := w56.fr rfl
        have q56 : ab_hp h56 := ⟨hp, qA.2.fr (M := [(23, 0, 6)]) (by decide +kernel) f56⟩
        have c56 : cu h56 tk ta m (j + 1) := cA.fr f56 rfl rfl rfl rfl (fun _ => rfl)
        have k56 : kwok h56 := (k27.fr fA (fun _ => rfl)).fr f56 (fun _ => rfl)
        have r56 : ro h56 tk ta m := (r27.fr (fr_sub (by decide +kernel) fA)).fr (fr_sub (by decide +kernel) f56)
        refine hs_aload_n ci_744_59 l0 ?_
        refine hs_gfr 0 3 ci_744_60 (by decide +kernel) hp ?_
        refine hs_iconst ci_744_63 ?_
        refine hs_bipush ci_744_64 ?_
        refine hs_cv 752 8 2 ci_744_66 (by decide +kernel) (by decide +kernel) hp rfl (by rw [ml_752]; rfl) (k_num (lo := Int32.ofInt 2) (hi := (Int8.ofInt 8).toInt32) q56 k56 r56 c56) ?_
        rintro v9 hB ⟨qB, fB, cB, rB, e8, hrB⟩
        rw [e8]
        clear e8 v9
        replace hp := qB.1
        rw [kI_2, kB_8] at hrB
        simp only [Option.toList, List.cons_append, List.nil_append]
        refine hs_if (t := 74) ci_744_69 rfl (fun b69 => ?_) (fun b69 => ?_)
        · simp only [hs_cd, ab_not] at b69
          refine hs_aload_n ci_744_74 l0 ?_
          refine hs_gfr 1 23 ci_744_75 (by decide +kernel) hp ?_
          refine hs_aload_n ci_744_78 l0 ?_
          refine hs_gfr 0 3 ci_744_79 (by decide +kernel) hp ?_
          refine hs_cv 758 8 0 ci_744_82 (by decide +kernel) (by decide +kernel) hp rfl (by rw [ml_758]; rfl) (k_int qB) ?_
          rintro v9 h9 ⟨e9, e8⟩
          rw [e8, e9]
          clear e8 e9 v9 h9
          obtain ⟨u, hu1, hu2⟩ : ∃ v, sp_num (tk (j + 1)) (ta (j + 1)) 2 8 = .inr v ∧ (hl hB 3 11).toInt = v := by
            rcases hrB with ⟨v, y1, -, y3⟩ | ⟨k, a, -, y2, -⟩
            · exact ⟨v, y1, y3⟩
            · omega
          have hub := sp_num_b hu1
          have hu3 : (hl hB 3 11).toInt32.toInt = u := i64_to32 hu2 (by omega) (by omega)
          simp only [Option.toList, List.cons_append, List.nil_append]
          refine hs_pfi 1 (-2147483648) (2147483647) ci_744_85 (by decide +kernel) hp (ab_ige _) (ab_ile _) ?_
          intro h85 w85
          replace hp := w85.1
          refine hs_iconst ci_744_88 ?_
          have hz : ps.1 4 = 0 ∧ ps.1 5 = 0 := by
            rcases q12 with ⟨y1, -⟩ | ⟨-, y2⟩ | ⟨y1, -⟩
            · omega
            · exact htk.mp y2
            · omega
          have f85 : ab_fr MSD h85 h := (w85.fr (M := MSD) rfl).tr ((fr_sub (M := MSD) (by decide +kernel) fB).tr ((fr_sub (M := MSD) (by decide +kernel) f56).tr ((fr_sub (M := MSD) (by decide +kernel) fA).tr (w27.fr (M := MSD) rfl))))
          have g22 : ∀ k, hv h85 22 k = hv h27 22 k := fun k => by rw [w85.v, if_neg (by omega), hv_same (fB 22 k rfl), w56.v, if_neg (by omega), hv_same (fA 22 k rfl)]
          refine hs_k ⟨3, some (.int (Int32.ofInt 1)), by decide +kernel, rv_b rt_744 (Or.inr (by decide)), ⟨hp, hq.2.fr (M := MSD) (by decide +kernel) f85⟩, fr_sub (by decide +kernel) f85, _, rfl, Or.inl ⟨(uf (uf (uf ps.1 7 1) 0 v) 1 u, ps.2), j + 2, ?_, by decide, by omega, cB.fr (M := [(23, 0, 6)]) (w85.fr rfl) rfl rfl rfl rfl (fun _ => rfl), ?_⟩⟩
          · unfold sp_size
            rw [if_neg (by omega), sbn_r hv1, sbn_r hu1]
          · refine hP.scal (fr_sub (by decide +kernel) f85) rfl rfl (fun k hk => ?_) ?_ ?_ ?_ ⟨hvb.1, hvb.2, hub.1, hub.2⟩
            · rw [uf_v, w85.v]
              by_cases e : k = 1
              · rw [if_pos ⟨rfl, e⟩, if_pos e]
                exact hu3
              · rw [if_neg (fun g => e g.2), if_neg e, uf_v, hv_same (fB 23 k rfl), w56.v]
                by_cases e0 : k = 0
                · rw [if_pos ⟨rfl, e0⟩, if_pos e0]
                  exact hv3
                · rw [if_neg (fun g => e0 g.2), if_neg e0, uf_v, if_neg (by omega), hv_same (fA 23 k rfl), w27.v, if_neg (by omega)]
                  exact hP.1 k hk
            · rw [g22, w27.v, if_pos ⟨rfl, rfl⟩]
              exact kI_1
            · rw [g22, w27.v, if_neg (by omega)]
              exact hs8
            · rw [g22, w27.v, if_neg (by omega)]
              exact hs9
        · simp only [hs_cd, ab_not] at b69
          refine hs_iconst ci_744_72 ?_
          have hz : ps.1 4 = 0 ∧ ps.1 5 = 0 := by
            rcases q12 with ⟨y1, -⟩ | ⟨-, y2⟩ | ⟨y1, -⟩
            · omega
            · exact htk.mp y2
            · omega
          rcases hrB with ⟨w, -, y2, -⟩ | ⟨k, a, y1, y2, y3⟩
          · omega
          · refine hs_k ⟨3, some (.int (Int32.ofInt 0)), by decide +kernel, rv_b rt_744 (Or.inl (by decide)), qB, (fr_sub (M := MRD) (by decide +kernel) fB).tr ((fr_sub (M := MRD) (by decide +kernel) f56).tr ((fr_sub (M := MRD) (by decide +kernel) fA).tr (w27.fr (M := MRD) rfl))), _, rfl, Or.inr ⟨k, a, ?_, by decide, y3⟩⟩
            unfold sp_size
            rw [if_neg (by omega), sbn_r hv1, sbn_l y1]
      · simp only [hs_cd, ab_not] at b40
        refine hs_iconst ci_744_43 ?_
        have hz : ps.1 4 = 0 ∧ ps.1 5 = 0 := by
          rcases q12 with ⟨y1, -⟩ | ⟨-, y2⟩ | ⟨y1, -⟩
          · omega
          · exact htk.mp y2
          · omega
        rcases hrA with ⟨w, -, y2, -⟩ | ⟨k, a, y1, y2, y3⟩
        · omega
        · refine hs_k ⟨3, some (.int (Int32.ofInt 0)), by decide +kernel, rv_b rt_744 (Or.inl (by decide)), qA, (fr_sub (M := MRD) (by decide +kernel) fA).tr (w27.fr (M := MRD) rfl), _, rfl, Or.inr ⟨k, a, ?_, by decide, y3⟩⟩
          unfold sp_size
          rw [if_neg (by omega), sbn_l y1]
    · simp only [hs_cd, ab_not] at b13
      refine hs_aload_n ci_744_16 l0 ?_
      refine hs_gfr 0 3 ci_744_17 (by decide +kernel) hp ?_
      refine hs_iconst ci_744_20 ?_
      refine hs_cv 748 8 1 ci_744_21 (by decide +kernel) (by decide +kernel) hp rfl (by rw [ml_748]; rfl) (k_fail (Int32.ofInt 3) hq) ?_
      rintro v9 h2 ⟨r2, e8, hr2, q2, f2, g8, g9⟩
      rw [e8]
      clear e8 v9
      replace hp := q2.1
      simp only [Option.toList, List.cons_append, List.nil_append]
      have hnz : ¬ (ps.1 4 = 0 ∧ ps.1 5 = 0) := by
        intro g
        have g1 := htk.mpr g
        rcases q12 with ⟨y1, y2⟩ | ⟨y1, -⟩ | ⟨y1, y2⟩
        · rw [g1] at y2
          exact absurd y2 (Int.lt_irrefl _)
        · omega
        · rw [g1] at y2
          exact absurd y2 (Int.lt_irrefl _)
      refine hs_k ⟨3, some (.int r2), by decide +kernel, rv_b rt_744 (Or.inl hr2), q2, fr_sub (by decide +kernel) f2, _, rfl, Or.inr ⟨3, ta (j - 1), ?_, hr2, g8.trans kI_3, by rw [g9]; exact hcj.1⟩⟩
      unfold sp_size
      rw [if_pos]
      omega
