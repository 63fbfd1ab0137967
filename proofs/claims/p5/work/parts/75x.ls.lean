/-! BY HAND: the class's reader: a line, all lines -/
theorem ci_728_0 : ab_at 728 0 (.aload_n 0) 1 = true := by decide +kernel
theorem ci_728_1 : ab_at 728 1 (.getfield 12) 3 = true := by decide +kernel
theorem ci_728_4 : ab_at 728 4 (.invokevirtual 22) 3 = true := by decide +kernel
theorem ci_728_7 : ab_at 728 7 (.aload_n 0) 1 = true := by decide +kernel
theorem ci_728_8 : ab_at 728 8 (.iconst 0) 1 = true := by decide +kernel
theorem ci_728_9 : ab_at 728 9 (.putfield 25) 3 = true := by decide +kernel
theorem ci_728_12 : ab_at 728 12 (.aload_n 0) 1 = true := by decide +kernel
theorem ci_728_13 : ab_at 728 13 (.iconst 0) 1 = true := by decide +kernel
theorem ci_728_14 : ab_at 728 14 (.putfield 29) 3 = true := by decide +kernel
theorem ci_728_17 : ab_at 728 17 (.aload_n 0) 1 = true := by decide +kernel
theorem ci_728_18 : ab_at 728 18 (.iconst 0) 1 = true := by decide +kernel
theorem ci_728_19 : ab_at 728 19 (.putfield 32) 3 = true := by decide +kernel
theorem ci_728_22 : ab_at 728 22 (.aload_n 0) 1 = true := by decide +kernel
theorem ci_728_23 : ab_at 728 23 (.lconst 0) 1 = true := by decide +kernel
theorem ci_728_24 : ab_at 728 24 (.putfield 35) 3 = true := by decide +kernel
theorem ci_728_27 : ab_at 728 27 (.aload_n 0) 1 = true := by decide +kernel
theorem ci_728_28 : ab_at 728 28 (.iconst 0) 1 = true := by decide +kernel
theorem ci_728_29 : ab_at 728 29 (.putfield 39) 3 = true := by decide +kernel
theorem ci_728_32 : ab_at 728 32 (.iconst 0) 1 = true := by decide +kernel
theorem ci_728_33 : ab_at 728 33 (.istore_n 1) 1 = true := by decide +kernel
theorem ci_728_34 : ab_at 728 34 (.iload_n 1) 1 = true := by decide +kernel
theorem ci_728_35 : ab_at 728 35 (.sipush 900) 3 = true := by decide +kernel
theorem ci_728_38 : ab_at 728 38 (.if_icmp .gt 57) 3 = true := by decide +kernel
theorem ci_728_41 : ab_at 728 41 (.aload_n 0) 1 = true := by decide +kernel
theorem ci_728_42 : ab_at 728 42 (.getfield 18) 3 = true := by decide +kernel
theorem ci_728_45 : ab_at 728 45 (.invokevirtual 43) 3 = true := by decide +kernel
theorem ci_728_48 : ab_at 728 48 (.aload_n 0) 1 = true := by decide +kernel
theorem ci_728_49 : ab_at 728 49 (.getfield 18) 3 = true := by decide +kernel
theorem ci_728_52 : ab_at 728 52 (.getfield 48) 3 = true := by decide +kernel
theorem ci_728_55 : ab_at 728 55 (.ifCond .ne 5) 3 = true := by decide +kernel
theorem ci_728_58 : ab_at 728 58 (.iconst 1) 1 = true := by decide +kernel
theorem ci_728_60 : ab_at 728 60 (.aload_n 0) 1 = true := by decide +kernel
theorem ci_728_61 : ab_at 728 61 (.invokevirtual 51) 3 = true := by decide +kernel
theorem ci_728_64 : ab_at 728 64 (.ifCond .eq 13) 3 = true := by decide +kernel
theorem ci_728_67 : ab_at 728 67 (.aload_n 0) 1 = true := by decide +kernel
theorem ci_728_68 : ab_at 728 68 (.getfield 18) 3 = true := by decide +kernel
theorem ci_728_71 : ab_at 728 71 (.invokevirtual 55) 3 = true := by decide +kernel
theorem ci_728_74 : ab_at 728 74 (.ifCond .ne 5) 3 = true := by decide +kernel
theorem ci_728_77 : ab_at 728 77 (.iconst 0) 1 = true := by decide +kernel
theorem ci_728_79 : ab_at 728 79 (.aload_n 0) 1 = true := by decide +kernel
theorem ci_728_80 : ab_at 728 80 (.dup) 1 = true := by decide +kernel
theorem ci_728_81 : ab_at 728 81 (.getfield 39) 3 = true := by decide +kernel
theorem ci_728_84 : ab_at 728 84 (.iconst 1) 1 = true := by decide +kernel
theorem ci_728_85 : ab_at 728 85 (.iadd) 1 = true := by decide +kernel
theorem ci_728_86 : ab_at 728 86 (.putfield 39) 3 = true := by decide +kernel
theorem ci_728_89 : ab_at 728 89 (.iinc 1 1) 3 = true := by decide +kernel
theorem ci_728_92 : ab_at 728 92 (.goto (-58)) 3 = true := by decide +kernel
theorem ci_728_95 : ab_at 728 95 (.aload_n 0) 1 = true := by decide +kernel
theorem ci_728_96 : ab_at 728 96 (.getfield 18) 3 = true := by decide +kernel
theorem ci_728_99 : ab_at 728 99 (.iconst 1) 1 = true := by decide +kernel
theorem ci_728_100 : ab_at 728 100 (.invokevirtual 58) 3 = true := by decide +kernel
theorem ci_732_0 : ab_at 732 0 (.aload_n 0) 1 = true := by decide +kernel
theorem ci_732_1 : ab_at 732 1 (.iconst 4) 1 = true := by decide +kernel
theorem ci_732_2 : ab_at 732 2 (.putfield 9) 3 = true := by decide +kernel
theorem ci_732_5 : ab_at 732 5 (.aload_n 0) 1 = true := by decide +kernel
theorem ci_732_6 : ab_at 732 6 (.iconst 4) 1 = true := by decide +kernel
theorem ci_732_7 : ab_at 732 7 (.putfield 15) 3 = true := by decide +kernel
theorem ci_732_10 : ab_at 732 10 (.aload_n 0) 1 = true := by decide +kernel
theorem ci_732_11 : ab_at 732 11 (.iconst 1) 1 = true := by decide +kernel
theorem ci_732_12 : ab_at 732 12 (.putfield 18) 3 = true := by decide +kernel
theorem ci_732_15 : ab_at 732 15 (.aload_n 0) 1 = true := by decide +kernel
theorem ci_732_16 : ab_at 732 16 (.iconst 1) 1 = true := by decide +kernel
theorem ci_732_17 : ab_at 732 17 (.putfield 21) 3 = true := by decide +kernel
theorem ci_732_20 : ab_at 732 20 (.aload_n 0) 1 = true := by decide +kernel
theorem ci_732_21 : ab_at 732 21 (.iconst 0) 1 = true := by decide +kernel
theorem ci_732_22 : ab_at 732 22 (.putfield 24) 3 = true := by decide +kernel
theorem ci_732_25 : ab_at 732 25 (.aload_n 0) 1 = true := by decide +kernel
theorem ci_732_26 : ab_at 732 26 (.iconst 0) 1 = true := by decide +kernel
theorem ci_732_27 : ab_at 732 27 (.putfield 27) 3 = true := by decide +kernel
theorem ci_732_30 : ab_at 732 30 (.aload_n 0) 1 = true := by decide +kernel
theorem ci_732_31 : ab_at 732 31 (.iconst 0) 1 = true := by decide +kernel
theorem ci_732_32 : ab_at 732 32 (.putfield 30) 3 = true := by decide +kernel
theorem ci_732_35 : ab_at 732 35 (.iconst 0) 1 = true := by decide +kernel
theorem ci_732_36 : ab_at 732 36 (.istore_n 1) 1 = true := by decide +kernel
theorem ci_732_37 : ab_at 732 37 (.iload_n 1) 1 = true := by decide +kernel
theorem ci_732_38 : ab_at 732 38 (.bipush 10) 2 = true := by decide +kernel
theorem ci_732_40 : ab_at 732 40 (.if_icmp .ge 16) 3 = true := by decide +kernel
theorem ci_732_43 : ab_at 732 43 (.aload_n 0) 1 = true := by decide +kernel
theorem ci_732_44 : ab_at 732 44 (.getfield 65) 3 = true := by decide +kernel
theorem ci_732_47 : ab_at 732 47 (.iload_n 1) 1 = true := by decide +kernel
theorem ci_732_48 : ab_at 732 48 (.iconst 0) 1 = true := by decide +kernel
theorem ci_732_49 : ab_at 732 49 (.iastore) 1 = true := by decide +kernel
theorem ci_732_50 : ab_at 732 50 (.iinc 1 1) 3 = true := by decide +kernel
theorem ci_732_53 : ab_at 732 53 (.goto (-16)) 3 = true := by decide +kernel
theorem ci_740_0 : ab_at 740 0 (.aload_n 0) 1 = true := by decide +kernel
theorem ci_740_1 : ab_at 740 1 (.getfield 18) 3 = true := by decide +kernel
theorem ci_740_4 : ab_at 740 4 (.getfield 48) 3 = true := by decide +kernel
theorem ci_740_7 : ab_at 740 7 (.tableswitch 67 200 205 #[37, 42, 47, 52, 57, 62]) 37 = true := by decide +kernel
theorem ci_740_44 : ab_at 740 44 (.aload_n 0) 1 = true := by decide +kernel
theorem ci_740_45 : ab_at 740 45 (.invokevirtual 62) 3 = true := by decide +kernel
theorem ci_740_49 : ab_at 740 49 (.aload_n 0) 1 = true := by decide +kernel
theorem ci_740_50 : ab_at 740 50 (.invokevirtual 65) 3 = true := by decide +kernel
theorem ci_740_54 : ab_at 740 54 (.aload_n 0) 1 = true := by decide +kernel
theorem ci_740_55 : ab_at 740 55 (.invokevirtual 68) 3 = true := by decide +kernel
theorem ci_740_59 : ab_at 740 59 (.aload_n 0) 1 = true := by decide +kernel
theorem ci_740_60 : ab_at 740 60 (.invokevirtual 71) 3 = true := by decide +kernel
theorem ci_740_64 : ab_at 740 64 (.aload_n 0) 1 = true := by decide +kernel
theorem ci_740_65 : ab_at 740 65 (.invokevirtual 74) 3 = true := by decide +kernel
theorem ci_740_69 : ab_at 740 69 (.aload_n 0) 1 = true := by decide +kernel
theorem ci_740_70 : ab_at 740 70 (.invokevirtual 77) 3 = true := by decide +kernel
theorem ci_740_74 : ab_at 740 74 (.aload_n 0) 1 = true := by decide +kernel
theorem ci_740_75 : ab_at 740 75 (.getfield 18) 3 = true := by decide +kernel
theorem ci_740_78 : ab_at 740 78 (.iconst 1) 1 = true := by decide +kernel
theorem ci_740_79 : ab_at 740 79 (.invokevirtual 58) 3 = true := by decide +kernel
theorem ml_732 : (eg_md 732).2.2.1 = 2 := by decide +kernel
theorem ml_740 : (eg_md 740).2.2.1 = 1 := by decide +kernel
theorem ml_744 : (eg_md 744).2.2.1 = 1 := by decide +kernel
theorem ml_762 : (eg_md 762).2.2.1 = 2 := by decide +kernel
theorem ml_793 : (eg_md 793).2.2.1 = 2 := by decide +kernel
theorem ml_811 : (eg_md 811).2.2.1 = 3 := by decide +kernel
theorem ml_819 : (eg_md 819).2.2.1 = 1 := by decide +kernel
theorem ml_823 : (eg_md 823).2.2.1 = 1 := by decide +kernel
theorem ml_827 : (eg_md 827).2.2.1 = 1 := by decide +kernel
theorem kS_900 : (Int16.ofInt (900)).toInt32.toInt = 900 := by decide +kernel
theorem hs_tbo {sc : List Value} {sp u o dq pc : Nat} {K : Nat → eg_L → List Value → eg_H → Prop} {ls : eg_L} {st : List Value} {h : eg_H} {d lo hi : Int} {offs : Array Int} {len t : Nat} {x : Int32} (c : ab_at u pc (.tableswitch d lo hi offs) len = true) (ht : eg_tgt pc d = some t) (hx : x.toInt < lo ∨ hi < x.toInt) (n : hs sc sp u o dq K t ls st h) : hs sc sp u o dq K pc ls (.int x :: st) h := hs_j (G := eg_tb [] pc d lo hi offs) c rfl (by
  unfold eg_tb
  show (if x.toInt < lo ∨ hi < x.toInt then _ else _) = _
  rw [if_pos hx, ht]) n
theorem hs_tbi {sc : List Value} {sp u o dq pc : Nat} {K : Nat → eg_L → List Value → eg_H → Prop} {ls : eg_L} {st : List Value} {h : eg_H} {d lo hi off : Int} {offs : Array Int} {len t : Nat} {x : Int32} (k : Int) (c : ab_at u pc (.tableswitch d lo hi offs) len = true) (hx : x.toInt = k) (hk : lo ≤ k ∧ k ≤ hi) (ho : offs[(k - lo).toNat]? = some off) (ht : eg_tgt pc off = some t) (n : hs sc sp u o dq K t ls st h) : hs sc sp u o dq K pc ls (.int x :: st) h := hs_j (G := eg_tb [] pc d lo hi offs) c rfl (by
  unfold eg_tb
  subst hx
  show (if x.toInt < lo ∨ hi < x.toInt then _ else if x.toInt = x.toInt ∧ ¬ x.toInt < lo ∧ ¬ hi < x.toInt then _ else _) = _
  rw [if_neg (by omega), if_pos ⟨rfl, by omega, by omega⟩]
  show (match offs[(x.toInt - lo).toNat]? with
        | some off => (match eg_tgt pc off with
          | some t => some (Nat.succ t, ls, st, 999, h, 0, 0)
          | none => none)
        | none => none) = _
  rw [ho]
  show (match eg_tgt pc off with
          | some t => some (Nat.succ t, ls, st, 999, h, 0, 0)
          | none => none) = _
  rw [ht]) n
theorem rt_740 : (eg_md 740).2.2.2 = some .boolean := by decide +kernel
theorem k_line {sc : List Value} {sp d : Nat} {h : eg_H} {tk : Nat → tx_K} {ta : Nat → Nat} {m j : Nat} {ps : PS} (hsc : ab_osc sc) (hq : ab_hp h) (hk : kwok h) (hr : ro h tk ta m) (hc : cu h tk ta m j) (hj : 1 ≤ j) (hP : CP h ps) : mc sc sp 740 2 (d + 1 + 1 + 1 + 1) [.ref 22] h (ln_P h tk ta m (sp_line tk ta ps j)) := by
  have l0 : eg_find 0 (eg_args 0 [.ref 22]) = some (.ref 22) := rfl
  have hp := hq.1
  have hcj := hc.2 hj
  obtain ⟨k0, k2, k59, kn, kk, kv, kw⟩ := cur_k hcj hk
  unfold mc
  refine hs_aload_n ci_740_0 l0 ?_
  refine hs_gfr 0 3 ci_740_1 (by decide +kernel) hp ?_
  refine hs_gfi 7 ci_740_4 (by decide +kernel) hp ?_
  by_cases e0 : (hv h 3 7).toInt = 200
  · obtain ⟨y1, y2⟩ := (kk 0 (by decide)).mp e0
    replace y2 : (tk (j - 1)).2.1 = 237307 := y2
    refine hs_tbi 200 (off := 37) (t := 44) ci_740_7 e0 (by decide) (by decide +kernel) (by decide +kernel) ?_
    refine hs_aload_n ci_740_44 l0 ?_
    refine hs_cv 744 2 0 ci_740_45 (by decide +kernel) (by decide +kernel) hp rfl (by rw [ml_744]; rfl) (k_size hq hk hr hc hj hP) ?_
    rintro v9 hZ ⟨qZ, fZ, rZ, e8, hrZ⟩
    rw [e8]
    clear e8 v9
    simp only [Option.toList, List.cons_append, List.nil_append]
    have e9 : sp_line tk ta ps j = sp_size tk ta ps j := by
      unfold sp_line
      rw [if_pos y1, if_pos y2]
    refine hs_k ⟨3, some (.int rZ), by decide +kernel, rv_b rt_740 ?_, qZ, fZ, rZ, rfl, by rw [e9]; exact hrZ⟩
    rcases hrZ with ⟨-, -, -, y9, -⟩ | ⟨-, -, -, y9, -⟩
    · exact Or.inr y9
    · exact Or.inl y9
  by_cases e1 : (hv h 3 7).toInt = 201
  · obtain ⟨y1, y2⟩ := (kk 1 (by decide)).mp e1
    replace y2 : (tk (j - 1)).2.1 = 9518 := y2
    refine hs_tbi 201 (off := 42) (t := 49) ci_740_7 e1 (by decide) (by decide +kernel) (by decide +kernel) ?_
    refine hs_aload_n ci_740_49 l0 ?_
    refine hs_cv 762 2 0 ci_740_50 (by decide +kernel) (by decide +kernel) hp rfl (by rw [ml_762]; rfl) (k_man hq hk hr hc hj hP) ?_
    rintro v9 hZ ⟨qZ, fZ, rZ, e8, hrZ⟩
    rw [e8]
    clear e8 v9
    simp only [Option.toList, List.cons_append, List.nil_append]
    have e9 : sp_line tk ta ps j = sp_man tk ta ps j := by
      unfold sp_line
      rw [if_pos y1, if_neg (by rw [y2]; decide), if_pos y2]
    refine hs_k ⟨3, some (.int rZ), by decide +kernel, rv_b rt_740 ?_, qZ, fZ, rZ, rfl, by rw [e9]; exact hrZ⟩
    rcases hrZ with ⟨-, -, -, y9, -⟩ | ⟨-, -, -, y9, -⟩
    · exact Or.inr y9
    · exact Or.inl y9
  by_cases e2 : (hv h 3 7).toInt = 202
  · obtain ⟨y1, y2⟩ := (kk 2 (by decide)).mp e2
    replace y2 : (tk (j - 1)).2.1 = 6465242723 := y2
    refine hs_tbi 202 (off := 47) (t := 54) ci_740_7 e2 (by decide) (by decide +kernel) (by decide +kernel) ?_
    refine hs_aload_n ci_740_54 l0 ?_
    refine hs_cv 793 2 0 ci_740_55 (by decide +kernel) (by decide +kernel) hp rfl (by rw [ml_793]; rfl) (k_prom hsc hq hk hr hc hj hP) ?_
    rintro v9 hZ ⟨qZ, fZ, rZ, e8, hrZ⟩
    rw [e8]
    clear e8 v9
    simp only [Option.toList, List.cons_append, List.nil_append]
    have e9 : sp_line tk ta ps j = sp_prom tk ta ps j := by
      unfold sp_line
      rw [if_pos y1, if_neg (by rw [y2]; decide), if_neg (by rw [y2]; decide), if_pos y2]
    refine hs_k ⟨3, some (.int rZ), by decide +kernel, rv_b rt_740 ?_, qZ, fZ, rZ, rfl, by rw [e9]; exact hrZ⟩
    rcases hrZ with ⟨-, -, -, y9, -⟩ | ⟨-, -, -, y9, -⟩
    · exact Or.inr y9
    · exact Or.inl y9
  by_cases e3 : (hv h 3 7).toInt = 203
  · obtain ⟨y1, y2⟩ := (kk 3 (by decide)).mp e3
    replace y2 : (tk (j - 1)).2.1 = 1831769 := y2
    refine hs_tbi 203 (off := 52) (t := 59) ci_740_7 e3 (by decide) (by decide +kernel) (by decide +kernel) ?_
    refine hs_aload_n ci_740_59 l0 ?_
    refine hs_cv 811 2 0 ci_740_60 (by decide +kernel) (by decide +kernel) hp rfl (by rw [ml_811]; rfl) (k_clash hq hk hr hc hj hP) ?_
    rintro v9 hZ ⟨qZ, fZ, rZ, e8, hrZ⟩
    rw [e8]
    clear e8 v9
    simp only [Option.toList, List.cons_append, List.nil_append]
    have e9 : sp_line tk ta ps j = sp_clash tk ta ps j := by
      unfold sp_line
      rw [if_pos y1, if_neg (by rw [y2]; decide), if_neg (by rw [y2]; decide), if_neg (by rw [y2]; decide), if_pos y2]
    refine hs_k ⟨3, some (.int rZ), by decide +kernel, rv_b rt_740 ?_, qZ, fZ, rZ, rfl, by rw [e9]; exact hrZ⟩
    rcases hrZ with ⟨-, -, -, y9, -⟩ | ⟨-, -, -, y9, -⟩
    · exact Or.inr y9
    · exact Or.inl y9
  by_cases e4 : (hv h 3 7).toInt = 204
  · obtain ⟨y1, y2⟩ := (kk 4 (by decide)).mp e4
    replace y2 : (tk (j - 1)).2.1 = 4085956 := y2
    refine hs_tbi 204 (off := 57) (t := 64) ci_740_7 e4 (by decide) (by decide +kernel) (by decide +kernel) ?_
    refine hs_aload_n ci_740_64 l0 ?_
    refine hs_cv 819 2 0 ci_740_65 (by decide +kernel) (by decide +kernel) hp rfl (by rw [ml_819]; rfl) (k_grow hq hk hr hc hj hP) ?_
    rintro v9 hZ ⟨qZ, fZ, rZ, e8, hrZ⟩
    rw [e8]
    clear e8 v9
    simp only [Option.toList, List.cons_append, List.nil_append]
    have e9 : sp_line tk ta ps j = sp_grow tk ta ps j := by
      unfold sp_line
      rw [if_pos y1, if_neg (by rw [y2]; decide), if_neg (by rw [y2]; decide), if_neg (by rw [y2]; decide), if_neg (by rw [y2]; decide), if_pos y2]
    refine hs_k ⟨3, some (.int rZ), by decide +kernel, rv_b rt_740 ?_, qZ, fZ, rZ, rfl, by rw [e9]; exact hrZ⟩
    rcases hrZ with ⟨-, -, -, y9, -⟩ | ⟨-, -, -, y9, -⟩
    · exact Or.inr y9
    · exact Or.inl y9
  by_cases e5 : (hv h 3 7).toInt = 205
  · obtain ⟨y1, y2⟩ := (kk 5 (by decide)).mp e5
    replace y2 : (tk (j - 1)).2.1 = 10502473 := y2
    refine hs_tbi 205 (off := 62) (t := 69) ci_740_7 e5 (by decide) (by decide +kernel) (by decide +kernel) ?_
    refine hs_aload_n ci_740_69 l0 ?_
    refine hs_cv 823 2 0 ci_740_70 (by decide +kernel) (by decide +kernel) hp rfl (by rw [ml_823]; rfl) (k_stor hq hk hr hc hj hP) ?_
    rintro v9 hZ ⟨qZ, fZ, rZ, e8, hrZ⟩
    rw [e8]
    clear e8 v9
    simp only [Option.toList, List.cons_append, List.nil_append]
    have e9 : sp_line tk ta ps j = sp_stor tk ta ps j := by
      unfold sp_line
      rw [if_pos y1, if_neg (by rw [y2]; decide), if_neg (by rw [y2]; decide), if_neg (by rw [y2]; decide), if_neg (by rw [y2]; decide), if_neg (by rw [y2]; decide), if_pos y2]
    refine hs_k ⟨3, some (.int rZ), by decide +kernel, rv_b rt_740 ?_, qZ, fZ, rZ, rfl, by rw [e9]; exact hrZ⟩
    rcases hrZ with ⟨-, -, -, y9, -⟩ | ⟨-, -, -, y9, -⟩
    · exact Or.inr y9
    · exact Or.inl y9
  have g : ∀ n : Nat, n < 6 → 4 ≤ (tk (j - 1)).1 → (tk (j - 1)).2.1 = kwv.getD n 0 → (hv h 3 7).toInt = 200 + (n : Int) := fun n hn a b => (kk n (by omega)).mpr ⟨a, b⟩
  refine hs_tbo (t := 74) ci_740_7 (by decide +kernel) ?_ ?_
  · by_cases a : (hv h 3 7).toInt < 200
    · exact Or.inl a
    · exact Or.inr (by omega)
  refine hs_aload_n ci_740_74 l0 ?_
  refine hs_gfr 0 3 ci_740_75 (by decide +kernel) hp ?_
  refine hs_iconst ci_740_78 ?_
  refine hs_cv 748 8 1 ci_740_79 (by decide +kernel) (by decide +kernel) hp rfl (by rw [ml_748]; rfl) (k_fail (Int32.ofInt 1) hq) ?_
  rintro v9 h2 ⟨r2, e8, hr2, q2, f2, g8, g9⟩
  rw [e8]
  clear e8 v9
  simp only [Option.toList, List.cons_append, List.nil_append]
  refine hs_k ⟨3, some (.int r2), by decide +kernel, rv_b rt_740 (Or.inl hr2), q2, fr_sub (by decide +kernel) f2, _, rfl, Or.inr ⟨1, ta (j - 1), ?_, hr2, g8.trans kI_1, by rw [g9]; exact hcj.1⟩⟩
  unfold sp_line
  by_cases a : 4 ≤ (tk (j - 1)).1
  · have n0 : ¬ (tk (j - 1)).2.1 = 237307 := fun b => e0 (g 0 (by decide) a b)
    have n1 : ¬ (tk (j - 1)).2.1 = 9518 := fun b => e1 (g 1 (by decide) a b)
    have n2 : ¬ (tk (j - 1)).2.1 = 6465242723 := fun b => e2 (g 2 (by decide) a b)
    have n3 : ¬ (tk (j - 1)).2.1 = 1831769 := fun b => e3 (g 3 (by decide) a b)
    have n4 : ¬ (tk (j - 1)).2.1 = 4085956 := fun b => e4 (g 4 (by decide) a b)
    have n5 : ¬ (tk (j - 1)).2.1 = 10502473 := fun b => e5 (g 5 (by decide) a b)
    rw [if_pos a, if_neg n0, if_neg n1, if_neg n2, if_neg n3, if_neg n4, if_neg n5]
  · rw [if_neg a]
/-- a draft at its start -/
def ps0 : PS := (fun k => if k = 0 then 4 else if k = 1 then 4 else if k = 2 then 1 else if k = 3 then 1 else 0, fun _ _ => 0)
theorem fb_0 (r : Nat) : fb (Int32.ofInt 0) r = false := by
  unfold fb
  show (0#32).getLsbD r = false
  exact BitVec.getLsbD_zero
def cr_P (h : eg_H) (vo : Option Value) (h' : eg_H) : Prop := vo = none ∧ ab_hp h' ∧ ab_fr [(23, 0, 6), (34, 0, 9)] h' h ∧ (∀ k, k < 7 → (hv h' 23 k).toInt = ps0.1 k) ∧ ∀ q, q < 10 → hv h' 34 q = Int32.ofInt 0
theorem rt_732 : (eg_md 732).2.2.2 = none := by decide +kernel
theorem cr_loop {sc : List Value} {sp d : Nat} {h : eg_H} (hqh : ab_hp h) : ∀ (n k : Nat) (x : Int32) (ls : eg_L) (h1 : eg_H), k + n = 10 → x.toInt = (k : Int) → eg_find 0 ls = some (.ref 23) → eg_find 1 ls = some (.int x) → ab_hp0 h1 → ab_fr [(23, 0, 6), (34, 0, 9)] h1 h → (∀ k, k < 7 → (hv h1 23 k).toInt = ps0.1 k) → (∀ q, q < k → hv h1 34 q = Int32.ofInt 0) → hs sc sp 732 1 d (fun pc' _ st' h' => ∃ ik vo, ab_ret 732 pc' = some ik ∧ eg_rv (eg_md 732).2.2.2 ik st' = some vo ∧ cr_P h vo h') 37 ls [] h1 := by
  intro n
  induction n with
  | zero =>
    intro k x ls h1 hk hx l0 l1 hp f1 s1 z1
    refine hs_iload_n ci_732_37 l1 ?_
    refine hs_bipush ci_732_38 ?_
    refine hs_ic (t := 56) ci_732_40 rfl (fun b40 => ?_) (fun b40 => ?_)
    · exact hs_k ⟨5, none, by decide +kernel, by rw [rt_732]; rfl, rfl, ⟨hp, hqh.2.fr (M := [(23, 0, 6), (34, 0, 9)]) (by decide +kernel) f1⟩, f1, s1, fun q hq => z1 q (by omega)⟩
    · simp only [hs_cd, ab_not, kB_10] at b40
      omega
  | succ n ih =>
    intro k x ls h1 hk hx l0 l1 hp f1 s1 z1
    refine hs_iload_n ci_732_37 l1 ?_
    refine hs_bipush ci_732_38 ?_
    refine hs_ic (t := 56) ci_732_40 rfl (fun b40 => ?_) (fun b40 => ?_)
    · simp only [hs_cd, ab_not, kB_10] at b40
      omega
    · refine hs_aload_n ci_732_43 l0 ?_
      refine hs_gfr 17 34 ci_732_44 (by decide +kernel) hp ?_
      refine hs_iload_n ci_732_47 l1 ?_
      refine hs_iconst ci_732_48 ?_
      refine hs_iastore 0 9 (-2147483648) (2147483647) ci_732_49 (by decide +kernel) hp (by omega) (by omega) (ab_ige _) (ab_ile _) ?_
      intro h49 w49
      replace hp := w49.1
      refine hs_iinc2 ci_732_50 (by decide +kernel) l1 ?_
      intro ls9 q9
      replace l0 := q9.2 0 _ (by decide) (Or.inl rfl) l0
      have l1 := q9.1
      clear q9
      refine hs_goto (t := 37) ci_732_53 rfl ?_
      have e9 : x.toInt.toNat = k := by omega
      have f49 : ab_fr [(34, 0, 9)] h49 h1 := w49.f9 (n := 9) rfl (by omega)
      refine ih (k + 1) _ _ h49 (by omega) (i32_inc hx (by omega) (by omega)) l0 l1 hp ((fr_sub (by decide +kernel) f49).tr f1) (fun q hq => ?_) (fun q hq => ?_)
      · rw [hv_same (f49 23 q rfl)]
        exact s1 q hq
      · rw [w49.v]
        by_cases e : q = k
        · rw [if_pos ⟨rfl, by omega⟩]
        · rw [if_neg (by omega)]
          exact z1 q (by omega)
theorem k_clear {sc : List Value} {sp d : Nat} {h : eg_H} (hq : ab_hp h) : mc sc sp 732 1 d [.ref 23] h (cr_P h) := by
  have l0 : eg_find 0 (eg_args 0 [.ref 23]) = some (.ref 23) := rfl
  have hp := hq.1
  unfold mc
  refine hs_aload_n ci_732_0 l0 ?_
  refine hs_iconst ci_732_1 ?_
  refine hs_pfi 0 (-2147483648) (2147483647) ci_732_2 (by decide +kernel) hp (by decide) (by decide) ?_
  intro h2 w2
  replace hp := w2.1
  refine hs_aload_n ci_732_5 l0 ?_
  refine hs_iconst ci_732_6 ?_
  refine hs_pfi 1 (-2147483648) (2147483647) ci_732_7 (by decide +kernel) hp (by decide) (by decide) ?_
  intro h7 w7
  replace hp := w7.1
  refine hs_aload_n ci_732_10 l0 ?_
  refine hs_iconst ci_732_11 ?_
  refine hs_pfi 2 (-2147483648) (2147483647) ci_732_12 (by decide +kernel) hp (by decide) (by decide) ?_
  intro h12 w12
  replace hp := w12.1
  refine hs_aload_n ci_732_15 l0 ?_
  refine hs_iconst ci_732_16 ?_
  refine hs_pfi 3 (-2147483648) (2147483647) ci_732_17 (by decide +kernel) hp (by decide) (by decide) ?_
  intro h17 w17
  replace hp := w17.1
  refine hs_aload_n ci_732_20 l0 ?_
  refine hs_iconst ci_732_21 ?_
  refine hs_pfi 4 (0) (6) ci_732_22 (by decide +kernel) hp (by decide) (by decide) ?_
  intro h22 w22
  replace hp := w22.1
  refine hs_aload_n ci_732_25 l0 ?_
  refine hs_iconst ci_732_26 ?_
  refine hs_pfi 5 (0) (10) ci_732_27 (by decide +kernel) hp (by decide) (by decide) ?_
  intro h27 w27
  replace hp := w27.1
  refine hs_aload_n ci_732_30 l0 ?_
  refine hs_iconst ci_732_31 ?_
  refine hs_pfi 6 (-2147483648) (2147483647) ci_732_32 (by decide +kernel) hp (by decide) (by decide) ?_
  intro h32 w32
  replace hp := w32.1
  refine hs_iconst ci_732_35 ?_
  refine hs_istore2_n ci_732_36 (by decide +kernel) ?_
  intro ls9 q9
  replace l0 := q9.2 0 _ (by decide) (Or.inl rfl) l0
  have l1 := q9.1
  clear q9
  have f2 : ab_fr [(23, 0, 6), (34, 0, 9)] h2 h := w2.fr rfl
  have f7 : ab_fr [(23, 0, 6), (34, 0, 9)] h7 h := (w7.fr rfl).tr f2
  have f12 : ab_fr [(23, 0, 6), (34, 0, 9)] h12 h := (w12.fr rfl).tr f7
  have f17 : ab_fr [(23, 0, 6), (34, 0, 9)] h17 h := (w17.fr rfl).tr f12
  have f22 : ab_fr [(23, 0, 6), (34, 0, 9)] h22 h := (w22.fr rfl).tr f17
  have f27 : ab_fr [(23, 0, 6), (34, 0, 9)] h27 h := (w27.fr rfl).tr f22
  have f32 : ab_fr [(23, 0, 6), (34, 0, 9)] h32 h := (w32.fr rfl).tr f27
  refine cr_loop hq 10 0 _ _ h32 rfl kI_0 l0 l1 hp f32 (fun k hk => ?_) (fun q hq => by omega)
  have : k = 0 ∨ k = 1 ∨ k = 2 ∨ k = 3 ∨ k = 4 ∨ k = 5 ∨ k = 6 := by omega
  rcases this with rfl | rfl | rfl | rfl | rfl | rfl | rfl
  · rw [w32.v, if_neg (by omega), w27.v, if_neg (by omega), w22.v, if_neg (by omega), w17.v, if_neg (by omega), w12.v, if_neg (by omega), w7.v, if_neg (by omega), w2.v, if_pos ⟨rfl, rfl⟩]
    exact kI_4
  · rw [w32.v, if_neg (by omega), w27.v, if_neg (by omega), w22.v, if_neg (by omega), w17.v, if_neg (by omega), w12.v, if_neg (by omega), w7.v, if_pos ⟨rfl, rfl⟩]
    exact kI_4
  · rw [w32.v, if_neg (by omega), w27.v, if_neg (by omega), w22.v, if_neg (by omega), w17.v, if_neg (by omega), w12.v, if_pos ⟨rfl, rfl⟩]
    exact kI_1
  · rw [w32.v, if_neg (by omega), w27.v, if_neg (by omega), w22.v, if_neg (by omega), w17.v, if_pos ⟨rfl, rfl⟩]
    exact kI_1
  · rw [w32.v, if_neg (by omega), w27.v, if_neg (by omega), w22.v, if_pos ⟨rfl, rfl⟩]
    exact kI_0
  · rw [w32.v, if_neg (by omega), w27.v, if_pos ⟨rfl, rfl⟩]
    exact kI_0
  · rw [w32.v, if_pos ⟨rfl, rfl⟩]
    exact kI_0
/-- what all lines come to -/
def rd_P (h : eg_H) (x : Sum ER (PS × Nat)) (vo : Option Value) (h' : eg_H) : Prop := ab_hp h' ∧ ab_fr MR2 h' h ∧ ∃ r : Int32, vo = some (.int r) ∧ ((∃ p n, x = .inr (p, n) ∧ r.toInt = 1 ∧ (hv h' 22 2).toInt = (n : Int) ∧ CP h' p) ∨ (∃ k a, x = .inl (k, a) ∧ r.toInt = 0 ∧ flt h' k a))
theorem rt_728 : (eg_md 728).2.2.2 = some .boolean := by decide +kernel
theorem rd_loop {sc : List Value} {sp d : Nat} {h : eg_H} {tk : Nat → tx_K} {ta : Nat → Nat} {m : Nat} (hsc : ab_osc sc) (hqh : ab_hp h) : ∀ (f k j : Nat) (x : Int32) (ps : PS) (ls : eg_L) (h1 : eg_H), k + f = 901 → (k = 0 ∨ 1 ≤ j) → x.toInt = (k : Int) → eg_find 0 ls = some (.ref 22) → eg_find 1 ls = some (.int x) → ab_hp h1 → ab_fr MR2 h1 h → kwok h1 → ro h1 tk ta m → cu h1 tk ta m j → CP h1 ps → (hv h1 22 2).toInt = (k : Int) → hs sc sp 728 2 (d + 1 + 1 + 1 + 1 + 1) (fun pc' _ st' h' => ∃ ik vo, ab_ret 728 pc' = some ik ∧ eg_rv (eg_md 728).2.2.2 ik st' = some vo ∧ rd_P h (sp_all tk ta f ps k j) vo h') 34 ls [] h1 := by
  intro f
  induction f with
  | zero =>
    intro k j x ps ls h1 hk hj hx l0 l1 q1 f1 k1 r1 c1 P1 n1
    have hp := q1.1
    refine hs_iload_n ci_728_34 l1 ?_
    refine hs_sipush ci_728_35 ?_
    refine hs_ic (t := 95) ci_728_38 rfl (fun b38 => ?_) (fun b38 => ?_)
    · refine hs_aload_n ci_728_95 l0 ?_
      refine hs_gfr 0 3 ci_728_96 (by decide +kernel) hp ?_
      refine hs_iconst ci_728_99 ?_
      refine hs_cv 748 8 1 ci_728_100 (by decide +kernel) (by decide +kernel) hp rfl (by rw [ml_748]; rfl) (k_fail (Int32.ofInt 1) q1) ?_
      rintro v9 h2 ⟨r2, e8, hr2, q2, f2, g8, g9⟩
      rw [e8]
      clear e8 v9
      simp only [Option.toList, List.cons_append, List.nil_append]
      exact hs_k ⟨3, some (.int r2), by decide +kernel, rv_b rt_728 (Or.inl hr2), q2, (fr_sub (by decide +kernel) f2).tr f1, _, rfl, Or.inr ⟨1, ta (j - 1), rfl, hr2, g8.trans kI_1, by rw [g9]; exact (c1.2 (by omega)).1⟩⟩
    · simp only [hs_cd, ab_not, kS_900] at b38
      omega
  | succ f ih =>
    intro k j x ps ls h1 hk hj hx l0 l1 q1 f1 k1 r1 c1 P1 n1
    have hp := q1.1
    refine hs_iload_n ci_728_34 l1 ?_
    refine hs_sipush ci_728_35 ?_
    refine hs_ic (t := 95) ci_728_38 rfl (fun b38 => ?_) (fun b38 => ?_)
    · simp only [hs_cd, ab_not, kS_900] at b38
      omega
    · refine hs_aload_n ci_728_41 l0 ?_
      refine hs_gfr 0 3 ci_728_42 (by decide +kernel) hp ?_
      refine hs_cv 736 8 0 ci_728_45 (by decide +kernel) (by decide +kernel) hp rfl (by rw [ml_736]; rfl) (k_adv q1 r1 c1) ?_
      rintro v9 hA ⟨e8, qA, fA, cA⟩
      rw [e8]
      clear e8 v9
      simp only [Option.toList, List.nil_append]
      replace hp := qA.1
      have kA : kwok hA := k1.fr fA (fun _ => rfl)
      have rA : ro hA tk ta m := r1.fr (fr_sub (by decide +kernel) fA)
      have PA : CP hA ps := P1.fr (fr_sub (by decide +kernel) fA)
      have hcur : cur hA (tk j) (ta j) := cA.2 (by omega)
      obtain ⟨k0, -, -, -, -, -, -⟩ := cur_k hcur kA
      have nA : (hv hA 22 2).toInt = (k : Int) := by rw [hv_same (fA 22 2 rfl)]; exact n1
      refine hs_aload_n ci_728_48 l0 ?_
      refine hs_gfr 0 3 ci_728_49 (by decide +kernel) hp ?_
      refine hs_gfi 7 ci_728_52 (by decide +kernel) hp ?_
      refine hs_if (t := 60) ci_728_55 rfl (fun b55 => ?_) (fun b55 => ?_)
      · simp only [hs_cd, ab_not] at b55
        refine hs_aload_n ci_728_60 l0 ?_
        refine hs_cv 740 2 0 ci_728_61 (by decide +kernel) (by decide +kernel) hp rfl (by rw [ml_740]; rfl) (k_line hsc qA kA rA cA (by omega) PA) ?_
        rintro v9 hB ⟨qB, fB, rB, e8, hrB⟩
        rw [e8]
        clear e8 v9
        replace hp := qB.1
        simp only [Option.toList, List.cons_append, List.nil_append]
        refine hs_if (t := 77) ci_728_64 rfl (fun b64 => ?_) (fun b64 => ?_)
        · simp only [hs_cd, ab_not] at b64
          refine hs_iconst ci_728_77 ?_
          rcases hrB with ⟨p, j', -, y2, -⟩ | ⟨k9, a9, y1, y2, y3⟩
          · omega
          · refine hs_k ⟨3, some (.int (Int32.ofInt 0)), by decide +kernel, rv_b rt_728 (Or.inl (by decide)), qB, (fr_sub (by decide +kernel) fB).tr ((fr_sub (by decide +kernel) fA).tr f1), _, rfl, Or.inr ⟨k9, a9, ?_, by decide, y3⟩⟩
            show (if (tk j).1 = 0 then _ else sbn (sp_line tk ta ps (j + 1)) _) = _
            rw [if_neg (by omega), sbn_l y1]
        · simp only [hs_cd, ab_not] at b64
          obtain ⟨p, j', hp1, hj1, cB, PB⟩ : ∃ p j', sp_line tk ta ps (j + 1) = .inr (p, j') ∧ 1 ≤ j' ∧ cu hB tk ta m j' ∧ CP hB p := by
            rcases hrB with ⟨p, j', y1, -, y3, y4, y5⟩ | ⟨k, a, -, y2, -⟩
            · exact ⟨p, j', y1, y3, y4, y5⟩
            · omega
          clear hrB
          have kB : kwok hB := kA.fr fB (fun _ => rfl)
          have rrB : ro hB tk ta m := rA.fr (fr_sub (by decide +kernel) fB)
          have nB : (hv hB 22 2).toInt = (k : Int) := by rw [hv_same (fB 22 2 rfl)]; exact nA
          refine hs_aload_n ci_728_67 l0 ?_
          refine hs_gfr 0 3 ci_728_68 (by decide +kernel) hp ?_
          refine hs_cv 827 8 0 ci_728_71 (by decide +kernel) (by decide +kernel) hp rfl (by rw [ml_827]; rfl) (k_end qB kB rrB cB) ?_
          rintro v9 hC ⟨qC, fC, cC, rC, e8, hrC⟩
          rw [e8]
          clear e8 v9
          replace hp := qC.1
          simp only [Option.toList, List.cons_append, List.nil_append]
          refine hs_if (t := 79) ci_728_74 rfl (fun b74 => ?_) (fun b74 => ?_)
          · simp only [hs_cd, ab_not] at b74
            refine hs_aload_n ci_728_79 l0 ?_
            refine hs_dup ci_728_80 rfl ?_
            refine hs_gfi 2 ci_728_81 (by decide +kernel) hp ?_
            refine hs_iconst ci_728_84 ?_
            refine hs_iadd ci_728_85 ?_
            refine hs_pfi 2 (-2147483648) (2147483647) ci_728_86 (by decide +kernel) hp (ab_ige _) (ab_ile _) ?_
            intro h86 w86
            replace hp := w86.1
            refine hs_iinc2 ci_728_89 (by decide +kernel) l1 ?_
            intro ls9 q9
            replace l0 := q9.2 0 _ (by decide) (Or.inl rfl) l0
            have l1 := q9.1
            clear q9
            refine hs_goto (t := 34) ci_728_92 rfl ?_
            obtain ⟨z1, z2, z3⟩ : rC.toInt = 1 ∧ (tk j').1 = 2 ∧ (tk j').2.1 = 59 := by
              rcases hrC with y | y
              · exact y
              · omega
            have f86 : ab_fr [(22, 2, 2)] h86 hC := w86.fr rfl
            have nC : (hv hC 22 2).toInt = (k : Int) := by rw [hv_same (fC 22 2 rfl)]; exact nB
            have F : ab_fr MR2 h86 h := (fr_sub (by decide +kernel) f86).tr ((fr_sub (by decide +kernel) fC).tr ((fr_sub (by decide +kernel) fB).tr ((fr_sub (by decide +kernel) fA).tr f1)))
            have e9 : sp_all tk ta (f + 1) ps k j = sp_all tk ta f p (k + 1) (j' + 1) := by
              show (if (tk j).1 = 0 then _ else sbn (sp_line tk ta ps (j + 1)) _) = _
              rw [if_neg (by omega), sbn_r hp1]
              show (if (tk j').1 = 2 ∧ (tk j').2.1 = 59 then _ else _) = _
              rw [if_pos ⟨z2, z3⟩]
            rw [e9]
            refine ih (k + 1) (j' + 1) _ p _ h86 (by omega) (by omega) (i32_inc hx (by omega) (by omega)) l0 l1 ⟨hp, hqh.2.fr (M := MR2) (by decide +kernel) F⟩ F ((kB.fr fC (fun _ => rfl)).fr f86 (fun _ => rfl)) ((rrB.fr (fr_sub (by decide +kernel) fC)).fr (fr_sub (by decide +kernel) f86)) (cC.fr f86 rfl rfl rfl rfl (fun _ => rfl)) ?_ ?_
            · exact (PB.fr (fr_sub (by decide +kernel) fC)).scal (f' := p.1) (fr_sub (by decide +kernel) f86) rfl rfl (fun q hq => by rw [hv_same (f86 23 q rfl)]; exact (PB.fr (fr_sub (by decide +kernel) fC)).1 q hq) (by rw [hv_same (f86 22 3 rfl)]; exact (PB.fr (fr_sub (by decide +kernel) fC)).2.1.1) (by rw [hv_same (f86 22 4 rfl)]; exact (PB.fr (fr_sub (by decide +kernel) fC)).2.1.2.1) (by rw [hv_same (f86 22 5 rfl)]; exact (PB.fr (fr_sub (by decide +kernel) fC)).2.1.2.2) (by have b9 := PB.2.2.2.2.2.2; exact ⟨b9.1, b9.2.1, b9.2.2.1, b9.2.2.2.1⟩)
            · rw [w86.v, if_pos ⟨rfl, rfl⟩, i32_inc nC (by omega) (by omega)]
              omega
          · simp only [hs_cd, ab_not] at b74
            refine hs_iconst ci_728_77 ?_
            rcases hrC with ⟨y1, -⟩ | ⟨y1, y2, y3⟩
            · omega
            · refine hs_k ⟨3, some (.int (Int32.ofInt 0)), by decide +kernel, rv_b rt_728 (Or.inl (by decide)), qC, (fr_sub (by decide +kernel) fC).tr ((fr_sub (by decide +kernel) fB).tr ((fr_sub (by decide +kernel) fA).tr f1)), _, rfl, Or.inr ⟨1, ta j', ?_, by decide, y3⟩⟩
              show (if (tk j).1 = 0 then _ else sbn (sp_line tk ta ps (j + 1)) _) = _
              rw [if_neg (by omega), sbn_r hp1]
              show (if (tk j').1 = 2 ∧ (tk j').2.1 = 59 then _ else _) = _
              rw [if_neg y2]
      · simp only [hs_cd, ab_not] at b55
        refine hs_iconst ci_728_58 ?_
        refine hs_k ⟨3, some (.int (Int32.ofInt 1)), by decide +kernel, rv_b rt_728 (Or.inr (by decide)), qA, (fr_sub (by decide +kernel) fA).tr f1, _, rfl, Or.inl ⟨ps, k, ?_, by decide, nA, PA⟩⟩
        show (if (tk j).1 = 0 then _ else _) = _
        rw [if_pos (by omega)]
theorem k_reads {sc : List Value} {sp d : Nat} {h : eg_H} {tk : Nat → tx_K} {ta : Nat → Nat} {m : Nat} (hsc : ab_osc sc) (hq : ab_hp h) (hk : kwok h) (hr : ro h tk ta m) (hc : cu h tk ta m 0) : mc sc sp 728 2 (d + 1 + 1 + 1 + 1 + 1) [.ref 22] h (rd_P h (sp_all tk ta 901 ps0 0 0)) := by
  have l0 : eg_find 0 (eg_args 0 [.ref 22]) = some (.ref 22) := rfl
  have hp := hq.1
  unfold mc
  refine hs_aload_n ci_728_0 l0 ?_
  refine hs_gfr 1 23 ci_728_1 (by decide +kernel) hp ?_
  refine hs_cv 732 1 0 ci_728_4 (by decide +kernel) (by decide +kernel) hp rfl (by rw [ml_732]; rfl) (k_clear hq) ?_
  rintro v9 hA ⟨e8, qA, fA, sA, zA⟩
  rw [e8]
  clear e8 v9
  simp only [Option.toList, List.nil_append]
  replace hp := qA.1
  refine hs_aload_n ci_728_7 l0 ?_
  refine hs_iconst ci_728_8 ?_
  refine hs_pfi 3 (0) (1) ci_728_9 (by decide +kernel) hp (by decide) (by decide) ?_
  intro h9 w9
  replace hp := w9.1
  refine hs_aload_n ci_728_12 l0 ?_
  refine hs_iconst ci_728_13 ?_
  refine hs_pfi 4 (0) (1) ci_728_14 (by decide +kernel) hp (by decide) (by decide) ?_
  intro h14 w14
  replace hp := w14.1
  refine hs_aload_n ci_728_17 l0 ?_
  refine hs_iconst ci_728_18 ?_
  refine hs_pfi 5 (0) (1) ci_728_19 (by decide +kernel) hp (by decide) (by decide) ?_
  intro h19 w19
  replace hp := w19.1
  refine hs_aload_n ci_728_22 l0 ?_
  refine hs_lconst ci_728_23 ?_
  refine hs_pfl 6 ci_728_24 (by decide +kernel) hp ?_
  intro h24 w24
  replace hp := w24.1
  refine hs_aload_n ci_728_27 l0 ?_
  refine hs_iconst ci_728_28 ?_
  refine hs_pfi 2 (-2147483648) (2147483647) ci_728_29 (by decide +kernel) hp (by decide) (by decide) ?_
  intro h29 w29
  replace hp := w29.1
  refine hs_iconst ci_728_32 ?_
  refine hs_istore2_n ci_728_33 (by decide +kernel) ?_
  intro ls9 q9
  replace l0 := q9.2 0 _ (by decide) (Or.inl rfl) l0
  have l1 := q9.1
  clear q9
  have g9 : ab_fr [(22, 2, 6)] h9 hA := w9.fr rfl
  have g14 : ab_fr [(22, 2, 6)] h14 hA := (w14.fr rfl).tr g9
  have g19 : ab_fr [(22, 2, 6)] h19 hA := (w19.fr rfl).tr g14
  have g24 : ab_fr [(22, 2, 6)] h24 hA := (w24.fr rfl).tr g19
  have g29 : ab_fr [(22, 2, 6)] h29 hA := (w29.fr rfl).tr g24
  have F : ab_fr MR2 h29 h := (fr_sub (by decide +kernel) g29).tr (fr_sub (by decide +kernel) fA)
  refine rd_loop hsc hq 901 0 0 _ ps0 _ h29 rfl (Or.inl rfl) kI_0 l0 l1 ⟨hp, hq.2.fr (M := MR2) (by decide +kernel) F⟩ F (hk.fr F (fun _ => rfl)) (hr.fr F) ((hc.fr fA rfl rfl rfl rfl (fun _ => rfl)).fr g29 rfl rfl rfl rfl (fun _ => rfl)) ⟨fun q hq => ?_, ⟨?_, ?_, ?_⟩, fun q hq => ?_, fun q hq => ?_, fun q hq r => ?_, fun x y hx hy => ?_, by decide⟩ ?_
  · rw [hv_same (g29 23 q rfl)]
    exact sA q hq
  · rw [w29.v, if_neg (by omega), w24.i _ _ (by omega), w19.v, if_neg (by omega), w14.v, if_neg (by omega), w9.v, if_pos ⟨rfl, rfl⟩]
    exact kI_0
  · rw [w29.v, if_neg (by omega), w24.i _ _ (by omega), w19.v, if_neg (by omega), w14.v, if_pos ⟨rfl, rfl⟩]
    exact kI_0
  · rw [w29.v, if_neg (by omega), w24.i _ _ (by omega), w19.v, if_pos ⟨rfl, rfl⟩]
    exact kI_0
  · have hq : (q : Int) < 0 := hq
    omega
  · have hq : (q : Int) < 0 := hq
    omega
  · rw [hv_same (g29 34 q rfl), zA q hq, fb_0]
    exact ⟨fun g => (nomatch g), fun g => absurd rfl g⟩
  · rw [w29.l _ _ (by omega), w24.v, if_pos ⟨rfl, rfl⟩]
    constructor
    · intro g
      have : tb (Int64.ofNat 0) (8 * y + x) = false := BitVec.getLsbD_zero
      exact absurd (this.symm.trans g) (by decide)
    · rintro (⟨q, hq, -⟩ | ⟨q, hq, -⟩)
      · have hq : (q : Int) < 0 := hq
        omega
      · have hq : (q : Int) < 0 := hq
        omega
  · rw [w29.v, if_pos ⟨rfl, rfl⟩]
    exact kI_0
