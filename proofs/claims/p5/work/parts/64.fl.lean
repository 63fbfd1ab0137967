/-! BY HAND: a tree falls -/
abbrev ML : ab_M := [(182, 22, 22), (184, 100, 109), (184, 118, 125), (189, 0, 9)]
theorem in2 {M : ab_M} {a f t b g u k : Nat} (h1 : f ≤ k) (h2 : k ≤ t) (hm : ab_inr M a k k = true → True) : ab_inr ((b, g, u) :: (a, f, t) :: M) a k k = true := by
  unfold ab_inr
  rw [in1 h1 h2]
  cases (Nat.beq a b && Nat.ble g k && Nat.ble k u) <;> rfl
theorem in3 {M : ab_M} {a f t b g u b2 g2 u2 k : Nat} (h1 : f ≤ k) (h2 : k ≤ t) : ab_inr ((b2, g2, u2) :: (b, g, u) :: (a, f, t) :: M) a k k = true := by
  unfold ab_inr
  rw [in2 h1 h2 (fun _ => trivial)]
  cases (Nat.beq a b2 && Nat.ble g2 k && Nat.ble k u2) <;> rfl
/-- slots below 126 are free to write -/
theorem pr_184 {k : Nat} (hk : k < 126) : ab_pr 184 k = false := by
  unfold ab_pr
  have : Nat.ble 126 k = false := by
    cases hb : Nat.ble 126 k with
    | false => rfl
    | true => have := Nat.le_of_ble_eq_true hb; omega
  rw [this]; rfl
theorem gq_1 : gsl 184 1 = some (0, 10) := by decide +kernel
theorem c_fallSet {sc : List Value} {sp d : Nat} (hsc : ab_osc sc) {h : eg_H} {x : Int32} (h1 : 0 ≤ x.toInt) (h2 : x.toInt ≤ 9) (hp : ab_hp h) : mc sc sp 1861 11 (d + 8) [.ref 182, .int x] h (mc_P [(182, 22, 22), (189, 0, 9)] h (some (-2147483648, 2147483647))) := mc_q tr_fallSet (iv := some (-2147483648, 2147483647)) (by decide +kernel) hsc (show 8 ≤ d + 8 by omega) (ar_1 hp h1 h2)

theorem ml_1861 : (eg_md 1861).2.2.1 = 7 := by decide +kernel
theorem rt_1861 : (eg_md 1861).2.2.2 = some .int := by decide +kernel
theorem ci_1857_0 : ab_at 1857 0 (.aload_n 0) 1 = true := by decide +kernel
theorem ci_1857_1 : ab_at 1857 1 (.iload_n 1) 1 = true := by decide +kernel
theorem ci_1857_2 : ab_at 1857 2 (.invokevirtual 339) 3 = true := by decide +kernel
theorem ci_1857_5 : ab_at 1857 5 (.istore_n 2) 1 = true := by decide +kernel
theorem ci_1857_6 : ab_at 1857 6 (.iconst 0) 1 = true := by decide +kernel
theorem ci_1857_7 : ab_at 1857 7 (.istore_n 3) 1 = true := by decide +kernel
theorem ci_1857_8 : ab_at 1857 8 (.iload_n 3) 1 = true := by decide +kernel
theorem ci_1857_9 : ab_at 1857 9 (.aload_n 0) 1 = true := by decide +kernel
theorem ci_1857_10 : ab_at 1857 10 (.getfield 33) 3 = true := by decide +kernel
theorem ci_1857_13 : ab_at 1857 13 (.iconst 1) 1 = true := by decide +kernel
theorem ci_1857_14 : ab_at 1857 14 (.iaload) 1 = true := by decide +kernel
theorem ci_1857_15 : ab_at 1857 15 (.if_icmp .ge 134) 3 = true := by decide +kernel
theorem ci_1857_18 : ab_at 1857 18 (.iload_n 2) 1 = true := by decide +kernel
theorem ci_1857_19 : ab_at 1857 19 (.iload_n 3) 1 = true := by decide +kernel
theorem ci_1857_20 : ab_at 1857 20 (.invokestatic 215) 3 = true := by decide +kernel
theorem ci_1857_23 : ab_at 1857 23 (.ifCond .ne 6) 3 = true := by decide +kernel
theorem ci_1857_26 : ab_at 1857 26 (.goto 117) 3 = true := by decide +kernel
theorem ci_1857_29 : ab_at 1857 29 (.iconst 1) 1 = true := by decide +kernel
theorem ci_1857_30 : ab_at 1857 30 (.istore 4) 2 = true := by decide +kernel
theorem ci_1857_32 : ab_at 1857 32 (.iload 4) 2 = true := by decide +kernel
theorem ci_1857_34 : ab_at 1857 34 (.aload_n 0) 1 = true := by decide +kernel
theorem ci_1857_35 : ab_at 1857 35 (.iload_n 3) 1 = true := by decide +kernel
theorem ci_1857_36 : ab_at 1857 36 (.invokevirtual 321) 3 = true := by decide +kernel
theorem ci_1857_39 : ab_at 1857 39 (.if_icmp .gt 73) 3 = true := by decide +kernel
theorem ci_1857_42 : ab_at 1857 42 (.bipush 8) 2 = true := by decide +kernel
theorem ci_1857_44 : ab_at 1857 44 (.aload_n 0) 1 = true := by decide +kernel
theorem ci_1857_45 : ab_at 1857 45 (.getfield 33) 3 = true := by decide +kernel
theorem ci_1857_48 : ab_at 1857 48 (.bipush 49) 2 = true := by decide +kernel
theorem ci_1857_50 : ab_at 1857 50 (.iload_n 3) 1 = true := by decide +kernel
theorem ci_1857_51 : ab_at 1857 51 (.iadd) 1 = true := by decide +kernel
theorem ci_1857_52 : ab_at 1857 52 (.iaload) 1 = true := by decide +kernel
theorem ci_1857_53 : ab_at 1857 53 (.iload 4) 2 = true := by decide +kernel
theorem ci_1857_55 : ab_at 1857 55 (.aload_n 0) 1 = true := by decide +kernel
theorem ci_1857_56 : ab_at 1857 56 (.iload_n 3) 1 = true := by decide +kernel
theorem ci_1857_57 : ab_at 1857 57 (.invokevirtual 327) 3 = true := by decide +kernel
theorem ci_1857_60 : ab_at 1857 60 (.imul) 1 = true := by decide +kernel
theorem ci_1857_61 : ab_at 1857 61 (.iadd) 1 = true := by decide +kernel
theorem ci_1857_62 : ab_at 1857 62 (.imul) 1 = true := by decide +kernel
theorem ci_1857_63 : ab_at 1857 63 (.aload_n 0) 1 = true := by decide +kernel
theorem ci_1857_64 : ab_at 1857 64 (.getfield 33) 3 = true := by decide +kernel
theorem ci_1857_67 : ab_at 1857 67 (.bipush 39) 2 = true := by decide +kernel
theorem ci_1857_69 : ab_at 1857 69 (.iload_n 3) 1 = true := by decide +kernel
theorem ci_1857_70 : ab_at 1857 70 (.iadd) 1 = true := by decide +kernel
theorem ci_1857_71 : ab_at 1857 71 (.iaload) 1 = true := by decide +kernel
theorem ci_1857_72 : ab_at 1857 72 (.iadd) 1 = true := by decide +kernel
theorem ci_1857_73 : ab_at 1857 73 (.iload 4) 2 = true := by decide +kernel
theorem ci_1857_75 : ab_at 1857 75 (.aload_n 0) 1 = true := by decide +kernel
theorem ci_1857_76 : ab_at 1857 76 (.iload_n 3) 1 = true := by decide +kernel
theorem ci_1857_77 : ab_at 1857 77 (.invokevirtual 324) 3 = true := by decide +kernel
theorem ci_1857_80 : ab_at 1857 80 (.imul) 1 = true := by decide +kernel
theorem ci_1857_81 : ab_at 1857 81 (.iadd) 1 = true := by decide +kernel
theorem ci_1857_82 : ab_at 1857 82 (.istore 5) 2 = true := by decide +kernel
theorem ci_1857_84 : ab_at 1857 84 (.aload_n 0) 1 = true := by decide +kernel
theorem ci_1857_85 : ab_at 1857 85 (.getfield 33) 3 = true := by decide +kernel
theorem ci_1857_88 : ab_at 1857 88 (.bipush 124) 2 = true := by decide +kernel
theorem ci_1857_90 : ab_at 1857 90 (.iload 5) 2 = true := by decide +kernel
theorem ci_1857_92 : ab_at 1857 92 (.iconst 5) 1 = true := by decide +kernel
theorem ci_1857_93 : ab_at 1857 93 (.ishr) 1 = true := by decide +kernel
theorem ci_1857_94 : ab_at 1857 94 (.iadd) 1 = true := by decide +kernel
theorem ci_1857_95 : ab_at 1857 95 (.dup2) 1 = true := by decide +kernel
theorem ci_1857_96 : ab_at 1857 96 (.iaload) 1 = true := by decide +kernel
theorem ci_1857_97 : ab_at 1857 97 (.iconst 1) 1 = true := by decide +kernel
theorem ci_1857_98 : ab_at 1857 98 (.iload 5) 2 = true := by decide +kernel
theorem ci_1857_100 : ab_at 1857 100 (.bipush 31) 2 = true := by decide +kernel
theorem ci_1857_102 : ab_at 1857 102 (.iand) 1 = true := by decide +kernel
theorem ci_1857_103 : ab_at 1857 103 (.ishl) 1 = true := by decide +kernel
theorem ci_1857_104 : ab_at 1857 104 (.ior) 1 = true := by decide +kernel
theorem ci_1857_105 : ab_at 1857 105 (.iastore) 1 = true := by decide +kernel
theorem ci_1857_106 : ab_at 1857 106 (.iinc 4 1) 3 = true := by decide +kernel
theorem ci_1857_109 : ab_at 1857 109 (.goto (-77)) 3 = true := by decide +kernel
theorem ci_1857_112 : ab_at 1857 112 (.aload_n 0) 1 = true := by decide +kernel
theorem ci_1857_113 : ab_at 1857 113 (.getfield 33) 3 = true := by decide +kernel
theorem ci_1857_116 : ab_at 1857 116 (.bipush 100) 2 = true := by decide +kernel
theorem ci_1857_118 : ab_at 1857 118 (.iload_n 3) 1 = true := by decide +kernel
theorem ci_1857_119 : ab_at 1857 119 (.iadd) 1 = true := by decide +kernel
theorem ci_1857_120 : ab_at 1857 120 (.iconst 2) 1 = true := by decide +kernel
theorem ci_1857_121 : ab_at 1857 121 (.iastore) 1 = true := by decide +kernel
theorem ci_1857_122 : ab_at 1857 122 (.aload_n 0) 1 = true := by decide +kernel
theorem ci_1857_123 : ab_at 1857 123 (.getfield 33) 3 = true := by decide +kernel
theorem ci_1857_126 : ab_at 1857 126 (.bipush 118) 2 = true := by decide +kernel
theorem ci_1857_128 : ab_at 1857 128 (.aload_n 0) 1 = true := by decide +kernel
theorem ci_1857_129 : ab_at 1857 129 (.getfield 33) 3 = true := by decide +kernel
theorem ci_1857_132 : ab_at 1857 132 (.bipush 19) 2 = true := by decide +kernel
theorem ci_1857_134 : ab_at 1857 134 (.iload_n 3) 1 = true := by decide +kernel
theorem ci_1857_135 : ab_at 1857 135 (.iadd) 1 = true := by decide +kernel
theorem ci_1857_136 : ab_at 1857 136 (.iaload) 1 = true := by decide +kernel
theorem ci_1857_137 : ab_at 1857 137 (.iadd) 1 = true := by decide +kernel
theorem ci_1857_138 : ab_at 1857 138 (.dup2) 1 = true := by decide +kernel
theorem ci_1857_139 : ab_at 1857 139 (.iaload) 1 = true := by decide +kernel
theorem ci_1857_140 : ab_at 1857 140 (.iconst 1) 1 = true := by decide +kernel
theorem ci_1857_141 : ab_at 1857 141 (.iadd) 1 = true := by decide +kernel
theorem ci_1857_142 : ab_at 1857 142 (.iastore) 1 = true := by decide +kernel
theorem ci_1857_143 : ab_at 1857 143 (.iinc 3 1) 3 = true := by decide +kernel
theorem ci_1857_146 : ab_at 1857 146 (.goto (-138)) 3 = true := by decide +kernel
theorem fl_in {sc : List Value} {sp d : Nat} {h0 : eg_H} {x set : Int32} {k : Nat} (hx : x.toInt = (k : Int)) (hk : k < 10) (r : Nat) : ∀ (n : Int32) (ls : eg_L) (h : eg_H), 214748367 - n.toInt ≤ (r : Int) → 1 ≤ n.toInt → n.toInt ≤ 214748366 → ab_hp h → ab_fr ML h h0 → eg_find 0 ls = some (.ref 182) → eg_find 2 ls = some (.int set) → eg_find 3 ls = some (.int x) → eg_find 4 ls = some (.int n) → hs sc sp 1857 11 (d + 4) (fun pc' ls' st' h' => pc' = 112 ∧ st' = [] ∧ ab_hp h' ∧ ab_fr ML h' h0 ∧ eg_find 0 ls' = some (.ref 182) ∧ eg_find 2 ls' = some (.int set) ∧ eg_find 3 ls' = some (.int x)) 32 ls [] h := by
  induction r with
  | zero =>
    intro n ls h hr h1 h2
    omega
  | succ r ih =>
    intro n ls h hr hn1 hn2 hp hf l0 l2 l3 l4
    have e1 : n.toInt ≤ 214748365 → (n + Int32.ofInt 1).toInt = n.toInt + 1 := fun h => i32_add rfl rfl (by omega) (by omega)
    refine hs_iload ci_1857_32 l4 ?_
    refine hs_aload_n ci_1857_34 l0 ?_
    refine hs_iload_n ci_1857_35 l3 ?_
    refine hs_cv 1865 11 1 ci_1857_36 (by decide +kernel) (by decide +kernel) hp.1 rfl (by rw [ml_1865]; rfl) (c_trunkOf hx hk hp.1) ?_
    rintro v9 h9 ⟨e9, t, e8, ⟨ht, hon⟩⟩
    rw [e8, e9]
    clear e8 e9 v9 h9
    simp only [Option.toList, List.cons_append, List.nil_append]
    refine hs_ic (t := 112) ci_1857_39 rfl (fun b39 => ?_) (fun b39 => ?_)
    · simp only [hs_cd, ab_not] at b39
      exact hs_k ⟨rfl, rfl, hp, hf, l0, l2, l3⟩
    · simp only [hs_cd, ab_not] at b39
      refine hs_bipush ci_1857_42 ?_
      refine hs_aload_n ci_1857_44 l0 ?_
      refine hs_gfr 6 184 ci_1857_45 (by decide +kernel) hp.1 ?_
      refine hs_bipush ci_1857_48 ?_
      refine hs_iload_n ci_1857_50 l3 ?_
      refine hs_iadd ci_1857_51 ?_
      refine hs_ial1 (49 + k) ci_1857_52 ((i32_add (a := 49) rfl hx (by omega) (by omega)).trans (by omega)) (ckq_v gq_ty k hk) hp.1 ?_
      refine hs_iload ci_1857_53 l4 ?_
      refine hs_aload_n ci_1857_55 l0 ?_
      refine hs_iload_n ci_1857_56 l3 ?_
      refine hs_cv 1883 11 1 ci_1857_57 (by decide +kernel) (by decide +kernel) hp.1 rfl (by rw [ml_1883]; rfl) (c_stepY hx hk hp.1) ?_
      rintro v9 h9 ⟨e9, r2, e8, hr2⟩
      rw [e8, e9]
      clear e8 e9 v9 h9
      simp only [Option.toList, List.cons_append, List.nil_append]
      refine hs_imul ci_1857_60 ?_
      refine hs_iadd ci_1857_61 ?_
      refine hs_imul ci_1857_62 ?_
      refine hs_aload_n ci_1857_63 l0 ?_
      refine hs_gfr 6 184 ci_1857_64 (by decide +kernel) hp.1 ?_
      refine hs_bipush ci_1857_67 ?_
      refine hs_iload_n ci_1857_69 l3 ?_
      refine hs_iadd ci_1857_70 ?_
      refine hs_ial1 (39 + k) ci_1857_71 ((i32_add (a := 39) rfl hx (by omega) (by omega)).trans (by omega)) (ckq_v gq_tx k hk) hp.1 ?_
      refine hs_iadd ci_1857_72 ?_
      refine hs_iload ci_1857_73 l4 ?_
      refine hs_aload_n ci_1857_75 l0 ?_
      refine hs_iload_n ci_1857_76 l3 ?_
      refine hs_cv 1869 11 1 ci_1857_77 (by decide +kernel) (by decide +kernel) hp.1 rfl (by rw [ml_1869]; rfl) (c_stepX hx hk hp.1) ?_
      rintro v9 h9 ⟨e9, r1, e8, hr1⟩
      rw [e8, e9]
      clear e8 e9 v9 h9
      simp only [Option.toList, List.cons_append, List.nil_append]
      refine hs_imul ci_1857_80 ?_
      refine hs_iadd ci_1857_81 ?_
      have hc := hon n.toInt hn1 b39
      have bx := fx_sx_b h k
      have by' := fx_sy_b h k
      have bX := gsl_b hp.1 (ckq_v gq_tx k hk)
      have bY := gsl_b hp.1 (ckq_v gq_ty k hk)
      simp only at bX bY
      have m1 := fx_mb (m := n.toInt) (by omega) (by omega) bx.1 bx.2
      have m2 := fx_mb (m := n.toInt) (by omega) (by omega) by'.1 by'.2
      have p2 : (n * r2).toInt = n.toInt * fx_sy h k := i32_mul rfl hr2 (by omega) (by omega)
      have q2 := i32_add (x := hv h 184 (49 + k)) rfl p2 (by omega) (by omega)
      have q3 := i32_mul (x := (Int8.ofInt 8).toInt32) (a := 8) rfl q2 (by omega) (by omega)
      have q4 := i32_add (y := hv h 184 (39 + k)) q3 rfl (by omega) (by omega)
      have p1 : (n * r1).toInt = n.toInt * fx_sx h k := i32_mul rfl hr1 (by omega) (by omega)
      have q5 := i32_add q4 p1 (by omega) (by omega)
      generalize hcc : (Int8.ofInt 8).toInt32 * (hv h 184 (49 + k) + n * r2) + hv h 184 (39 + k) + n * r1 = cc at q5
      have hc0 : 0 ≤ cc.toInt ∧ cc.toInt ≤ 63 := by omega
      refine hs_istore ci_1857_82 (by decide +kernel) ?_
      intro ls9 q9
      replace l0 := q9.2 0 _ (by decide) rfl l0
      replace l2 := q9.2 2 _ (by decide) rfl l2
      replace l3 := q9.2 3 _ (by decide) rfl l3
      replace l4 := q9.2 4 _ (by decide) rfl l4
      have l5 := q9.1
      clear q9
      refine hs_aload_n ci_1857_84 l0 ?_
      refine hs_gfr 6 184 ci_1857_85 (by decide +kernel) hp.1 ?_
      refine hs_bipush ci_1857_88 ?_
      refine hs_iload ci_1857_90 l5 ?_
      refine hs_iconst ci_1857_92 ?_
      refine hs_ishr ci_1857_93 ?_
      refine hs_iadd ci_1857_94 ?_
      refine hs_d2 ci_1857_95 rfl ?_
      obtain ⟨kk, s1, s2⟩ := ab_shr_v (x := cc) (y := Int32.ofInt 5) hc0.1
      have s3 : (5 : Int) = (kk : Int) := s2 (by decide) (by decide)
      have s4 : kk = 5 := by omega
      subst s4
      obtain ⟨j, hj⟩ : ∃ j : Nat, (cc >>> (Int32.ofInt 5 &&& 31)).toInt = (j : Int) := ⟨(cc >>> (Int32.ofInt 5 &&& 31)).toInt.toNat, by rw [s1]; omega⟩
      have hj2 : j < 2 := by rw [s1] at hj; omega
      refine hs_ial1 (124 + j) ci_1857_96 ((i32_add (a := 124) rfl hj (by omega) (by omega)).trans (by omega)) (ckq_v gq_sh j hj2) hp.1 ?_
      refine hs_iconst ci_1857_97 ?_
      refine hs_iload ci_1857_98 l5 ?_
      refine hs_bipush ci_1857_100 ?_
      refine hs_iand ci_1857_102 ?_
      refine hs_ishl ci_1857_103 ?_
      refine hs_ior ci_1857_104 ?_
      refine hs_ias1 (124 + j) ci_1857_105 ((i32_add (a := 124) rfl hj (by omega) (by omega)).trans (by omega)) (ckq_v gq_sh j hj2) hp.1 (ab_ige _) (ab_ile _) ?_
      intro h5 w5
      replace hf := (w5.fr (M := ML) (in3 (by omega) (by omega))).tr hf
      replace hp : ab_hp h5 := ⟨w5.1, hp.2.set (pr_184 (by omega)) w5.2⟩
      refine hs_iinc ci_1857_106 (by decide +kernel) l4 ?_
      intro ls9 q9
      replace l0 := q9.2 0 _ (by decide) rfl l0
      replace l2 := q9.2 2 _ (by decide) rfl l2
      replace l3 := q9.2 3 _ (by decide) rfl l3
      replace l5 := q9.2 5 _ (by decide) rfl l5
      have l4 := q9.1
      clear q9
      refine hs_goto (t := 32) ci_1857_109 rfl ?_
      exact ih _ _ _ (by rw [e1 (by omega)]; omega) (by rw [e1 (by omega)]; omega) (by rw [e1 (by omega)]; omega) hp hf l0 l2 l3 l4
theorem fl_out {sc : List Value} {sp d : Nat} {h0 : eg_H} {set : Int32} (r : Nat) : ∀ (i : Nat) (xi : Int32) (ls : eg_L) (h : eg_H), xi.toInt = (i : Int) → i + r = 11 → ab_hp h → ab_fr ML h h0 → eg_find 0 ls = some (.ref 182) → eg_find 2 ls = some (.int set) → eg_find 3 ls = some (.int xi) → hs sc sp 1857 11 (d + 4) (fun pc' _ st' h' => pc' = 149 ∧ st' = [] ∧ ab_hp h' ∧ ab_fr ML h' h0) 8 ls [] h := by
  induction r with
  | zero =>
    intro i xi ls h hi hr hp hf l0 l2 l3
    refine hs_iload_n ci_1857_8 l3 ?_
    refine hs_aload_n ci_1857_9 l0 ?_
    refine hs_gfr 6 184 ci_1857_10 (by decide +kernel) hp.1 ?_
    refine hs_iconst ci_1857_13 ?_
    refine hs_ial1 1 ci_1857_14 rfl gq_1 hp.1 ?_
    have hpr := gsl_b hp.1 gq_1
    simp only at hpr
    refine hs_ic (t := 149) ci_1857_15 rfl (fun b15 => ?_) (fun b15 => ?_)
    · simp only [hs_cd, ab_not] at b15
      exact hs_k ⟨rfl, rfl, hp, hf⟩
    · simp only [hs_cd, ab_not] at b15
      omega
  | succ r ih =>
    intro i xi ls h hi hr hp hf l0 l2 l3
    refine hs_iload_n ci_1857_8 l3 ?_
    refine hs_aload_n ci_1857_9 l0 ?_
    refine hs_gfr 6 184 ci_1857_10 (by decide +kernel) hp.1 ?_
    refine hs_iconst ci_1857_13 ?_
    refine hs_ial1 1 ci_1857_14 rfl gq_1 hp.1 ?_
    have hpr := gsl_b hp.1 gq_1
    simp only at hpr
    refine hs_ic (t := 149) ci_1857_15 rfl (fun b15 => ?_) (fun b15 => ?_)
    · simp only [hs_cd, ab_not] at b15
      exact hs_k ⟨rfl, rfl, hp, hf⟩
    · simp only [hs_cd, ab_not] at b15
      refine hs_iload_n ci_1857_18 l2 ?_
      refine hs_iload_n ci_1857_19 l3 ?_
      refine hs_cs 1683 11 2 ci_1857_20 (by decide +kernel) rfl (by rw [ml_1683]; rfl) (c_bitOf _ _) ?_
      rintro v9 h9 ⟨e9, b1, e8, hb1⟩
      rw [e8, e9]
      clear e8 e9 v9 h9
      simp only [Option.toList, List.cons_append, List.nil_append]
      refine hs_if (t := 29) ci_1857_23 rfl (fun b23 => ?_) (fun b23 => ?_)
      · simp only [hs_cd, ab_not] at b23
        refine hs_iconst ci_1857_29 ?_
        refine hs_istore ci_1857_30 (by decide +kernel) ?_
        intro ls9 q9
        replace l0 := q9.2 0 _ (by decide) rfl l0
        replace l2 := q9.2 2 _ (by decide) rfl l2
        replace l3 := q9.2 3 _ (by decide) rfl l3
        have l4 := q9.1
        clear q9
        have hi10 : i < 10 := by omega
        refine (fl_in hi hi10 214748366 _ _ _ (by decide) (by decide) (by decide) hp hf l0 l2 l3 l4).bind ?_
        rintro pc' ls' st' h' ⟨rfl, rfl, hp, hf, l0, l2, l3⟩
        refine hs_aload_n ci_1857_112 l0 ?_
        refine hs_gfr 6 184 ci_1857_113 (by decide +kernel) hp.1 ?_
        refine hs_bipush ci_1857_116 ?_
        refine hs_iload_n ci_1857_118 l3 ?_
        refine hs_iadd ci_1857_119 ?_
        refine hs_iconst ci_1857_120 ?_
        refine hs_ias1 (100 + i) ci_1857_121 ((i32_add (a := 100) rfl hi (by omega) (by omega)).trans (by omega)) (ckq_v gq_mo i hi10) hp.1 (ab_ige _) (ab_ile _) ?_
        intro h6 w6
        replace hf := (w6.fr (M := ML) (in2 (by omega) (by omega) (fun _ => trivial))).tr hf
        replace hp : ab_hp h6 := ⟨w6.1, hp.2.set (pr_184 (by omega)) w6.2⟩
        refine hs_aload_n ci_1857_122 l0 ?_
        refine hs_gfr 6 184 ci_1857_123 (by decide +kernel) hp.1 ?_
        refine hs_bipush ci_1857_126 ?_
        refine hs_aload_n ci_1857_128 l0 ?_
        refine hs_gfr 6 184 ci_1857_129 (by decide +kernel) hp.1 ?_
        refine hs_bipush ci_1857_132 ?_
        refine hs_iload_n ci_1857_134 l3 ?_
        refine hs_iadd ci_1857_135 ?_
        refine hs_ial1 (19 + i) ci_1857_136 ((i32_add (a := 19) rfl hi (by omega) (by omega)).trans (by omega)) (ckq_v gq_giv i hi10) hp.1 ?_
        have hg := gsl_b hp.1 (ckq_v gq_giv i hi10)
        simp only at hg
        obtain ⟨gi, hgi⟩ : ∃ gi : Nat, (hv h6 184 (19 + i)).toInt = (gi : Int) := ⟨(hv h6 184 (19 + i)).toInt.toNat, by omega⟩
        refine hs_iadd ci_1857_137 ?_
        refine hs_d2 ci_1857_138 rfl ?_
        refine hs_ial1 (118 + gi) ci_1857_139 ((i32_add (a := 118) rfl hgi (by omega) (by omega)).trans (by omega)) (ckq_v gq_br gi (by omega)) hp.1 ?_
        refine hs_iconst ci_1857_140 ?_
        refine hs_iadd ci_1857_141 ?_
        refine hs_ias1 (118 + gi) ci_1857_142 ((i32_add (a := 118) rfl hgi (by omega) (by omega)).trans (by omega)) (ckq_v gq_br gi (by omega)) hp.1 (ab_ige _) (ab_ile _) ?_
        intro h7 w7
        replace hf := (w7.fr (M := ML) (in3 (by omega) (by omega))).tr hf
        replace hp : ab_hp h7 := ⟨w7.1, hp.2.set (pr_184 (by omega)) w7.2⟩
        refine hs_iinc ci_1857_143 (by decide +kernel) l3 ?_
        intro ls9 q9
        replace l0 := q9.2 0 _ (by decide) rfl l0
        replace l2 := q9.2 2 _ (by decide) rfl l2
        have l3 := q9.1
        clear q9
        refine hs_goto (t := 8) ci_1857_146 rfl ?_
        exact ih (i + 1) _ _ _ (by have := i32_add hi (y := Int32.ofInt 1) (b := 1) rfl (by omega) (by omega); rw [this]; omega) (by omega) hp hf l0 l2 l3
      · simp only [hs_cd, ab_not] at b23
        refine hs_goto (t := 143) ci_1857_26 rfl ?_
        refine hs_iinc ci_1857_143 (by decide +kernel) l3 ?_
        intro ls9 q9
        replace l0 := q9.2 0 _ (by decide) rfl l0
        replace l2 := q9.2 2 _ (by decide) rfl l2
        have l3 := q9.1
        clear q9
        refine hs_goto (t := 8) ci_1857_146 rfl ?_
        exact ih (i + 1) _ _ _ (by have := i32_add hi (y := Int32.ofInt 1) (b := 1) rfl (by omega) (by omega); rw [this]; omega) (by omega) hp hf l0 l2 l3
def sm_fall : ab_Q := (1857, 11, 0, 10, (3, [(2, .ofNat 0, .ofNat 9, false, none)], [(0, .inr 184), (1, .inl (2, .ofNat 0))], [], []), [(182, 22, 22), (184, 100, 109), (184, 118, 125), (189, 0, 9)], [(149, (3, [], [], [], []))], none)
theorem tr_fall : ab_Tr sm_fall := tr_hand (by decide +kernel) (fun sc sp hsc dq hdq ν ls st h hr => by
  have l0 := hr.ref 0 182 (by rfl)
  obtain ⟨x, l1, hx0⟩ := hr.int 1 (by rfl)
  have hx0 : x.toInt = ν 2 + 0 := hx0
  have hb : 0 ≤ ν 2 ∧ ν 2 ≤ 9 := hr.bnd 2 (by rfl)
  obtain rfl : st = [] := hr.2.2.2.1
  have hp : ab_hp h := hr.2.2.2.2.2
  have hdq : 10 ≤ dq := hdq
  obtain ⟨d, rfl⟩ : ∃ d, dq = d + 8 + 1 := ⟨dq - 9, by omega⟩
  show hs sc sp 1857 11 (d + 8 + 1) _ 0 ls [] h
  refine hs_aload_n ci_1857_0 l0 ?_
  refine hs_iload_n ci_1857_1 l1 ?_
  refine hs_cv 1861 11 1 ci_1857_2 (by decide +kernel) (by decide +kernel) hp.1 rfl (by rw [ml_1861]; rfl) (c_fallSet hsc (by omega) (by omega) hp) ?_
  rintro v9 h2 ⟨hp2, f2, set, e8, -, -⟩
  rw [e8]
  clear e8 v9
  simp only [Option.toList, List.cons_append, List.nil_append]
  have hf : ab_fr ML h2 h := f2.mono (fun a k hk => by
    unfold ab_inr at hk ⊢
    cases q1 : (Nat.beq a 182 && Nat.ble 22 k && Nat.ble k 22) with
    | true => rw [q1] at hk; cases hk
    | false =>
      rw [q1] at hk
      simp only [cond_false] at hk ⊢
      unfold ab_inr at hk ⊢
      cases q2 : (Nat.beq a 189 && Nat.ble 0 k && Nat.ble k 9) with
      | false => rfl
      | true =>
        have d1 := Bool.and_eq_true_iff.mp q2
        have d2 := Bool.and_eq_true_iff.mp d1.1
        have d3 := Nat.eq_of_beq_eq_true d2.1
        subst d3
        simp only [show Nat.beq 189 184 = false from rfl, Bool.false_and, cond_false] at hk
        unfold ab_inr at hk
        simp only [show Nat.beq 189 184 = false from rfl, Bool.false_and, cond_false] at hk
        unfold ab_inr at hk
        rw [q2] at hk
        cases hk)
  replace hp := hp2
  refine hs_istore_n ci_1857_5 (by decide +kernel) ?_
  intro ls9 q9
  replace l0 := q9.2 0 _ (by decide) rfl l0
  replace l1 := q9.2 1 _ (by decide) rfl l1
  have l2 := q9.1
  clear q9
  refine hs_iconst ci_1857_6 ?_
  refine hs_istore_n ci_1857_7 (by decide +kernel) ?_
  intro ls9 q9
  replace l0 := q9.2 0 _ (by decide) rfl l0
  replace l1 := q9.2 1 _ (by decide) rfl l1
  replace l2 := q9.2 2 _ (by decide) rfl l2
  have l3 := q9.1
  clear q9
  refine hs.mono (fl_out (d := d + 5) 11 0 _ _ _ rfl rfl hp hf l0 l2 l3) ?_
  rintro pc' ls' st' h' ⟨rfl, rfl, hp', hf'⟩
  exact ⟨_, List.mem_cons_self, rfl, ν, en_void hr.1 hp', ab_ext.rf, hf'⟩)
