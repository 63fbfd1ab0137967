/-! BY HAND: a sentence, one ONE after the other -/
theorem c_isSign {sc : List Value} {sp d : Nat} {h : eg_H} (hsc : ab_osc sc) {x : Int32} (h1 : 40 ≤ x.toInt) (h2 : x.toInt ≤ 41) (hp : ab_hp h) : mc sc sp 1738 11 (d + 1) [.ref 182, .int x] h (mc_P [] h (some (0, 1))) := mc_q tr_isSign (iv := some (0, 1)) (by decide +kernel) hsc (show 1 ≤ d + 1 by omega) (ar_1 hp h1 h2)
theorem c_leafOf {sc : List Value} {sp d : Nat} {h : eg_H} (hsc : ab_osc sc) (hp : ab_hp h) : mc sc sp 2097 11 (d + 2) [.ref 182] h (mc_P [] h (some (-1, 9))) := mc_q tr_leafOf (iv := some (-1, 9)) (by decide +kernel) hsc (show 2 ≤ d + 2 by omega) (ar_0 hp)
theorem c_looks0 {sc : List Value} {sp d : Nat} {h : eg_H} (hsc : ab_osc sc) {x y : Int32} (hx : x.toInt = 0) (h1 : 0 ≤ y.toInt) (h2 : y.toInt ≤ 6) (hp : ab_hp h) : mc sc sp 1730 11 (d + 2) [.ref 182, .int x, .int y] h (mc_B [(182, 15, 16), (182, 18, 18)] h 182 18 0 5) := mc_qo tr_looks0 (by decide) (by decide +kernel) hsc (show 2 ≤ d + 2 by omega) (ar_2 hp (by rw [hx]; decide) (by rw [hx]; decide) h1 h2)
theorem gq_0 : gsl 184 0 = some (0, 6) := by decide +kernel
section SP
variable {h j1 j2 j3 : eg_H} {c t n w : Nat} {e : Int} {b y z : Int32}
theorem S5.pushA (s : S5 h c t n w e) (w1 : hw h j1 199 (0 + t) b) (w2 : hw j1 j2 182 47 y) (w3 : hw j2 j3 182 49 z) (hy : y.toInt = ((t + 1 : Nat) : Int)) (hz : z.toInt = ((0 : Nat) : Int)) : S5 j3 c (t + 1) n 0 (e - (if b.toInt = 21 ∨ b.toInt = 22 then 1 else 0)) := by
  have e0 : ∀ k, ¬ k = 47 → ¬ k = 49 → hv j3 182 k = hv h 182 k := fun k q1 q2 => by rw [w3.v, if_neg (fun q => q2 q.2), w2.v, if_neg (fun q => q1 q.2), w1.v, if_neg (fun q => absurd q.1 (by decide))]
  have e1 : ∀ a k, ¬ a = 182 → hv j3 a k = hv j1 a k := fun a k q => by rw [w3.v, if_neg (fun p => q p.1), w2.v, if_neg (fun p => q p.1)]
  exact s.push rfl (e0 45 (by decide) (by decide)) (by rw [w3.v, if_neg (fun q => absurd q.2 (by decide)), w2.v, if_pos ⟨rfl, rfl⟩]; exact hy) (e0 46 (by decide) (by decide)) (by rw [w3.v, if_pos ⟨rfl, rfl⟩]; exact hz) (fun j => by rw [e1 _ _ (by decide), w1.v, if_neg (fun q => absurd q.1 (by decide))]) (fun j hj => by rw [e1 _ _ (by decide), w1.v, if_neg (by omega)]) (by rw [e1 _ _ (by decide), w1.v, if_pos ⟨rfl, by omega⟩])
theorem S5.pushB (s : S5 h c t n w e) (w1 : hw h j1 199 (0 + t) b) (w2 : hw j1 j2 182 47 y) (w3 : hw j2 j3 182 48 z) (hy : y.toInt = ((t + 1 : Nat) : Int)) : S5 j3 c (t + 1) n w (e - (if b.toInt = 21 ∨ b.toInt = 22 then 1 else 0)) := by
  have e0 : ∀ k, ¬ k = 47 → ¬ k = 48 → hv j3 182 k = hv h 182 k := fun k q1 q2 => by rw [w3.v, if_neg (fun q => q2 q.2), w2.v, if_neg (fun q => q1 q.2), w1.v, if_neg (fun q => absurd q.1 (by decide))]
  have e1 : ∀ a k, ¬ a = 182 → hv j3 a k = hv j1 a k := fun a k q => by rw [w3.v, if_neg (fun p => q p.1), w2.v, if_neg (fun p => q p.1)]
  exact s.push rfl (e0 45 (by decide) (by decide)) (by rw [w3.v, if_neg (fun q => absurd q.2 (by decide)), w2.v, if_pos ⟨rfl, rfl⟩]; exact hy) (e0 46 (by decide) (by decide)) (by rw [e0 49 (by decide) (by decide)]; exact s.2.2.2.1) (fun j => by rw [e1 _ _ (by decide), w1.v, if_neg (fun q => absurd q.1 (by decide))]) (fun j hj => by rw [e1 _ _ (by decide), w1.v, if_neg (by omega)]) (by rw [e1 _ _ (by decide), w1.v, if_pos ⟨rfl, by omega⟩])
theorem S5.ones (s : S5 h c t n w e) (w1 : hw h j1 182 46 y) (hy : y.toInt = ((n + 1 : Nat) : Int)) : S5 j1 c t (n + 1) w e := by
  obtain ⟨s1, s2, s3, s4, s5, s6⟩ := s
  have e1 : ∀ a k, ¬ a = 182 → hv j1 a k = hv h a k := fun a k q => by rw [w1.v, if_neg (fun p => q p.1)]
  have e0 : ∀ k, ¬ k = 46 → hv j1 182 k = hv h 182 k := fun k q => by rw [w1.v, if_neg (fun p => q p.2)]
  have r1 : RD j1 = RD h := funext (fun i => by unfold RD; rw [e1 _ _ (by decide)])
  have r2 : SK j1 = SK h := funext (fun i => by unfold SK; rw [e1 _ _ (by decide)])
  unfold S5
  rw [e0 45 (by decide), e0 47 (by decide), e0 49 (by decide), r1, r2, w1.v, if_pos ⟨rfl, rfl⟩]
  exact ⟨s1, s2, hy, s4, s5, s6⟩
theorem S5.whole (s : S5 h c t n w e) (w1 : hw h j1 182 49 y) (hy : y.toInt = ((1 : Nat) : Int)) : S5 j1 c t n 1 e := by
  obtain ⟨s1, s2, s3, s4, s5, s6⟩ := s
  have e1 : ∀ a k, ¬ a = 182 → hv j1 a k = hv h a k := fun a k q => by rw [w1.v, if_neg (fun p => q p.1)]
  have e0 : ∀ k, ¬ k = 49 → hv j1 182 k = hv h 182 k := fun k q => by rw [w1.v, if_neg (fun p => q p.2)]
  have r1 : RD j1 = RD h := funext (fun i => by unfold RD; rw [e1 _ _ (by decide)])
  have r2 : SK j1 = SK h := funext (fun i => by unfold SK; rw [e1 _ _ (by decide)])
  unfold S5
  rw [e0 45 (by decide), e0 47 (by decide), e0 46 (by decide), r1, r2, w1.v, if_pos ⟨rfl, rfl⟩]
  exact ⟨s1, s2, s3, hy, s5, s6⟩
end SP

theorem SKIN {k : Nat} (hk : k ≤ 44) : ab_inr MSN 199 k k = true := by
  unfold MSN
  unfold ab_inr
  simp only [show Nat.beq 199 182 = false from rfl, Bool.false_and, cond_false]
  unfold ab_inr
  simp only [show Nat.beq 199 182 = false from rfl, Bool.false_and, cond_false]
  unfold ab_inr
  simp only [show Nat.beq 199 182 = false from rfl, Bool.false_and, cond_false]
  unfold ab_inr
  simp only [show Nat.beq 199 186 = false from rfl, Bool.false_and, cond_false]
  exact in1 (Nat.zero_le _) hk

theorem ml_1738 : (eg_md 1738).2.2.1 = 2 := by decide +kernel
theorem rt_1738 : (eg_md 1738).2.2.2 = some .boolean := by decide +kernel
theorem ml_2089 : (eg_md 2089).2.2.1 = 1 := by decide +kernel
theorem rt_2089 : (eg_md 2089).2.2.2 = some .boolean := by decide +kernel
theorem ml_2093 : (eg_md 2093).2.2.1 = 5 := by decide +kernel
theorem rt_2093 : (eg_md 2093).2.2.2 = some .boolean := by decide +kernel
theorem ci_2089_0 : ab_at 2089 0 (.aload_n 0) 1 = true := by decide +kernel
theorem ci_2089_1 : ab_at 2089 1 (.invokevirtual 468) 3 = true := by decide +kernel
theorem ci_2089_4 : ab_at 2089 4 (.aload_n 0) 1 = true := by decide +kernel
theorem ci_2089_5 : ab_at 2089 5 (.ldc2_w 123) 3 = true := by decide +kernel
theorem ci_2089_8 : ab_at 2089 8 (.invokevirtual 224) 3 = true := by decide +kernel
theorem ci_2089_11 : ab_at 2089 11 (.ifCond .ne 13) 3 = true := by decide +kernel
theorem ci_2089_14 : ab_at 2089 14 (.aload_n 0) 1 = true := by decide +kernel
theorem ci_2089_15 : ab_at 2089 15 (.ldc2_w 121) 3 = true := by decide +kernel
theorem ci_2089_18 : ab_at 2089 18 (.invokevirtual 224) 3 = true := by decide +kernel
theorem ci_2089_21 : ab_at 2089 21 (.ifCond .eq 71) 3 = true := by decide +kernel
theorem ci_2089_24 : ab_at 2089 24 (.aload_n 0) 1 = true := by decide +kernel
theorem ci_2089_25 : ab_at 2089 25 (.aload_n 0) 1 = true := by decide +kernel
theorem ci_2089_26 : ab_at 2089 26 (.ldc2_w 123) 3 = true := by decide +kernel
theorem ci_2089_29 : ab_at 2089 29 (.invokevirtual 224) 3 = true := by decide +kernel
theorem ci_2089_32 : ab_at 2089 32 (.ifCond .eq 8) 3 = true := by decide +kernel
theorem ci_2089_35 : ab_at 2089 35 (.bipush 21) 2 = true := by decide +kernel
theorem ci_2089_37 : ab_at 2089 37 (.goto 5) 3 = true := by decide +kernel
theorem ci_2089_40 : ab_at 2089 40 (.bipush 22) 2 = true := by decide +kernel
theorem ci_2089_42 : ab_at 2089 42 (.invokevirtual 471) 3 = true := by decide +kernel
theorem ci_2089_45 : ab_at 2089 45 (.aload_n 0) 1 = true := by decide +kernel
theorem ci_2089_46 : ab_at 2089 46 (.getfield 83) 3 = true := by decide +kernel
theorem ci_2089_49 : ab_at 2089 49 (.aload_n 0) 1 = true := by decide +kernel
theorem ci_2089_50 : ab_at 2089 50 (.getfield 449) 3 = true := by decide +kernel
theorem ci_2089_53 : ab_at 2089 53 (.aload_n 0) 1 = true := by decide +kernel
theorem ci_2089_54 : ab_at 2089 54 (.ldc2_w 123) 3 = true := by decide +kernel
theorem ci_2089_57 : ab_at 2089 57 (.invokevirtual 224) 3 = true := by decide +kernel
theorem ci_2089_60 : ab_at 2089 60 (.ifCond .eq 8) 3 = true := by decide +kernel
theorem ci_2089_63 : ab_at 2089 63 (.bipush 21) 2 = true := by decide +kernel
theorem ci_2089_65 : ab_at 2089 65 (.goto 5) 3 = true := by decide +kernel
theorem ci_2089_68 : ab_at 2089 68 (.bipush 22) 2 = true := by decide +kernel
theorem ci_2089_70 : ab_at 2089 70 (.iastore) 1 = true := by decide +kernel
theorem ci_2089_71 : ab_at 2089 71 (.aload_n 0) 1 = true := by decide +kernel
theorem ci_2089_72 : ab_at 2089 72 (.dup) 1 = true := by decide +kernel
theorem ci_2089_73 : ab_at 2089 73 (.getfield 449) 3 = true := by decide +kernel
theorem ci_2089_76 : ab_at 2089 76 (.iconst 1) 1 = true := by decide +kernel
theorem ci_2089_77 : ab_at 2089 77 (.iadd) 1 = true := by decide +kernel
theorem ci_2089_78 : ab_at 2089 78 (.putfield 449) 3 = true := by decide +kernel
theorem ci_2089_81 : ab_at 2089 81 (.aload_n 0) 1 = true := by decide +kernel
theorem ci_2089_82 : ab_at 2089 82 (.iconst 0) 1 = true := by decide +kernel
theorem ci_2089_83 : ab_at 2089 83 (.putfield 465) 3 = true := by decide +kernel
theorem ci_2089_86 : ab_at 2089 86 (.aload_n 0) 1 = true := by decide +kernel
theorem ci_2089_87 : ab_at 2089 87 (.invokevirtual 187) 3 = true := by decide +kernel
theorem ci_2089_90 : ab_at 2089 90 (.iconst 1) 1 = true := by decide +kernel
theorem ci_2089_92 : ab_at 2089 92 (.aload_n 0) 1 = true := by decide +kernel
theorem ci_2089_93 : ab_at 2089 93 (.bipush 22) 2 = true := by decide +kernel
theorem ci_2089_95 : ab_at 2089 95 (.invokevirtual 471) 3 = true := by decide +kernel
theorem ci_2089_98 : ab_at 2089 98 (.aload_n 0) 1 = true := by decide +kernel
theorem ci_2089_99 : ab_at 2089 99 (.bipush 41) 2 = true := by decide +kernel
theorem ci_2089_101 : ab_at 2089 101 (.invokevirtual 181) 3 = true := by decide +kernel
theorem ci_2089_104 : ab_at 2089 104 (.ifCond .eq 10) 3 = true := by decide +kernel
theorem ci_2089_107 : ab_at 2089 107 (.aload_n 0) 1 = true := by decide +kernel
theorem ci_2089_108 : ab_at 2089 108 (.getfield 449) 3 = true := by decide +kernel
theorem ci_2089_111 : ab_at 2089 111 (.ifCond .ne 9) 3 = true := by decide +kernel
theorem ci_2089_114 : ab_at 2089 114 (.aload_n 0) 1 = true := by decide +kernel
theorem ci_2089_115 : ab_at 2089 115 (.iconst 1) 1 = true := by decide +kernel
theorem ci_2089_116 : ab_at 2089 116 (.invokevirtual 184) 3 = true := by decide +kernel
theorem ci_2089_120 : ab_at 2089 120 (.aload_n 0) 1 = true := by decide +kernel
theorem ci_2089_121 : ab_at 2089 121 (.dup) 1 = true := by decide +kernel
theorem ci_2089_122 : ab_at 2089 122 (.getfield 449) 3 = true := by decide +kernel
theorem ci_2089_125 : ab_at 2089 125 (.iconst 1) 1 = true := by decide +kernel
theorem ci_2089_126 : ab_at 2089 126 (.isub) 1 = true := by decide +kernel
theorem ci_2089_127 : ab_at 2089 127 (.putfield 449) 3 = true := by decide +kernel
theorem ci_2089_130 : ab_at 2089 130 (.aload_n 0) 1 = true := by decide +kernel
theorem ci_2089_131 : ab_at 2089 131 (.dup) 1 = true := by decide +kernel
theorem ci_2089_132 : ab_at 2089 132 (.getfield 456) 3 = true := by decide +kernel
theorem ci_2089_135 : ab_at 2089 135 (.iconst 1) 1 = true := by decide +kernel
theorem ci_2089_136 : ab_at 2089 136 (.isub) 1 = true := by decide +kernel
theorem ci_2089_137 : ab_at 2089 137 (.putfield 456) 3 = true := by decide +kernel
theorem ci_2089_140 : ab_at 2089 140 (.aload_n 0) 1 = true := by decide +kernel
theorem ci_2089_141 : ab_at 2089 141 (.invokevirtual 187) 3 = true := by decide +kernel
theorem ci_2089_144 : ab_at 2089 144 (.iconst 1) 1 = true := by decide +kernel
theorem bh_24 {sc : List Value} {sp d : Nat} (hsc : ab_osc sc) {h c0 : eg_H} {c t n tt : Nat} (hn : n ≤ 20) (hct : c + t + 1 ≤ 2 * n) (htt : t ≤ tt) (s5 : S5 c0 c t n 1 1) (hp : ab_hp c0) (hf : ab_fr MSN c0 h) {ls : eg_L} (l0 : eg_find 0 ls = some (.ref 182)) : hs sc sp 2089 11 (d + 4) (fun pc' _ st' h' => ∃ ik vo, ab_ret 2089 pc' = some ik ∧ eg_rv (eg_md 2089).2.2.2 ik st' = some vo ∧ ab_hp h' ∧ ab_fr MSN h' h ∧ ∃ r : Int32, vo = some (.int r) ∧ (r.toInt = 0 ∨ (r.toInt = 1 ∧ ∃ c' t' w' : Nat, S5 h' c' t' n w' (w' : Int) ∧ c' + t' + w' ≤ 2 * n ∧ (w' = 0 ∨ (w' = 1 ∧ t' < tt))))) 24 ls [] c0 := by
  refine hs_aload_n ci_2089_24 l0 ?_
  refine hs_aload_n ci_2089_25 l0 ?_
  refine hs_ldc2 ci_2089_26 (by decide +kernel) (fun v9 => ?_)
  refine hs_cv 1676 11 1 ci_2089_29 (by decide +kernel) (by decide +kernel) hp.1 rfl (by rw [ml_1676]; rfl) (c_isWord (d := d + 2) hsc _ hp) ?_
  rintro v9 k1 ⟨hp2, f2, r29, e8, r29a, r29b⟩
  rw [e8]
  clear e8 v9
  simp only [Option.toList, List.cons_append, List.nil_append]
  replace s5 := s5.same (h' := k1) (hv_fr f2 (by rfl)) (hv_fr f2 (by rfl)) (hv_fr f2 (by rfl)) (hv_fr f2 (by rfl)) (fun j => hv_fr f2 (by rfl)) (fun j => hv_fr f2 (by rfl))
  replace hf := (fr_sub (M := MSN) (by decide +kernel) f2).tr hf
  replace hp := hp2
  clear hp2
  refine hs_if (t := 40) ci_2089_32 rfl (fun b32 => ?_) (fun b32 => ?_)
  · simp only [hs_cd, ab_not] at b32
    refine hs_bipush ci_2089_40 ?_
    refine hs_cv 2085 11 1 ci_2089_42 (by decide +kernel) (by decide +kernel) hp.1 rfl (by rw [ml_2085]; rfl) (c_joins (d := d + 2) _ (by omega) s5 hp) ?_
    rintro v9 k2 ⟨hp2, f2, ⟨c2, t2, hct2, htt2, s6, hj⟩, e8⟩
    rw [e8]
    clear e8 v9
    simp only [Option.toList, List.cons_append, List.nil_append]
    clear s5
    have s5 := s6
    clear s6
    obtain ⟨hct, htt⟩ : c2 + t2 + 1 ≤ 2 * n ∧ t2 ≤ tt := ⟨by omega, by omega⟩
    clear hct2 htt2
    replace hf := (fr_sub (M := MSN) (by decide +kernel) f2).tr hf
    replace hp := hp2
    clear hp2
    refine hs_aload_n ci_2089_45 l0 ?_
    refine hs_gfr 44 199 ci_2089_46 (by decide +kernel) hp.1 ?_
    refine hs_aload_n ci_2089_49 l0 ?_
    refine hs_gfi 47 ci_2089_50 (by decide +kernel) hp.1 ?_
    have etop := s5.2.1
    refine hs_aload_n ci_2089_53 l0 ?_
    refine hs_ldc2 ci_2089_54 (by decide +kernel) (fun v9 => ?_)
    refine hs_cv 1676 11 1 ci_2089_57 (by decide +kernel) (by decide +kernel) hp.1 rfl (by rw [ml_1676]; rfl) (c_isWord (d := d + 2) hsc _ hp) ?_
    rintro v9 k3 ⟨hp2, f2, r57, e8, r57a, r57b⟩
    rw [e8]
    clear e8 v9
    simp only [Option.toList, List.cons_append, List.nil_append]
    replace s5 := s5.same (h' := k3) (hv_fr f2 (by rfl)) (hv_fr f2 (by rfl)) (hv_fr f2 (by rfl)) (hv_fr f2 (by rfl)) (fun j => hv_fr f2 (by rfl)) (fun j => hv_fr f2 (by rfl))
    replace hf := (fr_sub (M := MSN) (by decide +kernel) f2).tr hf
    replace hp := hp2
    clear hp2
    refine hs_if (t := 68) ci_2089_60 rfl (fun b60 => ?_) (fun b60 => ?_)
    · simp only [hs_cd, ab_not] at b60
      refine hs_bipush ci_2089_68 ?_
      refine hs_ias1 (0 + t2) ci_2089_70 (etop.trans (by omega)) (ckq_v gq_sk t2 (by omega)) hp.1 (ab_ige _) (ab_ile _) ?_
      intro j1 w1
      replace hf := (w1.fr (M := MSN) (by unfold ab_inr; exact SKIN (by omega))).tr hf
      replace hp : ab_hp j1 := ⟨w1.1, hp.2.set (by unfold ab_pr; rfl) w1.2⟩
      have ejt : hv j1 182 47 = hv k3 182 47 := by rw [w1.v, if_neg (fun q => absurd q.1 (by decide))]
      refine hs_aload_n ci_2089_71 l0 ?_
      refine hs_dup ci_2089_72 rfl ?_
      refine hs_gfi 47 ci_2089_73 (by decide +kernel) hp.1 ?_
      refine hs_iconst ci_2089_76 ?_
      refine hs_iadd ci_2089_77 ?_
      have e5 : (hv j1 182 47 + Int32.ofInt 1).toInt = ((t2 + 1 : Nat) : Int) := by rw [ejt]; exact (i32_add s5.2.1 (b := 1) rfl (by omega) (by omega)).trans (by omega)
      refine hs_pfi 47 0 45 ci_2089_78 (by decide +kernel) hp.1 (by rw [e5]; omega) (by rw [e5]; omega) ?_
      intro j2 w2
      replace hf := (w2.fr (M := MSN) rfl).tr hf
      replace hp : ab_hp j2 := ⟨w2.1, hp.2.set (by unfold ab_pr; rfl) w2.2⟩
      refine hs_aload_n ci_2089_81 l0 ?_
      refine hs_iconst ci_2089_82 ?_
      refine hs_pfi 49 (0) (1) ci_2089_83 (by decide +kernel) hp.1 (by decide) (by decide) ?_
      intro j3 w3
      replace hf := (w3.fr (M := MSN) rfl).tr hf
      replace hp : ab_hp j3 := ⟨w3.1, hp.2.set (by unfold ab_pr; rfl) w3.2⟩
      replace s5 := s5.pushA w1 w2 w3 e5 rfl
      refine hs_aload_n ci_2089_86 l0 ?_
      refine hs_cv 1658 11 0 ci_2089_87 (by decide +kernel) (by decide +kernel) hp.1 rfl (by rw [ml_1658]; rfl) (c_next (d := d + 1) hsc hp) ?_
      rintro v9 k4 ⟨hp2, f2, e8⟩
      rw [e8]
      clear e8 v9
      simp only [Option.toList, List.cons_append, List.nil_append]
      replace s5 := s5.same (h' := k4) (hv_fr f2 (by rfl)) (hv_fr f2 (by rfl)) (hv_fr f2 (by rfl)) (hv_fr f2 (by rfl)) (fun j => hv_fr f2 (by rfl)) (fun j => hv_fr f2 (by rfl))
      replace hf := (fr_sub (M := MSN) (by decide +kernel) f2).tr hf
      replace hp := hp2
      clear hp2
      refine hs_iconst ci_2089_90 ?_
      exact hs_k ⟨3, some (.int _), by decide +kernel, by rw [rt_2089]; rfl, hp, hf, _, rfl, Or.inr ⟨rfl, c2, t2 + 1, 0, s5, by omega, Or.inl rfl⟩⟩
    · simp only [hs_cd, ab_not] at b60
      refine hs_bipush ci_2089_63 ?_
      refine hs_goto (t := 70) ci_2089_65 rfl ?_
      refine hs_ias1 (0 + t2) ci_2089_70 (etop.trans (by omega)) (ckq_v gq_sk t2 (by omega)) hp.1 (ab_ige _) (ab_ile _) ?_
      intro j1 w1
      replace hf := (w1.fr (M := MSN) (by unfold ab_inr; exact SKIN (by omega))).tr hf
      replace hp : ab_hp j1 := ⟨w1.1, hp.2.set (by unfold ab_pr; rfl) w1.2⟩
      have ejt : hv j1 182 47 = hv k3 182 47 := by rw [w1.v, if_neg (fun q => absurd q.1 (by decide))]
      refine hs_aload_n ci_2089_71 l0 ?_
      refine hs_dup ci_2089_72 rfl ?_
      refine hs_gfi 47 ci_2089_73 (by decide +kernel) hp.1 ?_
      refine hs_iconst ci_2089_76 ?_
      refine hs_iadd ci_2089_77 ?_
      have e5 : (hv j1 182 47 + Int32.ofInt 1).toInt = ((t2 + 1 : Nat) : Int) := by rw [ejt]; exact (i32_add s5.2.1 (b := 1) rfl (by omega) (by omega)).trans (by omega)
      refine hs_pfi 47 0 45 ci_2089_78 (by decide +kernel) hp.1 (by rw [e5]; omega) (by rw [e5]; omega) ?_
      intro j2 w2
      replace hf := (w2.fr (M := MSN) rfl).tr hf
      replace hp : ab_hp j2 := ⟨w2.1, hp.2.set (by unfold ab_pr; rfl) w2.2⟩
      refine hs_aload_n ci_2089_81 l0 ?_
      refine hs_iconst ci_2089_82 ?_
      refine hs_pfi 49 (0) (1) ci_2089_83 (by decide +kernel) hp.1 (by decide) (by decide) ?_
      intro j3 w3
      replace hf := (w3.fr (M := MSN) rfl).tr hf
      replace hp : ab_hp j3 := ⟨w3.1, hp.2.set (by unfold ab_pr; rfl) w3.2⟩
      replace s5 := s5.pushA w1 w2 w3 e5 rfl
      refine hs_aload_n ci_2089_86 l0 ?_
      refine hs_cv 1658 11 0 ci_2089_87 (by decide +kernel) (by decide +kernel) hp.1 rfl (by rw [ml_1658]; rfl) (c_next (d := d + 1) hsc hp) ?_
      rintro v9 k4 ⟨hp2, f2, e8⟩
      rw [e8]
      clear e8 v9
      simp only [Option.toList, List.cons_append, List.nil_append]
      replace s5 := s5.same (h' := k4) (hv_fr f2 (by rfl)) (hv_fr f2 (by rfl)) (hv_fr f2 (by rfl)) (hv_fr f2 (by rfl)) (fun j => hv_fr f2 (by rfl)) (fun j => hv_fr f2 (by rfl))
      replace hf := (fr_sub (M := MSN) (by decide +kernel) f2).tr hf
      replace hp := hp2
      clear hp2
      refine hs_iconst ci_2089_90 ?_
      exact hs_k ⟨3, some (.int _), by decide +kernel, by rw [rt_2089]; rfl, hp, hf, _, rfl, Or.inr ⟨rfl, c2, t2 + 1, 0, s5, by omega, Or.inl rfl⟩⟩
  · simp only [hs_cd, ab_not] at b32
    refine hs_bipush ci_2089_35 ?_
    refine hs_goto (t := 42) ci_2089_37 rfl ?_
    refine hs_cv 2085 11 1 ci_2089_42 (by decide +kernel) (by decide +kernel) hp.1 rfl (by rw [ml_2085]; rfl) (c_joins (d := d + 2) _ (by omega) s5 hp) ?_
    rintro v9 k2 ⟨hp2, f2, ⟨c2, t2, hct2, htt2, s6, hj⟩, e8⟩
    rw [e8]
    clear e8 v9
    simp only [Option.toList, List.cons_append, List.nil_append]
    clear s5
    have s5 := s6
    clear s6
    obtain ⟨hct, htt⟩ : c2 + t2 + 1 ≤ 2 * n ∧ t2 ≤ tt := ⟨by omega, by omega⟩
    clear hct2 htt2
    replace hf := (fr_sub (M := MSN) (by decide +kernel) f2).tr hf
    replace hp := hp2
    clear hp2
    refine hs_aload_n ci_2089_45 l0 ?_
    refine hs_gfr 44 199 ci_2089_46 (by decide +kernel) hp.1 ?_
    refine hs_aload_n ci_2089_49 l0 ?_
    refine hs_gfi 47 ci_2089_50 (by decide +kernel) hp.1 ?_
    have etop := s5.2.1
    refine hs_aload_n ci_2089_53 l0 ?_
    refine hs_ldc2 ci_2089_54 (by decide +kernel) (fun v9 => ?_)
    refine hs_cv 1676 11 1 ci_2089_57 (by decide +kernel) (by decide +kernel) hp.1 rfl (by rw [ml_1676]; rfl) (c_isWord (d := d + 2) hsc _ hp) ?_
    rintro v9 k3 ⟨hp2, f2, r57, e8, r57a, r57b⟩
    rw [e8]
    clear e8 v9
    simp only [Option.toList, List.cons_append, List.nil_append]
    replace s5 := s5.same (h' := k3) (hv_fr f2 (by rfl)) (hv_fr f2 (by rfl)) (hv_fr f2 (by rfl)) (hv_fr f2 (by rfl)) (fun j => hv_fr f2 (by rfl)) (fun j => hv_fr f2 (by rfl))
    replace hf := (fr_sub (M := MSN) (by decide +kernel) f2).tr hf
    replace hp := hp2
    clear hp2
    refine hs_if (t := 68) ci_2089_60 rfl (fun b60 => ?_) (fun b60 => ?_)
    · simp only [hs_cd, ab_not] at b60
      refine hs_bipush ci_2089_68 ?_
      refine hs_ias1 (0 + t2) ci_2089_70 (etop.trans (by omega)) (ckq_v gq_sk t2 (by omega)) hp.1 (ab_ige _) (ab_ile _) ?_
      intro j1 w1
      replace hf := (w1.fr (M := MSN) (by unfold ab_inr; exact SKIN (by omega))).tr hf
      replace hp : ab_hp j1 := ⟨w1.1, hp.2.set (by unfold ab_pr; rfl) w1.2⟩
      have ejt : hv j1 182 47 = hv k3 182 47 := by rw [w1.v, if_neg (fun q => absurd q.1 (by decide))]
      refine hs_aload_n ci_2089_71 l0 ?_
      refine hs_dup ci_2089_72 rfl ?_
      refine hs_gfi 47 ci_2089_73 (by decide +kernel) hp.1 ?_
      refine hs_iconst ci_2089_76 ?_
      refine hs_iadd ci_2089_77 ?_
      have e5 : (hv j1 182 47 + Int32.ofInt 1).toInt = ((t2 + 1 : Nat) : Int) := by rw [ejt]; exact (i32_add s5.2.1 (b := 1) rfl (by omega) (by omega)).trans (by omega)
      refine hs_pfi 47 0 45 ci_2089_78 (by decide +kernel) hp.1 (by rw [e5]; omega) (by rw [e5]; omega) ?_
      intro j2 w2
      replace hf := (w2.fr (M := MSN) rfl).tr hf
      replace hp : ab_hp j2 := ⟨w2.1, hp.2.set (by unfold ab_pr; rfl) w2.2⟩
      refine hs_aload_n ci_2089_81 l0 ?_
      refine hs_iconst ci_2089_82 ?_
      refine hs_pfi 49 (0) (1) ci_2089_83 (by decide +kernel) hp.1 (by decide) (by decide) ?_
      intro j3 w3
      replace hf := (w3.fr (M := MSN) rfl).tr hf
      replace hp : ab_hp j3 := ⟨w3.1, hp.2.set (by unfold ab_pr; rfl) w3.2⟩
      replace s5 := s5.pushA w1 w2 w3 e5 rfl
      refine hs_aload_n ci_2089_86 l0 ?_
      refine hs_cv 1658 11 0 ci_2089_87 (by decide +kernel) (by decide +kernel) hp.1 rfl (by rw [ml_1658]; rfl) (c_next (d := d + 1) hsc hp) ?_
      rintro v9 k4 ⟨hp2, f2, e8⟩
      rw [e8]
      clear e8 v9
      simp only [Option.toList, List.cons_append, List.nil_append]
      replace s5 := s5.same (h' := k4) (hv_fr f2 (by rfl)) (hv_fr f2 (by rfl)) (hv_fr f2 (by rfl)) (hv_fr f2 (by rfl)) (fun j => hv_fr f2 (by rfl)) (fun j => hv_fr f2 (by rfl))
      replace hf := (fr_sub (M := MSN) (by decide +kernel) f2).tr hf
      replace hp := hp2
      clear hp2
      refine hs_iconst ci_2089_90 ?_
      exact hs_k ⟨3, some (.int _), by decide +kernel, by rw [rt_2089]; rfl, hp, hf, _, rfl, Or.inr ⟨rfl, c2, t2 + 1, 0, s5, by omega, Or.inl rfl⟩⟩
    · simp only [hs_cd, ab_not] at b60
      refine hs_bipush ci_2089_63 ?_
      refine hs_goto (t := 70) ci_2089_65 rfl ?_
      refine hs_ias1 (0 + t2) ci_2089_70 (etop.trans (by omega)) (ckq_v gq_sk t2 (by omega)) hp.1 (ab_ige _) (ab_ile _) ?_
      intro j1 w1
      replace hf := (w1.fr (M := MSN) (by unfold ab_inr; exact SKIN (by omega))).tr hf
      replace hp : ab_hp j1 := ⟨w1.1, hp.2.set (by unfold ab_pr; rfl) w1.2⟩
      have ejt : hv j1 182 47 = hv k3 182 47 := by rw [w1.v, if_neg (fun q => absurd q.1 (by decide))]
      refine hs_aload_n ci_2089_71 l0 ?_
      refine hs_dup ci_2089_72 rfl ?_
      refine hs_gfi 47 ci_2089_73 (by decide +kernel) hp.1 ?_
      refine hs_iconst ci_2089_76 ?_
      refine hs_iadd ci_2089_77 ?_
      have e5 : (hv j1 182 47 + Int32.ofInt 1).toInt = ((t2 + 1 : Nat) : Int) := by rw [ejt]; exact (i32_add s5.2.1 (b := 1) rfl (by omega) (by omega)).trans (by omega)
      refine hs_pfi 47 0 45 ci_2089_78 (by decide +kernel) hp.1 (by rw [e5]; omega) (by rw [e5]; omega) ?_
      intro j2 w2
      replace hf := (w2.fr (M := MSN) rfl).tr hf
      replace hp : ab_hp j2 := ⟨w2.1, hp.2.set (by unfold ab_pr; rfl) w2.2⟩
      refine hs_aload_n ci_2089_81 l0 ?_
      refine hs_iconst ci_2089_82 ?_
      refine hs_pfi 49 (0) (1) ci_2089_83 (by decide +kernel) hp.1 (by decide) (by decide) ?_
      intro j3 w3
      replace hf := (w3.fr (M := MSN) rfl).tr hf
      replace hp : ab_hp j3 := ⟨w3.1, hp.2.set (by unfold ab_pr; rfl) w3.2⟩
      replace s5 := s5.pushA w1 w2 w3 e5 rfl
      refine hs_aload_n ci_2089_86 l0 ?_
      refine hs_cv 1658 11 0 ci_2089_87 (by decide +kernel) (by decide +kernel) hp.1 rfl (by rw [ml_1658]; rfl) (c_next (d := d + 1) hsc hp) ?_
      rintro v9 k4 ⟨hp2, f2, e8⟩
      rw [e8]
      clear e8 v9
      simp only [Option.toList, List.cons_append, List.nil_append]
      replace s5 := s5.same (h' := k4) (hv_fr f2 (by rfl)) (hv_fr f2 (by rfl)) (hv_fr f2 (by rfl)) (hv_fr f2 (by rfl)) (fun j => hv_fr f2 (by rfl)) (fun j => hv_fr f2 (by rfl))
      replace hf := (fr_sub (M := MSN) (by decide +kernel) f2).tr hf
      replace hp := hp2
      clear hp2
      refine hs_iconst ci_2089_90 ?_
      exact hs_k ⟨3, some (.int _), by decide +kernel, by rw [rt_2089]; rfl, hp, hf, _, rfl, Or.inr ⟨rfl, c2, t2 + 1, 0, s5, by omega, Or.inl rfl⟩⟩
theorem bh_92 {sc : List Value} {sp d : Nat} (hsc : ab_osc sc) {h c0 : eg_H} {c t n tt : Nat} (hn : n ≤ 20) (hct : c + t + 1 ≤ 2 * n) (htt : t ≤ tt) (s5 : S5 c0 c t n 1 1) (hp : ab_hp c0) (hf : ab_fr MSN c0 h) {ls : eg_L} (l0 : eg_find 0 ls = some (.ref 182)) : hs sc sp 2089 11 (d + 4) (fun pc' _ st' h' => ∃ ik vo, ab_ret 2089 pc' = some ik ∧ eg_rv (eg_md 2089).2.2.2 ik st' = some vo ∧ ab_hp h' ∧ ab_fr MSN h' h ∧ ∃ r : Int32, vo = some (.int r) ∧ (r.toInt = 0 ∨ (r.toInt = 1 ∧ ∃ c' t' w' : Nat, S5 h' c' t' n w' (w' : Int) ∧ c' + t' + w' ≤ 2 * n ∧ (w' = 0 ∨ (w' = 1 ∧ t' < tt))))) 92 ls [] c0 := by
  refine hs_aload_n ci_2089_92 l0 ?_
  refine hs_bipush ci_2089_93 ?_
  refine hs_cv 2085 11 1 ci_2089_95 (by decide +kernel) (by decide +kernel) hp.1 rfl (by rw [ml_2085]; rfl) (c_joins (d := d + 2) _ (by omega) s5 hp) ?_
  rintro v9 k5 ⟨hp2, f2, ⟨c2, t2, hct2, htt2, s6, hj⟩, e8⟩
  rw [e8]
  clear e8 v9
  simp only [Option.toList, List.cons_append, List.nil_append]
  clear s5
  have s5 := s6
  clear s6
  obtain ⟨hct, htt⟩ : c2 + t2 + 1 ≤ 2 * n ∧ t2 ≤ tt := ⟨by omega, by omega⟩
  clear hct2 htt2
  replace hf := (fr_sub (M := MSN) (by decide +kernel) f2).tr hf
  replace hp := hp2
  clear hp2
  refine hs_aload_n ci_2089_98 l0 ?_
  refine hs_bipush ci_2089_99 ?_
  refine hs_cv 1738 11 1 ci_2089_101 (by decide +kernel) (by decide +kernel) hp.1 rfl (by rw [ml_1738]; rfl) (c_isSign (d := d + 2) hsc (by decide) (by decide) hp) ?_
  rintro v9 k6 ⟨hp2, f2, r101, e8, r101a, r101b⟩
  rw [e8]
  clear e8 v9
  simp only [Option.toList, List.cons_append, List.nil_append]
  replace s5 := s5.same (h' := k6) (hv_fr f2 (by rfl)) (hv_fr f2 (by rfl)) (hv_fr f2 (by rfl)) (hv_fr f2 (by rfl)) (fun j => hv_fr f2 (by rfl)) (fun j => hv_fr f2 (by rfl))
  have hj2 : t2 = 0 ∨ ∃ t1, t2 = t1 + 1 ∧ ¬ (SK k6 t1 = 21 ∨ SK k6 t1 = 22) := by
    have esk : SK k6 = SK k5 := funext (fun i => by unfold SK; rw [hv_fr f2 (by rfl)])
    rw [esk]; exact hj rfl
  replace hf := (fr_sub (M := MSN) (by decide +kernel) f2).tr hf
  replace hp := hp2
  clear hp2
  refine hs_if (t := 114) ci_2089_104 rfl (fun b104 => ?_) (fun b104 => ?_)
  · simp only [hs_cd, ab_not] at b104
    refine hs_aload_n ci_2089_114 l0 ?_
    refine hs_iconst ci_2089_115 ?_
    refine hs_cv 1687 11 1 ci_2089_116 (by decide +kernel) (by decide +kernel) hp.1 rfl (by rw [ml_1687]; rfl) (c_bad (d := d + 2) hsc (by decide) (by decide) hp) ?_
    rintro v9 k7 ⟨hp2, f2, r116, e8, r116a, r116b⟩
    rw [e8]
    clear e8 v9
    simp only [Option.toList, List.cons_append, List.nil_append]
    replace s5 := s5.same (h' := k7) (hv_fr f2 (by rfl)) (hv_fr f2 (by rfl)) (hv_fr f2 (by rfl)) (hv_fr f2 (by rfl)) (fun j => hv_fr f2 (by rfl)) (fun j => hv_fr f2 (by rfl))
    replace hf := (fr_sub (M := MSN) (by decide +kernel) f2).tr hf
    replace hp := hp2
    clear hp2
    obtain rfl : r116 = 0 := Int32.toInt_inj.mp (by show r116.toInt = 0; omega)
    exact hs_k ⟨3, some (.int 0), by decide +kernel, by rw [rt_2089]; rfl, hp, hf, 0, rfl, Or.inl rfl⟩
  · simp only [hs_cd, ab_not] at b104
    refine hs_aload_n ci_2089_107 l0 ?_
    refine hs_gfi 47 ci_2089_108 (by decide +kernel) hp.1 ?_
    refine hs_if (t := 120) ci_2089_111 rfl (fun b111 => ?_) (fun b111 => ?_)
    · simp only [hs_cd, ab_not] at b111
      refine hs_aload_n ci_2089_120 l0 ?_
      refine hs_dup ci_2089_121 rfl ?_
      refine hs_gfi 47 ci_2089_122 (by decide +kernel) hp.1 ?_
      refine hs_iconst ci_2089_125 ?_
      refine hs_isub ci_2089_126 ?_
      obtain ⟨t3, ht3, hns⟩ : ∃ t1, t2 = t1 + 1 ∧ ¬ (SK k6 t1 = 21 ∨ SK k6 t1 = 22) := by
        rcases hj2 with q | q
        · have := s5.2.1; omega
        · exact q
      subst ht3
      have e5 : (hv k6 182 47 - Int32.ofInt 1).toInt = (t3 : Int) := (i32_sub s5.2.1 (b := 1) rfl (by omega) (by omega)).trans (by omega)
      refine hs_pfi 47 0 45 ci_2089_127 (by decide +kernel) hp.1 (by rw [e5]; omega) (by rw [e5]; omega) ?_
      intro j1 w9
      replace hf := (w9.fr (M := MSN) rfl).tr hf
      replace hp : ab_hp j1 := ⟨w9.1, hp.2.set (by unfold ab_pr; rfl) w9.2⟩
      have s6 := s5.pop (h' := j1) (by rw [w9.v, if_neg (fun e => absurd e.2 (by decide))]) (by rw [w9.v, if_pos ⟨rfl, rfl⟩]; exact e5) (by rw [w9.v, if_neg (fun e => absurd e.2 (by decide))]) (by rw [w9.v, if_neg (fun e => absurd e.2 (by decide))]) (fun j => by rw [w9.v, if_neg (fun e => absurd e.1 (by decide))]) (fun j => by rw [w9.v, if_neg (fun e => absurd e.1 (by decide))])
      rw [if_neg hns] at s6
      clear w9
      refine hs_aload_n ci_2089_130 l0 ?_
      refine hs_dup ci_2089_131 rfl ?_
      refine hs_gfi 48 ci_2089_132 (by decide +kernel) hp.1 ?_
      refine hs_iconst ci_2089_135 ?_
      refine hs_isub ci_2089_136 ?_
      refine hs_pfi 48 (-2147483648) (2147483647) ci_2089_137 (by decide +kernel) hp.1 (ab_ige _) (ab_ile _) ?_
      intro j2 w2
      replace hf := (w2.fr (M := MSN) rfl).tr hf
      replace hp : ab_hp j2 := ⟨w2.1, hp.2.set (by unfold ab_pr; rfl) w2.2⟩
      clear s5
      have s5 := s6.same (h' := j2) (by rw [w2.v, if_neg (fun e => absurd e.2 (by decide))]) (by rw [w2.v, if_neg (fun e => absurd e.2 (by decide))]) (by rw [w2.v, if_neg (fun e => absurd e.2 (by decide))]) (by rw [w2.v, if_neg (fun e => absurd e.2 (by decide))]) (fun j => by rw [w2.v, if_neg (fun e => absurd e.1 (by decide))]) (fun j => by rw [w2.v, if_neg (fun e => absurd e.1 (by decide))])
      refine hs_aload_n ci_2089_140 l0 ?_
      refine hs_cv 1658 11 0 ci_2089_141 (by decide +kernel) (by decide +kernel) hp.1 rfl (by rw [ml_1658]; rfl) (c_next (d := d + 1) hsc hp) ?_
      rintro v9 k8 ⟨hp2, f2, e8⟩
      rw [e8]
      clear e8 v9
      simp only [Option.toList, List.cons_append, List.nil_append]
      replace s5 := s5.same (h' := k8) (hv_fr f2 (by rfl)) (hv_fr f2 (by rfl)) (hv_fr f2 (by rfl)) (hv_fr f2 (by rfl)) (fun j => hv_fr f2 (by rfl)) (fun j => hv_fr f2 (by rfl))
      replace hf := (fr_sub (M := MSN) (by decide +kernel) f2).tr hf
      replace hp := hp2
      clear hp2
      refine hs_iconst ci_2089_144 ?_
      exact hs_k ⟨3, some (.int _), by decide +kernel, by rw [rt_2089]; rfl, hp, hf, _, rfl, Or.inr ⟨rfl, c2, t3, 1, s5, by omega, Or.inr ⟨rfl, by omega⟩⟩⟩
    · simp only [hs_cd, ab_not] at b111
      refine hs_aload_n ci_2089_114 l0 ?_
      refine hs_iconst ci_2089_115 ?_
      refine hs_cv 1687 11 1 ci_2089_116 (by decide +kernel) (by decide +kernel) hp.1 rfl (by rw [ml_1687]; rfl) (c_bad (d := d + 2) hsc (by decide) (by decide) hp) ?_
      rintro v9 k7 ⟨hp2, f2, r116, e8, r116a, r116b⟩
      rw [e8]
      clear e8 v9
      simp only [Option.toList, List.cons_append, List.nil_append]
      replace s5 := s5.same (h' := k7) (hv_fr f2 (by rfl)) (hv_fr f2 (by rfl)) (hv_fr f2 (by rfl)) (hv_fr f2 (by rfl)) (fun j => hv_fr f2 (by rfl)) (fun j => hv_fr f2 (by rfl))
      replace hf := (fr_sub (M := MSN) (by decide +kernel) f2).tr hf
      replace hp := hp2
      clear hp2
      obtain rfl : r116 = 0 := Int32.toInt_inj.mp (by show r116.toInt = 0; omega)
      exact hs_k ⟨3, some (.int 0), by decide +kernel, by rw [rt_2089]; rfl, hp, hf, 0, rfl, Or.inl rfl⟩
theorem c_behind {sc : List Value} {sp d : Nat} (hsc : ab_osc sc) {h : eg_H} {c tt n : Nat} (hn : n ≤ 20) (hct : c + tt + 1 ≤ 2 * n) (s5 : S5 h c tt n 1 1) (hp : ab_hp h) : mc sc sp 2089 11 (d + 4) [.ref 182] h (fun vo h' => ab_hp h' ∧ ab_fr MSN h' h ∧ ∃ r : Int32, vo = some (.int r) ∧ (r.toInt = 0 ∨ (r.toInt = 1 ∧ ∃ c' t' w' : Nat, S5 h' c' t' n w' (w' : Int) ∧ c' + t' + w' ≤ 2 * n ∧ (w' = 0 ∨ (w' = 1 ∧ t' < tt))))) := by
  have l0 : eg_find 0 (eg_args 0 [.ref 182]) = some (.ref 182) := rfl
  have hf : ab_fr MSN h h := ab_fr.rf
  unfold mc
  refine hs_aload_n ci_2089_0 l0 ?_
  refine hs_cv 2077 11 0 ci_2089_1 (by decide +kernel) (by decide +kernel) hp.1 rfl (by rw [ml_2077]; rfl) (c_nots (d := d + 2) (by omega) s5 hp) ?_
  rintro v9 k9 ⟨hp2, f2, ⟨c1, t1, hct1, htt1, s6⟩, e8⟩
  rw [e8]
  clear e8 v9
  simp only [Option.toList, List.cons_append, List.nil_append]
  clear s5
  have s5 := s6
  clear s6
  replace hf := (fr_sub (M := MSN) (by decide +kernel) f2).tr hf
  replace hp := hp2
  clear hp2
  refine hs_aload_n ci_2089_4 l0 ?_
  refine hs_ldc2 ci_2089_5 (by decide +kernel) (fun v9 => ?_)
  refine hs_cv 1676 11 1 ci_2089_8 (by decide +kernel) (by decide +kernel) hp.1 rfl (by rw [ml_1676]; rfl) (c_isWord (d := d + 2) hsc _ hp) ?_
  rintro v9 k10 ⟨hp2, f2, r8, e8, r8a, r8b⟩
  rw [e8]
  clear e8 v9
  simp only [Option.toList, List.cons_append, List.nil_append]
  replace s5 := s5.same (h' := k10) (hv_fr f2 (by rfl)) (hv_fr f2 (by rfl)) (hv_fr f2 (by rfl)) (hv_fr f2 (by rfl)) (fun j => hv_fr f2 (by rfl)) (fun j => hv_fr f2 (by rfl))
  replace hf := (fr_sub (M := MSN) (by decide +kernel) f2).tr hf
  replace hp := hp2
  clear hp2
  refine hs_if (t := 24) ci_2089_11 rfl (fun b11 => ?_) (fun b11 => ?_)
  · simp only [hs_cd, ab_not] at b11
    exact bh_24 hsc hn (by omega) htt1 s5 hp hf l0
  · simp only [hs_cd, ab_not] at b11
    refine hs_aload_n ci_2089_14 l0 ?_
    refine hs_ldc2 ci_2089_15 (by decide +kernel) (fun v9 => ?_)
    refine hs_cv 1676 11 1 ci_2089_18 (by decide +kernel) (by decide +kernel) hp.1 rfl (by rw [ml_1676]; rfl) (c_isWord (d := d + 2) hsc _ hp) ?_
    rintro v9 k11 ⟨hp2, f2, r18, e8, r18a, r18b⟩
    rw [e8]
    clear e8 v9
    simp only [Option.toList, List.cons_append, List.nil_append]
    replace s5 := s5.same (h' := k11) (hv_fr f2 (by rfl)) (hv_fr f2 (by rfl)) (hv_fr f2 (by rfl)) (hv_fr f2 (by rfl)) (fun j => hv_fr f2 (by rfl)) (fun j => hv_fr f2 (by rfl))
    replace hf := (fr_sub (M := MSN) (by decide +kernel) f2).tr hf
    replace hp := hp2
    clear hp2
    refine hs_if (t := 92) ci_2089_21 rfl (fun b21 => ?_) (fun b21 => ?_)
    · simp only [hs_cd, ab_not] at b21
      exact bh_92 hsc hn (by omega) htt1 s5 hp hf l0
    · simp only [hs_cd, ab_not] at b21
      exact bh_24 hsc hn (by omega) htt1 s5 hp hf l0
