/-! BY HAND: the reference's next: the whole -/
theorem ci_1658_32 : ab_at 1658 32 (.aload_n 0) 1 = true := by decide +kernel
theorem ci_1658_33 : ab_at 1658 33 (.getfield 21) 3 = true := by decide +kernel
theorem ci_1658_36 : ab_at 1658 36 (.putfield 152) 3 = true := by decide +kernel
theorem ci_1658_39 : ab_at 1658 39 (.aload_n 0) 1 = true := by decide +kernel
theorem ci_1658_40 : ab_at 1658 40 (.iconst 0) 1 = true := by decide +kernel
theorem ci_1658_41 : ab_at 1658 41 (.putfield 155) 3 = true := by decide +kernel
theorem ci_1658_44 : ab_at 1658 44 (.aload_n 0) 1 = true := by decide +kernel
theorem ci_1658_45 : ab_at 1658 45 (.getfield 18) 3 = true := by decide +kernel
theorem ci_1658_48 : ab_at 1658 48 (.aload_n 0) 1 = true := by decide +kernel
theorem ci_1658_49 : ab_at 1658 49 (.getfield 24) 3 = true := by decide +kernel
theorem ci_1658_52 : ab_at 1658 52 (.if_icmp .le 28) 3 = true := by decide +kernel
theorem ci_1658_55 : ab_at 1658 55 (.aload_n 0) 1 = true := by decide +kernel
theorem ci_1658_56 : ab_at 1658 56 (.getfield 21) 3 = true := by decide +kernel
theorem ci_1658_59 : ab_at 1658 59 (.aload_n 0) 1 = true := by decide +kernel
theorem ci_1658_60 : ab_at 1658 60 (.getfield 24) 3 = true := by decide +kernel
theorem ci_1658_63 : ab_at 1658 63 (.if_icmp .lt 17) 3 = true := by decide +kernel
theorem ci_1658_66 : ab_at 1658 66 (.aload_n 0) 1 = true := by decide +kernel
theorem ci_1658_67 : ab_at 1658 67 (.aload_n 0) 1 = true := by decide +kernel
theorem ci_1658_68 : ab_at 1658 68 (.getfield 24) 3 = true := by decide +kernel
theorem ci_1658_71 : ab_at 1658 71 (.putfield 152) 3 = true := by decide +kernel
theorem ci_1658_74 : ab_at 1658 74 (.aload_n 0) 1 = true := by decide +kernel
theorem ci_1658_75 : ab_at 1658 75 (.iconst 4) 1 = true := by decide +kernel
theorem ci_1658_76 : ab_at 1658 76 (.putfield 158) 3 = true := by decide +kernel
theorem ci_1658_80 : ab_at 1658 80 (.aload_n 0) 1 = true := by decide +kernel
theorem ci_1658_81 : ab_at 1658 81 (.invokevirtual 148) 3 = true := by decide +kernel
theorem ci_1658_84 : ab_at 1658 84 (.istore_n 1) 1 = true := by decide +kernel
theorem ci_1658_85 : ab_at 1658 85 (.iload_n 1) 1 = true := by decide +kernel
theorem ci_1658_86 : ab_at 1658 86 (.ifCond .ge 9) 3 = true := by decide +kernel
theorem ci_1658_89 : ab_at 1658 89 (.aload_n 0) 1 = true := by decide +kernel
theorem ci_1658_90 : ab_at 1658 90 (.iconst 0) 1 = true := by decide +kernel
theorem ci_1658_91 : ab_at 1658 91 (.putfield 158) 3 = true := by decide +kernel
theorem ci_1658_95 : ab_at 1658 95 (.iload_n 1) 1 = true := by decide +kernel
theorem ci_1658_96 : ab_at 1658 96 (.invokestatic 161) 3 = true := by decide +kernel
theorem ci_1658_99 : ab_at 1658 99 (.ifCond .ne 65) 3 = true := by decide +kernel
theorem ci_1658_102 : ab_at 1658 102 (.iload_n 1) 1 = true := by decide +kernel
theorem ci_1658_103 : ab_at 1658 103 (.invokestatic 165) 3 = true := by decide +kernel
theorem ci_1658_106 : ab_at 1658 106 (.ifCond .ne 58) 3 = true := by decide +kernel
theorem ci_1658_109 : ab_at 1658 109 (.aload_n 0) 1 = true := by decide +kernel
theorem ci_1658_110 : ab_at 1658 110 (.iload_n 1) 1 = true := by decide +kernel
theorem ci_1658_111 : ab_at 1658 111 (.bipush 59) 2 = true := by decide +kernel
theorem ci_1658_113 : ab_at 1658 113 (.if_icmp .eq 27) 3 = true := by decide +kernel
theorem ci_1658_116 : ab_at 1658 116 (.iload_n 1) 1 = true := by decide +kernel
theorem ci_1658_117 : ab_at 1658 117 (.bipush 40) 2 = true := by decide +kernel
theorem ci_1658_119 : ab_at 1658 119 (.if_icmp .eq 21) 3 = true := by decide +kernel
theorem ci_1658_122 : ab_at 1658 122 (.iload_n 1) 1 = true := by decide +kernel
theorem ci_1658_123 : ab_at 1658 123 (.bipush 41) 2 = true := by decide +kernel
theorem ci_1658_125 : ab_at 1658 125 (.if_icmp .eq 15) 3 = true := by decide +kernel
theorem ci_1658_128 : ab_at 1658 128 (.iload_n 1) 1 = true := by decide +kernel
theorem ci_1658_129 : ab_at 1658 129 (.bipush 60) 2 = true := by decide +kernel
theorem ci_1658_131 : ab_at 1658 131 (.if_icmp .lt 13) 3 = true := by decide +kernel
theorem ci_1658_134 : ab_at 1658 134 (.iload_n 1) 1 = true := by decide +kernel
theorem ci_1658_135 : ab_at 1658 135 (.bipush 62) 2 = true := by decide +kernel
theorem ci_1658_137 : ab_at 1658 137 (.if_icmp .gt 7) 3 = true := by decide +kernel
theorem ci_1658_140 : ab_at 1658 140 (.iconst 3) 1 = true := by decide +kernel
theorem ci_1658_141 : ab_at 1658 141 (.goto 4) 3 = true := by decide +kernel
theorem ci_1658_144 : ab_at 1658 144 (.iconst 4) 1 = true := by decide +kernel
theorem ci_1658_145 : ab_at 1658 145 (.putfield 158) 3 = true := by decide +kernel
theorem ci_1658_148 : ab_at 1658 148 (.aload_n 0) 1 = true := by decide +kernel
theorem ci_1658_149 : ab_at 1658 149 (.iload_n 1) 1 = true := by decide +kernel
theorem ci_1658_150 : ab_at 1658 150 (.putfield 168) 3 = true := by decide +kernel
theorem ci_1658_153 : ab_at 1658 153 (.aload_n 0) 1 = true := by decide +kernel
theorem ci_1658_154 : ab_at 1658 154 (.dup) 1 = true := by decide +kernel
theorem ci_1658_155 : ab_at 1658 155 (.getfield 21) 3 = true := by decide +kernel
theorem ci_1658_158 : ab_at 1658 158 (.iconst 1) 1 = true := by decide +kernel
theorem ci_1658_159 : ab_at 1658 159 (.iadd) 1 = true := by decide +kernel
theorem ci_1658_160 : ab_at 1658 160 (.putfield 21) 3 = true := by decide +kernel
theorem ci_1658_164 : ab_at 1658 164 (.iload_n 1) 1 = true := by decide +kernel
theorem ci_1658_165 : ab_at 1658 165 (.invokestatic 161) 3 = true := by decide +kernel
theorem ci_1658_168 : ab_at 1658 168 (.istore_n 2) 1 = true := by decide +kernel
theorem ci_1658_169 : ab_at 1658 169 (.iconst 1) 1 = true := by decide +kernel
theorem ci_1658_170 : ab_at 1658 170 (.istore_n 3) 1 = true := by decide +kernel
theorem ci_1658_171 : ab_at 1658 171 (.aload_n 0) 1 = true := by decide +kernel
theorem ci_1658_172 : ab_at 1658 172 (.lconst 0) 1 = true := by decide +kernel
theorem ci_1658_173 : ab_at 1658 173 (.putfield 171) 3 = true := by decide +kernel
theorem ci_1658_176 : ab_at 1658 176 (.aload_n 0) 1 = true := by decide +kernel
theorem ci_1658_177 : ab_at 1658 177 (.iconst 0) 1 = true := by decide +kernel
theorem ci_1658_178 : ab_at 1658 178 (.putfield 168) 3 = true := by decide +kernel
theorem nx_80 {sc : List Value} {sp d : Nat} {h : eg_H} {h1 : eg_H} {p q : Nat} {ls : eg_L} (hN : 0 ≤ (hv h 182 3).toInt) (hn : nN h ≤ 940) (hp0 : (hv h 182 4).toInt.toNat = p) (hsk : tx_sk (bM h) (nN h) p q) (hlim : ¬ (nL h < nN h ∧ nL h ≤ q)) (b : nr_B h h1 q q) (hS : nr_S h1 0) (l0 : eg_find 0 ls = some (.ref 182)) : hs sc sp 1658 11 (d + 1) (nx_K h) 80 ls [] h1 := by
  have hp := b.1.1
  have bb := b
  obtain ⟨b1, b2, b3, b4, -, b6, -⟩ := bb
  refine hs_aload_n ci_1658_80 l0 ?_
  refine hs_cv 1662 11 0 ci_1658_81 (by decide +kernel) (by decide +kernel) hp rfl (by rw [ml_1662]; rfl) (k_peek b.1) ?_
  rintro v9 h9 ⟨e9, xc, e8, hr1⟩
  rw [e8, e9]
  clear e8 e9 v9 h9
  replace hr1 := nr_peek b hr1 hN
  simp only [Option.toList, List.cons_append, List.nil_append]
  refine hs_istore2_n ci_1658_84 (by decide +kernel) ?_
  intro ls9 q9
  replace l0 := q9.2 0 _ (by decide) (Or.inl rfl) l0
  have l1 := q9.1
  clear q9
  refine hs_iload_n ci_1658_85 l1 ?_
  refine hs_if (t := 95) ci_1658_86 rfl (fun b86 => ?_) (fun b86 => ?_)
  · simp only [hs_cd, ab_not] at b86
    have hc : q < nN h ∧ xc.toInt = bM h q := by
      rcases hr1 with g | ⟨-, g⟩
      · exact g
      · omega
    have e4 : (hv h1 182 4 + Int32.ofInt 1).toInt = (q : Int) + 1 := i32_inc b3 (by omega) (by omega)
    refine hs_iload_n ci_1658_95 l1 ?_
    refine hs_cs 1665 11 1 ci_1658_96 (by decide +kernel) rfl (by rw [ml_1665]; rfl) (k_sml xc) ?_
    rintro v9 h9 ⟨e9, s1, e8, hq1⟩
    rw [e8, e9]
    clear e8 e9 v9 h9
    simp only [Option.toList, List.cons_append, List.nil_append]
    refine hs_if (t := 164) ci_1658_99 rfl (fun b99 => ?_) (fun b99 => ?_)
    · simp only [hs_cd, ab_not] at b99
      have hrq : tx_r (bM h q) := by
        rcases hq1 with ⟨-, g⟩ | ⟨g, -⟩
        · rw [hc.2] at g
          exact Or.inl g
        · omega
      refine hs_iload_n ci_1658_164 l1 ?_
      refine hs_cs 1665 11 1 ci_1658_165 (by decide +kernel) rfl (by rw [ml_1665]; rfl) (k_sml xc) ?_
      rintro v9 h9 ⟨e9, s3, e8, hq3⟩
      rw [e8, e9]
      clear e8 e9 v9 h9
      simp only [Option.toList, List.cons_append, List.nil_append]
      refine hs_istore2_n ci_1658_168 (by decide +kernel) ?_
      intro ls9 q9
      replace l0 := q9.2 0 _ (by decide) (Or.inl rfl) l0
      replace l1 := q9.2 1 _ (by decide) (Or.inl rfl) l1
      have l2 := q9.1
      clear q9
      refine hs_iconst ci_1658_169 ?_
      refine hs_istore2_n ci_1658_170 (by decide +kernel) ?_
      intro ls9 q9
      replace l0 := q9.2 0 _ (by decide) (Or.inl rfl) l0
      replace l1 := q9.2 1 _ (by decide) (Or.inl rfl) l1
      replace l2 := q9.2 2 _ (by decide) (Or.inl rfl) l2
      have l3 := q9.1
      clear q9
      refine hs_aload_n ci_1658_171 l0 ?_
      refine hs_lconst ci_1658_172 ?_
      refine hs_pfl 17 ci_1658_173 (by decide +kernel) hp ?_
      intro h173 w173
      replace hp := w173.1
      refine hs_aload_n ci_1658_176 l0 ?_
      refine hs_iconst ci_1658_177 ?_
      refine hs_pfi 14 (-2147483648) (2147483647) ci_1658_178 (by decide +kernel) hp (ab_ige _) (ab_ile _) ?_
      intro h178 w178
      replace hp := w178.1
      have f178 : ab_fr MNX h178 h1 := (w178.fr (M := MNX) rfl).tr (w173.fr (M := MNX) rfl)
      have g1 : ∀ j, j ≠ 14 → j ≠ 17 → hv h178 182 j = hv h1 182 j := fun j hj hk => by rw [w178.v, if_neg (by omega), w173.i _ _ (by omega)]
      have eq0 : q - q = 0 := by omega
      have z0 : nr_Z h h178 q q := by
        refine ⟨⟨⟨hp, b1.2.fr (M := MNX) (by decide +kernel) f178⟩, f178.tr b2, by rw [g1 4 (by omega) (by omega)]; exact b3, by rw [g1 12 (by omega) (by omega)]; exact b4, Nat.le_refl _, b6, fun r k1 k2 => by omega⟩, ?_, ?_, ?_⟩
        · unfold nr_S
          rw [eq0, g1 13 (by omega) (by omega)]; exact hS
        · unfold nr_W
          rw [eq0, w178.l _ _ (by omega), w173.v, if_pos ⟨rfl, rfl⟩]; rfl
        · unfold nr_N
          rw [eq0, w178.v, if_pos ⟨rfl, rfl⟩]; rfl
      have A0 : nr_A h q q s3 (Int32.ofInt 1) := by
        refine ⟨?_, Or.inl ⟨by decide, fun r k1 k2 => by omega⟩⟩
        rw [hc.2] at hq3
        exact hq3
      refine hs.bind (nr_loop (q := q) (xc := xc) (s := s3) hN hn (nN h - q) q _ _ _ (by omega) z0 A0 l0 l1 l2 l3) ?_
      rintro pc9 ls9 st9 h9 ⟨rfl, rfl, i, a, z, A, hend, k0, k2, k3⟩
      exact nr_f hp0 hsk hlim hc.1 hrq z A hend k0 k2 k3
    · simp only [hs_cd, ab_not] at b99
      refine hs_iload_n ci_1658_102 l1 ?_
      refine hs_cs 1668 11 1 ci_1658_103 (by decide +kernel) rfl (by rw [ml_1668]; rfl) (k_dig xc) ?_
      rintro v9 h9 ⟨e9, s2, e8, hq2⟩
      rw [e8, e9]
      clear e8 e9 v9 h9
      simp only [Option.toList, List.cons_append, List.nil_append]
      refine hs_if (t := 164) ci_1658_106 rfl (fun b106 => ?_) (fun b106 => ?_)
      · simp only [hs_cd, ab_not] at b106
        have hrq : tx_r (bM h q) := by
          rcases hq2 with ⟨-, g⟩ | ⟨g, -⟩
          · rw [hc.2] at g
            exact Or.inr g
          · omega
        refine hs_iload_n ci_1658_164 l1 ?_
        refine hs_cs 1665 11 1 ci_1658_165 (by decide +kernel) rfl (by rw [ml_1665]; rfl) (k_sml xc) ?_
        rintro v9 h9 ⟨e9, s3, e8, hq3⟩
        rw [e8, e9]
        clear e8 e9 v9 h9
        simp only [Option.toList, List.cons_append, List.nil_append]
        refine hs_istore2_n ci_1658_168 (by decide +kernel) ?_
        intro ls9 q9
        replace l0 := q9.2 0 _ (by decide) (Or.inl rfl) l0
        replace l1 := q9.2 1 _ (by decide) (Or.inl rfl) l1
        have l2 := q9.1
        clear q9
        refine hs_iconst ci_1658_169 ?_
        refine hs_istore2_n ci_1658_170 (by decide +kernel) ?_
        intro ls9 q9
        replace l0 := q9.2 0 _ (by decide) (Or.inl rfl) l0
        replace l1 := q9.2 1 _ (by decide) (Or.inl rfl) l1
        replace l2 := q9.2 2 _ (by decide) (Or.inl rfl) l2
        have l3 := q9.1
        clear q9
        refine hs_aload_n ci_1658_171 l0 ?_
        refine hs_lconst ci_1658_172 ?_
        refine hs_pfl 17 ci_1658_173 (by decide +kernel) hp ?_
        intro h173 w173
        replace hp := w173.1
        refine hs_aload_n ci_1658_176 l0 ?_
        refine hs_iconst ci_1658_177 ?_
        refine hs_pfi 14 (-2147483648) (2147483647) ci_1658_178 (by decide +kernel) hp (ab_ige _) (ab_ile _) ?_
        intro h178 w178
        replace hp := w178.1
        have f178 : ab_fr MNX h178 h1 := (w178.fr (M := MNX) rfl).tr (w173.fr (M := MNX) rfl)
        have g1 : ∀ j, j ≠ 14 → j ≠ 17 → hv h178 182 j = hv h1 182 j := fun j hj hk => by rw [w178.v, if_neg (by omega), w173.i _ _ (by omega)]
        have eq0 : q - q = 0 := by omega
        have z0 : nr_Z h h178 q q := by
          refine ⟨⟨⟨hp, b1.2.fr (M := MNX) (by decide +kernel) f178⟩, f178.tr b2, by rw [g1 4 (by omega) (by omega)]; exact b3, by rw [g1 12 (by omega) (by omega)]; exact b4, Nat.le_refl _, b6, fun r k1 k2 => by omega⟩, ?_, ?_, ?_⟩
          · unfold nr_S
            rw [eq0, g1 13 (by omega) (by omega)]; exact hS
          · unfold nr_W
            rw [eq0, w178.l _ _ (by omega), w173.v, if_pos ⟨rfl, rfl⟩]; rfl
          · unfold nr_N
            rw [eq0, w178.v, if_pos ⟨rfl, rfl⟩]; rfl
        have A0 : nr_A h q q s3 (Int32.ofInt 1) := by
          refine ⟨?_, Or.inl ⟨by decide, fun r k1 k2 => by omega⟩⟩
          rw [hc.2] at hq3
          exact hq3
        refine hs.bind (nr_loop (q := q) (xc := xc) (s := s3) hN hn (nN h - q) q _ _ _ (by omega) z0 A0 l0 l1 l2 l3) ?_
        rintro pc9 ls9 st9 h9 ⟨rfl, rfl, i, a, z, A, hend, k0, k2, k3⟩
        exact nr_f hp0 hsk hlim hc.1 hrq z A hend k0 k2 k3
      · simp only [hs_cd, ab_not] at b106
        refine hs_aload_n ci_1658_109 l0 ?_
        refine hs_iload_n ci_1658_110 l1 ?_
        refine hs_bipush ci_1658_111 ?_
        refine hs_ic (t := 140) ci_1658_113 rfl (fun b113 => ?_) (fun b113 => ?_)
        · simp only [hs_cd, ab_not, kB_59] at b113
          refine hs_iconst ci_1658_140 ?_
          refine hs_goto (t := 145) ci_1658_141 rfl ?_
          refine hs_pfi 11 (0) (4) ci_1658_145 (by decide +kernel) hp (by decide) (by decide) ?_
          intro h145 w145
          replace hp := w145.1
          refine hs_aload_n ci_1658_148 l0 ?_
          refine hs_iload_n ci_1658_149 l1 ?_
          refine hs_pfi 14 (-2147483648) (2147483647) ci_1658_150 (by decide +kernel) hp (ab_ige _) (ab_ile _) ?_
          intro h150 w150
          replace hp := w150.1
          refine hs_aload_n ci_1658_153 l0 ?_
          refine hs_dup ci_1658_154 rfl ?_
          refine hs_gfi 4 ci_1658_155 (by decide +kernel) hp ?_
          refine hs_iconst ci_1658_158 ?_
          refine hs_iadd ci_1658_159 ?_
          have n160 : hv h150 182 4 = hv h1 182 4 := by rw [w150.v, if_neg (by omega), w145.v, if_neg (by omega)]
          refine hs_pfi 4 (0) (940) ci_1658_160 (by decide +kernel) hp (by rw [n160, e4]; omega) (by rw [n160, e4]; omega) ?_
          intro h160 w160
          replace hp := w160.1
          have f160 : ab_fr MNX h160 h1 := (w160.fr (M := MNX) rfl).tr ((w150.fr (M := MNX) rfl).tr (w145.fr (M := MNX) rfl))
          have hnr : ¬ tx_r (bM h q) := by
            rintro (g | g)
            · rcases hq1 with ⟨g1, -⟩ | ⟨-, g1⟩
              · omega
              · exact g1 (by rw [hc.2]; exact g)
            · rcases hq2 with ⟨g1, -⟩ | ⟨-, g1⟩
              · omega
              · exact g1 (by rw [hc.2]; exact g)
          have hsg :  tx_s (bM h q) := by
            have := hc.2
            unfold tx_s
            omega
          refine hs_k ⟨5, none, by decide +kernel, by rw [rt_1658]; rfl, rfl, ⟨hp, b1.2.fr (M := MNX) (by decide +kernel) f160⟩, f160.tr b2, tx_sg (bM h q), q, q + 1, ?_, by omega, ?_, ?_, ⟨by rw [w160.v, if_neg (by omega), w150.v, if_neg (by omega), w145.v, if_pos ⟨rfl, rfl⟩]; decide, by rw [w160.v, if_neg (by omega), w150.v, if_pos ⟨rfl, rfl⟩]; exact hc.2⟩⟩
          · rw [hp0]
            exact ⟨q, hsk, Or.inr (Or.inr (Or.inl ⟨hlim, hc.1, hnr, Or.inl ⟨hsg, rfl⟩, rfl, rfl⟩))⟩
          · rw [w160.v, if_neg (by omega), w150.v, if_neg (by omega), w145.v, if_neg (by omega)]; exact b4
          · rw [w160.v, if_pos ⟨rfl, rfl⟩, n160, e4]; rfl
        · simp only [hs_cd, ab_not, kB_59] at b113
          refine hs_iload_n ci_1658_116 l1 ?_
          refine hs_bipush ci_1658_117 ?_
          refine hs_ic (t := 140) ci_1658_119 rfl (fun b119 => ?_) (fun b119 => ?_)
          · simp only [hs_cd, ab_not, kB_40] at b119
            refine hs_iconst ci_1658_140 ?_
            refine hs_goto (t := 145) ci_1658_141 rfl ?_
            refine hs_pfi 11 (0) (4) ci_1658_145 (by decide +kernel) hp (by decide) (by decide) ?_
            intro h145 w145
            replace hp := w145.1
            refine hs_aload_n ci_1658_148 l0 ?_
            refine hs_iload_n ci_1658_149 l1 ?_
            refine hs_pfi 14 (-2147483648) (2147483647) ci_1658_150 (by decide +kernel) hp (ab_ige _) (ab_ile _) ?_
            intro h150 w150
            replace hp := w150.1
            refine hs_aload_n ci_1658_153 l0 ?_
            refine hs_dup ci_1658_154 rfl ?_
            refine hs_gfi 4 ci_1658_155 (by decide +kernel) hp ?_
            refine hs_iconst ci_1658_158 ?_
            refine hs_iadd ci_1658_159 ?_
            have n160 : hv h150 182 4 = hv h1 182 4 := by rw [w150.v, if_neg (by omega), w145.v, if_neg (by omega)]
            refine hs_pfi 4 (0) (940) ci_1658_160 (by decide +kernel) hp (by rw [n160, e4]; omega) (by rw [n160, e4]; omega) ?_
            intro h160 w160
            replace hp := w160.1
            have f160 : ab_fr MNX h160 h1 := (w160.fr (M := MNX) rfl).tr ((w150.fr (M := MNX) rfl).tr (w145.fr (M := MNX) rfl))
            have hnr : ¬ tx_r (bM h q) := by
              rintro (g | g)
              · rcases hq1 with ⟨g1, -⟩ | ⟨-, g1⟩
                · omega
                · exact g1 (by rw [hc.2]; exact g)
              · rcases hq2 with ⟨g1, -⟩ | ⟨-, g1⟩
                · omega
                · exact g1 (by rw [hc.2]; exact g)
            have hsg :  tx_s (bM h q) := by
              have := hc.2
              unfold tx_s
              omega
            refine hs_k ⟨5, none, by decide +kernel, by rw [rt_1658]; rfl, rfl, ⟨hp, b1.2.fr (M := MNX) (by decide +kernel) f160⟩, f160.tr b2, tx_sg (bM h q), q, q + 1, ?_, by omega, ?_, ?_, ⟨by rw [w160.v, if_neg (by omega), w150.v, if_neg (by omega), w145.v, if_pos ⟨rfl, rfl⟩]; decide, by rw [w160.v, if_neg (by omega), w150.v, if_pos ⟨rfl, rfl⟩]; exact hc.2⟩⟩
            · rw [hp0]
              exact ⟨q, hsk, Or.inr (Or.inr (Or.inl ⟨hlim, hc.1, hnr, Or.inl ⟨hsg, rfl⟩, rfl, rfl⟩))⟩
            · rw [w160.v, if_neg (by omega), w150.v, if_neg (by omega), w145.v, if_neg (by omega)]; exact b4
            · rw [w160.v, if_pos ⟨rfl, rfl⟩, n160, e4]; rfl
          · simp only [hs_cd, ab_not, kB_40] at b119
            refine hs_iload_n ci_1658_122 l1 ?_
            refine hs_bipush ci_1658_123 ?_
            refine hs_ic (t := 140) ci_1658_125 rfl (fun b125 => ?_) (fun b125 => ?_)
            · simp only [hs_cd, ab_not, kB_41] at b125
              refine hs_iconst ci_1658_140 ?_
              refine hs_goto (t := 145) ci_1658_141 rfl ?_
              refine hs_pfi 11 (0) (4) ci_1658_145 (by decide +kernel) hp (by decide) (by decide) ?_
              intro h145 w145
              replace hp := w145.1
              refine hs_aload_n ci_1658_148 l0 ?_
              refine hs_iload_n ci_1658_149 l1 ?_
              refine hs_pfi 14 (-2147483648) (2147483647) ci_1658_150 (by decide +kernel) hp (ab_ige _) (ab_ile _) ?_
              intro h150 w150
              replace hp := w150.1
              refine hs_aload_n ci_1658_153 l0 ?_
              refine hs_dup ci_1658_154 rfl ?_
              refine hs_gfi 4 ci_1658_155 (by decide +kernel) hp ?_
              refine hs_iconst ci_1658_158 ?_
              refine hs_iadd ci_1658_159 ?_
              have n160 : hv h150 182 4 = hv h1 182 4 := by rw [w150.v, if_neg (by omega), w145.v, if_neg (by omega)]
              refine hs_pfi 4 (0) (940) ci_1658_160 (by decide +kernel) hp (by rw [n160, e4]; omega) (by rw [n160, e4]; omega) ?_
              intro h160 w160
              replace hp := w160.1
              have f160 : ab_fr MNX h160 h1 := (w160.fr (M := MNX) rfl).tr ((w150.fr (M := MNX) rfl).tr (w145.fr (M := MNX) rfl))
              have hnr : ¬ tx_r (bM h q) := by
                rintro (g | g)
                · rcases hq1 with ⟨g1, -⟩ | ⟨-, g1⟩
                  · omega
                  · exact g1 (by rw [hc.2]; exact g)
                · rcases hq2 with ⟨g1, -⟩ | ⟨-, g1⟩
                  · omega
                  · exact g1 (by rw [hc.2]; exact g)
              have hsg :  tx_s (bM h q) := by
                have := hc.2
                unfold tx_s
                omega
              refine hs_k ⟨5, none, by decide +kernel, by rw [rt_1658]; rfl, rfl, ⟨hp, b1.2.fr (M := MNX) (by decide +kernel) f160⟩, f160.tr b2, tx_sg (bM h q), q, q + 1, ?_, by omega, ?_, ?_, ⟨by rw [w160.v, if_neg (by omega), w150.v, if_neg (by omega), w145.v, if_pos ⟨rfl, rfl⟩]; decide, by rw [w160.v, if_neg (by omega), w150.v, if_pos ⟨rfl, rfl⟩]; exact hc.2⟩⟩
              · rw [hp0]
                exact ⟨q, hsk, Or.inr (Or.inr (Or.inl ⟨hlim, hc.1, hnr, Or.inl ⟨hsg, rfl⟩, rfl, rfl⟩))⟩
              · rw [w160.v, if_neg (by omega), w150.v, if_neg (by omega), w145.v, if_neg (by omega)]; exact b4
              · rw [w160.v, if_pos ⟨rfl, rfl⟩, n160, e4]; rfl
            · simp only [hs_cd, ab_not, kB_41] at b125
              refine hs_iload_n ci_1658_128 l1 ?_
              refine hs_bipush ci_1658_129 ?_
              refine hs_ic (t := 144) ci_1658_131 rfl (fun b131 => ?_) (fun b131 => ?_)
              · simp only [hs_cd, ab_not, kB_60] at b131
                refine hs_iconst ci_1658_144 ?_
                refine hs_pfi 11 (0) (4) ci_1658_145 (by decide +kernel) hp (by decide) (by decide) ?_
                intro h145 w145
                replace hp := w145.1
                refine hs_aload_n ci_1658_148 l0 ?_
                refine hs_iload_n ci_1658_149 l1 ?_
                refine hs_pfi 14 (-2147483648) (2147483647) ci_1658_150 (by decide +kernel) hp (ab_ige _) (ab_ile _) ?_
                intro h150 w150
                replace hp := w150.1
                refine hs_aload_n ci_1658_153 l0 ?_
                refine hs_dup ci_1658_154 rfl ?_
                refine hs_gfi 4 ci_1658_155 (by decide +kernel) hp ?_
                refine hs_iconst ci_1658_158 ?_
                refine hs_iadd ci_1658_159 ?_
                have n160 : hv h150 182 4 = hv h1 182 4 := by rw [w150.v, if_neg (by omega), w145.v, if_neg (by omega)]
                refine hs_pfi 4 (0) (940) ci_1658_160 (by decide +kernel) hp (by rw [n160, e4]; omega) (by rw [n160, e4]; omega) ?_
                intro h160 w160
                replace hp := w160.1
                have f160 : ab_fr MNX h160 h1 := (w160.fr (M := MNX) rfl).tr ((w150.fr (M := MNX) rfl).tr (w145.fr (M := MNX) rfl))
                have hnr : ¬ tx_r (bM h q) := by
                  rintro (g | g)
                  · rcases hq1 with ⟨g1, -⟩ | ⟨-, g1⟩
                    · omega
                    · exact g1 (by rw [hc.2]; exact g)
                  · rcases hq2 with ⟨g1, -⟩ | ⟨-, g1⟩
                    · omega
                    · exact g1 (by rw [hc.2]; exact g)
                have hsg : ¬ tx_s (bM h q) := by
                  have := hc.2
                  unfold tx_s
                  omega
                refine hs_k ⟨5, none, by decide +kernel, by rw [rt_1658]; rfl, rfl, ⟨hp, b1.2.fr (M := MNX) (by decide +kernel) f160⟩, f160.tr b2, tx_no, q, q + 1, ?_, by omega, ?_, ?_, by show (hv h160 182 11).toInt = 4; rw [w160.v, if_neg (by omega), w150.v, if_neg (by omega), w145.v, if_pos ⟨rfl, rfl⟩]; decide⟩
                · rw [hp0]
                  exact ⟨q, hsk, Or.inr (Or.inr (Or.inl ⟨hlim, hc.1, hnr, Or.inr ⟨hsg, rfl⟩, rfl, rfl⟩))⟩
                · rw [w160.v, if_neg (by omega), w150.v, if_neg (by omega), w145.v, if_neg (by omega)]; exact b4
                · rw [w160.v, if_pos ⟨rfl, rfl⟩, n160, e4]; rfl
              · simp only [hs_cd, ab_not, kB_60] at b131
                refine hs_iload_n ci_1658_134 l1 ?_
                refine hs_bipush ci_1658_135 ?_
                refine hs_ic (t := 144) ci_1658_137 rfl (fun b137 => ?_) (fun b137 => ?_)
                · simp only [hs_cd, ab_not, kB_62] at b137
                  refine hs_iconst ci_1658_144 ?_
                  refine hs_pfi 11 (0) (4) ci_1658_145 (by decide +kernel) hp (by decide) (by decide) ?_
                  intro h145 w145
                  replace hp := w145.1
                  refine hs_aload_n ci_1658_148 l0 ?_
                  refine hs_iload_n ci_1658_149 l1 ?_
                  refine hs_pfi 14 (-2147483648) (2147483647) ci_1658_150 (by decide +kernel) hp (ab_ige _) (ab_ile _) ?_
                  intro h150 w150
                  replace hp := w150.1
                  refine hs_aload_n ci_1658_153 l0 ?_
                  refine hs_dup ci_1658_154 rfl ?_
                  refine hs_gfi 4 ci_1658_155 (by decide +kernel) hp ?_
                  refine hs_iconst ci_1658_158 ?_
                  refine hs_iadd ci_1658_159 ?_
                  have n160 : hv h150 182 4 = hv h1 182 4 := by rw [w150.v, if_neg (by omega), w145.v, if_neg (by omega)]
                  refine hs_pfi 4 (0) (940) ci_1658_160 (by decide +kernel) hp (by rw [n160, e4]; omega) (by rw [n160, e4]; omega) ?_
                  intro h160 w160
                  replace hp := w160.1
                  have f160 : ab_fr MNX h160 h1 := (w160.fr (M := MNX) rfl).tr ((w150.fr (M := MNX) rfl).tr (w145.fr (M := MNX) rfl))
                  have hnr : ¬ tx_r (bM h q) := by
                    rintro (g | g)
                    · rcases hq1 with ⟨g1, -⟩ | ⟨-, g1⟩
                      · omega
                      · exact g1 (by rw [hc.2]; exact g)
                    · rcases hq2 with ⟨g1, -⟩ | ⟨-, g1⟩
                      · omega
                      · exact g1 (by rw [hc.2]; exact g)
                  have hsg : ¬ tx_s (bM h q) := by
                    have := hc.2
                    unfold tx_s
                    omega
                  refine hs_k ⟨5, none, by decide +kernel, by rw [rt_1658]; rfl, rfl, ⟨hp, b1.2.fr (M := MNX) (by decide +kernel) f160⟩, f160.tr b2, tx_no, q, q + 1, ?_, by omega, ?_, ?_, by show (hv h160 182 11).toInt = 4; rw [w160.v, if_neg (by omega), w150.v, if_neg (by omega), w145.v, if_pos ⟨rfl, rfl⟩]; decide⟩
                  · rw [hp0]
                    exact ⟨q, hsk, Or.inr (Or.inr (Or.inl ⟨hlim, hc.1, hnr, Or.inr ⟨hsg, rfl⟩, rfl, rfl⟩))⟩
                  · rw [w160.v, if_neg (by omega), w150.v, if_neg (by omega), w145.v, if_neg (by omega)]; exact b4
                  · rw [w160.v, if_pos ⟨rfl, rfl⟩, n160, e4]; rfl
                · simp only [hs_cd, ab_not, kB_62] at b137
                  refine hs_iconst ci_1658_140 ?_
                  refine hs_goto (t := 145) ci_1658_141 rfl ?_
                  refine hs_pfi 11 (0) (4) ci_1658_145 (by decide +kernel) hp (by decide) (by decide) ?_
                  intro h145 w145
                  replace hp := w145.1
                  refine hs_aload_n ci_1658_148 l0 ?_
                  refine hs_iload_n ci_1658_149 l1 ?_
                  refine hs_pfi 14 (-2147483648) (2147483647) ci_1658_150 (by decide +kernel) hp (ab_ige _) (ab_ile _) ?_
                  intro h150 w150
                  replace hp := w150.1
                  refine hs_aload_n ci_1658_153 l0 ?_
                  refine hs_dup ci_1658_154 rfl ?_
                  refine hs_gfi 4 ci_1658_155 (by decide +kernel) hp ?_
                  refine hs_iconst ci_1658_158 ?_
                  refine hs_iadd ci_1658_159 ?_
                  have n160 : hv h150 182 4 = hv h1 182 4 := by rw [w150.v, if_neg (by omega), w145.v, if_neg (by omega)]
                  refine hs_pfi 4 (0) (940) ci_1658_160 (by decide +kernel) hp (by rw [n160, e4]; omega) (by rw [n160, e4]; omega) ?_
                  intro h160 w160
                  replace hp := w160.1
                  have f160 : ab_fr MNX h160 h1 := (w160.fr (M := MNX) rfl).tr ((w150.fr (M := MNX) rfl).tr (w145.fr (M := MNX) rfl))
                  have hnr : ¬ tx_r (bM h q) := by
                    rintro (g | g)
                    · rcases hq1 with ⟨g1, -⟩ | ⟨-, g1⟩
                      · omega
                      · exact g1 (by rw [hc.2]; exact g)
                    · rcases hq2 with ⟨g1, -⟩ | ⟨-, g1⟩
                      · omega
                      · exact g1 (by rw [hc.2]; exact g)
                  have hsg :  tx_s (bM h q) := by
                    have := hc.2
                    unfold tx_s
                    omega
                  refine hs_k ⟨5, none, by decide +kernel, by rw [rt_1658]; rfl, rfl, ⟨hp, b1.2.fr (M := MNX) (by decide +kernel) f160⟩, f160.tr b2, tx_sg (bM h q), q, q + 1, ?_, by omega, ?_, ?_, ⟨by rw [w160.v, if_neg (by omega), w150.v, if_neg (by omega), w145.v, if_pos ⟨rfl, rfl⟩]; decide, by rw [w160.v, if_neg (by omega), w150.v, if_pos ⟨rfl, rfl⟩]; exact hc.2⟩⟩
                  · rw [hp0]
                    exact ⟨q, hsk, Or.inr (Or.inr (Or.inl ⟨hlim, hc.1, hnr, Or.inl ⟨hsg, rfl⟩, rfl, rfl⟩))⟩
                  · rw [w160.v, if_neg (by omega), w150.v, if_neg (by omega), w145.v, if_neg (by omega)]; exact b4
                  · rw [w160.v, if_pos ⟨rfl, rfl⟩, n160, e4]; rfl
  · simp only [hs_cd, ab_not] at b86
    refine hs_aload_n ci_1658_89 l0 ?_
    refine hs_iconst ci_1658_90 ?_
    refine hs_pfi 11 (0) (4) ci_1658_91 (by decide +kernel) hp (by decide) (by decide) ?_
    intro h91 w91
    replace hp := w91.1
    have f91 : ab_fr MNX h91 h1 := w91.fr (M := MNX) rfl
    refine hs_k ⟨5, none, by decide +kernel, by rw [rt_1658]; rfl, rfl, ⟨hp, b1.2.fr (M := MNX) (by decide +kernel) f91⟩, f91.tr b2, tx_stop, q, q, ?_, b6, ?_, ?_, ?_⟩
    · rw [hp0]
      rcases hr1 with ⟨g1, g2⟩ | ⟨g1, -⟩
      · have := (bM_b h q).1
        omega
      · exact ⟨q, hsk, Or.inr (Or.inl ⟨hlim, g1, rfl, rfl, rfl⟩)⟩
    · rw [w91.v, if_neg (by omega)]; exact b4
    · rw [w91.v, if_neg (by omega)]; exact b3
    · show (hv h91 182 11).toInt = 0
      rw [w91.v, if_pos ⟨rfl, rfl⟩]; decide
theorem k_next {sc : List Value} {sp d : Nat} {h : eg_H} (hq : ab_hp h) (h0 : (hv h 182 4).toInt ≤ (hv h 182 3).toInt) : mc sc sp 1658 11 (d + 1) [.ref 182] h (nx_P h) := by
  have l0 : eg_find 0 (eg_args 0 [.ref 182]) = some (.ref 182) := rfl
  obtain ⟨⟨n1, n2⟩, ⟨p1, p2⟩, ⟨m1, m2⟩⟩ := nb_182 hq
  have hNN : nN h = (hv h 182 3).toInt.toNat := rfl
  have hLL : nL h = (hv h 182 5).toInt.toNat := rfl
  unfold mc
  refine hs.bind (sk_loop hq h0 (nN h - (hv h 182 4).toInt.toNat) (hv h 182 4).toInt.toNat _ _ (by omega) (by omega) (by omega) hq ab_fr.rf (fun r g1 g2 => by omega) l0) ?_
  clear l0
  rintro pc9 ls9 st9 h1 ⟨rfl, rfl, l0, hq1, hf, q, hv4, hsk⟩
  have hp := hq1.1
  have hqn := hsk.2.1
  refine hs_aload_n ci_1658_31 l0 ?_
  refine hs_aload_n ci_1658_32 l0 ?_
  refine hs_gfi 4 ci_1658_33 (by decide +kernel) hp ?_
  refine hs_pfi 12 (-2147483648) (2147483647) ci_1658_36 (by decide +kernel) hp (ab_ige _) (ab_ile _) ?_
  intro h36 w36
  replace hp := w36.1
  refine hs_aload_n ci_1658_39 l0 ?_
  refine hs_iconst ci_1658_40 ?_
  refine hs_pfi 13 (-2147483648) (2147483647) ci_1658_41 (by decide +kernel) hp (ab_ige _) (ab_ile _) ?_
  intro h41 w41
  replace hp := w41.1
  have f41 : ab_fr MNX h41 h1 := (w41.fr (M := MNX) rfl).tr (w36.fr (M := MNX) rfl)
  have e41 : ∀ j, j ≠ 12 → j ≠ 13 → hv h41 182 j = hv h1 182 j := fun j hj hk => by rw [w41.v, if_neg (by omega), w36.v, if_neg (by omega)]
  have b41 : nr_B h h41 q q := ⟨⟨hp, hq1.2.fr (M := MNX) (by decide +kernel) f41⟩, f41.tr hf, by rw [e41 4 (by omega) (by omega)]; exact hv4, by rw [w41.v, if_neg (by omega), w36.v, if_pos ⟨rfl, rfl⟩]; exact hv4, Nat.le_refl _, hqn, fun r g1 g2 => by omega⟩
  have s41 : nr_S h41 0 := by
    unfold nr_S
    rw [w41.v, if_pos ⟨rfl, rfl⟩]; decide
  have eN := nN_fr b41.2.1
  have eL := nL_fr b41.2.1
  have p41 := b41.2.2.1
  refine hs_aload_n ci_1658_44 l0 ?_
  refine hs_gfi 3 ci_1658_45 (by decide +kernel) hp ?_
  refine hs_aload_n ci_1658_48 l0 ?_
  refine hs_gfi 5 ci_1658_49 (by decide +kernel) hp ?_
  refine hs_ic (t := 80) ci_1658_52 rfl (fun b52 => ?_) (fun b52 => ?_)
  · simp only [hs_cd, ab_not] at b52
    rw [eN, eL] at b52
    exact nx_80 n1 (by omega) rfl hsk (by omega) b41 s41 l0
  · simp only [hs_cd, ab_not] at b52
    rw [eN, eL] at b52
    refine hs_aload_n ci_1658_55 l0 ?_
    refine hs_gfi 4 ci_1658_56 (by decide +kernel) hp ?_
    refine hs_aload_n ci_1658_59 l0 ?_
    refine hs_gfi 5 ci_1658_60 (by decide +kernel) hp ?_
    refine hs_ic (t := 80) ci_1658_63 rfl (fun b63 => ?_) (fun b63 => ?_)
    · simp only [hs_cd, ab_not] at b63
      rw [eL] at b63
      exact nx_80 n1 (by omega) rfl hsk (by omega) b41 s41 l0
    · simp only [hs_cd, ab_not] at b63
      rw [eL] at b63
      refine hs_aload_n ci_1658_66 l0 ?_
      refine hs_aload_n ci_1658_67 l0 ?_
      refine hs_gfi 5 ci_1658_68 (by decide +kernel) hp ?_
      refine hs_pfi 12 (-2147483648) (2147483647) ci_1658_71 (by decide +kernel) hp (ab_ige _) (ab_ile _) ?_
      intro h71 w71
      replace hp := w71.1
      refine hs_aload_n ci_1658_74 l0 ?_
      refine hs_iconst ci_1658_75 ?_
      refine hs_pfi 11 (0) (4) ci_1658_76 (by decide +kernel) hp (by decide) (by decide) ?_
      intro h76 w76
      replace hp := w76.1
      have f76 : ab_fr MNX h76 h41 := (w76.fr (M := MNX) rfl).tr (w71.fr (M := MNX) rfl)
      refine hs_k ⟨5, none, by decide +kernel, by rw [rt_1658]; rfl, rfl, ⟨hp, b41.1.2.fr (M := MNX) (by decide +kernel) f76⟩, f76.tr b41.2.1, tx_no, nL h, q, ⟨q, hsk, Or.inl ⟨by omega, by omega, rfl, rfl, rfl⟩⟩, hqn, ?_, ?_, ?_⟩
      · rw [w76.v, if_neg (by omega), w71.v, if_pos ⟨rfl, rfl⟩, eL]; omega
      · rw [w76.v, if_neg (by omega), w71.v, if_neg (by omega)]; exact p41
      · show (hv h76 182 11).toInt = 4
        rw [w76.v, if_pos ⟨rfl, rfl⟩]; decide
