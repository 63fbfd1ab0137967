/-! BY HAND: a ONE, and the sentence as a whole -/
theorem ml_2097 : (eg_md 2097).2.2.1 = 1 := by decide +kernel
theorem rt_2097 : (eg_md 2097).2.2.2 = some .int := by decide +kernel
theorem ci_2073_145 : ab_at 2073 145 (.iload_n 2) 1 = true := by decide +kernel
theorem ci_2073_146 : ab_at 2073 146 (.iconst 3) 1 = true := by decide +kernel
theorem ci_2073_147 : ab_at 2073 147 (.aload_n 0) 1 = true := by decide +kernel
theorem ci_2073_148 : ab_at 2073 148 (.getfield 446) 3 = true := by decide +kernel
theorem ci_2073_151 : ab_at 2073 151 (.imul) 1 = true := by decide +kernel
theorem ci_2073_152 : ab_at 2073 152 (.if_icmp .ge 24) 3 = true := by decide +kernel
theorem ci_2073_155 : ab_at 2073 155 (.aload_n 0) 1 = true := by decide +kernel
theorem ci_2073_156 : ab_at 2073 156 (.getfield 33) 3 = true := by decide +kernel
theorem ci_2073_159 : ab_at 2073 159 (.bipush 127) 2 = true := by decide +kernel
theorem ci_2073_161 : ab_at 2073 161 (.iload_n 2) 1 = true := by decide +kernel
theorem ci_2073_162 : ab_at 2073 162 (.iadd) 1 = true := by decide +kernel
theorem ci_2073_163 : ab_at 2073 163 (.aload_n 0) 1 = true := by decide +kernel
theorem ci_2073_164 : ab_at 2073 164 (.getfield 40) 3 = true := by decide +kernel
theorem ci_2073_167 : ab_at 2073 167 (.iload_n 2) 1 = true := by decide +kernel
theorem ci_2073_168 : ab_at 2073 168 (.iaload) 1 = true := by decide +kernel
theorem ci_2073_169 : ab_at 2073 169 (.iastore) 1 = true := by decide +kernel
theorem ci_2073_170 : ab_at 2073 170 (.iinc 2 1) 3 = true := by decide +kernel
theorem ci_2073_173 : ab_at 2073 173 (.goto (-28)) 3 = true := by decide +kernel
theorem ci_2093_0 : ab_at 2093 0 (.aload_n 0) 1 = true := by decide +kernel
theorem ci_2093_1 : ab_at 2093 1 (.ldc2_w 125) 3 = true := by decide +kernel
theorem ci_2093_4 : ab_at 2093 4 (.invokevirtual 224) 3 = true := by decide +kernel
theorem ci_2093_7 : ab_at 2093 7 (.istore_n 1) 1 = true := by decide +kernel
theorem ci_2093_8 : ab_at 2093 8 (.aload_n 0) 1 = true := by decide +kernel
theorem ci_2093_9 : ab_at 2093 9 (.bipush 40) 2 = true := by decide +kernel
theorem ci_2093_11 : ab_at 2093 11 (.invokevirtual 181) 3 = true := by decide +kernel
theorem ci_2093_14 : ab_at 2093 14 (.istore_n 2) 1 = true := by decide +kernel
theorem ci_2093_15 : ab_at 2093 15 (.aload_n 0) 1 = true := by decide +kernel
theorem ci_2093_16 : ab_at 2093 16 (.invokevirtual 459) 3 = true := by decide +kernel
theorem ci_2093_19 : ab_at 2093 19 (.istore_n 3) 1 = true := by decide +kernel
theorem ci_2093_20 : ab_at 2093 20 (.iload_n 1) 1 = true := by decide +kernel
theorem ci_2093_21 : ab_at 2093 21 (.ifCond .ne 17) 3 = true := by decide +kernel
theorem ci_2093_24 : ab_at 2093 24 (.iload_n 2) 1 = true := by decide +kernel
theorem ci_2093_25 : ab_at 2093 25 (.ifCond .ne 13) 3 = true := by decide +kernel
theorem ci_2093_28 : ab_at 2093 28 (.iload_n 3) 1 = true := by decide +kernel
theorem ci_2093_29 : ab_at 2093 29 (.ifCond .ge 9) 3 = true := by decide +kernel
theorem ci_2093_32 : ab_at 2093 32 (.aload_n 0) 1 = true := by decide +kernel
theorem ci_2093_33 : ab_at 2093 33 (.iconst 1) 1 = true := by decide +kernel
theorem ci_2093_34 : ab_at 2093 34 (.invokevirtual 184) 3 = true := by decide +kernel
theorem ci_2093_38 : ab_at 2093 38 (.aload_n 0) 1 = true := by decide +kernel
theorem ci_2093_39 : ab_at 2093 39 (.getfield 462) 3 = true := by decide +kernel
theorem ci_2093_42 : ab_at 2093 42 (.bipush 20) 2 = true := by decide +kernel
theorem ci_2093_44 : ab_at 2093 44 (.if_icmp .eq 12) 3 = true := by decide +kernel
theorem ci_2093_47 : ab_at 2093 47 (.aload_n 0) 1 = true := by decide +kernel
theorem ci_2093_48 : ab_at 2093 48 (.getfield 456) 3 = true := by decide +kernel
theorem ci_2093_51 : ab_at 2093 51 (.bipush 8) 2 = true := by decide +kernel
theorem ci_2093_53 : ab_at 2093 53 (.if_icmp .le 9) 3 = true := by decide +kernel
theorem ci_2093_56 : ab_at 2093 56 (.aload_n 0) 1 = true := by decide +kernel
theorem ci_2093_57 : ab_at 2093 57 (.iconst 4) 1 = true := by decide +kernel
theorem ci_2093_58 : ab_at 2093 58 (.invokevirtual 184) 3 = true := by decide +kernel
theorem ci_2093_62 : ab_at 2093 62 (.aload_n 0) 1 = true := by decide +kernel
theorem ci_2093_63 : ab_at 2093 63 (.dup) 1 = true := by decide +kernel
theorem ci_2093_64 : ab_at 2093 64 (.getfield 462) 3 = true := by decide +kernel
theorem ci_2093_67 : ab_at 2093 67 (.iconst 1) 1 = true := by decide +kernel
theorem ci_2093_68 : ab_at 2093 68 (.iadd) 1 = true := by decide +kernel
theorem ci_2093_69 : ab_at 2093 69 (.putfield 462) 3 = true := by decide +kernel
theorem ci_2093_72 : ab_at 2093 72 (.aload_n 0) 1 = true := by decide +kernel
theorem ci_2093_73 : ab_at 2093 73 (.invokevirtual 187) 3 = true := by decide +kernel
theorem ci_2093_76 : ab_at 2093 76 (.iload_n 1) 1 = true := by decide +kernel
theorem ci_2093_77 : ab_at 2093 77 (.ifCond .ne 7) 3 = true := by decide +kernel
theorem ci_2093_80 : ab_at 2093 80 (.iload_n 2) 1 = true := by decide +kernel
theorem ci_2093_81 : ab_at 2093 81 (.ifCond .eq 45) 3 = true := by decide +kernel
theorem ci_2093_84 : ab_at 2093 84 (.aload_n 0) 1 = true := by decide +kernel
theorem ci_2093_85 : ab_at 2093 85 (.getfield 83) 3 = true := by decide +kernel
theorem ci_2093_88 : ab_at 2093 88 (.aload_n 0) 1 = true := by decide +kernel
theorem ci_2093_89 : ab_at 2093 89 (.getfield 449) 3 = true := by decide +kernel
theorem ci_2093_92 : ab_at 2093 92 (.iload_n 1) 1 = true := by decide +kernel
theorem ci_2093_93 : ab_at 2093 93 (.ifCond .eq 8) 3 = true := by decide +kernel
theorem ci_2093_96 : ab_at 2093 96 (.bipush 20) 2 = true := by decide +kernel
theorem ci_2093_98 : ab_at 2093 98 (.goto 5) 3 = true := by decide +kernel
theorem ci_2093_101 : ab_at 2093 101 (.bipush 23) 2 = true := by decide +kernel
theorem ci_2093_103 : ab_at 2093 103 (.iastore) 1 = true := by decide +kernel
theorem ci_2093_104 : ab_at 2093 104 (.aload_n 0) 1 = true := by decide +kernel
theorem ci_2093_105 : ab_at 2093 105 (.dup) 1 = true := by decide +kernel
theorem ci_2093_106 : ab_at 2093 106 (.getfield 449) 3 = true := by decide +kernel
theorem ci_2093_109 : ab_at 2093 109 (.iconst 1) 1 = true := by decide +kernel
theorem ci_2093_110 : ab_at 2093 110 (.iadd) 1 = true := by decide +kernel
theorem ci_2093_111 : ab_at 2093 111 (.putfield 449) 3 = true := by decide +kernel
theorem ci_2093_114 : ab_at 2093 114 (.aload_n 0) 1 = true := by decide +kernel
theorem ci_2093_115 : ab_at 2093 115 (.dup) 1 = true := by decide +kernel
theorem ci_2093_116 : ab_at 2093 116 (.getfield 456) 3 = true := by decide +kernel
theorem ci_2093_119 : ab_at 2093 119 (.iconst 1) 1 = true := by decide +kernel
theorem ci_2093_120 : ab_at 2093 120 (.iadd) 1 = true := by decide +kernel
theorem ci_2093_121 : ab_at 2093 121 (.putfield 456) 3 = true := by decide +kernel
theorem ci_2093_124 : ab_at 2093 124 (.iconst 1) 1 = true := by decide +kernel
theorem ci_2093_126 : ab_at 2093 126 (.aload_n 0) 1 = true := by decide +kernel
theorem ci_2093_127 : ab_at 2093 127 (.iconst 1) 1 = true := by decide +kernel
theorem ci_2093_128 : ab_at 2093 128 (.putfield 465) 3 = true := by decide +kernel
theorem ci_2093_131 : ab_at 2093 131 (.iload_n 3) 1 = true := by decide +kernel
theorem ci_2093_132 : ab_at 2093 132 (.iconst 5) 1 = true := by decide +kernel
theorem ci_2093_133 : ab_at 2093 133 (.if_icmp .ge 12) 3 = true := by decide +kernel
theorem ci_2093_136 : ab_at 2093 136 (.aload_n 0) 1 = true := by decide +kernel
theorem ci_2093_137 : ab_at 2093 137 (.iload_n 3) 1 = true := by decide +kernel
theorem ci_2093_138 : ab_at 2093 138 (.iconst 0) 1 = true := by decide +kernel
theorem ci_2093_139 : ab_at 2093 139 (.iconst 0) 1 = true := by decide +kernel
theorem ci_2093_140 : ab_at 2093 140 (.invokevirtual 452) 3 = true := by decide +kernel
theorem ci_2093_143 : ab_at 2093 143 (.iconst 1) 1 = true := by decide +kernel
theorem ci_2093_145 : ab_at 2093 145 (.iload_n 3) 1 = true := by decide +kernel
theorem ci_2093_146 : ab_at 2093 146 (.bipush 7) 2 = true := by decide +kernel
theorem ci_2093_148 : ab_at 2093 148 (.if_icmp .ge 35) 3 = true := by decide +kernel
theorem ci_2093_151 : ab_at 2093 151 (.aload_n 0) 1 = true := by decide +kernel
theorem ci_2093_152 : ab_at 2093 152 (.iconst 0) 1 = true := by decide +kernel
theorem ci_2093_153 : ab_at 2093 153 (.aload_n 0) 1 = true := by decide +kernel
theorem ci_2093_154 : ab_at 2093 154 (.getfield 33) 3 = true := by decide +kernel
theorem ci_2093_157 : ab_at 2093 157 (.iconst 0) 1 = true := by decide +kernel
theorem ci_2093_158 : ab_at 2093 158 (.iaload) 1 = true := by decide +kernel
theorem ci_2093_159 : ab_at 2093 159 (.invokevirtual 209) 3 = true := by decide +kernel
theorem ci_2093_162 : ab_at 2093 162 (.ifCond .ne 5) 3 = true := by decide +kernel
theorem ci_2093_165 : ab_at 2093 165 (.iconst 0) 1 = true := by decide +kernel
theorem ci_2093_167 : ab_at 2093 167 (.aload_n 0) 1 = true := by decide +kernel
theorem ci_2093_168 : ab_at 2093 168 (.iload_n 3) 1 = true := by decide +kernel
theorem ci_2093_169 : ab_at 2093 169 (.iconst 0) 1 = true := by decide +kernel
theorem ci_2093_170 : ab_at 2093 170 (.aload_n 0) 1 = true := by decide +kernel
theorem ci_2093_171 : ab_at 2093 171 (.getfield 194) 3 = true := by decide +kernel
theorem ci_2093_174 : ab_at 2093 174 (.invokevirtual 452) 3 = true := by decide +kernel
theorem ci_2093_177 : ab_at 2093 177 (.aload_n 0) 1 = true := by decide +kernel
theorem ci_2093_178 : ab_at 2093 178 (.invokevirtual 187) 3 = true := by decide +kernel
theorem ci_2093_181 : ab_at 2093 181 (.iconst 1) 1 = true := by decide +kernel
theorem ci_2093_183 : ab_at 2093 183 (.aload_n 0) 1 = true := by decide +kernel
theorem ci_2093_184 : ab_at 2093 184 (.getfield 158) 3 = true := by decide +kernel
theorem ci_2093_187 : ab_at 2093 187 (.iconst 3) 1 = true := by decide +kernel
theorem ci_2093_188 : ab_at 2093 188 (.if_icmp .ne 21) 3 = true := by decide +kernel
theorem ci_2093_191 : ab_at 2093 191 (.aload_n 0) 1 = true := by decide +kernel
theorem ci_2093_192 : ab_at 2093 192 (.getfield 168) 3 = true := by decide +kernel
theorem ci_2093_195 : ab_at 2093 195 (.bipush 60) 2 = true := by decide +kernel
theorem ci_2093_197 : ab_at 2093 197 (.if_icmp .lt 12) 3 = true := by decide +kernel
theorem ci_2093_200 : ab_at 2093 200 (.aload_n 0) 1 = true := by decide +kernel
theorem ci_2093_201 : ab_at 2093 201 (.getfield 168) 3 = true := by decide +kernel
theorem ci_2093_204 : ab_at 2093 204 (.bipush 62) 2 = true := by decide +kernel
theorem ci_2093_206 : ab_at 2093 206 (.if_icmp .le 9) 3 = true := by decide +kernel
theorem ci_2093_209 : ab_at 2093 209 (.aload_n 0) 1 = true := by decide +kernel
theorem ci_2093_210 : ab_at 2093 210 (.iconst 1) 1 = true := by decide +kernel
theorem ci_2093_211 : ab_at 2093 211 (.invokevirtual 184) 3 = true := by decide +kernel
theorem ci_2093_215 : ab_at 2093 215 (.aload_n 0) 1 = true := by decide +kernel
theorem ci_2093_216 : ab_at 2093 216 (.getfield 168) 3 = true := by decide +kernel
theorem ci_2093_219 : ab_at 2093 219 (.istore 4) 2 = true := by decide +kernel
theorem ci_2093_221 : ab_at 2093 221 (.aload_n 0) 1 = true := by decide +kernel
theorem ci_2093_222 : ab_at 2093 222 (.invokevirtual 187) 3 = true := by decide +kernel
theorem ci_2093_225 : ab_at 2093 225 (.aload_n 0) 1 = true := by decide +kernel
theorem ci_2093_226 : ab_at 2093 226 (.getfield 158) 3 = true := by decide +kernel
theorem ci_2093_229 : ab_at 2093 229 (.iconst 2) 1 = true := by decide +kernel
theorem ci_2093_230 : ab_at 2093 230 (.if_icmp .eq 9) 3 = true := by decide +kernel
theorem ci_2093_233 : ab_at 2093 233 (.aload_n 0) 1 = true := by decide +kernel
theorem ci_2093_234 : ab_at 2093 234 (.iconst 1) 1 = true := by decide +kernel
theorem ci_2093_235 : ab_at 2093 235 (.invokevirtual 184) 3 = true := by decide +kernel
theorem ci_2093_239 : ab_at 2093 239 (.aload_n 0) 1 = true := by decide +kernel
theorem ci_2093_240 : ab_at 2093 240 (.iload_n 3) 1 = true := by decide +kernel
theorem ci_2093_241 : ab_at 2093 241 (.iload 4) 2 = true := by decide +kernel
theorem ci_2093_243 : ab_at 2093 243 (.aload_n 0) 1 = true := by decide +kernel
theorem ci_2093_244 : ab_at 2093 244 (.getfield 168) 3 = true := by decide +kernel
theorem ci_2093_247 : ab_at 2093 247 (.invokevirtual 452) 3 = true := by decide +kernel
theorem ci_2093_250 : ab_at 2093 250 (.aload_n 0) 1 = true := by decide +kernel
theorem ci_2093_251 : ab_at 2093 251 (.invokevirtual 187) 3 = true := by decide +kernel
theorem ci_2093_254 : ab_at 2093 254 (.iconst 1) 1 = true := by decide +kernel
theorem op_38 {sc : List Value} {sp d : Nat} (hsc : ab_osc sc) {h c0 : eg_H} {c t n : Nat} (hn : n ≤ 20) (hct : c + t ≤ 2 * n) (s5 : S5 c0 c t n 0 0) (hp : ab_hp c0) (hf : ab_fr MSN c0 h) {x1 x2 x3 : Int32} (hlf : -1 ≤ x3.toInt ∧ x3.toInt ≤ 9) (hor : x1.toInt ≠ 0 ∨ x2.toInt ≠ 0 ∨ 0 ≤ x3.toInt) {ls : eg_L} (l0 : eg_find 0 ls = some (.ref 182)) (l1 : eg_find 1 ls = some (.int x1)) (l2 : eg_find 2 ls = some (.int x2)) (l3 : eg_find 3 ls = some (.int x3)) : hs sc sp 2093 11 (d + 4) (fun pc' _ st' h' => ∃ ik vo, ab_ret 2093 pc' = some ik ∧ eg_rv (eg_md 2093).2.2.2 ik st' = some vo ∧ ab_hp h' ∧ ab_fr MSN h' h ∧ ∃ r : Int32, vo = some (.int r) ∧ (r.toInt = 0 ∨ (r.toInt = 1 ∧ n + 1 ≤ 20 ∧ ∃ c' t' w' : Nat, S5 h' c' t' (n + 1) w' (w' : Int) ∧ c' + t' + w' ≤ 2 * (n + 1) ∧ w' ≤ 1))) 38 ls [] c0 := by
  refine hs_aload_n ci_2093_38 l0 ?_
  refine hs_gfi 46 ci_2093_39 (by decide +kernel) hp.1 ?_
  refine hs_bipush ci_2093_42 ?_
  refine hs_ic (t := 56) ci_2093_44 rfl (fun b44 => ?_) (fun b44 => ?_)
  · simp only [hs_cd, ab_not] at b44
    refine hs_aload_n ci_2093_56 l0 ?_
    refine hs_iconst ci_2093_57 ?_
    refine hs_cv 1687 11 1 ci_2093_58 (by decide +kernel) (by decide +kernel) hp.1 rfl (by rw [ml_1687]; rfl) (c_bad (d := d + 2) hsc (by decide) (by decide) hp) ?_
    rintro v9 k1 ⟨hp2, f2, r58, e8, r58a, r58b⟩
    rw [e8]
    clear e8 v9
    simp only [Option.toList, List.cons_append, List.nil_append]
    replace s5 := s5.same (h' := k1) (hv_fr f2 (by rfl)) (hv_fr f2 (by rfl)) (hv_fr f2 (by rfl)) (hv_fr f2 (by rfl)) (fun j => hv_fr f2 (by rfl)) (fun j => hv_fr f2 (by rfl))
    replace hf := (fr_sub (M := MSN) (by decide +kernel) f2).tr hf
    replace hp := hp2
    clear hp2
    obtain rfl : r58 = 0 := Int32.toInt_inj.mp (by show r58.toInt = 0; omega)
    exact hs_k ⟨3, some (.int 0), by decide +kernel, by rw [rt_2093]; rfl, hp, hf, 0, rfl, Or.inl rfl⟩
  · simp only [hs_cd, ab_not] at b44
    refine hs_aload_n ci_2093_47 l0 ?_
    refine hs_gfi 48 ci_2093_48 (by decide +kernel) hp.1 ?_
    refine hs_bipush ci_2093_51 ?_
    refine hs_ic (t := 62) ci_2093_53 rfl (fun b53 => ?_) (fun b53 => ?_)
    · simp only [hs_cd, ab_not] at b53
      refine hs_aload_n ci_2093_62 l0 ?_
      refine hs_dup ci_2093_63 rfl ?_
      refine hs_gfi 46 ci_2093_64 (by decide +kernel) hp.1 ?_
      refine hs_iconst ci_2093_67 ?_
      refine hs_iadd ci_2093_68 ?_
      have hn20 : n < 20 := by
        have e20 : (Int8.ofInt 20).toInt32.toInt = 20 := rfl
        have := s5.2.2.1
        omega
      have e5 : (hv c0 182 46 + Int32.ofInt 1).toInt = ((n + 1 : Nat) : Int) := (i32_add s5.2.2.1 (b := 1) rfl (by omega) (by omega)).trans (by omega)
      refine hs_pfi 46 (-2147483648) 2147483647 ci_2093_69 (by decide +kernel) hp.1 (ab_ige _) (ab_ile _) ?_
      intro j0 w0
      replace hf := (w0.fr (M := MSN) rfl).tr hf
      replace hp : ab_hp j0 := ⟨w0.1, hp.2.set (by unfold ab_pr; rfl) w0.2⟩
      replace s5 := s5.ones w0 e5
      clear w0 e5
      refine hs_aload_n ci_2093_72 l0 ?_
      refine hs_cv 1658 11 0 ci_2093_73 (by decide +kernel) (by decide +kernel) hp.1 rfl (by rw [ml_1658]; rfl) (c_next (d := d + 1) hsc hp) ?_
      rintro v9 k2 ⟨hp2, f2, e8⟩
      rw [e8]
      clear e8 v9
      simp only [Option.toList, List.cons_append, List.nil_append]
      replace s5 := s5.same (h' := k2) (hv_fr f2 (by rfl)) (hv_fr f2 (by rfl)) (hv_fr f2 (by rfl)) (hv_fr f2 (by rfl)) (fun j => hv_fr f2 (by rfl)) (fun j => hv_fr f2 (by rfl))
      replace hf := (fr_sub (M := MSN) (by decide +kernel) f2).tr hf
      replace hp := hp2
      clear hp2
      refine hs_iload_n ci_2093_76 l1 ?_
      refine hs_if (t := 84) ci_2093_77 rfl (fun b77 => ?_) (fun b77 => ?_)
      · simp only [hs_cd, ab_not] at b77
        refine hs_aload_n ci_2093_84 l0 ?_
        refine hs_gfr 44 199 ci_2093_85 (by decide +kernel) hp.1 ?_
        refine hs_aload_n ci_2093_88 l0 ?_
        refine hs_gfi 47 ci_2093_89 (by decide +kernel) hp.1 ?_
        refine hs_iload_n ci_2093_92 l1 ?_
        refine hs_if (t := 101) ci_2093_93 rfl (fun b93 => ?_) (fun b93 => ?_)
        · simp only [hs_cd, ab_not] at b93
          refine hs_bipush ci_2093_101 ?_
          refine hs_ias1 (0 + t) ci_2093_103 (s5.2.1.trans (by omega)) (ckq_v gq_sk t (by omega)) hp.1 (ab_ige _) (ab_ile _) ?_
          intro j1 w1
          replace hf := (w1.fr (M := MSN) (SKIN (by omega))).tr hf
          replace hp : ab_hp j1 := ⟨w1.1, hp.2.set (by unfold ab_pr; rfl) w1.2⟩
          have ejt : hv j1 182 47 = hv k2 182 47 := by rw [w1.v, if_neg (fun q => absurd q.1 (by decide))]
          refine hs_aload_n ci_2093_104 l0 ?_
          refine hs_dup ci_2093_105 rfl ?_
          refine hs_gfi 47 ci_2093_106 (by decide +kernel) hp.1 ?_
          refine hs_iconst ci_2093_109 ?_
          refine hs_iadd ci_2093_110 ?_
          have e5 : (hv j1 182 47 + Int32.ofInt 1).toInt = ((t + 1 : Nat) : Int) := by rw [ejt]; exact (i32_add s5.2.1 (b := 1) rfl (by omega) (by omega)).trans (by omega)
          refine hs_pfi 47 0 45 ci_2093_111 (by decide +kernel) hp.1 (by rw [e5]; omega) (by rw [e5]; omega) ?_
          intro j2 w2
          replace hf := (w2.fr (M := MSN) rfl).tr hf
          replace hp : ab_hp j2 := ⟨w2.1, hp.2.set (by unfold ab_pr; rfl) w2.2⟩
          refine hs_aload_n ci_2093_114 l0 ?_
          refine hs_dup ci_2093_115 rfl ?_
          refine hs_gfi 48 ci_2093_116 (by decide +kernel) hp.1 ?_
          refine hs_iconst ci_2093_119 ?_
          refine hs_iadd ci_2093_120 ?_
          refine hs_pfi 48 (-2147483648) (2147483647) ci_2093_121 (by decide +kernel) hp.1 (ab_ige _) (ab_ile _) ?_
          intro j3 w3
          replace hf := (w3.fr (M := MSN) rfl).tr hf
          replace hp : ab_hp j3 := ⟨w3.1, hp.2.set (by unfold ab_pr; rfl) w3.2⟩
          replace s5 := s5.pushB w1 w2 w3 e5
          refine hs_iconst ci_2093_124 ?_
          exact hs_k ⟨3, some (.int _), by decide +kernel, by rw [rt_2093]; rfl, hp, hf, _, rfl, Or.inr ⟨rfl, by omega, c, t + 1, 0, s5, by omega, by omega⟩⟩
        · simp only [hs_cd, ab_not] at b93
          refine hs_bipush ci_2093_96 ?_
          refine hs_goto (t := 103) ci_2093_98 rfl ?_
          refine hs_ias1 (0 + t) ci_2093_103 (s5.2.1.trans (by omega)) (ckq_v gq_sk t (by omega)) hp.1 (ab_ige _) (ab_ile _) ?_
          intro j1 w1
          replace hf := (w1.fr (M := MSN) (SKIN (by omega))).tr hf
          replace hp : ab_hp j1 := ⟨w1.1, hp.2.set (by unfold ab_pr; rfl) w1.2⟩
          have ejt : hv j1 182 47 = hv k2 182 47 := by rw [w1.v, if_neg (fun q => absurd q.1 (by decide))]
          refine hs_aload_n ci_2093_104 l0 ?_
          refine hs_dup ci_2093_105 rfl ?_
          refine hs_gfi 47 ci_2093_106 (by decide +kernel) hp.1 ?_
          refine hs_iconst ci_2093_109 ?_
          refine hs_iadd ci_2093_110 ?_
          have e5 : (hv j1 182 47 + Int32.ofInt 1).toInt = ((t + 1 : Nat) : Int) := by rw [ejt]; exact (i32_add s5.2.1 (b := 1) rfl (by omega) (by omega)).trans (by omega)
          refine hs_pfi 47 0 45 ci_2093_111 (by decide +kernel) hp.1 (by rw [e5]; omega) (by rw [e5]; omega) ?_
          intro j2 w2
          replace hf := (w2.fr (M := MSN) rfl).tr hf
          replace hp : ab_hp j2 := ⟨w2.1, hp.2.set (by unfold ab_pr; rfl) w2.2⟩
          refine hs_aload_n ci_2093_114 l0 ?_
          refine hs_dup ci_2093_115 rfl ?_
          refine hs_gfi 48 ci_2093_116 (by decide +kernel) hp.1 ?_
          refine hs_iconst ci_2093_119 ?_
          refine hs_iadd ci_2093_120 ?_
          refine hs_pfi 48 (-2147483648) (2147483647) ci_2093_121 (by decide +kernel) hp.1 (ab_ige _) (ab_ile _) ?_
          intro j3 w3
          replace hf := (w3.fr (M := MSN) rfl).tr hf
          replace hp : ab_hp j3 := ⟨w3.1, hp.2.set (by unfold ab_pr; rfl) w3.2⟩
          replace s5 := s5.pushB w1 w2 w3 e5
          refine hs_iconst ci_2093_124 ?_
          exact hs_k ⟨3, some (.int _), by decide +kernel, by rw [rt_2093]; rfl, hp, hf, _, rfl, Or.inr ⟨rfl, by omega, c, t + 1, 0, s5, by omega, by omega⟩⟩
      · simp only [hs_cd, ab_not] at b77
        refine hs_iload_n ci_2093_80 l2 ?_
        refine hs_if (t := 126) ci_2093_81 rfl (fun b81 => ?_) (fun b81 => ?_)
        · simp only [hs_cd, ab_not] at b81
          refine hs_aload_n ci_2093_126 l0 ?_
          refine hs_iconst ci_2093_127 ?_
          refine hs_pfi 49 0 1 ci_2093_128 (by decide +kernel) hp.1 (by decide) (by decide) ?_
          intro j4 w4
          replace hf := (w4.fr (M := MSN) rfl).tr hf
          replace hp : ab_hp j4 := ⟨w4.1, hp.2.set (by unfold ab_pr; rfl) w4.2⟩
          replace s5 := s5.whole w4 rfl
          have h3 : 0 ≤ x3.toInt := by omega
          clear w4
          refine hs_iload_n ci_2093_131 l3 ?_
          refine hs_iconst ci_2093_132 ?_
          refine hs_ic (t := 145) ci_2093_133 rfl (fun b133 => ?_) (fun b133 => ?_)
          · simp only [hs_cd, ab_not] at b133
            refine hs_iload_n ci_2093_145 l3 ?_
            refine hs_bipush ci_2093_146 ?_
            refine hs_ic (t := 183) ci_2093_148 rfl (fun b148 => ?_) (fun b148 => ?_)
            · simp only [hs_cd, ab_not] at b148
              refine hs_aload_n ci_2093_183 l0 ?_
              refine hs_gfi 11 ci_2093_184 (by decide +kernel) hp.1 ?_
              refine hs_iconst ci_2093_187 ?_
              refine hs_ic (t := 209) ci_2093_188 rfl (fun b188 => ?_) (fun b188 => ?_)
              · simp only [hs_cd, ab_not] at b188
                refine hs_aload_n ci_2093_209 l0 ?_
                refine hs_iconst ci_2093_210 ?_
                refine hs_cv 1687 11 1 ci_2093_211 (by decide +kernel) (by decide +kernel) hp.1 rfl (by rw [ml_1687]; rfl) (c_bad (d := d + 2) hsc (by decide) (by decide) hp) ?_
                rintro v9 k7 ⟨hp2, f2, r211, e8, r211a, r211b⟩
                rw [e8]
                clear e8 v9
                simp only [Option.toList, List.cons_append, List.nil_append]
                replace s5 := s5.same (h' := k7) (hv_fr f2 (by rfl)) (hv_fr f2 (by rfl)) (hv_fr f2 (by rfl)) (hv_fr f2 (by rfl)) (fun j => hv_fr f2 (by rfl)) (fun j => hv_fr f2 (by rfl))
                replace hf := (fr_sub (M := MSN) (by decide +kernel) f2).tr hf
                replace hp := hp2
                clear hp2
                obtain rfl : r211 = 0 := Int32.toInt_inj.mp (by show r211.toInt = 0; omega)
                exact hs_k ⟨3, some (.int 0), by decide +kernel, by rw [rt_2093]; rfl, hp, hf, 0, rfl, Or.inl rfl⟩
              · simp only [hs_cd, ab_not] at b188
                refine hs_aload_n ci_2093_191 l0 ?_
                refine hs_gfi 14 ci_2093_192 (by decide +kernel) hp.1 ?_
                refine hs_bipush ci_2093_195 ?_
                refine hs_ic (t := 209) ci_2093_197 rfl (fun b197 => ?_) (fun b197 => ?_)
                · simp only [hs_cd, ab_not] at b197
                  refine hs_aload_n ci_2093_209 l0 ?_
                  refine hs_iconst ci_2093_210 ?_
                  refine hs_cv 1687 11 1 ci_2093_211 (by decide +kernel) (by decide +kernel) hp.1 rfl (by rw [ml_1687]; rfl) (c_bad (d := d + 2) hsc (by decide) (by decide) hp) ?_
                  rintro v9 k7 ⟨hp2, f2, r211, e8, r211a, r211b⟩
                  rw [e8]
                  clear e8 v9
                  simp only [Option.toList, List.cons_append, List.nil_append]
                  replace s5 := s5.same (h' := k7) (hv_fr f2 (by rfl)) (hv_fr f2 (by rfl)) (hv_fr f2 (by rfl)) (hv_fr f2 (by rfl)) (fun j => hv_fr f2 (by rfl)) (fun j => hv_fr f2 (by rfl))
                  replace hf := (fr_sub (M := MSN) (by decide +kernel) f2).tr hf
                  replace hp := hp2
                  clear hp2
                  obtain rfl : r211 = 0 := Int32.toInt_inj.mp (by show r211.toInt = 0; omega)
                  exact hs_k ⟨3, some (.int 0), by decide +kernel, by rw [rt_2093]; rfl, hp, hf, 0, rfl, Or.inl rfl⟩
                · simp only [hs_cd, ab_not] at b197
                  refine hs_aload_n ci_2093_200 l0 ?_
                  refine hs_gfi 14 ci_2093_201 (by decide +kernel) hp.1 ?_
                  refine hs_bipush ci_2093_204 ?_
                  refine hs_ic (t := 215) ci_2093_206 rfl (fun b206 => ?_) (fun b206 => ?_)
                  · simp only [hs_cd, ab_not] at b206
                    refine hs_aload_n ci_2093_215 l0 ?_
                    refine hs_gfi 14 ci_2093_216 (by decide +kernel) hp.1 ?_
                    refine hs_istore ci_2093_219 (by decide +kernel) ?_
                    intro ls9 q9
                    replace l0 := q9.2 0 _ (by decide) rfl l0
                    replace l1 := q9.2 1 _ (by decide) rfl l1
                    replace l2 := q9.2 2 _ (by decide) rfl l2
                    replace l3 := q9.2 3 _ (by decide) rfl l3
                    have l4 := q9.1
                    clear q9
                    refine hs_aload_n ci_2093_221 l0 ?_
                    refine hs_cv 1658 11 0 ci_2093_222 (by decide +kernel) (by decide +kernel) hp.1 rfl (by rw [ml_1658]; rfl) (c_next (d := d + 1) hsc hp) ?_
                    rintro v9 k8 ⟨hp2, f2, e8⟩
                    rw [e8]
                    clear e8 v9
                    simp only [Option.toList, List.cons_append, List.nil_append]
                    replace s5 := s5.same (h' := k8) (hv_fr f2 (by rfl)) (hv_fr f2 (by rfl)) (hv_fr f2 (by rfl)) (hv_fr f2 (by rfl)) (fun j => hv_fr f2 (by rfl)) (fun j => hv_fr f2 (by rfl))
                    replace hf := (fr_sub (M := MSN) (by decide +kernel) f2).tr hf
                    replace hp := hp2
                    clear hp2
                    refine hs_aload_n ci_2093_225 l0 ?_
                    refine hs_gfi 11 ci_2093_226 (by decide +kernel) hp.1 ?_
                    refine hs_iconst ci_2093_229 ?_
                    refine hs_ic (t := 239) ci_2093_230 rfl (fun b230 => ?_) (fun b230 => ?_)
                    · simp only [hs_cd, ab_not] at b230
                      refine hs_aload_n ci_2093_239 l0 ?_
                      refine hs_iload_n ci_2093_240 l3 ?_
                      refine hs_iload ci_2093_241 l4 ?_
                      refine hs_aload_n ci_2093_243 l0 ?_
                      refine hs_gfi 14 ci_2093_244 (by decide +kernel) hp.1 ?_
                      refine hs_cv 2081 11 3 ci_2093_247 (by decide +kernel) (by decide +kernel) hp.1 rfl (by rw [ml_2081]; rfl) (c_code (d := d + 3) _ _ _ s5 (by omega) (fun q => by omega) (fun q => by omega) hp) ?_
                      rintro v9 k10 ⟨hp2, f2, s7, e8⟩
                      rw [e8]
                      clear e8 v9
                      simp only [Option.toList, List.cons_append, List.nil_append]
                      have ewf : wf_d x3.toInt = 1 := by
                        unfold wf_d
                        rw [if_neg (by omega), if_neg (by omega), if_neg (by omega)]
                      rw [ewf] at s7
                      clear s5
                      have s5 := s7
                      clear s7
                      replace hf := (fr_sub (M := MSN) (by decide +kernel) f2).tr hf
                      replace hp := hp2
                      clear hp2
                      refine hs_aload_n ci_2093_250 l0 ?_
                      refine hs_cv 1658 11 0 ci_2093_251 (by decide +kernel) (by decide +kernel) hp.1 rfl (by rw [ml_1658]; rfl) (c_next (d := d + 1) hsc hp) ?_
                      rintro v9 k11 ⟨hp2, f2, e8⟩
                      rw [e8]
                      clear e8 v9
                      simp only [Option.toList, List.cons_append, List.nil_append]
                      replace s5 := s5.same (h' := k11) (hv_fr f2 (by rfl)) (hv_fr f2 (by rfl)) (hv_fr f2 (by rfl)) (hv_fr f2 (by rfl)) (fun j => hv_fr f2 (by rfl)) (fun j => hv_fr f2 (by rfl))
                      replace hf := (fr_sub (M := MSN) (by decide +kernel) f2).tr hf
                      replace hp := hp2
                      clear hp2
                      refine hs_iconst ci_2093_254 ?_
                      exact hs_k ⟨3, some (.int _), by decide +kernel, by rw [rt_2093]; rfl, hp, hf, _, rfl, Or.inr ⟨rfl, by omega, c + 1, t, 1, s5, by omega, by omega⟩⟩
                    · simp only [hs_cd, ab_not] at b230
                      refine hs_aload_n ci_2093_233 l0 ?_
                      refine hs_iconst ci_2093_234 ?_
                      refine hs_cv 1687 11 1 ci_2093_235 (by decide +kernel) (by decide +kernel) hp.1 rfl (by rw [ml_1687]; rfl) (c_bad (d := d + 2) hsc (by decide) (by decide) hp) ?_
                      rintro v9 k9 ⟨hp2, f2, r235, e8, r235a, r235b⟩
                      rw [e8]
                      clear e8 v9
                      simp only [Option.toList, List.cons_append, List.nil_append]
                      replace s5 := s5.same (h' := k9) (hv_fr f2 (by rfl)) (hv_fr f2 (by rfl)) (hv_fr f2 (by rfl)) (hv_fr f2 (by rfl)) (fun j => hv_fr f2 (by rfl)) (fun j => hv_fr f2 (by rfl))
                      replace hf := (fr_sub (M := MSN) (by decide +kernel) f2).tr hf
                      replace hp := hp2
                      clear hp2
                      obtain rfl : r235 = 0 := Int32.toInt_inj.mp (by show r235.toInt = 0; omega)
                      exact hs_k ⟨3, some (.int 0), by decide +kernel, by rw [rt_2093]; rfl, hp, hf, 0, rfl, Or.inl rfl⟩
                  · simp only [hs_cd, ab_not] at b206
                    refine hs_aload_n ci_2093_209 l0 ?_
                    refine hs_iconst ci_2093_210 ?_
                    refine hs_cv 1687 11 1 ci_2093_211 (by decide +kernel) (by decide +kernel) hp.1 rfl (by rw [ml_1687]; rfl) (c_bad (d := d + 2) hsc (by decide) (by decide) hp) ?_
                    rintro v9 k7 ⟨hp2, f2, r211, e8, r211a, r211b⟩
                    rw [e8]
                    clear e8 v9
                    simp only [Option.toList, List.cons_append, List.nil_append]
                    replace s5 := s5.same (h' := k7) (hv_fr f2 (by rfl)) (hv_fr f2 (by rfl)) (hv_fr f2 (by rfl)) (hv_fr f2 (by rfl)) (fun j => hv_fr f2 (by rfl)) (fun j => hv_fr f2 (by rfl))
                    replace hf := (fr_sub (M := MSN) (by decide +kernel) f2).tr hf
                    replace hp := hp2
                    clear hp2
                    obtain rfl : r211 = 0 := Int32.toInt_inj.mp (by show r211.toInt = 0; omega)
                    exact hs_k ⟨3, some (.int 0), by decide +kernel, by rw [rt_2093]; rfl, hp, hf, 0, rfl, Or.inl rfl⟩
            · simp only [hs_cd, ab_not] at b148
              refine hs_aload_n ci_2093_151 l0 ?_
              refine hs_iconst ci_2093_152 ?_
              refine hs_aload_n ci_2093_153 l0 ?_
              refine hs_gfr 6 184 ci_2093_154 (by decide +kernel) hp.1 ?_
              refine hs_iconst ci_2093_157 ?_
              have g6 := gsl_b hp.1 gq_0
              simp only at g6
              refine hs_ial1 0 ci_2093_158 rfl gq_0 hp.1 ?_
              refine hs_cv 1730 11 2 ci_2093_159 (by decide +kernel) (by decide +kernel) hp.1 rfl (by rw [ml_1730]; rfl) (c_looks0 (d := d + 1) hsc rfl g6.1 g6.2 hp) ?_
              rintro v9 k4 ⟨hp2, f2, r159, e8, hr159⟩
              rw [e8]
              clear e8 v9
              simp only [Option.toList, List.cons_append, List.nil_append]
              replace s5 := s5.same (h' := k4) (hv_fr f2 (by rfl)) (hv_fr f2 (by rfl)) (hv_fr f2 (by rfl)) (hv_fr f2 (by rfl)) (fun j => hv_fr f2 (by rfl)) (fun j => hv_fr f2 (by rfl))
              replace hf := (fr_sub (M := MSN) (by decide +kernel) f2).tr hf
              replace hp := hp2
              clear hp2
              refine hs_if (t := 167) ci_2093_162 rfl (fun b162 => ?_) (fun b162 => ?_)
              · simp only [hs_cd, ab_not] at b162
                refine hs_aload_n ci_2093_167 l0 ?_
                refine hs_iload_n ci_2093_168 l3 ?_
                refine hs_iconst ci_2093_169 ?_
                refine hs_aload_n ci_2093_170 l0 ?_
                refine hs_gfi 18 ci_2093_171 (by decide +kernel) hp.1 ?_
                refine hs_cv 2081 11 3 ci_2093_174 (by decide +kernel) (by decide +kernel) hp.1 rfl (by rw [ml_2081]; rfl) (c_code (d := d + 3) _ _ _ s5 (by omega) (fun q => by omega) (fun q => by omega) hp) ?_
                rintro v9 k5 ⟨hp2, f2, s7, e8⟩
                rw [e8]
                clear e8 v9
                simp only [Option.toList, List.cons_append, List.nil_append]
                have ewf : wf_d x3.toInt = 1 := by
                  unfold wf_d
                  rw [if_neg (by omega), if_neg (by omega), if_neg (by omega)]
                rw [ewf] at s7
                clear s5
                have s5 := s7
                clear s7
                replace hf := (fr_sub (M := MSN) (by decide +kernel) f2).tr hf
                replace hp := hp2
                clear hp2
                refine hs_aload_n ci_2093_177 l0 ?_
                refine hs_cv 1658 11 0 ci_2093_178 (by decide +kernel) (by decide +kernel) hp.1 rfl (by rw [ml_1658]; rfl) (c_next (d := d + 1) hsc hp) ?_
                rintro v9 k6 ⟨hp2, f2, e8⟩
                rw [e8]
                clear e8 v9
                simp only [Option.toList, List.cons_append, List.nil_append]
                replace s5 := s5.same (h' := k6) (hv_fr f2 (by rfl)) (hv_fr f2 (by rfl)) (hv_fr f2 (by rfl)) (hv_fr f2 (by rfl)) (fun j => hv_fr f2 (by rfl)) (fun j => hv_fr f2 (by rfl))
                replace hf := (fr_sub (M := MSN) (by decide +kernel) f2).tr hf
                replace hp := hp2
                clear hp2
                refine hs_iconst ci_2093_181 ?_
                exact hs_k ⟨3, some (.int _), by decide +kernel, by rw [rt_2093]; rfl, hp, hf, _, rfl, Or.inr ⟨rfl, by omega, c + 1, t, 1, s5, by omega, by omega⟩⟩
              · simp only [hs_cd, ab_not] at b162
                refine hs_iconst ci_2093_165 ?_
                exact hs_k ⟨3, some (.int _), by decide +kernel, by rw [rt_2093]; rfl, hp, hf, _, rfl, Or.inl rfl⟩
          · simp only [hs_cd, ab_not] at b133
            refine hs_aload_n ci_2093_136 l0 ?_
            refine hs_iload_n ci_2093_137 l3 ?_
            refine hs_iconst ci_2093_138 ?_
            refine hs_iconst ci_2093_139 ?_
            refine hs_cv 2081 11 3 ci_2093_140 (by decide +kernel) (by decide +kernel) hp.1 rfl (by rw [ml_2081]; rfl) (c_code (d := d + 3) _ _ _ s5 (by omega) (fun q => by omega) (fun q => by omega) hp) ?_
            rintro v9 k3 ⟨hp2, f2, s7, e8⟩
            rw [e8]
            clear e8 v9
            simp only [Option.toList, List.cons_append, List.nil_append]
            have ewf : wf_d x3.toInt = 1 := by
              unfold wf_d
              rw [if_neg (by omega), if_neg (by omega), if_neg (by omega)]
            rw [ewf] at s7
            clear s5
            have s5 := s7
            clear s7
            replace hf := (fr_sub (M := MSN) (by decide +kernel) f2).tr hf
            replace hp := hp2
            clear hp2
            refine hs_iconst ci_2093_143 ?_
            exact hs_k ⟨3, some (.int _), by decide +kernel, by rw [rt_2093]; rfl, hp, hf, _, rfl, Or.inr ⟨rfl, by omega, c + 1, t, 1, s5, by omega, by omega⟩⟩
        · simp only [hs_cd, ab_not] at b81
          refine hs_aload_n ci_2093_84 l0 ?_
          refine hs_gfr 44 199 ci_2093_85 (by decide +kernel) hp.1 ?_
          refine hs_aload_n ci_2093_88 l0 ?_
          refine hs_gfi 47 ci_2093_89 (by decide +kernel) hp.1 ?_
          refine hs_iload_n ci_2093_92 l1 ?_
          refine hs_if (t := 101) ci_2093_93 rfl (fun b93 => ?_) (fun b93 => ?_)
          · simp only [hs_cd, ab_not] at b93
            refine hs_bipush ci_2093_101 ?_
            refine hs_ias1 (0 + t) ci_2093_103 (s5.2.1.trans (by omega)) (ckq_v gq_sk t (by omega)) hp.1 (ab_ige _) (ab_ile _) ?_
            intro j1 w1
            replace hf := (w1.fr (M := MSN) (SKIN (by omega))).tr hf
            replace hp : ab_hp j1 := ⟨w1.1, hp.2.set (by unfold ab_pr; rfl) w1.2⟩
            have ejt : hv j1 182 47 = hv k2 182 47 := by rw [w1.v, if_neg (fun q => absurd q.1 (by decide))]
            refine hs_aload_n ci_2093_104 l0 ?_
            refine hs_dup ci_2093_105 rfl ?_
            refine hs_gfi 47 ci_2093_106 (by decide +kernel) hp.1 ?_
            refine hs_iconst ci_2093_109 ?_
            refine hs_iadd ci_2093_110 ?_
            have e5 : (hv j1 182 47 + Int32.ofInt 1).toInt = ((t + 1 : Nat) : Int) := by rw [ejt]; exact (i32_add s5.2.1 (b := 1) rfl (by omega) (by omega)).trans (by omega)
            refine hs_pfi 47 0 45 ci_2093_111 (by decide +kernel) hp.1 (by rw [e5]; omega) (by rw [e5]; omega) ?_
            intro j2 w2
            replace hf := (w2.fr (M := MSN) rfl).tr hf
            replace hp : ab_hp j2 := ⟨w2.1, hp.2.set (by unfold ab_pr; rfl) w2.2⟩
            refine hs_aload_n ci_2093_114 l0 ?_
            refine hs_dup ci_2093_115 rfl ?_
            refine hs_gfi 48 ci_2093_116 (by decide +kernel) hp.1 ?_
            refine hs_iconst ci_2093_119 ?_
            refine hs_iadd ci_2093_120 ?_
            refine hs_pfi 48 (-2147483648) (2147483647) ci_2093_121 (by decide +kernel) hp.1 (ab_ige _) (ab_ile _) ?_
            intro j3 w3
            replace hf := (w3.fr (M := MSN) rfl).tr hf
            replace hp : ab_hp j3 := ⟨w3.1, hp.2.set (by unfold ab_pr; rfl) w3.2⟩
            replace s5 := s5.pushB w1 w2 w3 e5
            refine hs_iconst ci_2093_124 ?_
            exact hs_k ⟨3, some (.int _), by decide +kernel, by rw [rt_2093]; rfl, hp, hf, _, rfl, Or.inr ⟨rfl, by omega, c, t + 1, 0, s5, by omega, by omega⟩⟩
          · simp only [hs_cd, ab_not] at b93
            refine hs_bipush ci_2093_96 ?_
            refine hs_goto (t := 103) ci_2093_98 rfl ?_
            refine hs_ias1 (0 + t) ci_2093_103 (s5.2.1.trans (by omega)) (ckq_v gq_sk t (by omega)) hp.1 (ab_ige _) (ab_ile _) ?_
            intro j1 w1
            replace hf := (w1.fr (M := MSN) (SKIN (by omega))).tr hf
            replace hp : ab_hp j1 := ⟨w1.1, hp.2.set (by unfold ab_pr; rfl) w1.2⟩
            have ejt : hv j1 182 47 = hv k2 182 47 := by rw [w1.v, if_neg (fun q => absurd q.1 (by decide))]
            refine hs_aload_n ci_2093_104 l0 ?_
            refine hs_dup ci_2093_105 rfl ?_
            refine hs_gfi 47 ci_2093_106 (by decide +kernel) hp.1 ?_
            refine hs_iconst ci_2093_109 ?_
            refine hs_iadd ci_2093_110 ?_
            have e5 : (hv j1 182 47 + Int32.ofInt 1).toInt = ((t + 1 : Nat) : Int) := by rw [ejt]; exact (i32_add s5.2.1 (b := 1) rfl (by omega) (by omega)).trans (by omega)
            refine hs_pfi 47 0 45 ci_2093_111 (by decide +kernel) hp.1 (by rw [e5]; omega) (by rw [e5]; omega) ?_
            intro j2 w2
            replace hf := (w2.fr (M := MSN) rfl).tr hf
            replace hp : ab_hp j2 := ⟨w2.1, hp.2.set (by unfold ab_pr; rfl) w2.2⟩
            refine hs_aload_n ci_2093_114 l0 ?_
            refine hs_dup ci_2093_115 rfl ?_
            refine hs_gfi 48 ci_2093_116 (by decide +kernel) hp.1 ?_
            refine hs_iconst ci_2093_119 ?_
            refine hs_iadd ci_2093_120 ?_
            refine hs_pfi 48 (-2147483648) (2147483647) ci_2093_121 (by decide +kernel) hp.1 (ab_ige _) (ab_ile _) ?_
            intro j3 w3
            replace hf := (w3.fr (M := MSN) rfl).tr hf
            replace hp : ab_hp j3 := ⟨w3.1, hp.2.set (by unfold ab_pr; rfl) w3.2⟩
            replace s5 := s5.pushB w1 w2 w3 e5
            refine hs_iconst ci_2093_124 ?_
            exact hs_k ⟨3, some (.int _), by decide +kernel, by rw [rt_2093]; rfl, hp, hf, _, rfl, Or.inr ⟨rfl, by omega, c, t + 1, 0, s5, by omega, by omega⟩⟩
    · simp only [hs_cd, ab_not] at b53
      refine hs_aload_n ci_2093_56 l0 ?_
      refine hs_iconst ci_2093_57 ?_
      refine hs_cv 1687 11 1 ci_2093_58 (by decide +kernel) (by decide +kernel) hp.1 rfl (by rw [ml_1687]; rfl) (c_bad (d := d + 2) hsc (by decide) (by decide) hp) ?_
      rintro v9 k1 ⟨hp2, f2, r58, e8, r58a, r58b⟩
      rw [e8]
      clear e8 v9
      simp only [Option.toList, List.cons_append, List.nil_append]
      replace s5 := s5.same (h' := k1) (hv_fr f2 (by rfl)) (hv_fr f2 (by rfl)) (hv_fr f2 (by rfl)) (hv_fr f2 (by rfl)) (fun j => hv_fr f2 (by rfl)) (fun j => hv_fr f2 (by rfl))
      replace hf := (fr_sub (M := MSN) (by decide +kernel) f2).tr hf
      replace hp := hp2
      clear hp2
      obtain rfl : r58 = 0 := Int32.toInt_inj.mp (by show r58.toInt = 0; omega)
      exact hs_k ⟨3, some (.int 0), by decide +kernel, by rw [rt_2093]; rfl, hp, hf, 0, rfl, Or.inl rfl⟩
theorem c_operand {sc : List Value} {sp d : Nat} (hsc : ab_osc sc) {h : eg_H} {c t n : Nat} (hn : n ≤ 20) (hct : c + t ≤ 2 * n) (s5 : S5 h c t n 0 0) (hp : ab_hp h) : mc sc sp 2093 11 (d + 4) [.ref 182] h (fun vo h' => ab_hp h' ∧ ab_fr MSN h' h ∧ ∃ r : Int32, vo = some (.int r) ∧ (r.toInt = 0 ∨ (r.toInt = 1 ∧ n + 1 ≤ 20 ∧ ∃ c' t' w' : Nat, S5 h' c' t' (n + 1) w' (w' : Int) ∧ c' + t' + w' ≤ 2 * (n + 1) ∧ w' ≤ 1))) := by
  have l0 : eg_find 0 (eg_args 0 [.ref 182]) = some (.ref 182) := rfl
  have hf : ab_fr MSN h h := ab_fr.rf
  unfold mc
  refine hs_aload_n ci_2093_0 l0 ?_
  refine hs_ldc2 ci_2093_1 (by decide +kernel) (fun v9 => ?_)
  refine hs_cv 1676 11 1 ci_2093_4 (by decide +kernel) (by decide +kernel) hp.1 rfl (by rw [ml_1676]; rfl) (c_isWord (d := d + 2) hsc _ hp) ?_
  rintro v9 k12 ⟨hp2, f2, r4, e8, r4a, r4b⟩
  rw [e8]
  clear e8 v9
  simp only [Option.toList, List.cons_append, List.nil_append]
  replace s5 := s5.same (h' := k12) (hv_fr f2 (by rfl)) (hv_fr f2 (by rfl)) (hv_fr f2 (by rfl)) (hv_fr f2 (by rfl)) (fun j => hv_fr f2 (by rfl)) (fun j => hv_fr f2 (by rfl))
  replace hf := (fr_sub (M := MSN) (by decide +kernel) f2).tr hf
  replace hp := hp2
  clear hp2
  refine hs_istore_n ci_2093_7 (by decide +kernel) ?_
  intro ls9 q9
  replace l0 := q9.2 0 _ (by decide) rfl l0
  have l1 := q9.1
  clear q9
  refine hs_aload_n ci_2093_8 l0 ?_
  refine hs_bipush ci_2093_9 ?_
  refine hs_cv 1738 11 1 ci_2093_11 (by decide +kernel) (by decide +kernel) hp.1 rfl (by rw [ml_1738]; rfl) (c_isSign (d := d + 2) hsc (by decide) (by decide) hp) ?_
  rintro v9 k13 ⟨hp2, f2, r11, e8, r11a, r11b⟩
  rw [e8]
  clear e8 v9
  simp only [Option.toList, List.cons_append, List.nil_append]
  replace s5 := s5.same (h' := k13) (hv_fr f2 (by rfl)) (hv_fr f2 (by rfl)) (hv_fr f2 (by rfl)) (hv_fr f2 (by rfl)) (fun j => hv_fr f2 (by rfl)) (fun j => hv_fr f2 (by rfl))
  replace hf := (fr_sub (M := MSN) (by decide +kernel) f2).tr hf
  replace hp := hp2
  clear hp2
  refine hs_istore_n ci_2093_14 (by decide +kernel) ?_
  intro ls9 q9
  replace l0 := q9.2 0 _ (by decide) rfl l0
  replace l1 := q9.2 1 _ (by decide) rfl l1
  have l2 := q9.1
  clear q9
  refine hs_aload_n ci_2093_15 l0 ?_
  refine hs_cv 2097 11 0 ci_2093_16 (by decide +kernel) (by decide +kernel) hp.1 rfl (by rw [ml_2097]; rfl) (c_leafOf (d := d + 1) hsc hp) ?_
  rintro v9 k14 ⟨hp2, f2, r16, e8, r16a, r16b⟩
  rw [e8]
  clear e8 v9
  simp only [Option.toList, List.cons_append, List.nil_append]
  replace s5 := s5.same (h' := k14) (hv_fr f2 (by rfl)) (hv_fr f2 (by rfl)) (hv_fr f2 (by rfl)) (hv_fr f2 (by rfl)) (fun j => hv_fr f2 (by rfl)) (fun j => hv_fr f2 (by rfl))
  replace hf := (fr_sub (M := MSN) (by decide +kernel) f2).tr hf
  replace hp := hp2
  clear hp2
  refine hs_istore_n ci_2093_19 (by decide +kernel) ?_
  intro ls9 q9
  replace l0 := q9.2 0 _ (by decide) rfl l0
  replace l1 := q9.2 1 _ (by decide) rfl l1
  replace l2 := q9.2 2 _ (by decide) rfl l2
  have l3 := q9.1
  clear q9
  refine hs_iload_n ci_2093_20 l1 ?_
  refine hs_if (t := 38) ci_2093_21 rfl (fun b21 => ?_) (fun b21 => ?_)
  · simp only [hs_cd, ab_not] at b21
    exact op_38 hsc hn hct s5 hp hf ⟨r16a, r16b⟩ (by omega) l0 l1 l2 l3
  · simp only [hs_cd, ab_not] at b21
    refine hs_iload_n ci_2093_24 l2 ?_
    refine hs_if (t := 38) ci_2093_25 rfl (fun b25 => ?_) (fun b25 => ?_)
    · simp only [hs_cd, ab_not] at b25
      exact op_38 hsc hn hct s5 hp hf ⟨r16a, r16b⟩ (by omega) l0 l1 l2 l3
    · simp only [hs_cd, ab_not] at b25
      refine hs_iload_n ci_2093_28 l3 ?_
      refine hs_if (t := 38) ci_2093_29 rfl (fun b29 => ?_) (fun b29 => ?_)
      · simp only [hs_cd, ab_not] at b29
        exact op_38 hsc hn hct s5 hp hf ⟨r16a, r16b⟩ (by omega) l0 l1 l2 l3
      · simp only [hs_cd, ab_not] at b29
        refine hs_aload_n ci_2093_32 l0 ?_
        refine hs_iconst ci_2093_33 ?_
        refine hs_cv 1687 11 1 ci_2093_34 (by decide +kernel) (by decide +kernel) hp.1 rfl (by rw [ml_1687]; rfl) (c_bad (d := d + 2) hsc (by decide) (by decide) hp) ?_
        rintro v9 k15 ⟨hp2, f2, r34, e8, r34a, r34b⟩
        rw [e8]
        clear e8 v9
        simp only [Option.toList, List.cons_append, List.nil_append]
        replace s5 := s5.same (h' := k15) (hv_fr f2 (by rfl)) (hv_fr f2 (by rfl)) (hv_fr f2 (by rfl)) (hv_fr f2 (by rfl)) (fun j => hv_fr f2 (by rfl)) (fun j => hv_fr f2 (by rfl))
        replace hf := (fr_sub (M := MSN) (by decide +kernel) f2).tr hf
        replace hp := hp2
        clear hp2
        obtain rfl : r34 = 0 := Int32.toInt_inj.mp (by show r34.toInt = 0; omega)
        exact hs_k ⟨3, some (.int 0), by decide +kernel, by rw [rt_2093]; rfl, hp, hf, 0, rfl, Or.inl rfl⟩
abbrev MZS : ab_M := [(182, 4, 4), (182, 11, 18), (182, 45, 49), (184, 126, 261), (186, 0, 134), (199, 0, 44)]
theorem gz_184 {k : Nat} (h1 : 126 ≤ k) (h2 : k ≤ 261) : ab_inr MZS 184 k k = true := by
  unfold MZS
  unfold ab_inr
  simp only [show Nat.beq 184 182 = false from rfl, Bool.false_and, cond_false]
  unfold ab_inr
  simp only [show Nat.beq 184 182 = false from rfl, Bool.false_and, cond_false]
  unfold ab_inr
  simp only [show Nat.beq 184 182 = false from rfl, Bool.false_and, cond_false]
  exact in1 h1 h2
theorem sn_cp {sc : List Value} {sp d : Nat} {h0 h1 : eg_H} {c : Nat} (hc45 : c ≤ 45) {rd : Nat → Int32} (r : Nat) : ∀ (i : Nat) (xi : Int32) (ls : eg_L) (h : eg_H), i + r = 3 * c → xi.toInt = (i : Int) → ab_hp0 h → ab_fr MZS h h1 → (hv h 182 45).toInt = (c : Int) → (hv h 184 126).toInt = (c : Int) → (∀ j, hv h 186 j = rd j) → (∀ j, j < i → hv h 184 (127 + j) = rd j) → (∀ a k, ¬ a = 184 → ab_slot h a k = ab_slot h0 a k) → eg_find 0 ls = some (.ref 182) → eg_find 2 ls = some (.int xi) → hs sc sp 2073 11 d (fun pc' ls' st' h' => pc' = 176 ∧ st' = [] ∧ ab_hp0 h' ∧ ab_fr MZS h' h1 ∧ (hv h' 184 126).toInt = (c : Int) ∧ (∀ j, j < 3 * c → hv h' 184 (127 + j) = rd j) ∧ (∀ a k, ¬ a = 184 → ab_slot h' a k = ab_slot h0 a k) ∧ eg_find 0 ls' = some (.ref 182)) 145 ls [] h := by
  induction r with
  | zero =>
    intro i xi ls h hr hi hp hf hc h126 hrd hcp hot l0 l2
    have e3 := (i32_mul (x := Int32.ofInt 3) (a := 3) rfl hc (by omega) (by omega))
    refine hs_iload_n ci_2073_145 l2 ?_
    refine hs_iconst ci_2073_146 ?_
    refine hs_aload_n ci_2073_147 l0 ?_
    refine hs_gfi 45 ci_2073_148 (by decide +kernel) hp ?_
    refine hs_imul ci_2073_151 ?_
    refine hs_ic (t := 176) ci_2073_152 rfl (fun b152 => ?_) (fun b152 => ?_)
    · simp only [hs_cd, ab_not] at b152
      exact hs_k ⟨rfl, rfl, hp, hf, h126, fun j hj => hcp j (by omega), hot, l0⟩
    · simp only [hs_cd, ab_not] at b152
      omega
  | succ r ih =>
    intro i xi ls h hr hi hp hf hc h126 hrd hcp hot l0 l2
    have e3 := (i32_mul (x := Int32.ofInt 3) (a := 3) rfl hc (by omega) (by omega))
    refine hs_iload_n ci_2073_145 l2 ?_
    refine hs_iconst ci_2073_146 ?_
    refine hs_aload_n ci_2073_147 l0 ?_
    refine hs_gfi 45 ci_2073_148 (by decide +kernel) hp ?_
    refine hs_imul ci_2073_151 ?_
    refine hs_ic (t := 176) ci_2073_152 rfl (fun b152 => ?_) (fun b152 => ?_)
    · simp only [hs_cd, ab_not] at b152
      omega
    · simp only [hs_cd, ab_not] at b152
      refine hs_aload_n ci_2073_155 l0 ?_
      refine hs_gfr 6 184 ci_2073_156 (by decide +kernel) hp ?_
      refine hs_bipush ci_2073_159 ?_
      refine hs_iload_n ci_2073_161 l2 ?_
      refine hs_iadd ci_2073_162 ?_
      refine hs_aload_n ci_2073_163 l0 ?_
      refine hs_gfr 8 186 ci_2073_164 (by decide +kernel) hp ?_
      refine hs_iload_n ci_2073_167 l2 ?_
      refine hs_ial1 (0 + i) ci_2073_168 (hi.trans (by omega)) (ckq_v gq_rd i (by omega)) hp ?_
      refine hs_ias1 (127 + i) ci_2073_169 ((i32_add (a := 127) rfl hi (by omega) (by omega)).trans (by omega)) (ckq_v gq_cd i (by omega)) hp (ab_ige _) (ab_ile _) ?_
      intro j1 w9
      replace hf := (w9.fr (M := MZS) (gz_184 (by omega) (by omega))).tr hf
      replace hp := w9.1
      replace hc : (hv j1 182 45).toInt = (c : Int) := by rw [w9.v, if_neg (fun e => absurd e.1 (by decide))]; exact hc
      replace h126 : (hv j1 184 126).toInt = (c : Int) := by rw [w9.v, if_neg (by omega)]; exact h126
      have HX := hrd
      replace hrd : ∀ j, hv j1 186 j = rd j := fun j => by rw [w9.v, if_neg (fun e => absurd e.1 (by decide))]; exact hrd j
      replace hcp : ∀ j, j < i + 1 → hv j1 184 (127 + j) = rd j := fun j hj => by
        rw [w9.v]
        by_cases e : j = i
        · subst e
          rw [if_pos ⟨rfl, rfl⟩, HX (0 + j)]
          rw [Nat.zero_add]
        · rw [if_neg (by omega)]; exact hcp j (by omega)
      replace hot : ∀ a k, ¬ a = 184 → ab_slot j1 a k = ab_slot h0 a k := fun a k q => (w9.ne a k q).trans (hot a k q)
      refine hs_iinc ci_2073_170 (by decide +kernel) l2 ?_
      intro ls9 q9
      replace l0 := q9.2 0 _ (by decide) rfl l0
      have l2 := q9.1
      clear q9
      refine hs_goto (t := 145) ci_2073_173 rfl ?_
      exact ih (i + 1) _ _ _ (by omega) (by have := i32_add hi (y := Int32.ofInt 1) (b := 1) rfl (by omega) (by omega); rw [this]; omega) hp hf hc h126 hrd hcp hot l0 l2
