/-! BY HAND: a book is read and lived -/
abbrev MBQ : ab_M := [(182, 4, 4), (182, 11, 18), (182, 22, 22), (182, 41, 41), (184, 89, 125), (186, 0, 134), (189, 0, 9), (191, 0, 36), (198, 0, 3)]
def BI (h : eg_H) (t : Nat) : Prop := ∀ i, i < t → PR (hv h 186 (2 * i)).toInt (hv h 186 (2 * i + 1)).toInt
theorem BI.same {h h' : eg_H} {t : Nat} (b : BI h t) (e : ∀ j, j < 2 * t → hv h' 186 j = hv h 186 j) : BI h' t := fun i hi => by
  rw [e _ (by omega), e _ (by omega)]; exact b i hi
theorem gq_ta : ckn 4 (fun i => ckq 198 (0 + i) (-2147483648) 2147483647) = true := by decide +kernel
def KB (h0 : eg_H) (x1 : Int32) : Nat → eg_L → List Value → eg_H → Prop := fun pc' ls' st' h' => ab_hp h' ∧ ab_fr MBQ h' h0 ∧ ((pc' = 69 ∧ ∃ t : Int32, st' = [.int t]) ∨ (pc' = 181 ∧ st' = [] ∧ eg_find 0 ls' = some (.ref 182) ∧ eg_find 1 ls' = some (.int x1) ∧ ∃ x2 : Int32, eg_find 2 ls' = some (.int x2)))
theorem mq198 {k : Nat} (hk : k ≤ 3) : ab_inr MBQ 198 k k = true := by
  rcases (show k = 0 ∨ k = 1 ∨ k = 2 ∨ k = 3 by omega) with rfl | rfl | rfl | rfl <;> rfl

theorem ml_1734 : (eg_md 1734).2.2.1 = 2 := by decide +kernel
theorem rt_1734 : (eg_md 1734).2.2.2 = some .boolean := by decide +kernel
theorem ml_1938 : (eg_md 1938).2.2.1 = 2 := by decide +kernel
theorem rt_1938 : (eg_md 1938).2.2.2 = none := by decide +kernel
theorem ml_2065 : (eg_md 2065).2.2.1 = 4 := by decide +kernel
theorem rt_2065 : (eg_md 2065).2.2.2 = some .int := by decide +kernel
theorem ci_2057_39 : ab_at 2057 39 (.aload_n 0) 1 = true := by decide +kernel
theorem ci_2057_40 : ab_at 2057 40 (.getfield 158) 3 = true := by decide +kernel
theorem ci_2057_43 : ab_at 2057 43 (.ifCond .eq 40) 3 = true := by decide +kernel
theorem ci_2057_46 : ab_at 2057 46 (.aload_n 0) 1 = true := by decide +kernel
theorem ci_2057_47 : ab_at 2057 47 (.invokevirtual 437) 3 = true := by decide +kernel
theorem ci_2057_50 : ab_at 2057 50 (.ifCond .eq 12) 3 = true := by decide +kernel
theorem ci_2057_53 : ab_at 2057 53 (.aload_n 0) 1 = true := by decide +kernel
theorem ci_2057_54 : ab_at 2057 54 (.bipush 59) 2 = true := by decide +kernel
theorem ci_2057_56 : ab_at 2057 56 (.invokevirtual 252) 3 = true := by decide +kernel
theorem ci_2057_59 : ab_at 2057 59 (.ifCond .ne 11) 3 = true := by decide +kernel
theorem ci_2057_62 : ab_at 2057 62 (.bipush (-2)) 2 = true := by decide +kernel
theorem ci_2057_64 : ab_at 2057 64 (.aload_n 0) 1 = true := by decide +kernel
theorem ci_2057_65 : ab_at 2057 65 (.getfield 178) 3 = true := by decide +kernel
theorem ci_2057_68 : ab_at 2057 68 (.isub) 1 = true := by decide +kernel
theorem ci_2057_70 : ab_at 2057 70 (.aload_n 0) 1 = true := by decide +kernel
theorem ci_2057_71 : ab_at 2057 71 (.dup) 1 = true := by decide +kernel
theorem ci_2057_72 : ab_at 2057 72 (.getfield 434) 3 = true := by decide +kernel
theorem ci_2057_75 : ab_at 2057 75 (.iconst 1) 1 = true := by decide +kernel
theorem ci_2057_76 : ab_at 2057 76 (.iadd) 1 = true := by decide +kernel
theorem ci_2057_77 : ab_at 2057 77 (.putfield 434) 3 = true := by decide +kernel
theorem ci_2057_80 : ab_at 2057 80 (.goto (-41)) 3 = true := by decide +kernel
theorem ci_2057_83 : ab_at 2057 83 (.aload_n 0) 1 = true := by decide +kernel
theorem ci_2057_84 : ab_at 2057 84 (.invokevirtual 369) 3 = true := by decide +kernel
theorem ci_2057_87 : ab_at 2057 87 (.iconst 0) 1 = true := by decide +kernel
theorem ci_2057_88 : ab_at 2057 88 (.istore_n 2) 1 = true := by decide +kernel
theorem ci_2057_89 : ab_at 2057 89 (.iload_n 2) 1 = true := by decide +kernel
theorem ci_2057_90 : ab_at 2057 90 (.iconst 4) 1 = true := by decide +kernel
theorem ci_2057_91 : ab_at 2057 91 (.if_icmp .ge 16) 3 = true := by decide +kernel
theorem ci_2057_94 : ab_at 2057 94 (.aload_n 0) 1 = true := by decide +kernel
theorem ci_2057_95 : ab_at 2057 95 (.getfield 80) 3 = true := by decide +kernel
theorem ci_2057_98 : ab_at 2057 98 (.iload_n 2) 1 = true := by decide +kernel
theorem ci_2057_99 : ab_at 2057 99 (.iconst 0) 1 = true := by decide +kernel
theorem ci_2057_100 : ab_at 2057 100 (.iastore) 1 = true := by decide +kernel
theorem ci_2057_101 : ab_at 2057 101 (.iinc 2 1) 3 = true := by decide +kernel
theorem ci_2057_104 : ab_at 2057 104 (.goto (-15)) 3 = true := by decide +kernel
theorem ci_2057_107 : ab_at 2057 107 (.iconst (-1)) 1 = true := by decide +kernel
theorem ci_2057_108 : ab_at 2057 108 (.istore_n 2) 1 = true := by decide +kernel
theorem ci_2057_109 : ab_at 2057 109 (.iconst 0) 1 = true := by decide +kernel
theorem ci_2057_110 : ab_at 2057 110 (.istore_n 3) 1 = true := by decide +kernel
theorem ci_2057_111 : ab_at 2057 111 (.iload_n 3) 1 = true := by decide +kernel
theorem ci_2057_112 : ab_at 2057 112 (.aload_n 0) 1 = true := by decide +kernel
theorem ci_2057_113 : ab_at 2057 113 (.getfield 434) 3 = true := by decide +kernel
theorem ci_2057_116 : ab_at 2057 116 (.if_icmp .ge 65) 3 = true := by decide +kernel
theorem ci_2057_119 : ab_at 2057 119 (.iload_n 2) 1 = true := by decide +kernel
theorem ci_2057_120 : ab_at 2057 120 (.ifCond .ge 61) 3 = true := by decide +kernel
theorem ci_2057_123 : ab_at 2057 123 (.aload_n 0) 1 = true := by decide +kernel
theorem ci_2057_124 : ab_at 2057 124 (.getfield 80) 3 = true := by decide +kernel
theorem ci_2057_127 : ab_at 2057 127 (.iconst 0) 1 = true := by decide +kernel
theorem ci_2057_128 : ab_at 2057 128 (.aload_n 0) 1 = true := by decide +kernel
theorem ci_2057_129 : ab_at 2057 129 (.aload_n 0) 1 = true := by decide +kernel
theorem ci_2057_130 : ab_at 2057 130 (.getfield 40) 3 = true := by decide +kernel
theorem ci_2057_133 : ab_at 2057 133 (.iconst 2) 1 = true := by decide +kernel
theorem ci_2057_134 : ab_at 2057 134 (.iload_n 3) 1 = true := by decide +kernel
theorem ci_2057_135 : ab_at 2057 135 (.imul) 1 = true := by decide +kernel
theorem ci_2057_136 : ab_at 2057 136 (.iaload) 1 = true := by decide +kernel
theorem ci_2057_137 : ab_at 2057 137 (.aload_n 0) 1 = true := by decide +kernel
theorem ci_2057_138 : ab_at 2057 138 (.getfield 40) 3 = true := by decide +kernel
theorem ci_2057_141 : ab_at 2057 141 (.iconst 2) 1 = true := by decide +kernel
theorem ci_2057_142 : ab_at 2057 142 (.iload_n 3) 1 = true := by decide +kernel
theorem ci_2057_143 : ab_at 2057 143 (.imul) 1 = true := by decide +kernel
theorem ci_2057_144 : ab_at 2057 144 (.iconst 1) 1 = true := by decide +kernel
theorem ci_2057_145 : ab_at 2057 145 (.iadd) 1 = true := by decide +kernel
theorem ci_2057_146 : ab_at 2057 146 (.iaload) 1 = true := by decide +kernel
theorem ci_2057_147 : ab_at 2057 147 (.invokevirtual 440) 3 = true := by decide +kernel
theorem ci_2057_150 : ab_at 2057 150 (.iastore) 1 = true := by decide +kernel
theorem ci_2057_151 : ab_at 2057 151 (.aload_n 0) 1 = true := by decide +kernel
theorem ci_2057_152 : ab_at 2057 152 (.getfield 80) 3 = true := by decide +kernel
theorem ci_2057_155 : ab_at 2057 155 (.iconst 0) 1 = true := by decide +kernel
theorem ci_2057_156 : ab_at 2057 156 (.iaload) 1 = true := by decide +kernel
theorem ci_2057_157 : ab_at 2057 157 (.ifCond .le 8) 3 = true := by decide +kernel
theorem ci_2057_160 : ab_at 2057 160 (.iload_n 3) 1 = true := by decide +kernel
theorem ci_2057_161 : ab_at 2057 161 (.istore_n 2) 1 = true := by decide +kernel
theorem ci_2057_162 : ab_at 2057 162 (.goto 13) 3 = true := by decide +kernel
theorem ci_2057_165 : ab_at 2057 165 (.aload_n 0) 1 = true := by decide +kernel
theorem ci_2057_166 : ab_at 2057 166 (.getfield 80) 3 = true := by decide +kernel
theorem ci_2057_169 : ab_at 2057 169 (.iconst 1) 1 = true := by decide +kernel
theorem ci_2057_170 : ab_at 2057 170 (.dup2) 1 = true := by decide +kernel
theorem ci_2057_171 : ab_at 2057 171 (.iaload) 1 = true := by decide +kernel
theorem ci_2057_172 : ab_at 2057 172 (.iconst 1) 1 = true := by decide +kernel
theorem ci_2057_173 : ab_at 2057 173 (.iadd) 1 = true := by decide +kernel
theorem ci_2057_174 : ab_at 2057 174 (.iastore) 1 = true := by decide +kernel
theorem ci_2057_175 : ab_at 2057 175 (.iinc 3 1) 3 = true := by decide +kernel
theorem ci_2057_178 : ab_at 2057 178 (.goto (-67)) 3 = true := by decide +kernel
theorem bk_live {sc : List Value} {sp d : Nat} (hsc : ab_osc sc) {h0 : eg_H} {x1 : Int32} {t : Nat} (ht9 : t ≤ 40) (r : Nat) : ∀ (i : Nat) (xi x2 : Int32) (ls : eg_L) (h : eg_H), i + r = 41 → xi.toInt = (i : Int) → ab_hp h → ab_fr MBQ h h0 → (hv h 182 41).toInt = (t : Int) → BI h t → eg_find 0 ls = some (.ref 182) → eg_find 1 ls = some (.int x1) → eg_find 2 ls = some (.int x2) → eg_find 3 ls = some (.int xi) → hs sc sp 2057 11 (d + 13 + 1) (KB h0 x1) 111 ls [] h := by
  induction r with
  | zero =>
    intro i xi x2 ls h hr hi hp hf ht bi l0 l1 l2 l3
    refine hs_iload_n ci_2057_111 l3 ?_
    refine hs_aload_n ci_2057_112 l0 ?_
    refine hs_gfi 41 ci_2057_113 (by decide +kernel) hp.1 ?_
    refine hs_ic (t := 181) ci_2057_116 rfl (fun b116 => ?_) (fun b116 => ?_)
    · simp only [hs_cd, ab_not] at b116
      exact hs_k ⟨hp, hf, Or.inr ⟨rfl, rfl, l0, l1, _, l2⟩⟩
    · simp only [hs_cd, ab_not] at b116
      omega
  | succ r ih =>
    intro i xi x2 ls h hr hi hp hf ht bi l0 l1 l2 l3
    refine hs_iload_n ci_2057_111 l3 ?_
    refine hs_aload_n ci_2057_112 l0 ?_
    refine hs_gfi 41 ci_2057_113 (by decide +kernel) hp.1 ?_
    refine hs_ic (t := 181) ci_2057_116 rfl (fun b116 => ?_) (fun b116 => ?_)
    · simp only [hs_cd, ab_not] at b116
      exact hs_k ⟨hp, hf, Or.inr ⟨rfl, rfl, l0, l1, _, l2⟩⟩
    · simp only [hs_cd, ab_not] at b116
      refine hs_iload_n ci_2057_119 l2 ?_
      refine hs_if (t := 181) ci_2057_120 rfl (fun b120 => ?_) (fun b120 => ?_)
      · simp only [hs_cd, ab_not] at b120
        exact hs_k ⟨hp, hf, Or.inr ⟨rfl, rfl, l0, l1, _, l2⟩⟩
      · simp only [hs_cd, ab_not] at b120
        refine hs_aload_n ci_2057_123 l0 ?_
        refine hs_gfr 42 198 ci_2057_124 (by decide +kernel) hp.1 ?_
        refine hs_iconst ci_2057_127 ?_
        refine hs_aload_n ci_2057_128 l0 ?_
        refine hs_aload_n ci_2057_129 l0 ?_
        refine hs_gfr 8 186 ci_2057_130 (by decide +kernel) hp.1 ?_
        refine hs_iconst ci_2057_133 ?_
        refine hs_iload_n ci_2057_134 l3 ?_
        refine hs_imul ci_2057_135 ?_
        refine hs_ial1 (0 + 2 * i) ci_2057_136 ((i32_mul (a := 2) rfl hi (by omega) (by omega)).trans (by omega)) (ckq_v gq_rd (2 * i) (by omega)) hp.1 ?_
        refine hs_aload_n ci_2057_137 l0 ?_
        refine hs_gfr 8 186 ci_2057_138 (by decide +kernel) hp.1 ?_
        refine hs_iconst ci_2057_141 ?_
        refine hs_iload_n ci_2057_142 l3 ?_
        refine hs_imul ci_2057_143 ?_
        refine hs_iconst ci_2057_144 ?_
        refine hs_iadd ci_2057_145 ?_
        refine hs_ial1 (0 + (2 * i + 1)) ci_2057_146 ((i32_add (i32_mul (a := 2) rfl hi (by omega) (by omega)) (b := 1) rfl (by omega) (by omega)).trans (by omega)) (ckq_v gq_rd (2 * i + 1) (by omega)) hp.1 ?_
        have bi9 := bi i (by omega)
        have MC : mc sc sp 2065 11 (d + 13) [.ref 182, .int (hv h 186 (0 + 2 * i)), .int (hv h 186 (0 + (2 * i + 1)))] h (fun vo h' => ab_hp h' ∧ ab_fr [(182, 22, 22), (184, 89, 125), (189, 0, 9)] h' h ∧ ∃ r : Int32, vo = some (.int r)) := by
          rw [Nat.zero_add, Nat.zero_add]
          rcases bi9 with ⟨q1, q2⟩ | ⟨q1, q2⟩
          · exact (c_does0 hsc q1.1 q1.2 q2.1 q2.2 hp).mono (fun vo h' ⟨g1, g2, r, g3, _, _⟩ => ⟨g1, fr_sub (by decide +kernel) g2, r, g3⟩)
          · exact (c_does4 hsc (by omega) (by omega) q2.1 q2.2 hp).mono (fun vo h' ⟨g1, g2, r, g3, _, _⟩ => ⟨g1, fr_sub (by decide +kernel) g2, r, g3⟩)
        refine hs_cv 2065 11 2 ci_2057_147 (by decide +kernel) (by decide +kernel) hp.1 rfl (by rw [ml_2065]; rfl) (MC) ?_
        rintro v9 k1 ⟨hp2, f2, r7, e8⟩
        rw [e8]
        clear e8 v9
        simp only [Option.toList, List.cons_append, List.nil_append]
        replace ht : (hv k1 182 41).toInt = (t : Int) := by rw [hv_fr f2 (by rfl)]; exact ht
        replace bi := bi.same (h' := k1) (fun j _ => hv_fr f2 (by rfl))
        replace hf := (fr_sub (M := MBQ) (by decide +kernel) f2).tr hf
        replace hp := hp2
        clear hp2
        refine hs_ias1 (0 + 0) ci_2057_150 rfl (ckq_v gq_ta 0 (by decide)) hp.1 (ab_ige _) (ab_ile _) ?_
        intro w150 w9
        replace hf := (w9.fr (M := MBQ) (mq198 (by decide))).tr hf
        replace hp : ab_hp w150 := ⟨w9.1, hp.2.set (by unfold ab_pr; rfl) w9.2⟩
        replace ht : (hv w150 182 41).toInt = (t : Int) := by rw [w9.v, if_neg (fun e => absurd e.1 (by decide))]; exact ht
        replace bi := bi.same (h' := w150) (fun j _ => by rw [w9.v, if_neg (fun e => absurd e.1 (by decide))])
        refine hs_aload_n ci_2057_151 l0 ?_
        refine hs_gfr 42 198 ci_2057_152 (by decide +kernel) hp.1 ?_
        refine hs_iconst ci_2057_155 ?_
        refine hs_ial1 (0 + 0) ci_2057_156 rfl (ckq_v gq_ta 0 (by decide)) hp.1 ?_
        refine hs_if (t := 165) ci_2057_157 rfl (fun b157 => ?_) (fun b157 => ?_)
        · simp only [hs_cd, ab_not] at b157
          refine hs_aload_n ci_2057_165 l0 ?_
          refine hs_gfr 42 198 ci_2057_166 (by decide +kernel) hp.1 ?_
          refine hs_iconst ci_2057_169 ?_
          refine hs_d2 ci_2057_170 rfl ?_
          refine hs_ial1 (0 + 1) ci_2057_171 rfl (ckq_v gq_ta 1 (by decide)) hp.1 ?_
          refine hs_iconst ci_2057_172 ?_
          refine hs_iadd ci_2057_173 ?_
          refine hs_ias1 (0 + 1) ci_2057_174 rfl (ckq_v gq_ta 1 (by decide)) hp.1 (ab_ige _) (ab_ile _) ?_
          intro w174 w9
          replace hf := (w9.fr (M := MBQ) (mq198 (by decide))).tr hf
          replace hp : ab_hp w174 := ⟨w9.1, hp.2.set (by unfold ab_pr; rfl) w9.2⟩
          replace ht : (hv w174 182 41).toInt = (t : Int) := by rw [w9.v, if_neg (fun e => absurd e.1 (by decide))]; exact ht
          replace bi := bi.same (h' := w174) (fun j _ => by rw [w9.v, if_neg (fun e => absurd e.1 (by decide))])
          refine hs_iinc ci_2057_175 (by decide +kernel) l3 ?_
          intro ls9 q9
          replace l0 := q9.2 0 _ (by decide) rfl l0
          replace l1 := q9.2 1 _ (by decide) rfl l1
          replace l2 := q9.2 2 _ (by decide) rfl l2
          have l3 := q9.1
          clear q9
          refine hs_goto (t := 111) ci_2057_178 rfl ?_
          exact ih (i + 1) _ _ _ _ (by omega) (by have := i32_add hi (y := Int32.ofInt 1) (b := 1) rfl (by omega) (by omega); rw [this]; omega) hp hf ht bi l0 l1 l2 l3
        · simp only [hs_cd, ab_not] at b157
          refine hs_iload_n ci_2057_160 l3 ?_
          refine hs_istore_n ci_2057_161 (by decide +kernel) ?_
          intro ls9 q9
          replace l0 := q9.2 0 _ (by decide) rfl l0
          replace l1 := q9.2 1 _ (by decide) rfl l1
          replace l3 := q9.2 3 _ (by decide) rfl l3
          have l2 := q9.1
          clear q9
          refine hs_goto (t := 175) ci_2057_162 rfl ?_
          refine hs_iinc ci_2057_175 (by decide +kernel) l3 ?_
          intro ls9 q9
          replace l0 := q9.2 0 _ (by decide) rfl l0
          replace l1 := q9.2 1 _ (by decide) rfl l1
          replace l2 := q9.2 2 _ (by decide) rfl l2
          have l3 := q9.1
          clear q9
          refine hs_goto (t := 111) ci_2057_178 rfl ?_
          exact ih (i + 1) _ _ _ _ (by omega) (by have := i32_add hi (y := Int32.ofInt 1) (b := 1) rfl (by omega) (by omega); rw [this]; omega) hp hf ht bi l0 l1 l2 l3
theorem bk_four {sc : List Value} {sp d : Nat} (hsc : ab_osc sc) {h0 : eg_H} {x1 : Int32} {t : Nat} (ht9 : t ≤ 40) (r : Nat) : ∀ (i : Nat) (xi : Int32) (ls : eg_L) (h : eg_H), i + r = 4 → xi.toInt = (i : Int) → ab_hp h → ab_fr MBQ h h0 → (hv h 182 41).toInt = (t : Int) → BI h t → eg_find 0 ls = some (.ref 182) → eg_find 1 ls = some (.int x1) → eg_find 2 ls = some (.int xi) → hs sc sp 2057 11 (d + 13 + 1) (KB h0 x1) 89 ls [] h := by
  induction r with
  | zero =>
    intro i xi ls h hr hi hp hf ht bi l0 l1 l2
    have e4 : (Int32.ofInt 4).toInt = 4 := rfl
    refine hs_iload_n ci_2057_89 l2 ?_
    refine hs_iconst ci_2057_90 ?_
    refine hs_ic (t := 107) ci_2057_91 rfl (fun b91 => ?_) (fun b91 => ?_)
    · simp only [hs_cd, ab_not] at b91
      refine hs_iconst ci_2057_107 ?_
      refine hs_istore_n ci_2057_108 (by decide +kernel) ?_
      intro ls9 q9
      replace l0 := q9.2 0 _ (by decide) rfl l0
      replace l1 := q9.2 1 _ (by decide) rfl l1
      have l2 := q9.1
      clear q9
      refine hs_iconst ci_2057_109 ?_
      refine hs_istore_n ci_2057_110 (by decide +kernel) ?_
      intro ls9 q9
      replace l0 := q9.2 0 _ (by decide) rfl l0
      replace l1 := q9.2 1 _ (by decide) rfl l1
      replace l2 := q9.2 2 _ (by decide) rfl l2
      have l3 := q9.1
      clear q9
      exact bk_live hsc ht9 41 0 _ _ _ _ rfl rfl hp hf ht bi l0 l1 l2 l3
    · simp only [hs_cd, ab_not] at b91
      omega
  | succ r ih =>
    intro i xi ls h hr hi hp hf ht bi l0 l1 l2
    have e4 : (Int32.ofInt 4).toInt = 4 := rfl
    refine hs_iload_n ci_2057_89 l2 ?_
    refine hs_iconst ci_2057_90 ?_
    refine hs_ic (t := 107) ci_2057_91 rfl (fun b91 => ?_) (fun b91 => ?_)
    · simp only [hs_cd, ab_not] at b91
      omega
    · simp only [hs_cd, ab_not] at b91
      refine hs_aload_n ci_2057_94 l0 ?_
      refine hs_gfr 42 198 ci_2057_95 (by decide +kernel) hp.1 ?_
      refine hs_iload_n ci_2057_98 l2 ?_
      refine hs_iconst ci_2057_99 ?_
      refine hs_ias1 (0 + i) ci_2057_100 (hi.trans (by omega)) (ckq_v gq_ta i (by omega)) hp.1 (ab_ige _) (ab_ile _) ?_
      intro w1 w9
      replace hf := (w9.fr (M := MBQ) (mq198 (by omega))).tr hf
      replace hp : ab_hp w1 := ⟨w9.1, hp.2.set (by unfold ab_pr; rfl) w9.2⟩
      replace ht : (hv w1 182 41).toInt = (t : Int) := by rw [w9.v, if_neg (fun e => absurd e.1 (by decide))]; exact ht
      replace bi := bi.same (h' := w1) (fun j _ => by rw [w9.v, if_neg (fun e => absurd e.1 (by decide))])
      refine hs_iinc ci_2057_101 (by decide +kernel) l2 ?_
      intro ls9 q9
      replace l0 := q9.2 0 _ (by decide) rfl l0
      replace l1 := q9.2 1 _ (by decide) rfl l1
      have l2 := q9.1
      clear q9
      refine hs_goto (t := 89) ci_2057_104 rfl ?_
      exact ih (i + 1) _ _ _ (by omega) (by have := i32_add hi (y := Int32.ofInt 1) (b := 1) rfl (by omega) (by omega); rw [this]; omega) hp hf ht bi l0 l1 l2
theorem bk_read {sc : List Value} {sp d : Nat} (hsc : ab_osc sc) {h0 : eg_H} {x1 : Int32} (r : Nat) : ∀ (t : Nat) (ls : eg_L) (h : eg_H), t + r = 41 → ab_hp h → ab_fr MBQ h h0 → (hv h 182 41).toInt = (t : Int) → BI h t → eg_find 0 ls = some (.ref 182) → eg_find 1 ls = some (.int x1) → hs sc sp 2057 11 (d + 13 + 1) (KB h0 x1) 39 ls [] h := by
  induction r with
  | zero =>
    intro t ls h hr hp hf ht bi l0 l1
    have := gb_told hp.1
    omega
  | succ r ih =>
    intro t ls h hr hp hf ht bi l0 l1
    refine hs_aload_n ci_2057_39 l0 ?_
    refine hs_gfi 11 ci_2057_40 (by decide +kernel) hp.1 ?_
    refine hs_if (t := 83) ci_2057_43 rfl (fun b43 => ?_) (fun b43 => ?_)
    · simp only [hs_cd, ab_not] at b43
      refine hs_aload_n ci_2057_83 l0 ?_
      refine hs_cv 1938 11 0 ci_2057_84 (by decide +kernel) (by decide +kernel) hp.1 rfl (by rw [ml_1938]; rfl) (c_tries hsc hp) ?_
      rintro v9 k3 ⟨hp2, f2, e8⟩
      rw [e8]
      clear e8 v9
      simp only [Option.toList, List.cons_append, List.nil_append]
      replace ht : (hv k3 182 41).toInt = (t : Int) := by rw [hv_fr f2 (by rfl)]; exact ht
      replace bi := bi.same (h' := k3) (fun j _ => hv_fr f2 (by rfl))
      replace hf := (fr_sub (M := MBQ) (by decide +kernel) f2).tr hf
      replace hp := hp2
      clear hp2
      refine hs_iconst ci_2057_87 ?_
      refine hs_istore_n ci_2057_88 (by decide +kernel) ?_
      intro ls9 q9
      replace l0 := q9.2 0 _ (by decide) rfl l0
      replace l1 := q9.2 1 _ (by decide) rfl l1
      have l2 := q9.1
      clear q9
      exact bk_four hsc (by omega) 4 0 _ _ _ rfl rfl hp hf ht bi l0 l1 l2
    · simp only [hs_cd, ab_not] at b43
      refine hs_aload_n ci_2057_46 l0 ?_
      refine hs_cv 2061 11 0 ci_2057_47 (by decide +kernel) (by decide +kernel) hp.1 rfl (by rw [ml_2061]; rfl) (c_bookLine (d := d + 9) hsc ht hp) ?_
      rintro v9 kb ⟨hp2, f2, hl2, r47, e8, hr47⟩
      rw [e8]
      clear e8 v9
      simp only [Option.toList, List.cons_append, List.nil_append]
      replace ht : (hv kb 182 41).toInt = (t : Int) := by rw [hv_fr f2 (by rfl)]; exact ht
      replace bi := bi.same (h' := kb) hl2
      replace hf := (fr_sub (M := MBQ) (by decide +kernel) f2).tr hf
      replace hp := hp2
      clear hp2
      refine hs_if (t := 62) ci_2057_50 rfl (fun b50 => ?_) (fun b50 => ?_)
      · simp only [hs_cd, ab_not] at b50
        refine hs_bipush ci_2057_62 ?_
        refine hs_aload_n ci_2057_64 l0 ?_
        refine hs_gfi 16 ci_2057_65 (by decide +kernel) hp.1 ?_
        refine hs_isub ci_2057_68 ?_
        exact hs_k ⟨hp, hf, Or.inl ⟨rfl, _, rfl⟩⟩
      · simp only [hs_cd, ab_not] at b50
        refine hs_aload_n ci_2057_53 l0 ?_
        refine hs_bipush ci_2057_54 ?_
        refine hs_cv 1734 11 1 ci_2057_56 (by decide +kernel) (by decide +kernel) hp.1 rfl (by rw [ml_1734]; rfl) (c_sign59 hsc rfl hp) ?_
        rintro v9 k2 ⟨hp2, f2, r52, e8, r52a, r52b⟩
        rw [e8]
        clear e8 v9
        simp only [Option.toList, List.cons_append, List.nil_append]
        replace ht : (hv k2 182 41).toInt = (t : Int) := by rw [hv_fr f2 (by rfl)]; exact ht
        replace bi := bi.same (h' := k2) (fun j _ => hv_fr f2 (by rfl))
        have hpr : PR (hv k2 186 (2 * t)).toInt (hv k2 186 (2 * t + 1)).toInt := by
          rw [hv_fr f2 (by rfl), hv_fr f2 (by rfl)]
          rcases hr47 with q | q
          · omega
          · exact q.2.2
        replace hf := (fr_sub (M := MBQ) (by decide +kernel) f2).tr hf
        replace hp := hp2
        clear hp2
        refine hs_if (t := 70) ci_2057_59 rfl (fun b59 => ?_) (fun b59 => ?_)
        · simp only [hs_cd, ab_not] at b59
          refine hs_aload_n ci_2057_70 l0 ?_
          refine hs_dup ci_2057_71 rfl ?_
          refine hs_gfi 41 ci_2057_72 (by decide +kernel) hp.1 ?_
          refine hs_iconst ci_2057_75 ?_
          refine hs_iadd ci_2057_76 ?_
          have ht40 : t < 40 := by
            rcases hr47 with q | q
            · omega
            · exact q.2.1
          have e5 : (hv k2 182 41 + Int32.ofInt 1).toInt = ((t + 1 : Nat) : Int) := (i32_add ht (b := 1) rfl (by omega) (by omega)).trans (by omega)
          refine hs_pfi 41 0 40 ci_2057_77 (by decide +kernel) hp.1 (by rw [e5]; omega) (by rw [e5]; omega) ?_
          intro w1 w9
          replace hf := (w9.fr (M := MBQ) rfl).tr hf
          replace hp : ab_hp w1 := ⟨w9.1, hp.2.set (by unfold ab_pr; rfl) w9.2⟩
          have ht1 : (hv w1 182 41).toInt = ((t + 1 : Nat) : Int) := by rw [w9.v, if_pos ⟨rfl, rfl⟩]; exact e5
          have bi1 : BI w1 (t + 1) := fun j hj => by
            have e6 : ∀ m, hv w1 186 m = hv k2 186 m := fun m => by rw [w9.v, if_neg (fun e => absurd e.1 (by decide))]
            rw [e6, e6]
            by_cases e : j = t
            · subst e; exact hpr
            · exact bi j (by omega)
          refine hs_goto (t := 39) ci_2057_80 rfl ?_
          exact ih (t + 1) _ _ (by omega) hp hf ht1 bi1 l0 l1
        · simp only [hs_cd, ab_not] at b59
          refine hs_bipush ci_2057_62 ?_
          refine hs_aload_n ci_2057_64 l0 ?_
          refine hs_gfi 16 ci_2057_65 (by decide +kernel) hp.1 ?_
          refine hs_isub ci_2057_68 ?_
          exact hs_k ⟨hp, hf, Or.inl ⟨rfl, _, rfl⟩⟩
def sm_book39 : ab_Q := (2057, 11, 39, 14, (3, [(2, .ofNat 0, .ofNat 1, false, none)], [(0, .inr 184), (1, .inl (2, .ofNat 0))], [], [(186409, 0, .ofNat 0)]), [(182, 4, 4), (182, 11, 18), (182, 22, 22), (182, 41, 41), (184, 89, 125), (186, 0, 134), (189, 0, 9), (191, 0, 36), (198, 0, 3)], [(69, (4, [(3, .negSucc 2147483647, .ofNat 2147483647, false, none)], [], [.inl (3, .ofNat 0)], [])), (181, (4, [(3, .negSucc 2147483647, .ofNat 2147483647, false, none)], [(0, .inr 184), (1, .inl (2, .ofNat 0)), (2, .inl (3, .ofNat 0))], [], []))], none)
theorem tr_book39 : ab_Tr sm_book39 := tr_hand (by decide +kernel) (fun sc sp hsc dq hdq ν ls st h hr => by
  have l0 := hr.ref 0 182 (by rfl)
  obtain ⟨x1, l1, hx1⟩ := hr.int 1 (by rfl)
  have h00 : ν 0 = 0 := hr.1.2.1
  obtain rfl : st = [] := hr.2.2.2.1
  have hp : ab_hp h := hr.2.2.2.2.2
  have ht0 : (hv h 182 41).toInt = ν 0 + 0 := hr.ov 182 41 (by rfl) (by decide)
  have ht : (hv h 182 41).toInt = ((0 : Nat) : Int) := by rw [ht0, h00]; rfl
  have hdq : 14 ≤ dq := hdq
  obtain ⟨d, rfl⟩ : ∃ d, dq = d + 13 + 1 := ⟨dq - 14, by omega⟩
  show hs sc sp 2057 11 (d + 13 + 1) _ 39 ls [] h
  refine hs.mono (bk_read hsc (h0 := h) 41 0 ls h rfl hp ab_fr.rf ht (fun i hi => nomatch hi) l0 l1) ?_
  rintro pc' ls' st' h' ⟨hp', hf', ⟨rfl, t, rfl⟩ | ⟨rfl, rfl, k0, k1, x2, k2⟩⟩
  · exact ⟨_, List.mem_cons_self, rfl, _, en_int hr.1 (ab_ige t) (ab_ile t) hp', ab_upd_ext, hf'⟩
  · have xx := ab_upd_ext (ν := ν) (n := 3) (x := x2.toInt)
    refine ⟨_, List.mem_cons_of_mem _ List.mem_cons_self, rfl, ab_upd ν 3 x2.toInt, ⟨ab_base hr.1 xx (by show 3 ≤ 4; decide), ?_, vl_ref k0 (vl_int k1 (by show 2 < 4; decide) (by rw [xx 2 (by decide)]; exact hx1) (vl_int k2 (by show 3 < 4; decide) (by rw [ab_upd_n]; show x2.toInt = x2.toInt + 0; omega) vl_nil)), rfl, (fun _ _ _ hf => by cases hf), hp'⟩, xx, hf'⟩
    intro j B hf
    rw [ab_find_cons] at hf
    by_cases e : 3 = j
    · rw [if_pos e] at hf
      cases hf
      rw [← e]
      exact ab_upd_be (ab_ige x2) (ab_ile x2)
    · rw [if_neg e] at hf
      cases hf)
