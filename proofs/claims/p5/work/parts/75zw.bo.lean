/-! BY HAND: a BOOK in both, with the kind of its fault -/
theorem ci_851_0 : ab_at 851 0 (.aload_n 0) 1 = true := by decide +kernel
theorem ci_851_1 : ab_at 851 1 (.getfield 106) 3 = true := by decide +kernel
theorem ci_1196_0 : ab_at 1196 0 (.iload_n 1) 1 = true := by decide +kernel
theorem ci_1196_1 : ab_at 1196 1 (.ifCond .eq 12) 3 = true := by decide +kernel
theorem ci_1196_4 : ab_at 1196 4 (.iload_n 1) 1 = true := by decide +kernel
theorem ci_1196_5 : ab_at 1196 5 (.iconst 1) 1 = true := by decide +kernel
theorem ci_1196_6 : ab_at 1196 6 (.if_icmp .eq 7) 3 = true := by decide +kernel
theorem ci_1196_9 : ab_at 1196 9 (.sipush (-1000)) 3 = true := by decide +kernel
theorem ci_1196_13 : ab_at 1196 13 (.aload_n 0) 1 = true := by decide +kernel
theorem ci_1196_14 : ab_at 1196 14 (.getfield 24) 3 = true := by decide +kernel
theorem ci_1196_17 : ab_at 1196 17 (.sipush 400) 3 = true := by decide +kernel
theorem ci_1196_20 : ab_at 1196 20 (.invokevirtual 117) 3 = true := by decide +kernel
theorem ci_1196_23 : ab_at 1196 23 (.aload_n 0) 1 = true := by decide +kernel
theorem ci_1196_24 : ab_at 1196 24 (.getfield 72) 3 = true := by decide +kernel
theorem ci_1196_27 : ab_at 1196 27 (.invokevirtual 330) 3 = true := by decide +kernel
theorem ci_1196_30 : ab_at 1196 30 (.istore_n 2) 1 = true := by decide +kernel
theorem ci_1196_31 : ab_at 1196 31 (.aload_n 0) 1 = true := by decide +kernel
theorem ci_1196_32 : ab_at 1196 32 (.invokevirtual 124) 3 = true := by decide +kernel
theorem ci_1196_35 : ab_at 1196 35 (.iload_n 2) 1 = true := by decide +kernel
theorem ci_1196_36 : ab_at 1196 36 (.ifCond .ne 14) 3 = true := by decide +kernel
theorem ci_1196_39 : ab_at 1196 39 (.bipush (-2)) 2 = true := by decide +kernel
theorem ci_1196_41 : ab_at 1196 41 (.aload_n 0) 1 = true := by decide +kernel
theorem ci_1196_42 : ab_at 1196 42 (.getfield 24) 3 = true := by decide +kernel
theorem ci_1196_45 : ab_at 1196 45 (.getfield 127) 3 = true := by decide +kernel
theorem ci_1196_48 : ab_at 1196 48 (.isub) 1 = true := by decide +kernel
theorem ci_1742_0 : ab_at 1742 0 (.aload_n 0) 1 = true := by decide +kernel
theorem ci_1742_1 : ab_at 1742 1 (.iconst 0) 1 = true := by decide +kernel
theorem ci_1742_2 : ab_at 1742 2 (.putfield 1) 3 = true := by decide +kernel
theorem ci_1742_5 : ab_at 1742 5 (.aload_n 0) 1 = true := by decide +kernel
theorem ci_1742_6 : ab_at 1742 6 (.getfield 175) 3 = true := by decide +kernel
theorem ci_2057_0 : ab_at 2057 0 (.aload_n 0) 1 = true := by decide +kernel
theorem ci_2057_1 : ab_at 2057 1 (.iconst 0) 1 = true := by decide +kernel
theorem ci_2057_2 : ab_at 2057 2 (.putfield 1) 3 = true := by decide +kernel
theorem ci_2057_5 : ab_at 2057 5 (.iload_n 1) 1 = true := by decide +kernel
theorem ci_2057_6 : ab_at 2057 6 (.iconst 0) 1 = true := by decide +kernel
theorem ci_2057_7 : ab_at 2057 7 (.iconst 1) 1 = true := by decide +kernel
theorem ci_2057_8 : ab_at 2057 8 (.invokestatic 190) 3 = true := by decide +kernel
theorem ci_2057_11 : ab_at 2057 11 (.ifCond .ne 7) 3 = true := by decide +kernel
theorem ci_2057_14 : ab_at 2057 14 (.sipush (-1000)) 3 = true := by decide +kernel
theorem ci_2057_18 : ab_at 2057 18 (.aload_n 0) 1 = true := by decide +kernel
theorem ci_2057_19 : ab_at 2057 19 (.sipush 400) 3 = true := by decide +kernel
theorem ci_2057_22 : ab_at 2057 22 (.invokevirtual 243) 3 = true := by decide +kernel
theorem ci_2057_25 : ab_at 2057 25 (.aload_n 0) 1 = true := by decide +kernel
theorem ci_2057_26 : ab_at 2057 26 (.iconst 0) 1 = true := by decide +kernel
theorem ci_2057_27 : ab_at 2057 27 (.putfield 175) 3 = true := by decide +kernel
theorem ci_2057_30 : ab_at 2057 30 (.aload_n 0) 1 = true := by decide +kernel
theorem ci_2057_31 : ab_at 2057 31 (.iconst 0) 1 = true := by decide +kernel
theorem ci_2057_32 : ab_at 2057 32 (.putfield 434) 3 = true := by decide +kernel
theorem ci_2057_35 : ab_at 2057 35 (.aload_n 0) 1 = true := by decide +kernel
theorem ci_2057_36 : ab_at 2057 36 (.invokevirtual 187) 3 = true := by decide +kernel
theorem ml_1200 : (eg_md 1200).2.2.1 = 2 := by decide +kernel
theorem kB_m2 : (Int8.ofInt (-2)).toInt32.toInt = -2 := by decide +kernel
theorem kS_400 : (Int16.ofInt (400)).toInt32.toInt = 400 := by decide +kernel
theorem kS_m1000 : (Int16.ofInt (-1000)).toInt32.toInt = -1000 := by decide +kernel
abbrev MBS : ab_M := [(182, 22, 22), (184, 89, 125), (189, 0, 9), (191, 0, 36), (198, 0, 3)]
def KB2 (h0 : eg_H) (x1 : Int32) : Nat → eg_L → List Value → eg_H → Prop := fun pc' ls' st' h' => ab_hp h' ∧ ab_fr MBS h' h0 ∧ pc' = 181 ∧ st' = [] ∧ eg_find 0 ls' = some (.ref 182) ∧ eg_find 1 ls' = some (.int x1) ∧ ∃ x2 : Int32, eg_find 2 ls' = some (.int x2)
theorem ms198 {k : Nat} (hk : k ≤ 3) : ab_inr MBS 198 k k = true := by
  rcases (show k = 0 ∨ k = 1 ∨ k = 2 ∨ k = 3 by omega) with rfl | rfl | rfl | rfl <;> rfl
theorem bk_live2 {sc : List Value} {sp d : Nat} (hsc : ab_osc sc) {h0 : eg_H} {x1 : Int32} {t : Nat} (ht9 : t ≤ 40) (r : Nat) : ∀ (i : Nat) (xi x2 : Int32) (ls : eg_L) (h : eg_H), i + r = 41 → xi.toInt = (i : Int) → ab_hp h → ab_fr MBS h h0 → (hv h 182 41).toInt = (t : Int) → BI h t → eg_find 0 ls = some (.ref 182) → eg_find 1 ls = some (.int x1) → eg_find 2 ls = some (.int x2) → eg_find 3 ls = some (.int xi) → hs sc sp 2057 11 (d + 13 + 1) (KB2 h0 x1) 111 ls [] h := by
  induction r with
  | zero =>
    intro i xi x2 ls h hr hi hp hf ht bi l0 l1 l2 l3
    refine hs_iload_n ci_2057_111 l3 ?_
    refine hs_aload_n ci_2057_112 l0 ?_
    refine hs_gfi 41 ci_2057_113 (by decide +kernel) hp.1 ?_
    refine hs_ic (t := 181) ci_2057_116 rfl (fun b116 => ?_) (fun b116 => ?_)
    · simp only [hs_cd, ab_not] at b116
      exact hs_k ⟨hp, hf, rfl, rfl, l0, l1, _, l2⟩
    · simp only [hs_cd, ab_not] at b116
      omega
  | succ r ih =>
    intro i xi x2 ls h hr hi hp hf ht bi l0 l1 l2 l3
    refine hs_iload_n ci_2057_111 l3 ?_
    refine hs_aload_n ci_2057_112 l0 ?_
    refine hs_gfi 41 ci_2057_113 (by decide +kernel) hp.1 ?_
    refine hs_ic (t := 181) ci_2057_116 rfl (fun b116 => ?_) (fun b116 => ?_)
    · simp only [hs_cd, ab_not] at b116
      exact hs_k ⟨hp, hf, rfl, rfl, l0, l1, _, l2⟩
    · simp only [hs_cd, ab_not] at b116
      refine hs_iload_n ci_2057_119 l2 ?_
      refine hs_if (t := 181) ci_2057_120 rfl (fun b120 => ?_) (fun b120 => ?_)
      · simp only [hs_cd, ab_not] at b120
        exact hs_k ⟨hp, hf, rfl, rfl, l0, l1, _, l2⟩
      · simp only [hs_cd, ab_not] at b120
        refine hs_aload_n ci_2057_123 l0 ?_
        refine hs_gfr 42 198 ci_2057_124 (by decide +kernel) hp.1 ?_
        refine hs_iconst ci_2057_127 ?_
        refine hs_aload_n ci_2057_128 l0 ?_
        refine hs_aload_n ci_2057_129 l0 ?_
        refine hs_gfr 8 186 ci_2057_130 (by decide +kernel) hp.1 ?_
        refine hs_iconst ci_2057_133 ?_
        refine hs_iload_n ci_2057_134 l3 ?_
        refine hs_imul ci_2057_135 ?_
        refine hs_ial1 (0 + 2 * i) ci_2057_136 ((i32_mul (a := 2) rfl hi (by omega) (by omega)).trans (by omega)) (ckq_v gq_rd (2 * i) (by omega)) hp.1 ?_
        refine hs_aload_n ci_2057_137 l0 ?_
        refine hs_gfr 8 186 ci_2057_138 (by decide +kernel) hp.1 ?_
        refine hs_iconst ci_2057_141 ?_
        refine hs_iload_n ci_2057_142 l3 ?_
        refine hs_imul ci_2057_143 ?_
        refine hs_iconst ci_2057_144 ?_
        refine hs_iadd ci_2057_145 ?_
        refine hs_ial1 (0 + (2 * i + 1)) ci_2057_146 ((i32_add (i32_mul (a := 2) rfl hi (by omega) (by omega)) (b := 1) rfl (by omega) (by omega)).trans (by omega)) (ckq_v gq_rd (2 * i + 1) (by omega)) hp.1 ?_
        have bi9 := bi i (by omega)
        have MC : mc sc sp 2065 11 (d + 13) [.ref 182, .int (hv h 186 (0 + 2 * i)), .int (hv h 186 (0 + (2 * i + 1)))] h (fun vo h' => ab_hp h' ∧ ab_fr [(182, 22, 22), (184, 89, 125), (189, 0, 9)] h' h ∧ ∃ r : Int32, vo = some (.int r)) := by
          rw [Nat.zero_add, Nat.zero_add]
          rcases bi9 with ⟨q1, q2⟩ | ⟨q1, q2⟩
          · exact (c_does0 hsc q1.1 q1.2 q2.1 q2.2 hp).mono (fun vo h' ⟨g1, g2, r, g3, _, _⟩ => ⟨g1, fr_sub (by decide +kernel) g2, r, g3⟩)
          · exact (c_does4 hsc (by omega) (by omega) q2.1 q2.2 hp).mono (fun vo h' ⟨g1, g2, r, g3, _, _⟩ => ⟨g1, fr_sub (by decide +kernel) g2, r, g3⟩)
        refine hs_cv 2065 11 2 ci_2057_147 (by decide +kernel) (by decide +kernel) hp.1 rfl (by rw [ml_2065]; rfl) (MC) ?_
        rintro v9 k1 ⟨hp2, f2, r7, e8⟩
        rw [e8]
        clear e8 v9
        simp only [Option.toList, List.cons_append, List.nil_append]
        replace ht : (hv k1 182 41).toInt = (t : Int) := by rw [hv_fr f2 (by rfl)]; exact ht
        replace bi := bi.same (h' := k1) (fun j _ => hv_fr f2 (by rfl))
        replace hf := (fr_sub (M := MBS) (by decide +kernel) f2).tr hf
        replace hp := hp2
        clear hp2
        refine hs_ias1 (0 + 0) ci_2057_150 rfl (ckq_v gq_ta 0 (by decide)) hp.1 (ab_ige _) (ab_ile _) ?_
        intro w150 w9
        replace hf := (w9.fr (M := MBS) (ms198 (by decide))).tr hf
        replace hp : ab_hp w150 := ⟨w9.1, hp.2.set (by unfold ab_pr; rfl) w9.2⟩
        replace ht : (hv w150 182 41).toInt = (t : Int) := by rw [w9.v, if_neg (fun e => absurd e.1 (by decide))]; exact ht
        replace bi := bi.same (h' := w150) (fun j _ => by rw [w9.v, if_neg (fun e => absurd e.1 (by decide))])
        refine hs_aload_n ci_2057_151 l0 ?_
        refine hs_gfr 42 198 ci_2057_152 (by decide +kernel) hp.1 ?_
        refine hs_iconst ci_2057_155 ?_
        refine hs_ial1 (0 + 0) ci_2057_156 rfl (ckq_v gq_ta 0 (by decide)) hp.1 ?_
        refine hs_if (t := 165) ci_2057_157 rfl (fun b157 => ?_) (fun b157 => ?_)
        · simp only [hs_cd, ab_not] at b157
          refine hs_aload_n ci_2057_165 l0 ?_
          refine hs_gfr 42 198 ci_2057_166 (by decide +kernel) hp.1 ?_
          refine hs_iconst ci_2057_169 ?_
          refine hs_d2 ci_2057_170 rfl ?_
          refine hs_ial1 (0 + 1) ci_2057_171 rfl (ckq_v gq_ta 1 (by decide)) hp.1 ?_
          refine hs_iconst ci_2057_172 ?_
          refine hs_iadd ci_2057_173 ?_
          refine hs_ias1 (0 + 1) ci_2057_174 rfl (ckq_v gq_ta 1 (by decide)) hp.1 (ab_ige _) (ab_ile _) ?_
          intro w174 w9
          replace hf := (w9.fr (M := MBS) (ms198 (by decide))).tr hf
          replace hp : ab_hp w174 := ⟨w9.1, hp.2.set (by unfold ab_pr; rfl) w9.2⟩
          replace ht : (hv w174 182 41).toInt = (t : Int) := by rw [w9.v, if_neg (fun e => absurd e.1 (by decide))]; exact ht
          replace bi := bi.same (h' := w174) (fun j _ => by rw [w9.v, if_neg (fun e => absurd e.1 (by decide))])
          refine hs_iinc ci_2057_175 (by decide +kernel) l3 ?_
          intro ls9 q9
          replace l0 := q9.2 0 _ (by decide) rfl l0
          replace l1 := q9.2 1 _ (by decide) rfl l1
          replace l2 := q9.2 2 _ (by decide) rfl l2
          have l3 := q9.1
          clear q9
          refine hs_goto (t := 111) ci_2057_178 rfl ?_
          exact ih (i + 1) _ _ _ _ (by omega) (by have := i32_add hi (y := Int32.ofInt 1) (b := 1) rfl (by omega) (by omega); rw [this]; omega) hp hf ht bi l0 l1 l2 l3
        · simp only [hs_cd, ab_not] at b157
          refine hs_iload_n ci_2057_160 l3 ?_
          refine hs_istore_n ci_2057_161 (by decide +kernel) ?_
          intro ls9 q9
          replace l0 := q9.2 0 _ (by decide) rfl l0
          replace l1 := q9.2 1 _ (by decide) rfl l1
          replace l3 := q9.2 3 _ (by decide) rfl l3
          have l2 := q9.1
          clear q9
          refine hs_goto (t := 175) ci_2057_162 rfl ?_
          refine hs_iinc ci_2057_175 (by decide +kernel) l3 ?_
          intro ls9 q9
          replace l0 := q9.2 0 _ (by decide) rfl l0
          replace l1 := q9.2 1 _ (by decide) rfl l1
          replace l2 := q9.2 2 _ (by decide) rfl l2
          have l3 := q9.1
          clear q9
          refine hs_goto (t := 111) ci_2057_178 rfl ?_
          exact ih (i + 1) _ _ _ _ (by omega) (by have := i32_add hi (y := Int32.ofInt 1) (b := 1) rfl (by omega) (by omega); rw [this]; omega) hp hf ht bi l0 l1 l2 l3
theorem bk_four2 {sc : List Value} {sp d : Nat} (hsc : ab_osc sc) {h0 : eg_H} {x1 : Int32} {t : Nat} (ht9 : t ≤ 40) (r : Nat) : ∀ (i : Nat) (xi : Int32) (ls : eg_L) (h : eg_H), i + r = 4 → xi.toInt = (i : Int) → ab_hp h → ab_fr MBS h h0 → (hv h 182 41).toInt = (t : Int) → BI h t → eg_find 0 ls = some (.ref 182) → eg_find 1 ls = some (.int x1) → eg_find 2 ls = some (.int xi) → hs sc sp 2057 11 (d + 13 + 1) (KB2 h0 x1) 89 ls [] h := by
  induction r with
  | zero =>
    intro i xi ls h hr hi hp hf ht bi l0 l1 l2
    have e4 : (Int32.ofInt 4).toInt = 4 := rfl
    refine hs_iload_n ci_2057_89 l2 ?_
    refine hs_iconst ci_2057_90 ?_
    refine hs_ic (t := 107) ci_2057_91 rfl (fun b91 => ?_) (fun b91 => ?_)
    · simp only [hs_cd, ab_not] at b91
      refine hs_iconst ci_2057_107 ?_
      refine hs_istore_n ci_2057_108 (by decide +kernel) ?_
      intro ls9 q9
      replace l0 := q9.2 0 _ (by decide) rfl l0
      replace l1 := q9.2 1 _ (by decide) rfl l1
      have l2 := q9.1
      clear q9
      refine hs_iconst ci_2057_109 ?_
      refine hs_istore_n ci_2057_110 (by decide +kernel) ?_
      intro ls9 q9
      replace l0 := q9.2 0 _ (by decide) rfl l0
      replace l1 := q9.2 1 _ (by decide) rfl l1
      replace l2 := q9.2 2 _ (by decide) rfl l2
      have l3 := q9.1
      clear q9
      exact bk_live2 hsc ht9 41 0 _ _ _ _ rfl rfl hp hf ht bi l0 l1 l2 l3
    · simp only [hs_cd, ab_not] at b91
      omega
  | succ r ih =>
    intro i xi ls h hr hi hp hf ht bi l0 l1 l2
    have e4 : (Int32.ofInt 4).toInt = 4 := rfl
    refine hs_iload_n ci_2057_89 l2 ?_
    refine hs_iconst ci_2057_90 ?_
    refine hs_ic (t := 107) ci_2057_91 rfl (fun b91 => ?_) (fun b91 => ?_)
    · simp only [hs_cd, ab_not] at b91
      omega
    · simp only [hs_cd, ab_not] at b91
      refine hs_aload_n ci_2057_94 l0 ?_
      refine hs_gfr 42 198 ci_2057_95 (by decide +kernel) hp.1 ?_
      refine hs_iload_n ci_2057_98 l2 ?_
      refine hs_iconst ci_2057_99 ?_
      refine hs_ias1 (0 + i) ci_2057_100 (hi.trans (by omega)) (ckq_v gq_ta i (by omega)) hp.1 (ab_ige _) (ab_ile _) ?_
      intro w1 w9
      replace hf := (w9.fr (M := MBS) (ms198 (by omega))).tr hf
      replace hp : ab_hp w1 := ⟨w9.1, hp.2.set (by unfold ab_pr; rfl) w9.2⟩
      replace ht : (hv w1 182 41).toInt = (t : Int) := by rw [w9.v, if_neg (fun e => absurd e.1 (by decide))]; exact ht
      replace bi := bi.same (h' := w1) (fun j _ => by rw [w9.v, if_neg (fun e => absurd e.1 (by decide))])
      refine hs_iinc ci_2057_101 (by decide +kernel) l2 ?_
      intro ls9 q9
      replace l0 := q9.2 0 _ (by decide) rfl l0
      replace l1 := q9.2 1 _ (by decide) rfl l1
      have l2 := q9.1
      clear q9
      refine hs_goto (t := 89) ci_2057_104 rfl ?_
      exact ih (i + 1) _ _ _ (by omega) (by have := i32_add hi (y := Int32.ofInt 1) (b := 1) rfl (by omega) (by omega); rw [this]; omega) hp hf ht bi l0 l1 l2
/-- the kind of a BOOK's fault -/
def bkq (tk : Nat → tx_K) (ta : Nat → Nat) (ps : PS) (f : Int) : Prop := (∃ n, sb_all tk ta ps 41 0 0 = .inr n ∧ f = 0) ∨ (∃ (k : Int) (a : Nat), sb_all tk ta ps 41 0 0 = .inl (k, a) ∧ f = k)
theorem bkq_one {tk : Nat → tx_K} {ta : Nat → Nat} {ps : PS} {f f' : Int} (a : bkq tk ta ps f) (b : bkq tk ta ps f') : f = f' := by
  rcases a with ⟨n, a1, a2⟩ | ⟨k, a, a1, a2⟩
  · rcases b with ⟨n', b1, b2⟩ | ⟨k', a', b1, b2⟩
    · omega
    · exact absurd (a1.symm.trans b1) (by simp)
  · rcases b with ⟨n', b1, b2⟩ | ⟨k', a', b1, b2⟩
    · exact absurd (a1.symm.trans b1) (by simp)
    · obtain ⟨e, -⟩ := Prod.mk.inj (Sum.inl.inj (a1.symm.trans b1))
      omega
abbrev MBT : ab_M := [(182, 0, 0), (182, 2, 5), (182, 11, 18), (182, 22, 22), (182, 25, 25), (182, 41, 41), (182, 43, 43), (184, 89, 125), (186, 0, 134), (189, 0, 9), (190, 0, 295), (191, 0, 36), (198, 0, 3)]
section RBX
variable {B : Nat → Int} {n0 lim : Nat} {tk : Nat → tx_K} {ta P : Nat → Nat} {sc : List Value} {sp d : Nat} {h : eg_H} {ps : PS}
def bm_P (tk : Nat → tx_K) (ta : Nat → Nat) (ps : PS) (h : eg_H) (vo : Option Value) (h' : eg_H) : Prop := ab_hp h' ∧ ab_fr MBT h' h ∧ (hv h' 182 2).toInt = 0 ∧ (∃ r : Int32, vo = some (.int r)) ∧ bkq tk ta ps (hv h' 182 15).toInt
theorem rt_2057 : (eg_md 2057).2.2.2 = some .int := by decide +kernel
theorem ar_rii {L a : Nat} {lo hi lo2 hi2 : Int} {h : eg_H} {ls : eg_L} {x y : Int32} (hp : ab_hp h) (l0 : eg_find 0 ls = some (.ref a)) (l1 : eg_find 1 ls = some (.int x)) (l2 : eg_find 2 ls = some (.int y)) (h1 : lo ≤ x.toInt) (h2 : x.toInt ≤ hi) (h3 : lo2 ≤ y.toInt) (h4 : y.toInt ≤ hi2) : ab_r L (ar_n L [x, y]) (4, [(2, lo, hi, false, none), (3, lo2, hi2, false, none)], [(0, .inr (a + 2)), (1, .inl (2, .ofNat 0)), (2, .inl (3, .ofNat 0))], [], []) ls [] h := by
  refine ⟨⟨show 2 ≤ 4 by decide, rfl, rfl⟩, ar_e (fun q hq => ?_), vl_ref l0 (vl_int l1 (show 2 < 4 by decide) (Int.add_zero _).symm (vl_int l2 (show 3 < 4 by decide) (Int.add_zero _).symm vl_nil)), rfl, (fun _ _ _ hf => by cases hf), hp⟩
  rcases List.mem_cons.mp hq with e | hq
  · subst e
    exact ⟨_, _, rfl, (show 2 < 4 by decide), h1, h2⟩
  · obtain rfl := List.mem_singleton.mp hq
    exact ⟨_, _, rfl, (show 3 < 4 by decide), h3, h4⟩
/-- to a return -/
def rkk (u : Nat) (Post : Option Value → eg_H → Prop) : Nat → eg_L → List Value → eg_H → Prop := fun pc' _ st' h' => ∃ ik vo, ab_ret u pc' = some ik ∧ eg_rv (eg_md u).2.2.2 ik st' = some vo ∧ Post vo h'
theorem hs_qk {q : ab_Q} (hq : ab_Tr q) {iv : Option (Int × Int)} (ck : ck_en q.1 iv q.2.2.2.2.2.2.1 = true) (hsc : ab_osc sc) (hd : q.2.2.2.1 ≤ d) {ν : Nat → Int} {ls : eg_L} {st : List Value} (hr : ab_r sc.length ν q.2.2.2.2.1 ls st h) : hs sc sp q.1 q.2.1 d (rkk q.1 (mc_P q.2.2.2.2.2.1 h iv)) q.2.2.1 ls st h := hs_qr hq ck hsc hd hr
/-- what is told of the lines, and how it goes on -/
theorem mc_181 {x1 x2 : Int32} (hsc : ab_osc sc) (hp : ab_hp h) (a1 : 0 ≤ x1.toInt) (a2 : x1.toInt ≤ 1) {ls : eg_L} (l0 : eg_find 0 ls = some (.ref 182)) (l1 : eg_find 1 ls = some (.int x1)) (l2 : eg_find 2 ls = some (.int x2)) : hs sc sp 2057 11 (d + 2) (rkk 2057 (mc_P [(182, 25, 25), (182, 43, 43), (184, 89, 125), (190, 0, 295), (198, 2, 3)] h (some (-2147483648, 2147483647)))) 181 ls [] h := hs_qk tr_bM181 (iv := some (-2147483648, 2147483647)) (by decide +kernel) hsc (show 2 ≤ d + 2 by omega) (ar_rii hp l0 l1 l2 a1 a2 (ab_ige x2) (ab_ile x2))
theorem mq_loop (hsc : ab_osc sc) (ts : TS B n0 lim tk ta P) {x1 : Int32} (a1 : 0 ≤ x1.toInt) (a2 : x1.toInt ≤ 1) : ∀ (f n j : Nat) (ls : eg_L) (h1 : eg_H), f + n = 41 → ab_hp h1 → rwok h1 → RP h1 ps → rt B n0 lim tk ta P h1 j → ab_fr MBT h1 h → (hv h1 182 2).toInt = 0 → (hv h1 182 41).toInt = (n : Int) → (hv h1 182 15).toInt = 0 → BI h1 n → sb_all tk ta ps 41 0 0 = sb_all tk ta ps f n j → eg_find 0 ls = some (.ref 182) → eg_find 1 ls = some (.int x1) → hs sc sp 2057 11 (d + 13 + 1) (fun pc' _ st' h' => ∃ ik vo, ab_ret 2057 pc' = some ik ∧ eg_rv (eg_md 2057).2.2.2 ik st' = some vo ∧ bm_P tk ta ps h vo h') 39 ls [] h1 := by
  intro f
  induction f with
  | zero =>
    intro n j ls h1 hfn q1 w1 N1 r1 f1 e2 hn h15 bi eS l0 l1
    have := gb_told q1.1
    omega
  | succ f ih =>
    intro n j ls h1 hfn q1 w1 N1 r1 f1 e2 hn h15 bi eS l0 l1
    have hp := q1.1
    have rk1 := rs_k r1.2.2.2.2
    have hn40 := gb_told hp
    have eU : sb_all tk ta ps (f + 1) n j = if (tk j).1 = 0 then .inr n else sbn (sb_ln tk ta ps n j) (fun _ => if (tk (j + 2)).1 = 2 ∧ (tk (j + 2)).2.1 = 59 then sb_all tk ta ps f (n + 1) (j + 3) else .inl (1, ta (j + 2))) := rfl
    rw [eU] at eS
    refine hs_aload_n ci_2057_39 l0 ?_
    refine hs_gfi 11 ci_2057_40 (by decide +kernel) hp ?_
    refine hs_if (t := 83) ci_2057_43 rfl (fun b43 => ?_) (fun b43 => ?_)
    · simp only [hs_cd, ab_not] at b43
      refine hs_aload_n ci_2057_83 l0 ?_
      refine hs_cv 1938 11 0 ci_2057_84 (by decide +kernel) (by decide +kernel) hp rfl (by rw [ml_1938]; rfl) (c_tries (d := d + 12) hsc q1) ?_
      rintro v9 h2 ⟨q2, f2, e8⟩
      rw [e8]
      clear e8 v9
      replace hp := q2.1
      have b2 : BI h2 n := bi.same (fun j _ => hv_same (f2 186 j rfl))
      simp only [Option.toList, List.nil_append]
      refine hs_iconst ci_2057_87 ?_
      refine hs_istore2_n ci_2057_88 (by decide +kernel) ?_
      intro ls9 q9
      replace l0 := q9.2 0 _ (by decide) (Or.inl rfl) l0
      replace l1 := q9.2 1 _ (by decide) (Or.inl rfl) l1
      have l2 := q9.1
      clear q9
      rw [if_pos (rk1.1.mp b43)] at eS
      refine hs.bind (bk_four2 (h0 := h2) (x1 := x1) hsc (t := n) (by omega) 4 0 _ _ _ rfl rfl q2 ab_fr.rf (by rw [hv_same (f2 182 41 rfl)]; exact hn) b2 l0 l1 l2) ?_
      rintro pc' ls' st' h3 ⟨q3, f3, rfl, rfl, l0, l1, x2, l2⟩
      refine hs.mono (mc_181 (d := d + 12) hsc q3 a1 a2 l0 l1 l2) ?_
      rintro pc' ls' st' h4 ⟨ik, vo, g1, g2, q4, f4, r, g3, -, -⟩
      refine ⟨ik, vo, g1, g2, q4, (fr_sub (by decide +kernel) f4).tr ((fr_sub (by decide +kernel) f3).tr ((fr_sub (by decide +kernel) f2).tr f1)), ?_, ⟨r, g3⟩, Or.inl ⟨n, eS, ?_⟩⟩
      · rw [hv_same (f4 182 2 rfl), hv_same (f3 182 2 rfl), hv_same (f2 182 2 rfl)]
        exact e2
      · rw [hv_same (f4 182 15 rfl), hv_same (f3 182 15 rfl), hv_same (f2 182 15 rfl)]
        exact h15
    · simp only [hs_cd, ab_not] at b43
      refine hs_aload_n ci_2057_46 l0 ?_
      refine hs_cv 2061 11 0 ci_2057_47 (by decide +kernel) (by decide +kernel) hp rfl (by rw [ml_2061]; rfl) (mc.and (by decide) (m_bln (d := d + 9) hsc ts q1 w1 N1 r1 hn h15) (c_bookLine (d := d + 9) hsc hn q1)) ?_
      rintro v9 hB ⟨⟨qB, fB, rB, e8, hrB⟩, -, fb2, hl2, rB2, e82, hr47⟩
      obtain rfl : rB = rB2 := by
        have := Option.some.inj (e8.symm.trans e82)
        exact Value.int.inj this
      rw [e8]
      clear e8 e82 v9
      replace hp := qB.1
      rw [if_neg (fun z => b43 (rk1.1.mpr z))] at eS
      simp only [Option.toList, List.cons_append, List.nil_append]
      refine hs_if (t := 62) ci_2057_50 rfl (fun b50 => ?_) (fun b50 => ?_)
      · simp only [hs_cd, ab_not] at b50
        refine hs_bipush ci_2057_62 ?_
        refine hs_aload_n ci_2057_64 l0 ?_
        refine hs_gfi 16 ci_2057_65 (by decide +kernel) hp ?_
        refine hs_isub ci_2057_68 ?_
        obtain ⟨k, a, z1, z2⟩ : ∃ (k : Int) (a : Nat), sb_ln tk ta ps n j = .inl (k, a) ∧ flm hB k a := by
          rcases hrB with ⟨y, -⟩ | ⟨-, y⟩
          · omega
          · exact y
        rw [sbn_l z1] at eS
        exact hs_k ⟨3, some (.int ((Int8.ofInt (-2)).toInt32 - hv hB 182 16)), by decide +kernel, by rw [rt_2057]; rfl, qB, (fr_sub (by decide +kernel) fB).tr f1, by rw [hv_same (fB 182 2 rfl)]; exact e2, ⟨_, rfl⟩, Or.inr ⟨k, a, eS, z2.1⟩⟩
      · simp only [hs_cd, ab_not] at b50
        obtain ⟨y1, rB1, zB⟩ : (∃ u, sb_ln tk ta ps n j = .inr u) ∧ rt B n0 lim tk ta P hB (j + 2) ∧ (hv hB 182 15).toInt = 0 := by
          rcases hrB with ⟨-, y⟩ | ⟨y, -⟩
          · exact y
          · omega
        obtain ⟨u1, y1⟩ := y1
        rw [sbn_r y1] at eS
        obtain ⟨ht40, hpr⟩ : n < 40 ∧ PR (hv hB 186 (2 * n)).toInt (hv hB 186 (2 * n + 1)).toInt := by
          rcases hr47 with q | ⟨-, q⟩
          · omega
          · exact q
        refine hs_aload_n ci_2057_53 l0 ?_
        refine hs_bipush ci_2057_54 ?_
        refine hs_cv 1734 11 1 ci_2057_56 (by decide +kernel) (by decide +kernel) hp rfl (by rw [ml_1734]; rfl) (mc.and (by decide) (m_sign kB_59 ts qB rB1) (c_sg15 (d := d + 10) hsc kB_59 qB zB)) ?_
        rintro v9 hC ⟨⟨qC, fC, rC, e8, hrC⟩, rCx, e82, hzC⟩
        obtain rfl : rC = rCx := by
          have := Option.some.inj (e8.symm.trans e82)
          exact Value.int.inj this
        rw [e8]
        clear e8 e82 v9
        replace hp := qC.1
        simp only [Option.toList, List.cons_append, List.nil_append]
        refine hs_if (t := 70) ci_2057_59 rfl (fun b59 => ?_) (fun b59 => ?_)
        · simp only [hs_cd, ab_not] at b59
          obtain ⟨hr1, z1, rC1⟩ : rC.toInt = 1 ∧ ((tk (j + 2)).1 = 2 ∧ (tk (j + 2)).2.1 = 59) ∧ rt B n0 lim tk ta P hC (j + 2 + 1) := by
            rcases hrC with y | ⟨y, -⟩
            · exact y
            · omega
          rw [if_pos z1] at eS
          have zC := hzC hr1
          have hnC : (hv hC 182 41).toInt = (n : Int) := by rw [hv_same (fC 182 41 rfl), hv_same (fB 182 41 rfl)]; exact hn
          have e5 : (hv hC 182 41 + Int32.ofInt 1).toInt = ((n + 1 : Nat) : Int) := (i32_add hnC (b := 1) rfl (by omega) (by omega)).trans (by omega)
          refine hs_aload_n ci_2057_70 l0 ?_
          refine hs_dup ci_2057_71 rfl ?_
          refine hs_gfi 41 ci_2057_72 (by decide +kernel) hp ?_
          refine hs_iconst ci_2057_75 ?_
          refine hs_iadd ci_2057_76 ?_
          refine hs_pfi 41 (0) (40) ci_2057_77 (by decide +kernel) hp (by rw [e5]; omega) (by rw [e5]; omega) ?_
          intro h77 w77
          replace hp := w77.1
          refine hs_goto (t := 39) ci_2057_80 rfl ?_
          have f77 : ab_fr [(182, 41, 41)] h77 hC := w77.fr rfl
          have q77 : ab_hp h77 := ⟨hp, qC.2.fr (M := [(182, 41, 41)]) (by decide +kernel) f77⟩
          have bi1 : BI h77 (n + 1) := fun i hi => by
            have e6 : ∀ m, hv h77 186 m = hv hB 186 m := fun m => (hv_same (f77 186 m rfl)).trans (hv_same (fC 186 m rfl))
            rw [e6, e6]
            by_cases e : i = n
            · subst e
              exact hpr
            · rw [hl2 _ (by omega), hl2 _ (by omega)]
              exact bi i (by omega)
          have F77 : ab_fr MBT h77 h := (fr_sub (by decide +kernel) f77).tr ((fr_sub (by decide +kernel) fC).tr ((fr_sub (by decide +kernel) fB).tr f1))
          exact ih (n + 1) (j + 3) _ _ (by omega) q77 (((w1.fr fB (fun _ => rfl)).fr fC (fun _ => rfl)).fr f77 (fun _ => rfl)) (((N1.fr fB rfl (fun _ => rfl)).fr fC rfl (fun _ => rfl)).fr f77 rfl (fun _ => rfl)) (rC1.fr f77 (fun _ => rfl) ⟨rfl, rfl, rfl, rfl, rfl, rfl, rfl⟩) F77 (by rw [hv_same (f77 182 2 rfl), hv_same (fC 182 2 rfl), hv_same (fB 182 2 rfl)]; exact e2) (by rw [w77.v, if_pos ⟨rfl, rfl⟩]; exact e5) (by rw [hv_same (f77 182 15 rfl)]; exact zC) bi1 eS l0 l1
        · simp only [hs_cd, ab_not] at b59
          refine hs_bipush ci_2057_62 ?_
          refine hs_aload_n ci_2057_64 l0 ?_
          refine hs_gfi 16 ci_2057_65 (by decide +kernel) hp ?_
          refine hs_isub ci_2057_68 ?_
          obtain ⟨z1, z2⟩ : ¬ ((tk (j + 2)).1 = 2 ∧ (tk (j + 2)).2.1 = 59) ∧ flm hC 1 (ta (j + 2)) := by
            rcases hrC with ⟨y, -⟩ | ⟨-, y⟩
            · omega
            · exact y
          rw [if_neg z1] at eS
          exact hs_k ⟨3, some (.int ((Int8.ofInt (-2)).toInt32 - hv hC 182 16)), by decide +kernel, by rw [rt_2057]; rfl, qC, (fr_sub (by decide +kernel) fC).tr ((fr_sub (by decide +kernel) fB).tr f1), by rw [hv_same (fC 182 2 rfl), hv_same (fB 182 2 rfl)]; exact e2, ⟨_, rfl⟩, Or.inr ⟨1, ta (j + 2), eS, z2.1⟩⟩
theorem m_book {m : Nat} {x : Int32} (hsc : ab_osc sc) (ts : TS B n0 400 tk ta P) (p0 : P 0 = 0) (hB : bM h = B) (hn0 : (hv h 182 2).toInt = (n0 : Int)) (hq : ab_hp h) (hw : rwok h) (hN : RP h ps) (a1 : 0 ≤ x.toInt) (a2 : x.toInt ≤ 1) : mc sc sp 2057 11 (d + 13 + 1) [.ref 182, .int x] h (bm_P tk ta ps h) := by
  have l0 : eg_find 0 (eg_args 0 [.ref 182, .int x]) = some (.ref 182) := rfl
  have l1 : eg_find 1 (eg_args 0 [.ref 182, .int x]) = some (.int x) := rfl
  have hp := hq.1
  unfold mc
  refine hs_aload_n ci_2057_0 l0 ?_
  refine hs_iconst ci_2057_1 ?_
  refine hs_pfi 0 (0) (1) ci_2057_2 (by decide +kernel) hp (by decide) (by decide) ?_
  intro h2 w2
  replace hp := w2.1
  refine hs_iload_n ci_2057_5 l1 ?_
  refine hs_iconst ci_2057_6 ?_
  refine hs_iconst ci_2057_7 ?_
  refine hs_cs 1698 11 3 ci_2057_8 (by decide +kernel) rfl (by rw [ml_1698]; rfl) (c_isIn _ _ _) ?_
  rintro v9 h9 ⟨e9, rI, e8, hrI⟩
  rw [e8, e9]
  clear e8 e9 v9 h9
  rw [kI_0, kI_1] at hrI
  simp only [Option.toList, List.cons_append, List.nil_append]
  refine hs_if (t := 18) ci_2057_11 rfl (fun b11 => ?_) (fun b11 => ?_)
  · simp only [hs_cd, ab_not] at b11
    refine hs_aload_n ci_2057_18 l0 ?_
    refine hs_sipush ci_2057_19 ?_
    refine hs_cv 1654 11 1 ci_2057_22 (by decide +kernel) (by decide +kernel) hp rfl (by rw [ml_1654]; rfl) (m_tkl (by decide) (by decide) ⟨hp, hq.2.fr (M := [(182, 0, 0)]) (by decide +kernel) (w2.fr rfl)⟩) ?_
    rintro v9 hA ⟨e8, qA, fA, a3, a22, a4, a5⟩
    rw [e8]
    clear e8 v9
    replace hp := qA.1
    have f2 : ab_fr [(182, 0, 0)] h2 h := w2.fr rfl
    simp only [Option.toList, List.nil_append]
    refine hs_aload_n ci_2057_25 l0 ?_
    refine hs_iconst ci_2057_26 ?_
    refine hs_pfi 15 (-2147483648) (2147483647) ci_2057_27 (by decide +kernel) hp (by decide) (by decide) ?_
    intro h27 w27
    replace hp := w27.1
    refine hs_aload_n ci_2057_30 l0 ?_
    refine hs_iconst ci_2057_31 ?_
    refine hs_pfi 41 (0) (40) ci_2057_32 (by decide +kernel) hp (by decide) (by decide) ?_
    intro h32 w32
    replace hp := w32.1
    have g27 : ab_fr [(182, 15, 15), (182, 41, 41)] h27 hA := w27.fr rfl
    have g32 : ab_fr [(182, 15, 15), (182, 41, 41)] h32 hA := (w32.fr rfl).tr g27
    have qB : ab_hp h32 := ⟨hp, qA.2.fr (M := [(182, 15, 15), (182, 41, 41)]) (by decide +kernel) g32⟩
    have FB : ab_fr MBT h32 h := (fr_sub (by decide +kernel) g32).tr ((fr_sub (by decide +kernel) fA).tr (fr_sub (by decide +kernel) f2))
    have v41 : (hv h32 182 41).toInt = 0 := by rw [w32.v, if_pos ⟨rfl, rfl⟩]; exact kI_0
    have v15 : (hv h32 182 15).toInt = 0 := by rw [w32.v, if_neg (by omega), w27.v, if_pos ⟨rfl, rfl⟩]; exact kI_0
    have wB : rwok h32 := hw.fr FB (fun _ => rfl)
    have NB : RP h32 ps := hN.fr FB rfl (fun _ => rfl)
    have b1 : bM h32 = B := by
      rw [← hB]
      exact funext (fun k => by unfold bM; rw [hv_same (FB 183 k rfl)])
    have b3 : (hv h32 182 3).toInt = (n0 : Int) := by rw [hv_same (g32 182 3 rfl), a3, hv_same (f2 182 2 rfl)]; exact hn0
    have b5 : (hv h32 182 5).toInt = ((400 : Nat) : Int) := by rw [hv_same (g32 182 5 rfl), a5]; exact kS_400
    have b4 : (hv h32 182 4).toInt = (P 0 : Int) := by rw [hv_same (g32 182 4 rfl), a4, p0]; rfl
    have b2 : (hv h32 182 2).toInt = 0 := by rw [hv_same (g32 182 2 rfl)]; exact a22
    refine hs_aload_n ci_2057_35 l0 ?_
    refine hs_cv 1658 11 0 ci_2057_36 (by decide +kernel) (by decide +kernel) hp rfl (by rw [ml_1658]; rfl) (m_next0 (j := 0) ts qB b1 b3 b5 b4 (by omega)) ?_
    rintro v9 hC ⟨e8, qC, fC, rC⟩
    rw [e8]
    clear e8 v9
    replace hp := qC.1
    simp only [Option.toList, List.nil_append]
    exact mq_loop hsc ts a1 a2 41 0 0 _ _ rfl qC (wB.fr fC (fun _ => rfl)) (NB.fr fC rfl (fun _ => rfl)) rC ((fr_sub (by decide +kernel) fC).tr FB) (by rw [hv_same (fC 182 2 rfl)]; exact b2) (by rw [hv_same (fC 182 41 rfl)]; exact v41) (by rw [hv_same (fC 182 15 rfl)]; exact v15) (fun i hi => absurd hi (by omega)) rfl l0 l1
  · simp only [hs_cd, ab_not] at b11
    refine hs_sipush ci_2057_14 ?_
    omega
theorem m_bookN {x : Int32} (hq : ab_hp h) (hx : ¬ (0 ≤ x.toInt ∧ x.toInt ≤ 1)) : mc sc sp 2057 11 (d + 13 + 1) [.ref 182, .int x] h (fun vo h' => ab_hp h' ∧ ab_fr [(182, 0, 0)] h' h ∧ ∃ r : Int32, vo = some (.int r)) := by
  have l0 : eg_find 0 (eg_args 0 [.ref 182, .int x]) = some (.ref 182) := rfl
  have l1 : eg_find 1 (eg_args 0 [.ref 182, .int x]) = some (.int x) := rfl
  have hp := hq.1
  unfold mc
  refine hs_aload_n ci_2057_0 l0 ?_
  refine hs_iconst ci_2057_1 ?_
  refine hs_pfi 0 (0) (1) ci_2057_2 (by decide +kernel) hp (by decide) (by decide) ?_
  intro h2 w2
  replace hp := w2.1
  refine hs_iload_n ci_2057_5 l1 ?_
  refine hs_iconst ci_2057_6 ?_
  refine hs_iconst ci_2057_7 ?_
  refine hs_cs 1698 11 3 ci_2057_8 (by decide +kernel) rfl (by rw [ml_1698]; rfl) (c_isIn _ _ _) ?_
  rintro v9 h9 ⟨e9, rI, e8, hrI⟩
  rw [e8, e9]
  clear e8 e9 v9 h9
  rw [kI_0, kI_1] at hrI
  simp only [Option.toList, List.cons_append, List.nil_append]
  refine hs_if (t := 18) ci_2057_11 rfl (fun b11 => ?_) (fun b11 => ?_)
  · simp only [hs_cd, ab_not] at b11
    omega
  · simp only [hs_cd, ab_not] at b11
    refine hs_sipush ci_2057_14 ?_
    have f2 : ab_fr [(182, 0, 0)] h2 h := w2.fr rfl
    exact hs_k ⟨3, some (.int (Int16.ofInt (-1000)).toInt32), by decide +kernel, by rw [rt_2057]; rfl, ⟨hp, hq.2.fr (M := [(182, 0, 0)]) (by decide +kernel) f2⟩, f2, _, rfl⟩
end RBX
abbrev MB5 : ab_M := [(37, 6, 7), (38, 0, 9), (39, 0, 9), (40, 0, 9), (41, 0, 5), (42, 0, 5), (43, 0, 9), (44, 6, 7), (45, 0, 9), (46, 0, 9), (47, 0, 9), (48, 0, 5), (49, 0, 5), (50, 0, 9), (51, 1, 2), (53, 6, 7), (54, 0, 9), (55, 0, 9), (56, 0, 9), (57, 0, 5), (58, 0, 5), (60, 6, 7), (61, 0, 9), (62, 0, 9), (63, 0, 9), (64, 0, 5), (65, 0, 5), (67, 6, 7), (68, 0, 9), (69, 0, 9), (70, 0, 9), (71, 0, 5), (72, 0, 5), (74, 6, 7), (75, 0, 9), (76, 0, 9), (77, 0, 9), (78, 0, 5), (79, 0, 5), (81, 6, 7), (82, 0, 9), (83, 0, 9), (84, 0, 9), (85, 0, 5), (86, 0, 5), (88, 6, 7), (89, 0, 9), (90, 0, 9), (91, 0, 9), (92, 0, 5), (93, 0, 5), (95, 6, 7), (96, 0, 9), (97, 0, 9), (98, 0, 9), (99, 0, 5), (100, 0, 5), (102, 6, 7), (103, 0, 9), (104, 0, 9), (105, 0, 9), (106, 0, 5), (107, 0, 5), (112, 5, 9)]
abbrev MBX : ab_M := [(0, 15, 15), (1, 1, 1), (3, 5, 11), (5, 0, 940), (6, 0, 940), (7, 0, 940), (37, 6, 7), (38, 0, 9), (39, 0, 9), (40, 0, 9), (41, 0, 5), (42, 0, 5), (43, 0, 9), (44, 6, 7), (45, 0, 9), (46, 0, 9), (47, 0, 9), (48, 0, 5), (49, 0, 5), (50, 0, 9), (51, 1, 2), (53, 6, 7), (54, 0, 9), (55, 0, 9), (56, 0, 9), (57, 0, 5), (58, 0, 5), (60, 6, 7), (61, 0, 9), (62, 0, 9), (63, 0, 9), (64, 0, 5), (65, 0, 5), (67, 6, 7), (68, 0, 9), (69, 0, 9), (70, 0, 9), (71, 0, 5), (72, 0, 5), (74, 6, 7), (75, 0, 9), (76, 0, 9), (77, 0, 9), (78, 0, 5), (79, 0, 5), (81, 6, 7), (82, 0, 9), (83, 0, 9), (84, 0, 9), (85, 0, 5), (86, 0, 5), (88, 6, 7), (89, 0, 9), (90, 0, 9), (91, 0, 9), (92, 0, 5), (93, 0, 5), (95, 6, 7), (96, 0, 9), (97, 0, 9), (98, 0, 9), (99, 0, 5), (100, 0, 5), (102, 6, 7), (103, 0, 9), (104, 0, 9), (105, 0, 9), (106, 0, 5), (107, 0, 5), (112, 4, 9), (113, 0, 39), (114, 0, 39)]
def bx_P (h : eg_H) (ps : PS) (vo : Option Value) (h' : eg_H) : Prop := ab_hp h' ∧ ab_fr MBX h' h ∧ (hv h' 1 1).toInt = 0 ∧ (∃ r : Int32, vo = some (.int r)) ∧ ∃ (tk : Nat → tx_K) (ta P : Nat → Nat) (m : Nat), tks (bA h) (hv h 1 1).toInt.toNat 400 tk ta P m ∧ bkq tk ta ps (hv h' 0 15).toInt
theorem rt_1196 : (eg_md 1196).2.2.2 = some .int := by decide +kernel
theorem mc_50 {sc : List Value} {sp d : Nat} {h : eg_H} {x1 : Int32} (hsc : ab_osc sc) (hp : ab_hp h) (a1 : 0 ≤ x1.toInt) (a2 : x1.toInt ≤ 1) {ls : eg_L} (l0 : eg_find 0 ls = some (.ref 0)) (l1 : eg_find 1 ls = some (.int x1)) : hs sc sp 1196 10 (d + 7) (rkk 1196 (mc_P MB5 h (some (-1, 40)))) 50 ls [] h := hs_qk tr_bX50 (iv := some (-1, 40)) (by decide +kernel) hsc (show 7 ≤ d + 7 by omega) (ar_ri hp l0 l1 a1 a2)
theorem k_book {sc : List Value} {sp d : Nat} {h : eg_H} {ps : PS} {x : Int32} (hsc : ab_osc sc) (hq : ab_hp h) (hk : kwok h) (hN : PN h ps) (a1 : 0 ≤ x.toInt) (a2 : x.toInt ≤ 1) : mc sc sp 1196 10 (d + 1 + 1 + 1 + 1 + 1 + 1 + 1) [.ref 0, .int x] h (bx_P h ps) := by
  have l0 : eg_find 0 (eg_args 0 [.ref 0, .int x]) = some (.ref 0) := rfl
  have l1 : eg_find 1 (eg_args 0 [.ref 0, .int x]) = some (.int x) := rfl
  have hp := hq.1
  unfold mc
  refine hs_iload_n ci_1196_0 l1 ?_
  refine hs_if (t := 13) ci_1196_1 rfl (fun b1 => ?_) (fun b1 => ?_)
  · simp only [hs_cd, ab_not] at b1
    refine hs_aload_n ci_1196_13 l0 ?_
    refine hs_gfr 1 3 ci_1196_14 (by decide +kernel) hp ?_
    refine hs_sipush ci_1196_17 ?_
    refine hs_cv 692 8 1 ci_1196_20 (by decide +kernel) (by decide +kernel) hp rfl (by rw [ml_692]; rfl) (k_open (lim := 400) hq kS_400 (by decide)) ?_
    rintro v9 hA ⟨e8, qA, fA, a6, a8, P, tk, ta, m, m1, m2, m3, m4, m5, m6, m7⟩
    rw [e8]
    clear e8 v9
    simp only [Option.toList, List.nil_append]
    replace hp := qA.1
    have kA : kwok hA := hk.fr fA (fun _ => rfl)
    have roA : ro hA tk ta m := ⟨m1, m2, m3, m6, m7⟩
    have cA : cu hA tk ta m 0 := ⟨by rw [a6]; rfl, fun g => by omega⟩
    have tsA : tks (bA h) (hv h 1 1).toInt.toNat 400 tk ta P m := ⟨m2, m1, m4, m5, m7⟩
    have NA : PN hA ps := ⟨by rw [hv_same (fA 8 5 rfl)]; exact hN.1, fun q hq => by rw [hl_same (fA 12 q rfl)]; exact hN.2 q hq⟩
    refine hs_aload_n ci_1196_23 l0 ?_
    refine hs_gfr 8 112 ci_1196_24 (by decide +kernel) hp ?_
    refine hs_cv 1200 0 0 ci_1196_27 (by decide +kernel) (by decide +kernel) hp rfl (by rw [ml_1200]; rfl) (mc.and (by decide) (k_brd hsc qA kA roA cA NA) (c_br15 hsc qA a8)) ?_
    rintro v9 hB ⟨⟨qB, fB, rB, e8, hrB⟩, rB2, e82, hz⟩
    obtain rfl : rB = rB2 := by
      have := Option.some.inj (e8.symm.trans e82)
      exact Value.int.inj this
    rw [e8]
    clear e8 e82 v9
    replace hp := qB.1
    simp only [Option.toList, List.cons_append, List.nil_append]
    refine hs_istore2_n ci_1196_30 (by decide +kernel) ?_
    intro ls9 q9
    replace l0 := q9.2 0 _ (by decide) (Or.inl rfl) l0
    replace l1 := q9.2 1 _ (by decide) (Or.inl rfl) l1
    have l2 := q9.1
    clear q9
    refine hs_aload_n ci_1196_31 l0 ?_
    refine hs_cv 831 10 0 ci_1196_32 (by decide +kernel) (by decide +kernel) hp rfl (by rw [ml_831]; rfl) (k_close qB) ?_
    rintro v9 hC ⟨e8, qC, fC, c11, c15⟩
    rw [e8]
    clear e8 v9
    simp only [Option.toList, List.nil_append]
    replace hp := qC.1
    have FC : ab_fr MBX hC h := (fr_sub (by decide +kernel) fC).tr ((fr_sub (by decide +kernel) fB).tr (fr_sub (by decide +kernel) fA))
    refine hs_iload_n ci_1196_35 l2 ?_
    refine hs_if (t := 50) ci_1196_36 rfl (fun b36 => ?_) (fun b36 => ?_)
    · simp only [hs_cd, ab_not] at b36
      obtain ⟨hr1, n, y1⟩ : rB.toInt = 1 ∧ ∃ n, sb_all tk ta ps 41 0 0 = .inr n := by
        rcases hrB with y | ⟨y, -⟩
        · exact y
        · omega
      refine hs.mono (mc_50 (d := d) hsc qC a1 a2 l0 l1) ?_
      rintro pc' ls' st' hD ⟨ik, vo, g1, g2, qD, fD, r, g3, -, -⟩
      refine ⟨ik, vo, g1, g2, qD, (fr_sub (by decide +kernel) fD).tr FC, ?_, ⟨r, g3⟩, tk, ta, P, m, tsA, Or.inl ⟨n, y1, ?_⟩⟩
      · rw [hv_same (fD 1 1 rfl)]
        exact c11
      · rw [hv_same (fD 0 15 rfl), c15]
        exact hz hr1
    · simp only [hs_cd, ab_not] at b36
      refine hs_bipush ci_1196_39 ?_
      refine hs_aload_n ci_1196_41 l0 ?_
      refine hs_gfr 1 3 ci_1196_42 (by decide +kernel) hp ?_
      refine hs_gfi 9 ci_1196_45 (by decide +kernel) hp ?_
      refine hs_isub ci_1196_48 ?_
      obtain ⟨k, a, y1, y2⟩ : ∃ (k : Int) (a : Nat), sb_all tk ta ps 41 0 0 = .inl (k, a) ∧ flt hB k a := by
        rcases hrB with ⟨y, -⟩ | ⟨-, y⟩
        · omega
        · exact y
      exact hs_k ⟨3, some (.int ((Int8.ofInt (-2)).toInt32 - hv hC 3 9)), by decide +kernel, by rw [rt_1196]; rfl, qC, FC, c11, ⟨_, rfl⟩, tk, ta, P, m, tsA, Or.inr ⟨k, a, y1, by rw [c15]; exact y2.1⟩⟩
  · simp only [hs_cd, ab_not] at b1
    refine hs_iload_n ci_1196_4 l1 ?_
    refine hs_iconst ci_1196_5 ?_
    refine hs_ic (t := 13) ci_1196_6 rfl (fun b6 => ?_) (fun b6 => ?_)
    · simp only [hs_cd, ab_not, kI_1] at b6
      refine hs_aload_n ci_1196_13 l0 ?_
      refine hs_gfr 1 3 ci_1196_14 (by decide +kernel) hp ?_
      refine hs_sipush ci_1196_17 ?_
      refine hs_cv 692 8 1 ci_1196_20 (by decide +kernel) (by decide +kernel) hp rfl (by rw [ml_692]; rfl) (k_open (lim := 400) hq kS_400 (by decide)) ?_
      rintro v9 hA ⟨e8, qA, fA, a6, a8, P, tk, ta, m, m1, m2, m3, m4, m5, m6, m7⟩
      rw [e8]
      clear e8 v9
      simp only [Option.toList, List.nil_append]
      replace hp := qA.1
      have kA : kwok hA := hk.fr fA (fun _ => rfl)
      have roA : ro hA tk ta m := ⟨m1, m2, m3, m6, m7⟩
      have cA : cu hA tk ta m 0 := ⟨by rw [a6]; rfl, fun g => by omega⟩
      have tsA : tks (bA h) (hv h 1 1).toInt.toNat 400 tk ta P m := ⟨m2, m1, m4, m5, m7⟩
      have NA : PN hA ps := ⟨by rw [hv_same (fA 8 5 rfl)]; exact hN.1, fun q hq => by rw [hl_same (fA 12 q rfl)]; exact hN.2 q hq⟩
      refine hs_aload_n ci_1196_23 l0 ?_
      refine hs_gfr 8 112 ci_1196_24 (by decide +kernel) hp ?_
      refine hs_cv 1200 0 0 ci_1196_27 (by decide +kernel) (by decide +kernel) hp rfl (by rw [ml_1200]; rfl) (mc.and (by decide) (k_brd hsc qA kA roA cA NA) (c_br15 hsc qA a8)) ?_
      rintro v9 hB ⟨⟨qB, fB, rB, e8, hrB⟩, rB2, e82, hz⟩
      obtain rfl : rB = rB2 := by
        have := Option.some.inj (e8.symm.trans e82)
        exact Value.int.inj this
      rw [e8]
      clear e8 e82 v9
      replace hp := qB.1
      simp only [Option.toList, List.cons_append, List.nil_append]
      refine hs_istore2_n ci_1196_30 (by decide +kernel) ?_
      intro ls9 q9
      replace l0 := q9.2 0 _ (by decide) (Or.inl rfl) l0
      replace l1 := q9.2 1 _ (by decide) (Or.inl rfl) l1
      have l2 := q9.1
      clear q9
      refine hs_aload_n ci_1196_31 l0 ?_
      refine hs_cv 831 10 0 ci_1196_32 (by decide +kernel) (by decide +kernel) hp rfl (by rw [ml_831]; rfl) (k_close qB) ?_
      rintro v9 hC ⟨e8, qC, fC, c11, c15⟩
      rw [e8]
      clear e8 v9
      simp only [Option.toList, List.nil_append]
      replace hp := qC.1
      have FC : ab_fr MBX hC h := (fr_sub (by decide +kernel) fC).tr ((fr_sub (by decide +kernel) fB).tr (fr_sub (by decide +kernel) fA))
      refine hs_iload_n ci_1196_35 l2 ?_
      refine hs_if (t := 50) ci_1196_36 rfl (fun b36 => ?_) (fun b36 => ?_)
      · simp only [hs_cd, ab_not] at b36
        obtain ⟨hr1, n, y1⟩ : rB.toInt = 1 ∧ ∃ n, sb_all tk ta ps 41 0 0 = .inr n := by
          rcases hrB with y | ⟨y, -⟩
          · exact y
          · omega
        refine hs.mono (mc_50 (d := d) hsc qC a1 a2 l0 l1) ?_
        rintro pc' ls' st' hD ⟨ik, vo, g1, g2, qD, fD, r, g3, -, -⟩
        refine ⟨ik, vo, g1, g2, qD, (fr_sub (by decide +kernel) fD).tr FC, ?_, ⟨r, g3⟩, tk, ta, P, m, tsA, Or.inl ⟨n, y1, ?_⟩⟩
        · rw [hv_same (fD 1 1 rfl)]
          exact c11
        · rw [hv_same (fD 0 15 rfl), c15]
          exact hz hr1
      · simp only [hs_cd, ab_not] at b36
        refine hs_bipush ci_1196_39 ?_
        refine hs_aload_n ci_1196_41 l0 ?_
        refine hs_gfr 1 3 ci_1196_42 (by decide +kernel) hp ?_
        refine hs_gfi 9 ci_1196_45 (by decide +kernel) hp ?_
        refine hs_isub ci_1196_48 ?_
        obtain ⟨k, a, y1, y2⟩ : ∃ (k : Int) (a : Nat), sb_all tk ta ps 41 0 0 = .inl (k, a) ∧ flt hB k a := by
          rcases hrB with ⟨y, -⟩ | ⟨-, y⟩
          · omega
          · exact y
        exact hs_k ⟨3, some (.int ((Int8.ofInt (-2)).toInt32 - hv hC 3 9)), by decide +kernel, by rw [rt_1196]; rfl, qC, FC, c11, ⟨_, rfl⟩, tk, ta, P, m, tsA, Or.inr ⟨k, a, y1, by rw [c15]; exact y2.1⟩⟩
    · simp only [hs_cd, ab_not, kI_1] at b6
      refine hs_sipush ci_1196_9 ?_
      omega
theorem k_bookN {sc : List Value} {sp d : Nat} {h : eg_H} {x : Int32} (hq : ab_hp h) (hx : ¬ (0 ≤ x.toInt ∧ x.toInt ≤ 1)) : mc sc sp 1196 10 d [.ref 0, .int x] h (fun vo h' => h' = h ∧ ∃ r : Int32, vo = some (.int r)) := by
  have l0 : eg_find 0 (eg_args 0 [.ref 0, .int x]) = some (.ref 0) := rfl
  have l1 : eg_find 1 (eg_args 0 [.ref 0, .int x]) = some (.int x) := rfl
  have hp := hq.1
  unfold mc
  refine hs_iload_n ci_1196_0 l1 ?_
  refine hs_if (t := 13) ci_1196_1 rfl (fun b1 => ?_) (fun b1 => ?_)
  · simp only [hs_cd, ab_not] at b1
    omega
  · simp only [hs_cd, ab_not] at b1
    refine hs_iload_n ci_1196_4 l1 ?_
    refine hs_iconst ci_1196_5 ?_
    refine hs_ic (t := 13) ci_1196_6 rfl (fun b6 => ?_) (fun b6 => ?_)
    · simp only [hs_cd, ab_not, kI_1] at b6
      omega
    · simp only [hs_cd, ab_not, kI_1] at b6
      refine hs_sipush ci_1196_9 ?_
      exact hs_k ⟨3, some (.int (Int16.ofInt (-1000)).toInt32), by decide +kernel, by rw [rt_1196]; rfl, rfl, _, rfl⟩
theorem rt_851 : (eg_md 851).2.2.2 = some .int := by decide +kernel
theorem rt_1742 : (eg_md 1742).2.2.2 = some .int := by decide +kernel
theorem k_flt {sc : List Value} {sp d : Nat} {h : eg_H} (hq : ab_hp h) : mc sc sp 851 10 d [.ref 0] h (fun vo h' => h' = h ∧ vo = some (.int (hv h 0 15))) := by
  have l0 : eg_find 0 (eg_args 0 [.ref 0]) = some (.ref 0) := rfl
  have hp := hq.1
  unfold mc
  refine hs_aload_n ci_851_0 l0 ?_
  refine hs_gfi 15 ci_851_1 (by decide +kernel) hp ?_
  exact hs_k ⟨3, some (.int (hv h 0 15)), by decide +kernel, by rw [rt_851]; rfl, rfl, rfl⟩
theorem m_flt {sc : List Value} {sp d : Nat} {h : eg_H} (hq : ab_hp h) : mc sc sp 1742 11 d [.ref 182] h (fun vo h' => ab_hp h' ∧ ab_fr [(182, 0, 0)] h' h ∧ vo = some (.int (hv h' 182 15))) := by
  have l0 : eg_find 0 (eg_args 0 [.ref 182]) = some (.ref 182) := rfl
  have hp := hq.1
  unfold mc
  refine hs_aload_n ci_1742_0 l0 ?_
  refine hs_iconst ci_1742_1 ?_
  refine hs_pfi 0 (0) (1) ci_1742_2 (by decide +kernel) hp (by decide) (by decide) ?_
  intro h2 w2
  replace hp := w2.1
  refine hs_aload_n ci_1742_5 l0 ?_
  refine hs_gfi 15 ci_1742_6 (by decide +kernel) hp ?_
  have f2 : ab_fr [(182, 0, 0)] h2 h := w2.fr rfl
  exact hs_k ⟨3, some (.int (hv h2 182 15)), by decide +kernel, by rw [rt_1742]; rfl, ⟨hp, hq.2.fr (M := [(182, 0, 0)]) (by decide +kernel) f2⟩, f2, rfl⟩
