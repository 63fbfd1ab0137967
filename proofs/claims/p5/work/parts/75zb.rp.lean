/-! BY HAND: the reference's promise, its lines -/
theorem ci_1672_0 : ab_at 1672 0 (.aload_n 0) 1 = true := by decide +kernel
theorem ci_1672_1 : ab_at 1672 1 (.ldc2_w 99) 3 = true := by decide +kernel
theorem ci_1672_4 : ab_at 1672 4 (.invokevirtual 224) 3 = true := by decide +kernel
theorem ci_1672_7 : ab_at 1672 7 (.ifCond .eq 39) 3 = true := by decide +kernel
theorem ci_1672_46 : ab_at 1672 46 (.aload_n 0) 1 = true := by decide +kernel
theorem ci_1672_47 : ab_at 1672 47 (.ldc2_w 101) 3 = true := by decide +kernel
theorem ci_1672_50 : ab_at 1672 50 (.invokevirtual 224) 3 = true := by decide +kernel
theorem ci_1672_53 : ab_at 1672 53 (.ifCond .eq 76) 3 = true := by decide +kernel
theorem ci_1672_129 : ab_at 1672 129 (.aload_n 0) 1 = true := by decide +kernel
theorem ci_1672_130 : ab_at 1672 130 (.ldc2_w 103) 3 = true := by decide +kernel
theorem ci_1672_133 : ab_at 1672 133 (.invokevirtual 224) 3 = true := by decide +kernel
theorem ci_1672_136 : ab_at 1672 136 (.ifCond .eq 8) 3 = true := by decide +kernel
theorem ci_1672_139 : ab_at 1672 139 (.aload_n 0) 1 = true := by decide +kernel
theorem ci_1672_140 : ab_at 1672 140 (.invokevirtual 237) 3 = true := by decide +kernel
theorem ci_1672_144 : ab_at 1672 144 (.aload_n 0) 1 = true := by decide +kernel
theorem ci_1672_145 : ab_at 1672 145 (.ldc2_w 105) 3 = true := by decide +kernel
theorem ci_1672_148 : ab_at 1672 148 (.invokevirtual 224) 3 = true := by decide +kernel
theorem ci_1672_151 : ab_at 1672 151 (.ifCond .eq 148) 3 = true := by decide +kernel
theorem ci_1672_299 : ab_at 1672 299 (.aload_n 0) 1 = true := by decide +kernel
theorem ci_1672_300 : ab_at 1672 300 (.ldc2_w 107) 3 = true := by decide +kernel
theorem ci_1672_303 : ab_at 1672 303 (.invokevirtual 224) 3 = true := by decide +kernel
theorem ci_1672_306 : ab_at 1672 306 (.ifCond .eq 28) 3 = true := by decide +kernel
theorem ci_1672_334 : ab_at 1672 334 (.aload_n 0) 1 = true := by decide +kernel
theorem ci_1672_335 : ab_at 1672 335 (.ldc2_w 109) 3 = true := by decide +kernel
theorem ci_1672_338 : ab_at 1672 338 (.invokevirtual 224) 3 = true := by decide +kernel
theorem ci_1672_341 : ab_at 1672 341 (.ifCond .eq 29) 3 = true := by decide +kernel
theorem ci_1672_370 : ab_at 1672 370 (.aload_n 0) 1 = true := by decide +kernel
theorem ci_1672_371 : ab_at 1672 371 (.iconst 1) 1 = true := by decide +kernel
theorem ci_1672_372 : ab_at 1672 372 (.invokevirtual 184) 3 = true := by decide +kernel
theorem ci_1722_0 : ab_at 1722 0 (.aload_n 0) 1 = true := by decide +kernel
theorem ci_1722_1 : ab_at 1722 1 (.getfield 37) 3 = true := by decide +kernel
theorem ci_1722_4 : ab_at 1722 4 (.iconst 1) 1 = true := by decide +kernel
theorem ci_1722_5 : ab_at 1722 5 (.iaload) 1 = true := by decide +kernel
theorem ci_1722_6 : ab_at 1722 6 (.istore_n 1) 1 = true := by decide +kernel
theorem ci_1722_7 : ab_at 1722 7 (.iload_n 1) 1 = true := by decide +kernel
theorem ci_1722_8 : ab_at 1722 8 (.bipush 10) 2 = true := by decide +kernel
theorem ci_1722_10 : ab_at 1722 10 (.if_icmp .ne 9) 3 = true := by decide +kernel
theorem ci_1722_13 : ab_at 1722 13 (.aload_n 0) 1 = true := by decide +kernel
theorem ci_1722_14 : ab_at 1722 14 (.iconst 4) 1 = true := by decide +kernel
theorem ci_1722_15 : ab_at 1722 15 (.invokevirtual 184) 3 = true := by decide +kernel
theorem ci_1722_19 : ab_at 1722 19 (.aload_n 0) 1 = true := by decide +kernel
theorem ci_1722_20 : ab_at 1722 20 (.dup) 1 = true := by decide +kernel
theorem ci_1722_21 : ab_at 1722 21 (.getfield 212) 3 = true := by decide +kernel
theorem ci_1722_24 : ab_at 1722 24 (.iconst 1) 1 = true := by decide +kernel
theorem ci_1722_25 : ab_at 1722 25 (.ior) 1 = true := by decide +kernel
theorem ci_1722_26 : ab_at 1722 26 (.putfield 212) 3 = true := by decide +kernel
theorem ci_1722_29 : ab_at 1722 29 (.aload_n 0) 1 = true := by decide +kernel
theorem ci_1722_30 : ab_at 1722 30 (.invokevirtual 187) 3 = true := by decide +kernel
theorem ci_1722_33 : ab_at 1722 33 (.aload_n 0) 1 = true := by decide +kernel
theorem ci_1722_34 : ab_at 1722 34 (.bipush 22) 2 = true := by decide +kernel
theorem ci_1722_36 : ab_at 1722 36 (.iload_n 1) 1 = true := by decide +kernel
theorem ci_1722_37 : ab_at 1722 37 (.iadd) 1 = true := by decide +kernel
theorem ci_1722_38 : ab_at 1722 38 (.invokevirtual 231) 3 = true := by decide +kernel
theorem ci_1722_41 : ab_at 1722 41 (.ifCond .eq 18) 3 = true := by decide +kernel
theorem ci_1722_44 : ab_at 1722 44 (.aload_n 0) 1 = true := by decide +kernel
theorem ci_1722_45 : ab_at 1722 45 (.bipush 16) 2 = true := by decide +kernel
theorem ci_1722_47 : ab_at 1722 47 (.aload_n 0) 1 = true := by decide +kernel
theorem ci_1722_48 : ab_at 1722 48 (.getfield 37) 3 = true := by decide +kernel
theorem ci_1722_51 : ab_at 1722 51 (.iconst 0) 1 = true := by decide +kernel
theorem ci_1722_52 : ab_at 1722 52 (.iaload) 1 = true := by decide +kernel
theorem ci_1722_53 : ab_at 1722 53 (.invokevirtual 240) 3 = true := by decide +kernel
theorem ci_1722_56 : ab_at 1722 56 (.ifCond .ne 5) 3 = true := by decide +kernel
theorem ci_1722_59 : ab_at 1722 59 (.iconst 0) 1 = true := by decide +kernel
theorem ci_1722_61 : ab_at 1722 61 (.aload_n 0) 1 = true := by decide +kernel
theorem ci_1722_62 : ab_at 1722 62 (.getfield 194) 3 = true := by decide +kernel
theorem ci_1722_65 : ab_at 1722 65 (.istore_n 2) 1 = true := by decide +kernel
theorem ci_1722_66 : ab_at 1722 66 (.aload_n 0) 1 = true := by decide +kernel
theorem ci_1722_67 : ab_at 1722 67 (.bipush 16) 2 = true := by decide +kernel
theorem ci_1722_69 : ab_at 1722 69 (.aload_n 0) 1 = true := by decide +kernel
theorem ci_1722_70 : ab_at 1722 70 (.getfield 37) 3 = true := by decide +kernel
theorem ci_1722_73 : ab_at 1722 73 (.iconst 0) 1 = true := by decide +kernel
theorem ci_1722_74 : ab_at 1722 74 (.iaload) 1 = true := by decide +kernel
theorem ci_1722_75 : ab_at 1722 75 (.invokevirtual 209) 3 = true := by decide +kernel
theorem ci_1722_78 : ab_at 1722 78 (.ifCond .ne 5) 3 = true := by decide +kernel
theorem ci_1722_81 : ab_at 1722 81 (.iconst 0) 1 = true := by decide +kernel
theorem ci_1722_83 : ab_at 1722 83 (.aload_n 0) 1 = true := by decide +kernel
theorem ci_1722_84 : ab_at 1722 84 (.getfield 194) 3 = true := by decide +kernel
theorem ci_1722_87 : ab_at 1722 87 (.iload_n 2) 1 = true := by decide +kernel
theorem ci_1722_88 : ab_at 1722 88 (.if_icmp .ne 9) 3 = true := by decide +kernel
theorem ci_1722_91 : ab_at 1722 91 (.aload_n 0) 1 = true := by decide +kernel
theorem ci_1722_92 : ab_at 1722 92 (.iconst 3) 1 = true := by decide +kernel
theorem ci_1722_93 : ab_at 1722 93 (.invokevirtual 184) 3 = true := by decide +kernel
theorem ci_1722_97 : ab_at 1722 97 (.aload_n 0) 1 = true := by decide +kernel
theorem ci_1722_98 : ab_at 1722 98 (.getfield 37) 3 = true := by decide +kernel
theorem ci_1722_101 : ab_at 1722 101 (.bipush 19) 2 = true := by decide +kernel
theorem ci_1722_103 : ab_at 1722 103 (.iload_n 1) 1 = true := by decide +kernel
theorem ci_1722_104 : ab_at 1722 104 (.iadd) 1 = true := by decide +kernel
theorem ci_1722_105 : ab_at 1722 105 (.iload_n 2) 1 = true := by decide +kernel
theorem ci_1722_106 : ab_at 1722 106 (.iastore) 1 = true := by decide +kernel
theorem ci_1722_107 : ab_at 1722 107 (.aload_n 0) 1 = true := by decide +kernel
theorem ci_1722_108 : ab_at 1722 108 (.getfield 37) 3 = true := by decide +kernel
theorem ci_1722_111 : ab_at 1722 111 (.bipush 29) 2 = true := by decide +kernel
theorem ci_1722_113 : ab_at 1722 113 (.iload_n 1) 1 = true := by decide +kernel
theorem ci_1722_114 : ab_at 1722 114 (.iadd) 1 = true := by decide +kernel
theorem ci_1722_115 : ab_at 1722 115 (.aload_n 0) 1 = true := by decide +kernel
theorem ci_1722_116 : ab_at 1722 116 (.getfield 194) 3 = true := by decide +kernel
theorem ci_1722_119 : ab_at 1722 119 (.iastore) 1 = true := by decide +kernel
theorem ci_1722_120 : ab_at 1722 120 (.aload_n 0) 1 = true := by decide +kernel
theorem ci_1722_121 : ab_at 1722 121 (.invokevirtual 187) 3 = true := by decide +kernel
theorem ci_1722_124 : ab_at 1722 124 (.aload_n 0) 1 = true := by decide +kernel
theorem ci_1722_125 : ab_at 1722 125 (.bipush 39) 2 = true := by decide +kernel
theorem ci_1722_127 : ab_at 1722 127 (.iload_n 1) 1 = true := by decide +kernel
theorem ci_1722_128 : ab_at 1722 128 (.iadd) 1 = true := by decide +kernel
theorem ci_1722_129 : ab_at 1722 129 (.bipush 49) 2 = true := by decide +kernel
theorem ci_1722_131 : ab_at 1722 131 (.iload_n 1) 1 = true := by decide +kernel
theorem ci_1722_132 : ab_at 1722 132 (.iadd) 1 = true := by decide +kernel
theorem ci_1722_133 : ab_at 1722 133 (.invokevirtual 234) 3 = true := by decide +kernel
theorem ci_1722_136 : ab_at 1722 136 (.ifCond .eq 32) 3 = true := by decide +kernel
theorem ci_1722_139 : ab_at 1722 139 (.aload_n 0) 1 = true := by decide +kernel
theorem ci_1722_140 : ab_at 1722 140 (.bipush 59) 2 = true := by decide +kernel
theorem ci_1722_142 : ab_at 1722 142 (.iload_n 1) 1 = true := by decide +kernel
theorem ci_1722_143 : ab_at 1722 143 (.iadd) 1 = true := by decide +kernel
theorem ci_1722_144 : ab_at 1722 144 (.iconst 0) 1 = true := by decide +kernel
theorem ci_1722_145 : ab_at 1722 145 (.bipush 60) 2 = true := by decide +kernel
theorem ci_1722_147 : ab_at 1722 147 (.invokevirtual 218) 3 = true := by decide +kernel
theorem ci_1722_150 : ab_at 1722 150 (.ifCond .eq 18) 3 = true := by decide +kernel
theorem ci_1722_153 : ab_at 1722 153 (.aload_n 0) 1 = true := by decide +kernel
theorem ci_1722_154 : ab_at 1722 154 (.bipush 69) 2 = true := by decide +kernel
theorem ci_1722_156 : ab_at 1722 156 (.iload_n 1) 1 = true := by decide +kernel
theorem ci_1722_157 : ab_at 1722 157 (.iadd) 1 = true := by decide +kernel
theorem ci_1722_158 : ab_at 1722 158 (.iconst 0) 1 = true := by decide +kernel
theorem ci_1722_159 : ab_at 1722 159 (.sipush 399) 3 = true := by decide +kernel
theorem ci_1722_162 : ab_at 1722 162 (.invokevirtual 218) 3 = true := by decide +kernel
theorem ci_1722_165 : ab_at 1722 165 (.ifCond .ne 5) 3 = true := by decide +kernel
theorem ci_1722_168 : ab_at 1722 168 (.iconst 0) 1 = true := by decide +kernel
theorem ci_1722_170 : ab_at 1722 170 (.aload_n 0) 1 = true := by decide +kernel
theorem ci_1722_171 : ab_at 1722 171 (.getfield 37) 3 = true := by decide +kernel
theorem ci_1722_174 : ab_at 1722 174 (.iconst 1) 1 = true := by decide +kernel
theorem ci_1722_175 : ab_at 1722 175 (.dup2) 1 = true := by decide +kernel
theorem ci_1722_176 : ab_at 1722 176 (.iaload) 1 = true := by decide +kernel
theorem ci_1722_177 : ab_at 1722 177 (.iconst 1) 1 = true := by decide +kernel
theorem ci_1722_178 : ab_at 1722 178 (.iadd) 1 = true := by decide +kernel
theorem ci_1722_179 : ab_at 1722 179 (.iastore) 1 = true := by decide +kernel
theorem ci_1722_180 : ab_at 1722 180 (.iconst 1) 1 = true := by decide +kernel
theorem ml_1722 : (eg_md 1722).2.2.1 = 3 := by decide +kernel
theorem kB_19 : (Int8.ofInt (19)).toInt32.toInt = 19 := by decide +kernel
theorem kB_29 : (Int8.ofInt (29)).toInt32.toInt = 29 := by decide +kernel
theorem kB_69 : (Int8.ofInt (69)).toInt32.toInt = 69 := by decide +kernel
section RI
variable {B : Nat → Int} {n lim : Nat} {tk : Nat → tx_K} {ta P : Nat → Nat} {sc : List Value} {sp d : Nat} {h : eg_H} {j : Nat} {ps : PS}
theorem rt_1722 : (eg_md 1722).2.2.2 = some .boolean := by decide +kernel
set_option maxHeartbeats 8000000 in
theorem m_prom (ts : TS B n lim tk ta P) (hq : ab_hp h) (hw : rwok h) (hr : rt B n lim tk ta P h j) (hP : MP h ps) : mc sc sp 1722 11 (d + 1 + 1 + 1 + 1 + 1) [.ref 182] h (lm_P B n lim tk ta P h (sp_prom tk ta ps (j + 1))) := by
  have l0 : eg_find 0 (eg_args 0 [.ref 182]) = some (.ref 182) := rfl
  have hp := hq.1
  have hb9 := hP.2.2.2.2.2
  have ej : j + 1 - 1 = j := by omega
  unfold mc
  refine hs_aload_n ci_1722_0 l0 ?_
  refine hs_gfr 7 185 ci_1722_1 (by decide +kernel) hp ?_
  refine hs_iconst ci_1722_4 ?_
  refine hs_iaload 1 1 (0) (10) ci_1722_5 (by decide +kernel) hp (by decide) (by decide) (fun r5_1 r5_2 => ?_)
  refine hs_istore2_n ci_1722_6 (by decide +kernel) ?_
  intro ls9 q9
  replace l0 := q9.2 0 _ (by decide) (Or.inl rfl) l0
  have l1 := q9.1
  clear q9
  refine hs_iload_n ci_1722_7 l1 ?_
  refine hs_bipush ci_1722_8 ?_
  refine hs_ic (t := 19) ci_1722_10 rfl (fun b10 => ?_) (fun b10 => ?_)
  · simp only [hs_cd, ab_not, kB_10] at b10
    refine hs_aload_n ci_1722_19 l0 ?_
    refine hs_dup ci_1722_20 rfl ?_
    refine hs_gfi 20 ci_1722_21 (by decide +kernel) hp ?_
    refine hs_iconst ci_1722_24 ?_
    refine hs_ior ci_1722_25 ?_
    refine hs_pfi 20 (-2147483648) (2147483647) ci_1722_26 (by decide +kernel) hp (ab_ige _) (ab_ile _) ?_
    intro h26 w26
    replace hp := w26.1
    have f26 : ab_fr [(182, 20, 20)] h26 h := w26.fr rfl
    have q26 : ab_hp h26 := ⟨hp, hq.2.fr (M := [(182, 20, 20)]) (by decide +kernel) f26⟩
    have r26 : rt B n lim tk ta P h26 j := hr.fr f26 (fun _ => rfl) ⟨rfl, rfl, rfl, rfl, rfl, rfl, rfl⟩
    refine hs_aload_n ci_1722_29 l0 ?_
    refine hs_cv 1658 11 0 ci_1722_30 (by decide +kernel) (by decide +kernel) hp rfl (by rw [ml_1658]; rfl) (m_next ts q26 r26) ?_
    rintro v9 hA ⟨e8, qA, fA, rA⟩
    rw [e8]
    clear e8 v9
    replace hp := qA.1
    simp only [Option.toList, List.nil_append]
    obtain ⟨k, ek⟩ : ∃ k : Nat, ps.1 5 = (k : Int) := ⟨(ps.1 5).toNat, by omega⟩
    have ex : (hv h 185 (Int32.ofInt 1).toInt.toNat).toInt = (k : Int) := by rw [kN_1, hP.1.2.1]; exact ek
    have k10 : k < 10 := by
      have : ¬ ps.1 5 = 10 := fun g => b10 (by rw [ex]; omega)
      omega
    have e22 : ((Int8.ofInt 22).toInt32 + hv h 185 (Int32.ofInt 1).toInt.toNat).toInt = ((22 + k : Nat) : Int) := (i32_add kB_22 ex (by omega) (by omega)).trans (by omega)
    have e19 : ((Int8.ofInt 19).toInt32 + hv h 185 (Int32.ofInt 1).toInt.toNat).toInt = ((19 + k : Nat) : Int) := (i32_add kB_19 ex (by omega) (by omega)).trans (by omega)
    have e29 : ((Int8.ofInt 29).toInt32 + hv h 185 (Int32.ofInt 1).toInt.toNat).toInt = ((29 + k : Nat) : Int) := (i32_add kB_29 ex (by omega) (by omega)).trans (by omega)
    have e39 : ((Int8.ofInt 39).toInt32 + hv h 185 (Int32.ofInt 1).toInt.toNat).toInt = ((39 + k : Nat) : Int) := (i32_add kB_39 ex (by omega) (by omega)).trans (by omega)
    have e49 : ((Int8.ofInt 49).toInt32 + hv h 185 (Int32.ofInt 1).toInt.toNat).toInt = ((49 + k : Nat) : Int) := (i32_add kB_49 ex (by omega) (by omega)).trans (by omega)
    have e59 : ((Int8.ofInt 59).toInt32 + hv h 185 (Int32.ofInt 1).toInt.toNat).toInt = ((59 + k : Nat) : Int) := (i32_add kB_59 ex (by omega) (by omega)).trans (by omega)
    have e69 : ((Int8.ofInt 69).toInt32 + hv h 185 (Int32.ofInt 1).toInt.toNat).toInt = ((69 + k : Nat) : Int) := (i32_add kB_69 ex (by omega) (by omega)).trans (by omega)
    have wA : rwok hA := (hw.fr f26 (fun _ => rfl)).fr fA (fun _ => rfl)
    have bA : ∀ i, fb (hv hA 182 20) i = true ↔ (fb (hv h 182 20) i = true ∨ i = 0) := fun i => by
      rw [hv_same (fA 182 20 rfl), w26.v, if_pos ⟨rfl, rfl⟩]
      exact fb_o1 _ i
    have s5 : ∀ q, hv hA 185 q = hv h 185 q := fun q => by rw [hv_same (fA 185 q rfl), hv_same (f26 185 q rfl)]
    have s7 : ∀ q, hl hA 187 q = hl h 187 q := fun q => by rw [hl_same (fA 187 q rfl), hl_same (f26 187 q rfl)]
    have FA : ab_fr MLM hA h := (fr_sub (by decide +kernel) fA).tr (fr_sub (by decide +kernel) f26)
    have PA : MP hA (uf ps.1 7 1, ps.2) := hP.scal (f' := uf ps.1 7 1) rfl rfl (by rw [s5 0, s5 1, s5 2, s5 3, s5 4, s5 5, s5 6]; exact hP.1) (fun q _ => s5 q) s7 ⟨⟨fun _ => Or.inl (show (1 : Int) ≠ 0 by decide), fun _ => (bA 0).mpr (Or.inr rfl)⟩, (bA 1).trans ⟨fun g => by
      rcases g with g | g
      · exact hP.2.1.2.1.mp g
      · exact absurd g (by decide), fun g => Or.inl (hP.2.1.2.1.mpr g)⟩, (bA 2).trans ⟨fun g => by
      rcases g with g | g
      · exact hP.2.1.2.2.mp g
      · exact absurd g (by decide), fun g => Or.inl (hP.2.1.2.2.mpr g)⟩⟩ ⟨hb9.1, hb9.2.1, hb9.2.2.1, hb9.2.2.2.1, hb9.2.2.2.2.2.2.2.2.1, hb9.2.2.2.2.2.2.2.2.2⟩
    refine hs_aload_n ci_1722_33 l0 ?_
    refine hs_bipush ci_1722_34 ?_
    refine hs_iload_n ci_1722_36 l1 ?_
    refine hs_iadd ci_1722_37 ?_
    refine hs_cv 1702 11 1 ci_1722_38 (by decide +kernel) (by decide +kernel) hp rfl (by rw [ml_1702]; rfl) (m_fresh (ps := (uf ps.1 7 1, ps.2)) (to := 22 + k) e22 (by omega) ts qA wA rA PA) ?_
    rintro v9 hB ⟨qB, fB, rB, e8, hrB⟩
    rw [e8]
    clear e8 v9
    rw [sp_new_u] at hrB
    replace hp := qB.1
    simp only [Option.toList, List.cons_append, List.nil_append]
    refine hs_if (t := 59) ci_1722_41 rfl (fun b41 => ?_) (fun b41 => ?_)
    · simp only [hs_cd, ab_not] at b41
      refine hs_iconst ci_1722_59 ?_
      rcases hrB with ⟨c, w, -, y2, -⟩ | ⟨k, a, y1, y2, y3⟩
      · omega
      · refine hs_k ⟨3, some (.int (Int32.ofInt 0)), by decide +kernel, rv_b rt_1722 (Or.inl (by decide)), qB, (fr_cs (il_187 (by omega)) (by decide +kernel) fB).tr FA, _, rfl, Or.inr ⟨k, a, ?_, by decide, y3⟩⟩
        unfold sp_prom
        rw [if_neg (by omega), sbn_l y1]
    · simp only [hs_cd, ab_not] at b41
      obtain ⟨c, w, hc1, hc2, hc3, rB2⟩ : ∃ c w, sp_new ps (tk (j + 1)) (ta (j + 1)) = .inr c ∧ (∀ q, hl hB 187 q = if q = 22 + k then w else hl hA 187 q) ∧ tx_co c w.toInt ∧ rt B n lim tk ta P hB (j + 1 + 1) := by
        rcases hrB with ⟨c, w, y1, -, y3, y4, y5⟩ | ⟨k, a, -, y2, -⟩
        · exact ⟨c, w, y1, y3, y4, y5⟩
        · omega
      clear hrB
      have PB : MP hB (uf ps.1 7 1, ps.2) := PA.up (fun q _ => hv_same (fB 185 q rfl)) (hv_same (fB 182 20 rfl)) (fun q hu => by
        rw [hc2 q, if_neg]
        intro e
        obtain ⟨r, hu | hu⟩ := hu
        · have h1 : (r : Int) < ps.1 4 := hu.1
          omega
        · have h1 : (r : Int) < ps.1 5 := hu.1
          omega)
      have wB : rwok hB := wA.fr fB (fun _ => rfl)
      have FB : ab_fr MLM hB h := (fr_cs (il_187 (by omega)) (by decide +kernel) fB).tr FA
      have eyB : (hv hB 185 (Int32.ofInt 0).toInt.toNat).toInt = ((ps.1 4).toNat : Int) := by
        rw [kN_0, PB.1.1]
        show ps.1 4 = _
        omega
      refine hs_aload_n ci_1722_44 l0 ?_
      refine hs_bipush ci_1722_45 ?_
      refine hs_aload_n ci_1722_47 l0 ?_
      refine hs_gfr 7 185 ci_1722_48 (by decide +kernel) hp ?_
      refine hs_iconst ci_1722_51 ?_
      refine hs_iaload 0 0 (0) (6) ci_1722_52 (by decide +kernel) hp (by decide) (by decide) (fun r52_1 r52_2 => ?_)
      refine hs_cv 1726 11 2 ci_1722_53 (by decide +kernel) (by decide +kernel) hp rfl (by rw [ml_1726]; rfl) (m_takesN (ps := (uf ps.1 7 1, ps.2)) (fr := 16) (many := (ps.1 4).toNat) (k := 0) (nn := 4) kB_16 eyB (by omega) rfl (fun a ha => PB.sfm ha) ts qB wB rB2) ?_
      rintro v9 hC ⟨qC, fC, rC, e8, hrC⟩
      rw [e8]
      clear e8 v9
      rw [sp_old_u] at hrC
      replace hp := qC.1
      simp only [Option.toList, List.cons_append, List.nil_append]
      refine hs_if (t := 61) ci_1722_56 rfl (fun b56 => ?_) (fun b56 => ?_)
      · simp only [hs_cd, ab_not] at b56
        obtain ⟨gv, hg1, hg2, rC2⟩ : ∃ g, sp_old ps 0 4 (tk (j + 1 + 1)) (ta (j + 1 + 1)) = .inr g ∧ (hv hC 182 18).toInt = g ∧ rt B n lim tk ta P hC (j + 1 + 1 + 1) := by
          rcases hrC with ⟨g, y1, -, y3, y4⟩ | ⟨k, a, -, y2, -⟩
          · exact ⟨g, y1, y3, y4⟩
          · omega
        clear hrC
        have bg := sp_old_b hg1
        have PC : MP hC (uf ps.1 7 1, ps.2) := PB.fr fC (fun _ => rfl) (fun _ => rfl) rfl
        have wC : rwok hC := wB.fr fC (fun _ => rfl)
        have FC : ab_fr MLM hC h := (fr_sub (by decide +kernel) fC).tr FB
        have eyC : (hv hC 185 (Int32.ofInt 0).toInt.toNat).toInt = ((ps.1 4).toNat : Int) := by
          rw [kN_0, PC.1.1]
          show ps.1 4 = _
          omega
        refine hs_aload_n ci_1722_61 l0 ?_
        refine hs_gfi 18 ci_1722_62 (by decide +kernel) hp ?_
        refine hs_istore2_n ci_1722_65 (by decide +kernel) ?_
        intro ls9 q9
        replace l0 := q9.2 0 _ (by decide) (Or.inl rfl) l0
        replace l1 := q9.2 1 _ (by decide) (Or.inl rfl) l1
        have l2 := q9.1
        clear q9
        refine hs_aload_n ci_1722_66 l0 ?_
        refine hs_bipush ci_1722_67 ?_
        refine hs_aload_n ci_1722_69 l0 ?_
        refine hs_gfr 7 185 ci_1722_70 (by decide +kernel) hp ?_
        refine hs_iconst ci_1722_73 ?_
        refine hs_iaload 0 0 (0) (6) ci_1722_74 (by decide +kernel) hp (by decide) (by decide) (fun r74_1 r74_2 => ?_)
        refine hs_cv 1730 11 2 ci_1722_75 (by decide +kernel) (by decide +kernel) hp rfl (by rw [ml_1730]; rfl) (m_looks (ps := (uf ps.1 7 1, ps.2)) (fr := 16) (many := (ps.1 4).toNat) (k := 0) (nn := 4) kB_16 eyC (by omega) rfl (fun a ha => PC.sfm ha) qC wC rC2) ?_
        rintro v9 hD ⟨qD, fD, rD, e8, hrD⟩
        rw [e8]
        clear e8 v9
        rw [sp_old_u] at hrD
        replace hp := qD.1
        simp only [Option.toList, List.cons_append, List.nil_append]
        refine hs_if (t := 83) ci_1722_78 rfl (fun b78 => ?_) (fun b78 => ?_)
        · simp only [hs_cd, ab_not] at b78
          obtain ⟨hs9, hs1, hs2, rD2⟩ : ∃ g, sp_old ps 0 4 (tk (j + 1 + 1 + 1)) (ta (j + 1 + 1 + 1)) = .inr g ∧ (hv hD 182 18).toInt = g ∧ rt B n lim tk ta P hD (j + 1 + 1 + 1) := by
            rcases hrD with ⟨g, y1, -, y3, y4⟩ | ⟨k, a, -, y2, -⟩
            · exact ⟨g, y1, y3, y4⟩
            · omega
          clear hrD
          have bh := sp_old_b hs1
          have PD : MP hD (uf ps.1 7 1, ps.2) := PC.fr fD (fun _ => rfl) (fun _ => rfl) rfl
          have FD : ab_fr MLM hD h := (fr_sub (by decide +kernel) fD).tr FC
          refine hs_aload_n ci_1722_83 l0 ?_
          refine hs_gfi 18 ci_1722_84 (by decide +kernel) hp ?_
          refine hs_iload_n ci_1722_87 l2 ?_
          refine hs_ic (t := 97) ci_1722_88 rfl (fun b88 => ?_) (fun b88 => ?_)
          · simp only [hs_cd, ab_not] at b88
            refine hs_aload_n ci_1722_97 l0 ?_
            refine hs_gfr 7 185 ci_1722_98 (by decide +kernel) hp ?_
            refine hs_bipush ci_1722_101 ?_
            refine hs_iload_n ci_1722_103 l1 ?_
            refine hs_iadd ci_1722_104 ?_
            refine hs_iload_n ci_1722_105 l2 ?_
            refine hs_iastore 19 28 (0) (5) ci_1722_106 (by decide +kernel) hp (by omega) (by omega) (by omega) (by omega) ?_
            intro h106 w106
            replace hp := w106.1
            have x19 : ((Int8.ofInt 19).toInt32 + hv h 185 (Int32.ofInt 1).toInt.toNat).toInt.toNat = 19 + k := by omega
            rw [x19] at w106
            have f106 : ab_fr [(185, 0, 88)] h106 hD := w106.fr (ab_inr_up (k1 := 0) (k2 := 88) rfl (by omega) (by omega))
            have g18 : hv h106 182 18 = hv hD 182 18 := hv_same (f106 182 18 rfl)
            refine hs_aload_n ci_1722_107 l0 ?_
            refine hs_gfr 7 185 ci_1722_108 (by decide +kernel) hp ?_
            refine hs_bipush ci_1722_111 ?_
            refine hs_iload_n ci_1722_113 l1 ?_
            refine hs_iadd ci_1722_114 ?_
            refine hs_aload_n ci_1722_115 l0 ?_
            refine hs_gfi 18 ci_1722_116 (by decide +kernel) hp ?_
            refine hs_iastore 29 38 (0) (5) ci_1722_119 (by decide +kernel) hp (by omega) (by omega) (by rw [g18]; omega) (by rw [g18]; omega) ?_
            intro h119 w119
            replace hp := w119.1
            have x29 : ((Int8.ofInt 29).toInt32 + hv h 185 (Int32.ofInt 1).toInt.toNat).toInt.toNat = 29 + k := by omega
            rw [x29] at w119
            have f119 : ab_fr [(185, 0, 88)] h119 h106 := w119.fr (ab_inr_up (k1 := 0) (k2 := 88) rfl (by omega) (by omega))
            have fX : ab_fr [(185, 0, 88)] h119 hD := f119.tr f106
            have q119 : ab_hp h119 := ⟨hp, qD.2.fr (M := [(185, 0, 88)]) (by decide +kernel) fX⟩
            have r119 : rt B n lim tk ta P h119 (j + 1 + 1 + 1) := rD2.fr fX (fun _ => rfl) ⟨rfl, rfl, rfl, rfl, rfl, rfl, rfl⟩
            have PX : MP h119 (uf ps.1 7 1, ps.2) := PD.up (fun q hu => by
              have hu : q < 7 ∨ 79 ≤ q ∨ ∃ r : Nat, ((r : Int) < ps.1 4 ∧ (q = 7 + r ∨ q = 13 + r)) ∨ ((r : Int) < ps.1 5 ∧ (q = 19 + r ∨ q = 39 + r ∨ q = 49 + r)) := hu
              have n1 : q ≠ 19 + k ∧ q ≠ 29 + k := by
                rcases hu with g | g | ⟨r, g | g⟩
                · omega
                · omega
                · omega
                · omega
              rw [w119.v, if_neg (fun g => n1.2 g.2), w106.v, if_neg (fun g => n1.1 g.2)]) (hv_same (fX 182 20 rfl)) (fun q _ => hl_same (fX 187 q rfl))
            have FX : ab_fr MLM h119 h := (fr_sub (by decide +kernel) fX).tr FD
            refine hs_aload_n ci_1722_120 l0 ?_
            refine hs_cv 1658 11 0 ci_1722_121 (by decide +kernel) (by decide +kernel) hp rfl (by rw [ml_1658]; rfl) (m_next ts q119 r119) ?_
            rintro v9 hE ⟨e8, qE, fE, rE⟩
            rw [e8]
            clear e8 v9
            replace hp := qE.1
            simp only [Option.toList, List.nil_append]
            have PE : MP hE (uf ps.1 7 1, ps.2) := PX.fr fE (fun _ => rfl) (fun _ => rfl) rfl
            have FE : ab_fr MLM hE h := (fr_sub (by decide +kernel) fE).tr FX
            have nu : ¬ usd (uf ps.1 7 1, ps.2) (39 + k) := by
              rintro (g | g | ⟨r, ⟨g1, g2⟩ | ⟨g1, g2⟩⟩)
              · omega
              · omega
              · have g1 : (r : Int) < ps.1 4 := g1
                omega
              · have g1 : (r : Int) < ps.1 5 := g1
                omega
            refine hs_aload_n ci_1722_124 l0 ?_
            refine hs_bipush ci_1722_125 ?_
            refine hs_iload_n ci_1722_127 l1 ?_
            refine hs_iadd ci_1722_128 ?_
            refine hs_bipush ci_1722_129 ?_
            refine hs_iload_n ci_1722_131 l1 ?_
            refine hs_iadd ci_1722_132 ?_
            refine hs_cv 1714 11 2 ci_1722_133 (by decide +kernel) (by decide +kernel) hp rfl (by rw [ml_1714]; rfl) (m_putsC (ps := (uf ps.1 7 1, ps.2)) (tx := 39 + k) (ty := 49 + k) 39 58 (by decide +kernel) (by decide +kernel) e39 e49 (by omega) (by omega) (by omega) (by omega) (by decide) (by omega) nu ts qE rE PE) ?_
            rintro v9 hF ⟨qF, fF, rF, e8, hrF⟩
            rw [e8]
            clear e8 v9
            rw [sp_cell_u] at hrF
            replace hp := qF.1
            simp only [Option.toList, List.cons_append, List.nil_append]
            refine hs_if (t := 168) ci_1722_136 rfl (fun b136 => ?_) (fun b136 => ?_)
            · simp only [hs_cd, ab_not] at b136
              refine hs_iconst ci_1722_168 ?_
              rcases hrF with ⟨x, y, -, y2, -⟩ | ⟨k, a, y1, y2, y3⟩
              · omega
              · refine hs_k ⟨3, some (.int (Int32.ofInt 0)), by decide +kernel, rv_b rt_1722 (Or.inl (by decide)), qF, (fr_c2 (il_185 (by omega)) (il_185 (by omega)) (by decide +kernel) fF).tr FE, _, rfl, Or.inr ⟨k, a, ?_, by decide, y3⟩⟩
                unfold sp_prom
                rw [if_neg (by omega), sbn_r hc1, sbn_r hg1, sbn_r hs1, if_neg (by omega), sbn_l y1]
            · simp only [hs_cd, ab_not] at b136
              obtain ⟨x, y, hx1, hx2, hx3, hx4, rF2⟩ : ∃ x y, sp_cell ps (tk (j + 1 + 1 + 1 + 1)) (ta (j + 1 + 1 + 1 + 1)) (tk (j + 1 + 1 + 1 + 1 + 1)) (ta (j + 1 + 1 + 1 + 1 + 1)) = .inr (x, y) ∧ (∀ q, q ≠ 39 + k → q ≠ 49 + k → hv hF 185 q = hv hE 185 q) ∧ (hv hF 185 (39 + k)).toInt = x ∧ (hv hF 185 (49 + k)).toInt = y ∧ rt B n lim tk ta P hF (j + 1 + 1 + 1 + 1 + 2) := by
                rcases hrF with ⟨x, y, y1, -, y3, y4, y5, y6⟩ | ⟨k, a, -, y2, -⟩
                · exact ⟨x, y, y1, y3, y4, y5, y6⟩
                · omega
              clear hrF
              have FF : ab_fr MLM hF h := (fr_c2 (il_185 (by omega)) (il_185 (by omega)) (by decide +kernel) fF).tr FE
              refine hs_aload_n ci_1722_139 l0 ?_
              refine hs_bipush ci_1722_140 ?_
              refine hs_iload_n ci_1722_142 l1 ?_
              refine hs_iadd ci_1722_143 ?_
              refine hs_iconst ci_1722_144 ?_
              refine hs_bipush ci_1722_145 ?_
              refine hs_cv 1691 11 3 ci_1722_147 (by decide +kernel) (by decide +kernel) hp rfl (by rw [ml_1691]; rfl) (m_puts (x := Int32.ofInt 0) (to := 59 + k) 59 68 (-2147483648) 2147483647 (by decide +kernel) e59 (by omega) (by omega) (by decide) (ab_ige _) (ab_ile _) ts qF rF2) ?_
              rintro v9 hG ⟨qG, fG, rG, e8, hrG⟩
              rw [e8]
              clear e8 v9
              rw [kI_0, kB_60] at hrG
              replace hp := qG.1
              simp only [Option.toList, List.cons_append, List.nil_append]
              refine hs_if (t := 168) ci_1722_150 rfl (fun b150 => ?_) (fun b150 => ?_)
              · simp only [hs_cd, ab_not] at b150
                refine hs_iconst ci_1722_168 ?_
                rcases hrG with ⟨v, x, -, y2, -⟩ | ⟨k, a, y1, y2, y3⟩
                · omega
                · refine hs_k ⟨3, some (.int (Int32.ofInt 0)), by decide +kernel, rv_b rt_1722 (Or.inl (by decide)), qG, (fr_cs (il_185 (by omega)) (by decide +kernel) fG).tr FF, _, rfl, Or.inr ⟨k, a, ?_, by decide, y3⟩⟩
                  unfold sp_prom
                  rw [if_neg (by omega), sbn_r hc1, sbn_r hg1, sbn_r hs1, if_neg (by omega), sbn_r hx1, sbn_l y1]
              · simp only [hs_cd, ab_not] at b150
                obtain ⟨u, ux, hu1, hu2, -, rG2⟩ : ∃ v x, sp_num (tk (j + 1 + 1 + 1 + 1 + 2)) (ta (j + 1 + 1 + 1 + 1 + 2)) 0 60 = .inr v ∧ (∀ q, hv hG 185 q = if q = 59 + k then x else hv hF 185 q) ∧ x.toInt = v ∧ rt B n lim tk ta P hG (j + 1 + 1 + 1 + 1 + 2 + 1) := by
                  rcases hrG with ⟨v, x, y1, -, y3, y4, y5⟩ | ⟨k, a, -, y2, -⟩
                  · exact ⟨v, x, y1, y3, y4, y5⟩
                  · omega
                clear hrG
                have FG : ab_fr MLM hG h := (fr_cs (il_185 (by omega)) (by decide +kernel) fG).tr FF
                refine hs_aload_n ci_1722_153 l0 ?_
                refine hs_bipush ci_1722_154 ?_
                refine hs_iload_n ci_1722_156 l1 ?_
                refine hs_iadd ci_1722_157 ?_
                refine hs_iconst ci_1722_158 ?_
                refine hs_sipush ci_1722_159 ?_
                refine hs_cv 1691 11 3 ci_1722_162 (by decide +kernel) (by decide +kernel) hp rfl (by rw [ml_1691]; rfl) (m_puts (x := Int32.ofInt 0) (to := 69 + k) 69 78 (-2147483648) 2147483647 (by decide +kernel) e69 (by omega) (by omega) (by decide) (ab_ige _) (ab_ile _) ts qG rG2) ?_
                rintro v9 hH ⟨qH, fH, rH, e8, hrH⟩
                rw [e8]
                clear e8 v9
                rw [kI_0, kS_399] at hrH
                replace hp := qH.1
                simp only [Option.toList, List.cons_append, List.nil_append]
                refine hs_if (t := 170) ci_1722_165 rfl (fun b165 => ?_) (fun b165 => ?_)
                · simp only [hs_cd, ab_not] at b165
                  obtain ⟨t, tx, ht1, ht2, -, rH2⟩ : ∃ v x, sp_num (tk (j + 1 + 1 + 1 + 1 + 2 + 1)) (ta (j + 1 + 1 + 1 + 1 + 2 + 1)) 0 399 = .inr v ∧ (∀ q, hv hH 185 q = if q = 69 + k then x else hv hG 185 q) ∧ x.toInt = v ∧ rt B n lim tk ta P hH (j + 1 + 1 + 1 + 1 + 2 + 1 + 1) := by
                    rcases hrH with ⟨v, x, y1, -, y3, y4, y5⟩ | ⟨k, a, -, y2, -⟩
                    · exact ⟨v, x, y1, y3, y4, y5⟩
                    · omega
                  clear hrH
                  have FH : ab_fr MLM hH h := (fr_cs (il_185 (by omega)) (by decide +kernel) fH).tr FG
                  have oX : ∀ q, q ≠ 39 + k → q ≠ 49 + k → q ≠ 59 + k → q ≠ 69 + k → hv hH 185 q = hv h119 185 q := fun q q1 q2 q3 q4 => by rw [ht2 q, if_neg q4, hu2 q, if_neg q3, hx2 q q1 q2, hv_same (fE 185 q rfl)]
                  have oD : ∀ q, hv hD 185 q = hv h 185 q := fun q => by rw [hv_same (fD 185 q rfl), hv_same (fC 185 q rfl), hv_same (fB 185 q rfl), s5 q]
                  have eH : (hv hH 185 (Int32.ofInt 1).toInt.toNat).toInt = ps.1 5 := by rw [kN_1, oX 1 (by omega) (by omega) (by omega) (by omega)]; exact PX.1.2.1
                  refine hs_aload_n ci_1722_170 l0 ?_
                  refine hs_gfr 7 185 ci_1722_171 (by decide +kernel) hp ?_
                  refine hs_iconst ci_1722_174 ?_
                  refine hs_d2 ci_1722_175 rfl ?_
                  refine hs_iaload 1 1 (0) (10) ci_1722_176 (by decide +kernel) hp (by decide) (by decide) (fun r176_1 r176_2 => ?_)
                  refine hs_iconst ci_1722_177 ?_
                  refine hs_iadd ci_1722_178 ?_
                  refine hs_iastore 1 1 (0) (10) ci_1722_179 (by decide +kernel) hp (by decide) (by decide) (by rw [i32_inc eH (by omega) (by omega)]; omega) (by rw [i32_inc eH (by omega) (by omega)]; omega) ?_
                  intro h179 w179
                  replace hp := w179.1
                  refine hs_iconst ci_1722_180 ?_
                  have f179 : ab_fr [(185, 0, 88)] h179 hH := w179.fr (ab_inr_up (k1 := 0) (k2 := 88) rfl (by decide) (by decide))
                  have F : ab_fr MLM h179 h := (fr_sub (by decide +kernel) f179).tr FH
                  rw [kN_1] at w179
                  have n1 : ∀ q, q ≠ 1 → hv h179 185 q = hv hH 185 q := fun q hq => by rw [w179.v, if_neg (fun g => hq g.2)]
                  refine hs_k ⟨3, some (.int (Int32.ofInt 1)), by decide +kernel, rv_b rt_1722 (Or.inr (by decide)), ⟨hp, hq.2.fr (M := MLM) (by decide +kernel) F⟩, F, _, rfl, Or.inl ⟨_, j + 8, ?_, by decide, rH2.fr f179 (fun _ => rfl) ⟨rfl, rfl, rfl, rfl, rfl, rfl, rfl⟩, hP.prom (k := k) (c := c) (gv := gv) (x := x) (y := y) (by omega) ek ?_ (fun q q1 q2 q3 q4 q5 q6 q7 => ?_) ?_ ?_ ?_ (fun q q1 => ?_) ?_ (fun i => ?_)⟩⟩
                  · unfold sp_prom
                    rw [if_neg (by omega), sbn_r hc1, sbn_r hg1, sbn_r hs1, if_neg (by omega), sbn_r hx1, sbn_r hu1, sbn_r ht1]
                  · rw [w179.v, if_pos ⟨rfl, rfl⟩, ← kN_1, i32_inc eH (by omega) (by omega)]
                  · rw [n1 q q1, oX q q4 q5 q6 q7, w119.v, if_neg (fun g => q3 g.2), w106.v, if_neg (fun g => q2 g.2), oD]
                  · rw [n1 _ (by omega), oX _ (by omega) (by omega) (by omega) (by omega), w119.v, if_neg (by omega), w106.v, if_pos ⟨rfl, rfl⟩]
                    exact hg2
                  · rw [n1 _ (by omega), ht2 _, if_neg (by omega), hu2 _, if_neg (by omega)]
                    exact hx3
                  · rw [n1 _ (by omega), ht2 _, if_neg (by omega), hu2 _, if_neg (by omega)]
                    exact hx4
                  · rw [hl_same (f179 187 q rfl), hl_same (fH 187 q rfl), hl_same (fG 187 q rfl), hl_same (fF 187 q rfl), hl_same (fE 187 q rfl), hl_same (fX 187 q rfl), hl_same (fD 187 q rfl), hl_same (fC 187 q rfl), hc2 q, if_neg q1, s7 q]
                  · rw [hl_same (f179 187 _ rfl), hl_same (fH 187 _ rfl), hl_same (fG 187 _ rfl), hl_same (fF 187 _ rfl), hl_same (fE 187 _ rfl), hl_same (fX 187 _ rfl), hl_same (fD 187 _ rfl), hl_same (fC 187 _ rfl), hc2 _, if_pos rfl]
                    exact hc3
                  · rw [hv_same (f179 182 20 rfl), hv_same (fH 182 20 rfl), hv_same (fG 182 20 rfl), hv_same (fF 182 20 rfl), hv_same (fE 182 20 rfl), hv_same (fX 182 20 rfl), hv_same (fD 182 20 rfl), hv_same (fC 182 20 rfl), hv_same (fB 182 20 rfl)]
                    exact bA i
                · simp only [hs_cd, ab_not] at b165
                  refine hs_iconst ci_1722_168 ?_
                  rcases hrH with ⟨v, x, -, y2, -⟩ | ⟨k, a, y1, y2, y3⟩
                  · omega
                  · refine hs_k ⟨3, some (.int (Int32.ofInt 0)), by decide +kernel, rv_b rt_1722 (Or.inl (by decide)), qH, (fr_cs (il_185 (by omega)) (by decide +kernel) fH).tr FG, _, rfl, Or.inr ⟨k, a, ?_, by decide, y3⟩⟩
                    unfold sp_prom
                    rw [if_neg (by omega), sbn_r hc1, sbn_r hg1, sbn_r hs1, if_neg (by omega), sbn_r hx1, sbn_r hu1, sbn_l y1]
          · simp only [hs_cd, ab_not] at b88
            refine hs_aload_n ci_1722_91 l0 ?_
            refine hs_iconst ci_1722_92 ?_
            refine hs_cv 1687 11 1 ci_1722_93 (by decide +kernel) (by decide +kernel) hp rfl (by rw [ml_1687]; rfl) (m_bad (Int32.ofInt 3) (by decide) qD rD2) ?_
            rintro v9 h2 ⟨r2, e8, hr2, q2, f2, g2⟩
            rw [e8]
            clear e8 v9
            replace hp := q2.1
            simp only [Option.toList, List.cons_append, List.nil_append]
            rw [kI_3] at g2
            refine hs_k ⟨3, some (.int r2), by decide +kernel, rv_b rt_1722 (Or.inl hr2), q2, (fr_sub (by decide +kernel) f2).tr FD, _, rfl, Or.inr ⟨3, ta (j + 1 + 1 + 1), ?_, hr2, g2⟩⟩
            unfold sp_prom
            rw [if_neg (by omega), sbn_r hc1, sbn_r hg1, sbn_r hs1, if_pos (by omega)]
        · simp only [hs_cd, ab_not] at b78
          refine hs_iconst ci_1722_81 ?_
          rcases hrD with ⟨g, -, y2, -⟩ | ⟨k, a, y1, y2, y3⟩
          · omega
          · refine hs_k ⟨3, some (.int (Int32.ofInt 0)), by decide +kernel, rv_b rt_1722 (Or.inl (by decide)), qD, (fr_sub (by decide +kernel) fD).tr FC, _, rfl, Or.inr ⟨k, a, ?_, by decide, y3⟩⟩
            unfold sp_prom
            rw [if_neg (by omega), sbn_r hc1, sbn_r hg1, sbn_l y1]
      · simp only [hs_cd, ab_not] at b56
        refine hs_iconst ci_1722_59 ?_
        rcases hrC with ⟨g, -, y2, -⟩ | ⟨k, a, y1, y2, y3⟩
        · omega
        · refine hs_k ⟨3, some (.int (Int32.ofInt 0)), by decide +kernel, rv_b rt_1722 (Or.inl (by decide)), qC, (fr_sub (by decide +kernel) fC).tr FB, _, rfl, Or.inr ⟨k, a, ?_, by decide, y3⟩⟩
          unfold sp_prom
          rw [if_neg (by omega), sbn_r hc1, sbn_l y1]
  · simp only [hs_cd, ab_not, kB_10] at b10
    refine hs_aload_n ci_1722_13 l0 ?_
    refine hs_iconst ci_1722_14 ?_
    refine hs_cv 1687 11 1 ci_1722_15 (by decide +kernel) (by decide +kernel) hp rfl (by rw [ml_1687]; rfl) (m_bad (Int32.ofInt 4) (by decide) hq hr) ?_
    rintro v9 h2 ⟨r2, e8, hr2, q2, f2, g2⟩
    rw [e8]
    clear e8 v9
    replace hp := q2.1
    simp only [Option.toList, List.cons_append, List.nil_append]
    rw [kN_1] at b10
    have e0 := hP.1.2.1
    rw [kI_4] at g2
    refine hs_k ⟨3, some (.int r2), by decide +kernel, rv_b rt_1722 (Or.inl hr2), q2, fr_sub (by decide +kernel) f2, _, rfl, Or.inr ⟨4, ta j, ?_, hr2, g2⟩⟩
    unfold sp_prom
    rw [if_pos (by omega), ej]
theorem sl_0 (h4 : 4 ≤ (tk j).1) (e : (tk j).2.1 = 237307) : sp_line tk ta ps (j + 1) = sp_size tk ta ps (j + 1) := by
  have ej : j + 1 - 1 = j := by omega
  unfold sp_line
  rw [ej, if_pos h4, if_pos e]
theorem sl_1 (h4 : 4 ≤ (tk j).1) (e : (tk j).2.1 = 9518) : sp_line tk ta ps (j + 1) = sp_man tk ta ps (j + 1) := by
  have ej : j + 1 - 1 = j := by omega
  unfold sp_line
  rw [ej, if_pos h4, if_neg (by rw [e]; decide), if_pos e]
theorem sl_2 (h4 : 4 ≤ (tk j).1) (e : (tk j).2.1 = 6465242723) : sp_line tk ta ps (j + 1) = sp_prom tk ta ps (j + 1) := by
  have ej : j + 1 - 1 = j := by omega
  unfold sp_line
  rw [ej, if_pos h4, if_neg (by rw [e]; decide), if_neg (by rw [e]; decide), if_pos e]
theorem sl_3 (h4 : 4 ≤ (tk j).1) (e : (tk j).2.1 = 1831769) : sp_line tk ta ps (j + 1) = sp_clash tk ta ps (j + 1) := by
  have ej : j + 1 - 1 = j := by omega
  unfold sp_line
  rw [ej, if_pos h4, if_neg (by rw [e]; decide), if_neg (by rw [e]; decide), if_neg (by rw [e]; decide), if_pos e]
theorem sl_4 (h4 : 4 ≤ (tk j).1) (e : (tk j).2.1 = 4085956) : sp_line tk ta ps (j + 1) = sp_grow tk ta ps (j + 1) := by
  have ej : j + 1 - 1 = j := by omega
  unfold sp_line
  rw [ej, if_pos h4, if_neg (by rw [e]; decide), if_neg (by rw [e]; decide), if_neg (by rw [e]; decide), if_neg (by rw [e]; decide), if_pos e]
theorem sl_5 (h4 : 4 ≤ (tk j).1) (e : (tk j).2.1 = 10502473) : sp_line tk ta ps (j + 1) = sp_stor tk ta ps (j + 1) := by
  have ej : j + 1 - 1 = j := by omega
  unfold sp_line
  rw [ej, if_pos h4, if_neg (by rw [e]; decide), if_neg (by rw [e]; decide), if_neg (by rw [e]; decide), if_neg (by rw [e]; decide), if_neg (by rw [e]; decide), if_pos e]
theorem sl_no (g : ∀ i : Nat, i < 6 → ¬ (4 ≤ (tk j).1 ∧ (tk j).2.1 = kwv.getD i 0)) : sp_line tk ta ps (j + 1) = .inl (1, ta j) := by
  have ej : j + 1 - 1 = j := by omega
  unfold sp_line
  rw [ej]
  by_cases h4 : 4 ≤ (tk j).1
  · have n0 : ¬ (tk j).2.1 = 237307 := fun e => g 0 (by decide) ⟨h4, e⟩
    have n1 : ¬ (tk j).2.1 = 9518 := fun e => g 1 (by decide) ⟨h4, e⟩
    have n2 : ¬ (tk j).2.1 = 6465242723 := fun e => g 2 (by decide) ⟨h4, e⟩
    have n3 : ¬ (tk j).2.1 = 1831769 := fun e => g 3 (by decide) ⟨h4, e⟩
    have n4 : ¬ (tk j).2.1 = 4085956 := fun e => g 4 (by decide) ⟨h4, e⟩
    have n5 : ¬ (tk j).2.1 = 10502473 := fun e => g 5 (by decide) ⟨h4, e⟩
    rw [if_pos h4, if_neg n0, if_neg n1, if_neg n2, if_neg n3, if_neg n4, if_neg n5]
  · rw [if_neg h4]
theorem m_line (ts : TS B n lim tk ta P) (hq : ab_hp h) (hw : rwok h) (hr : rt B n lim tk ta P h j) (hP : MP h ps) : mc sc sp 1672 11 (d + 1 + 1 + 1 + 1 + 1 + 1) [.ref 182] h (lm_P B n lim tk ta P h (sp_line tk ta ps (j + 1))) := by
  have l0 : eg_find 0 (eg_args 0 [.ref 182]) = some (.ref 182) := rfl
  have hp := hq.1
  obtain ⟨k0, k3, k2, k4, -, -, kw⟩ := rs_k hr.2.2.2.2
  unfold mc
  refine hs_aload_n ci_1672_0 l0 ?_
  refine hs_ldc2v (1818324580) ci_1672_1 (by decide +kernel) ?_
  refine hs_cv 1676 11 1 ci_1672_4 (by decide +kernel) (by decide +kernel) hp rfl (by rw [ml_1676]; rfl) (m_isW _ hq hr) ?_
  rintro v9 h9 ⟨e9, rW0, e8, hrW0⟩
  rw [e8, e9]
  clear e8 e9 v9 h9
  simp only [Option.toList, List.cons_append, List.nil_append]
  refine hs_if (t := 46) ci_1672_7 rfl (fun b7 => ?_) (fun b7 => ?_)
  · simp only [hs_cd, ab_not] at b7
    refine hs_aload_n ci_1672_46 l0 ?_
    refine hs_ldc2v (7168366) ci_1672_47 (by decide +kernel) ?_
    refine hs_cv 1676 11 1 ci_1672_50 (by decide +kernel) (by decide +kernel) hp rfl (by rw [ml_1676]; rfl) (m_isW _ hq hr) ?_
    rintro v9 h9 ⟨e9, rW1, e8, hrW1⟩
    rw [e8, e9]
    clear e8 e9 v9 h9
    simp only [Option.toList, List.cons_append, List.nil_append]
    refine hs_if (t := 129) ci_1672_53 rfl (fun b53 => ?_) (fun b53 => ?_)
    · simp only [hs_cd, ab_not] at b53
      refine hs_aload_n ci_1672_129 l0 ?_
      refine hs_ldc2v (31651020294157157) ci_1672_130 (by decide +kernel) ?_
      refine hs_cv 1676 11 1 ci_1672_133 (by decide +kernel) (by decide +kernel) hp rfl (by rw [ml_1676]; rfl) (m_isW _ hq hr) ?_
      rintro v9 h9 ⟨e9, rW2, e8, hrW2⟩
      rw [e8, e9]
      clear e8 e9 v9 h9
      simp only [Option.toList, List.cons_append, List.nil_append]
      refine hs_if (t := 144) ci_1672_136 rfl (fun b136 => ?_) (fun b136 => ?_)
      · simp only [hs_cd, ab_not] at b136
        refine hs_aload_n ci_1672_144 l0 ?_
        refine hs_ldc2v (427020088168) ci_1672_145 (by decide +kernel) ?_
        refine hs_cv 1676 11 1 ci_1672_148 (by decide +kernel) (by decide +kernel) hp rfl (by rw [ml_1676]; rfl) (m_isW _ hq hr) ?_
        rintro v9 h9 ⟨e9, rW3, e8, hrW3⟩
        rw [e8, e9]
        clear e8 e9 v9 h9
        simp only [Option.toList, List.cons_append, List.nil_append]
        refine hs_if (t := 299) ci_1672_151 rfl (fun b151 => ?_) (fun b151 => ?_)
        · simp only [hs_cd, ab_not] at b151
          refine hs_aload_n ci_1672_299 l0 ?_
          refine hs_ldc2v (444301539187) ci_1672_300 (by decide +kernel) ?_
          refine hs_cv 1676 11 1 ci_1672_303 (by decide +kernel) (by decide +kernel) hp rfl (by rw [ml_1676]; rfl) (m_isW _ hq hr) ?_
          rintro v9 h9 ⟨e9, rW4, e8, hrW4⟩
          rw [e8, e9]
          clear e8 e9 v9 h9
          simp only [Option.toList, List.cons_append, List.nil_append]
          refine hs_if (t := 334) ci_1672_306 rfl (fun b306 => ?_) (fun b306 => ?_)
          · simp only [hs_cd, ab_not] at b306
            refine hs_aload_n ci_1672_334 l0 ?_
            refine hs_ldc2v (495874699885) ci_1672_335 (by decide +kernel) ?_
            refine hs_cv 1676 11 1 ci_1672_338 (by decide +kernel) (by decide +kernel) hp rfl (by rw [ml_1676]; rfl) (m_isW _ hq hr) ?_
            rintro v9 h9 ⟨e9, rW5, e8, hrW5⟩
            rw [e8, e9]
            clear e8 e9 v9 h9
            simp only [Option.toList, List.cons_append, List.nil_append]
            refine hs_if (t := 370) ci_1672_341 rfl (fun b341 => ?_) (fun b341 => ?_)
            · simp only [hs_cd, ab_not] at b341
              refine hs_aload_n ci_1672_370 l0 ?_
              refine hs_iconst ci_1672_371 ?_
              refine hs_cv 1687 11 1 ci_1672_372 (by decide +kernel) (by decide +kernel) hp rfl (by rw [ml_1687]; rfl) (m_bad (Int32.ofInt 1) (by decide) hq hr) ?_
              rintro v9 h2 ⟨r2, e8, hr2, q2, f2, g2⟩
              rw [e8]
              clear e8 v9
              replace hp := q2.1
              simp only [Option.toList, List.cons_append, List.nil_append]
              rw [kI_1] at g2
              refine hs_k ⟨3, some (.int r2), by decide +kernel, rv_b rt_1672 (Or.inl hr2), q2, fr_sub (by decide +kernel) f2, _, rfl, Or.inr ⟨1, ta j, sl_no (fun i hi g => ?_), hr2, g2⟩⟩
              obtain ⟨g4, ge⟩ := g
              have hi2 : i = 0 ∨ i = 1 ∨ i = 2 ∨ i = 3 ∨ i = 4 ∨ i = 5 := by omega
              rcases hi2 with rfl | rfl | rfl | rfl | rfl | rfl
              · rcases hrW0 with ⟨y, -⟩ | ⟨-, y⟩
                · omega
                · exact y ⟨g4, (tx_co_one (kw g4).2 wco_0).mp ge⟩
              · rcases hrW1 with ⟨y, -⟩ | ⟨-, y⟩
                · omega
                · exact y ⟨g4, (tx_co_one (kw g4).2 wco_1).mp ge⟩
              · rcases hrW2 with ⟨y, -⟩ | ⟨-, y⟩
                · omega
                · exact y ⟨g4, (tx_co_one (kw g4).2 wco_2).mp ge⟩
              · rcases hrW3 with ⟨y, -⟩ | ⟨-, y⟩
                · omega
                · exact y ⟨g4, (tx_co_one (kw g4).2 wco_3).mp ge⟩
              · rcases hrW4 with ⟨y, -⟩ | ⟨-, y⟩
                · omega
                · exact y ⟨g4, (tx_co_one (kw g4).2 wco_4).mp ge⟩
              · rcases hrW5 with ⟨y, -⟩ | ⟨-, y⟩
                · omega
                · exact y ⟨g4, (tx_co_one (kw g4).2 wco_5).mp ge⟩
            · simp only [hs_cd, ab_not] at b341
              obtain ⟨y1, y2⟩ : 4 ≤ (tk j).1 ∧ (tk j).2.2 = 495874699885 := by
                rcases hrW5 with ⟨-, y⟩ | ⟨y, -⟩
                · exact y
                · omega
              have e9 := sl_5 (ta := ta) (ps := ps) y1 ((tx_co_one (kw y1).2 wco_5).mpr y2)
              refine hs.mono (sg_stor ts hq hw hr hP l0) ?_
              rintro _ _ _ _ ⟨ik, vo, y3, y4, y5⟩
              exact ⟨ik, vo, y3, y4, by rw [e9]; exact y5⟩
          · simp only [hs_cd, ab_not] at b306
            obtain ⟨y1, y2⟩ : 4 ≤ (tk j).1 ∧ (tk j).2.2 = 444301539187 := by
              rcases hrW4 with ⟨-, y⟩ | ⟨y, -⟩
              · exact y
              · omega
            have e9 := sl_4 (ta := ta) (ps := ps) y1 ((tx_co_one (kw y1).2 wco_4).mpr y2)
            refine hs.mono (sg_grow ts hq hw hr hP l0) ?_
            rintro _ _ _ _ ⟨ik, vo, y3, y4, y5⟩
            exact ⟨ik, vo, y3, y4, by rw [e9]; exact y5⟩
        · simp only [hs_cd, ab_not] at b151
          obtain ⟨y1, y2⟩ : 4 ≤ (tk j).1 ∧ (tk j).2.2 = 427020088168 := by
            rcases hrW3 with ⟨-, y⟩ | ⟨y, -⟩
            · exact y
            · omega
          have e9 := sl_3 (ta := ta) (ps := ps) y1 ((tx_co_one (kw y1).2 wco_3).mpr y2)
          refine hs.mono (sg_clash ts hq hw hr hP l0) ?_
          rintro _ _ _ _ ⟨ik, vo, y3, y4, y5⟩
          exact ⟨ik, vo, y3, y4, by rw [e9]; exact y5⟩
      · simp only [hs_cd, ab_not] at b136
        refine hs_aload_n ci_1672_139 l0 ?_
        obtain ⟨y1, y2⟩ : 4 ≤ (tk j).1 ∧ (tk j).2.2 = 31651020294157157 := by
          rcases hrW2 with ⟨-, y⟩ | ⟨y, -⟩
          · exact y
          · omega
        have e9 := sl_2 (ta := ta) (ps := ps) y1 ((tx_co_one (kw y1).2 wco_2).mpr y2)
        refine hs_cv 1722 11 0 ci_1672_140 (by decide +kernel) (by decide +kernel) hp rfl (by rw [ml_1722]; rfl) (m_prom ts hq hw hr hP) ?_
        rintro v9 hZ ⟨qZ, fZ, rZ, e8, hrZ⟩
        rw [e8]
        clear e8 v9
        simp only [Option.toList, List.cons_append, List.nil_append]
        refine hs_k ⟨3, some (.int rZ), by decide +kernel, rv_b rt_1672 ?_, qZ, fZ, rZ, rfl, by rw [e9]; exact hrZ⟩
        rcases hrZ with ⟨-, -, -, y9, -⟩ | ⟨-, -, -, y9, -⟩
        · exact Or.inr y9
        · exact Or.inl y9
    · simp only [hs_cd, ab_not] at b53
      obtain ⟨y1, y2⟩ : 4 ≤ (tk j).1 ∧ (tk j).2.2 = 7168366 := by
        rcases hrW1 with ⟨-, y⟩ | ⟨y, -⟩
        · exact y
        · omega
      have e9 := sl_1 (ta := ta) (ps := ps) y1 ((tx_co_one (kw y1).2 wco_1).mpr y2)
      refine hs.mono (sg_man ts hq hw hr hP l0) ?_
      rintro _ _ _ _ ⟨ik, vo, y3, y4, y5⟩
      exact ⟨ik, vo, y3, y4, by rw [e9]; exact y5⟩
  · simp only [hs_cd, ab_not] at b7
    obtain ⟨y1, y2⟩ : 4 ≤ (tk j).1 ∧ (tk j).2.2 = 1818324580 := by
      rcases hrW0 with ⟨-, y⟩ | ⟨y, -⟩
      · exact y
      · omega
    have e9 := sl_0 (ta := ta) (ps := ps) y1 ((tx_co_one (kw y1).2 wco_0).mpr y2)
    refine hs.mono (sg_size ts hq hw hr hP l0) ?_
    rintro _ _ _ _ ⟨ik, vo, y3, y4, y5⟩
    exact ⟨ik, vo, y3, y4, by rw [e9]; exact y5⟩
end RI
