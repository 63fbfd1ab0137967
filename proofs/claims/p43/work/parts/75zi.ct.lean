/-! BY HAND: count -/
theorem ci_1359_0 : ab_at 1359 0 (.iload_n 1) 1 = true := by decide +kernel
theorem ci_1359_1 : ab_at 1359 1 (.tableswitch 111 0 7 #[47, 55, 63, 71, 79, 87, 95, 103]) 47 = true := by decide +kernel
theorem ci_1359_48 : ab_at 1359 48 (.aload_n 0) 1 = true := by decide +kernel
theorem ci_1359_49 : ab_at 1359 49 (.getfield 28) 3 = true := by decide +kernel
theorem ci_1359_52 : ab_at 1359 52 (.getfield 352) 3 = true := by decide +kernel
theorem ci_1359_56 : ab_at 1359 56 (.aload_n 0) 1 = true := by decide +kernel
theorem ci_1359_57 : ab_at 1359 57 (.getfield 28) 3 = true := by decide +kernel
theorem ci_1359_60 : ab_at 1359 60 (.getfield 286) 3 = true := by decide +kernel
theorem ci_1359_64 : ab_at 1359 64 (.aload_n 0) 1 = true := by decide +kernel
theorem ci_1359_65 : ab_at 1359 65 (.getfield 28) 3 = true := by decide +kernel
theorem ci_1359_68 : ab_at 1359 68 (.getfield 269) 3 = true := by decide +kernel
theorem ci_1359_72 : ab_at 1359 72 (.aload_n 0) 1 = true := by decide +kernel
theorem ci_1359_73 : ab_at 1359 73 (.getfield 28) 3 = true := by decide +kernel
theorem ci_1359_76 : ab_at 1359 76 (.getfield 266) 3 = true := by decide +kernel
theorem ci_1359_80 : ab_at 1359 80 (.aload_n 0) 1 = true := by decide +kernel
theorem ci_1359_81 : ab_at 1359 81 (.getfield 28) 3 = true := by decide +kernel
theorem ci_1359_84 : ab_at 1359 84 (.getfield 355) 3 = true := by decide +kernel
theorem ci_1359_88 : ab_at 1359 88 (.aload_n 0) 1 = true := by decide +kernel
theorem ci_1359_89 : ab_at 1359 89 (.getfield 28) 3 = true := by decide +kernel
theorem ci_1359_92 : ab_at 1359 92 (.getfield 358) 3 = true := by decide +kernel
theorem ci_1359_96 : ab_at 1359 96 (.aload_n 0) 1 = true := by decide +kernel
theorem ci_1359_97 : ab_at 1359 97 (.getfield 28) 3 = true := by decide +kernel
theorem ci_1359_100 : ab_at 1359 100 (.getfield 361) 3 = true := by decide +kernel
theorem ci_1359_104 : ab_at 1359 104 (.aload_n 0) 1 = true := by decide +kernel
theorem ci_1359_105 : ab_at 1359 105 (.getfield 18) 3 = true := by decide +kernel
theorem ci_1359_108 : ab_at 1359 108 (.getfield 110) 3 = true := by decide +kernel
theorem ci_1359_112 : ab_at 1359 112 (.iconst (-1)) 1 = true := by decide +kernel
theorem ci_2121_0 : ab_at 2121 0 (.aload_n 0) 1 = true := by decide +kernel
theorem ci_2121_1 : ab_at 2121 1 (.iconst 0) 1 = true := by decide +kernel
theorem ci_2121_2 : ab_at 2121 2 (.putfield 1) 3 = true := by decide +kernel
theorem ci_2121_5 : ab_at 2121 5 (.iload_n 1) 1 = true := by decide +kernel
theorem ci_2121_6 : ab_at 2121 6 (.tableswitch 101 0 7 #[46, 53, 60, 67, 74, 81, 88, 96]) 46 = true := by decide +kernel
theorem ci_2121_52 : ab_at 2121 52 (.aload_n 0) 1 = true := by decide +kernel
theorem ci_2121_53 : ab_at 2121 53 (.getfield 33) 3 = true := by decide +kernel
theorem ci_2121_56 : ab_at 2121 56 (.iconst 0) 1 = true := by decide +kernel
theorem ci_2121_57 : ab_at 2121 57 (.iaload) 1 = true := by decide +kernel
theorem ci_2121_59 : ab_at 2121 59 (.aload_n 0) 1 = true := by decide +kernel
theorem ci_2121_60 : ab_at 2121 60 (.getfield 33) 3 = true := by decide +kernel
theorem ci_2121_63 : ab_at 2121 63 (.iconst 1) 1 = true := by decide +kernel
theorem ci_2121_64 : ab_at 2121 64 (.iaload) 1 = true := by decide +kernel
theorem ci_2121_66 : ab_at 2121 66 (.aload_n 0) 1 = true := by decide +kernel
theorem ci_2121_67 : ab_at 2121 67 (.getfield 33) 3 = true := by decide +kernel
theorem ci_2121_70 : ab_at 2121 70 (.iconst 2) 1 = true := by decide +kernel
theorem ci_2121_71 : ab_at 2121 71 (.iaload) 1 = true := by decide +kernel
theorem ci_2121_73 : ab_at 2121 73 (.aload_n 0) 1 = true := by decide +kernel
theorem ci_2121_74 : ab_at 2121 74 (.getfield 33) 3 = true := by decide +kernel
theorem ci_2121_77 : ab_at 2121 77 (.iconst 3) 1 = true := by decide +kernel
theorem ci_2121_78 : ab_at 2121 78 (.iaload) 1 = true := by decide +kernel
theorem ci_2121_80 : ab_at 2121 80 (.aload_n 0) 1 = true := by decide +kernel
theorem ci_2121_81 : ab_at 2121 81 (.getfield 33) 3 = true := by decide +kernel
theorem ci_2121_84 : ab_at 2121 84 (.iconst 4) 1 = true := by decide +kernel
theorem ci_2121_85 : ab_at 2121 85 (.iaload) 1 = true := by decide +kernel
theorem ci_2121_87 : ab_at 2121 87 (.aload_n 0) 1 = true := by decide +kernel
theorem ci_2121_88 : ab_at 2121 88 (.getfield 33) 3 = true := by decide +kernel
theorem ci_2121_91 : ab_at 2121 91 (.iconst 5) 1 = true := by decide +kernel
theorem ci_2121_92 : ab_at 2121 92 (.iaload) 1 = true := by decide +kernel
theorem ci_2121_94 : ab_at 2121 94 (.aload_n 0) 1 = true := by decide +kernel
theorem ci_2121_95 : ab_at 2121 95 (.getfield 33) 3 = true := by decide +kernel
theorem ci_2121_98 : ab_at 2121 98 (.bipush 6) 2 = true := by decide +kernel
theorem ci_2121_100 : ab_at 2121 100 (.iaload) 1 = true := by decide +kernel
theorem ci_2121_102 : ab_at 2121 102 (.aload_n 0) 1 = true := by decide +kernel
theorem ci_2121_103 : ab_at 2121 103 (.getfield 7) 3 = true := by decide +kernel
theorem ci_2121_107 : ab_at 2121 107 (.iconst (-1)) 1 = true := by decide +kernel
def cX (h : eg_H) (x : Int) : Int := if x = 0 then (hv h 8 4).toInt else if x = 1 then (hv h 8 5).toInt else if x = 2 then (hv h 8 0).toInt else if x = 3 then (hv h 8 1).toInt else if x = 4 then (hv h 8 6).toInt else if x = 5 then (hv h 8 2).toInt else if x = 6 then (hv h 8 3).toInt else if x = 7 then (hv h 1 1).toInt else -1
def cM (h : eg_H) (x : Int) : Int := if x = 0 then (hv h 184 0).toInt else if x = 1 then (hv h 184 1).toInt else if x = 2 then (hv h 184 2).toInt else if x = 3 then (hv h 184 3).toInt else if x = 4 then (hv h 184 4).toInt else if x = 5 then (hv h 184 5).toInt else if x = 6 then (hv h 184 6).toInt else if x = 7 then (hv h 182 2).toInt else -1
def cn_P (M : ab_M) (h : eg_H) (v : Int) (vo : Option Value) (h' : eg_H) : Prop := ab_hp h' ∧ ab_fr M h' h ∧ ∃ r : Int32, vo = some (.int r) ∧ r.toInt = v
theorem rt_1359 : (eg_md 1359).2.2.2 = some .int := by decide +kernel
theorem rt_2121 : (eg_md 2121).2.2.2 = some .int := by decide +kernel
theorem k_cntX {sc : List Value} {sp d : Nat} {h : eg_H} (x : Int32) (hq : ab_hp h) : mc sc sp 1359 10 d [.ref 0, .int x] h (cn_P [] h (cX h x.toInt)) := by
  have l0 : eg_find 0 (eg_args 0 [.ref 0, .int x]) = some (.ref 0) := rfl
  have l1 : eg_find 1 (eg_args 0 [.ref 0, .int x]) = some (.int x) := rfl
  have hp := hq.1
  unfold mc
  refine hs_iload_n ci_1359_0 l1 ?_
  by_cases e0 : x.toInt = 0
  · refine hs_tbi 0 (off := 47) (t := 48) ci_1359_1 e0 (by decide) (by decide +kernel) (by decide +kernel) ?_
    refine hs_aload_n ci_1359_48 l0 ?_
    refine hs_gfr 2 8 ci_1359_49 (by decide +kernel) hp ?_
    refine hs_gfi 4 ci_1359_52 (by decide +kernel) hp ?_
    refine hs_k ⟨3, some (.int (hv h 8 4)), by decide +kernel, by rw [rt_1359]; rfl, hq, ab_fr.rf, _, rfl, ?_⟩
    unfold cX
    rw [if_pos e0]
  by_cases e1 : x.toInt = 1
  · refine hs_tbi 1 (off := 55) (t := 56) ci_1359_1 e1 (by decide) (by decide +kernel) (by decide +kernel) ?_
    refine hs_aload_n ci_1359_56 l0 ?_
    refine hs_gfr 2 8 ci_1359_57 (by decide +kernel) hp ?_
    refine hs_gfi 5 ci_1359_60 (by decide +kernel) hp ?_
    refine hs_k ⟨3, some (.int (hv h 8 5)), by decide +kernel, by rw [rt_1359]; rfl, hq, ab_fr.rf, _, rfl, ?_⟩
    unfold cX
    rw [if_neg e0, if_pos e1]
  by_cases e2 : x.toInt = 2
  · refine hs_tbi 2 (off := 63) (t := 64) ci_1359_1 e2 (by decide) (by decide +kernel) (by decide +kernel) ?_
    refine hs_aload_n ci_1359_64 l0 ?_
    refine hs_gfr 2 8 ci_1359_65 (by decide +kernel) hp ?_
    refine hs_gfi 0 ci_1359_68 (by decide +kernel) hp ?_
    refine hs_k ⟨3, some (.int (hv h 8 0)), by decide +kernel, by rw [rt_1359]; rfl, hq, ab_fr.rf, _, rfl, ?_⟩
    unfold cX
    rw [if_neg e0, if_neg e1, if_pos e2]
  by_cases e3 : x.toInt = 3
  · refine hs_tbi 3 (off := 71) (t := 72) ci_1359_1 e3 (by decide) (by decide +kernel) (by decide +kernel) ?_
    refine hs_aload_n ci_1359_72 l0 ?_
    refine hs_gfr 2 8 ci_1359_73 (by decide +kernel) hp ?_
    refine hs_gfi 1 ci_1359_76 (by decide +kernel) hp ?_
    refine hs_k ⟨3, some (.int (hv h 8 1)), by decide +kernel, by rw [rt_1359]; rfl, hq, ab_fr.rf, _, rfl, ?_⟩
    unfold cX
    rw [if_neg e0, if_neg e1, if_neg e2, if_pos e3]
  by_cases e4 : x.toInt = 4
  · refine hs_tbi 4 (off := 79) (t := 80) ci_1359_1 e4 (by decide) (by decide +kernel) (by decide +kernel) ?_
    refine hs_aload_n ci_1359_80 l0 ?_
    refine hs_gfr 2 8 ci_1359_81 (by decide +kernel) hp ?_
    refine hs_gfi 6 ci_1359_84 (by decide +kernel) hp ?_
    refine hs_k ⟨3, some (.int (hv h 8 6)), by decide +kernel, by rw [rt_1359]; rfl, hq, ab_fr.rf, _, rfl, ?_⟩
    unfold cX
    rw [if_neg e0, if_neg e1, if_neg e2, if_neg e3, if_pos e4]
  by_cases e5 : x.toInt = 5
  · refine hs_tbi 5 (off := 87) (t := 88) ci_1359_1 e5 (by decide) (by decide +kernel) (by decide +kernel) ?_
    refine hs_aload_n ci_1359_88 l0 ?_
    refine hs_gfr 2 8 ci_1359_89 (by decide +kernel) hp ?_
    refine hs_gfi 2 ci_1359_92 (by decide +kernel) hp ?_
    refine hs_k ⟨3, some (.int (hv h 8 2)), by decide +kernel, by rw [rt_1359]; rfl, hq, ab_fr.rf, _, rfl, ?_⟩
    unfold cX
    rw [if_neg e0, if_neg e1, if_neg e2, if_neg e3, if_neg e4, if_pos e5]
  by_cases e6 : x.toInt = 6
  · refine hs_tbi 6 (off := 95) (t := 96) ci_1359_1 e6 (by decide) (by decide +kernel) (by decide +kernel) ?_
    refine hs_aload_n ci_1359_96 l0 ?_
    refine hs_gfr 2 8 ci_1359_97 (by decide +kernel) hp ?_
    refine hs_gfi 3 ci_1359_100 (by decide +kernel) hp ?_
    refine hs_k ⟨3, some (.int (hv h 8 3)), by decide +kernel, by rw [rt_1359]; rfl, hq, ab_fr.rf, _, rfl, ?_⟩
    unfold cX
    rw [if_neg e0, if_neg e1, if_neg e2, if_neg e3, if_neg e4, if_neg e5, if_pos e6]
  by_cases e7 : x.toInt = 7
  · refine hs_tbi 7 (off := 103) (t := 104) ci_1359_1 e7 (by decide) (by decide +kernel) (by decide +kernel) ?_
    refine hs_aload_n ci_1359_104 l0 ?_
    refine hs_gfr 0 1 ci_1359_105 (by decide +kernel) hp ?_
    refine hs_gfi 1 ci_1359_108 (by decide +kernel) hp ?_
    refine hs_k ⟨3, some (.int (hv h 1 1)), by decide +kernel, by rw [rt_1359]; rfl, hq, ab_fr.rf, _, rfl, ?_⟩
    unfold cX
    rw [if_neg e0, if_neg e1, if_neg e2, if_neg e3, if_neg e4, if_neg e5, if_neg e6, if_pos e7]
  refine hs_tbo (t := 112) ci_1359_1 (by decide +kernel) (by omega) ?_
  refine hs_iconst ci_1359_112 ?_
  refine hs_k ⟨3, some (.int (Int32.ofInt (-1))), by decide +kernel, by rw [rt_1359]; rfl, hq, ab_fr.rf, _, rfl, ?_⟩
  unfold cX
  rw [if_neg e0, if_neg e1, if_neg e2, if_neg e3, if_neg e4, if_neg e5, if_neg e6, if_neg e7]
  exact kI_m1
theorem m_cntM {sc : List Value} {sp d : Nat} {h : eg_H} (x : Int32) (hq : ab_hp h) : mc sc sp 2121 11 d [.ref 182, .int x] h (cn_P [(182, 0, 0)] h (cM h x.toInt)) := by
  have l0 : eg_find 0 (eg_args 0 [.ref 182, .int x]) = some (.ref 182) := rfl
  have l1 : eg_find 1 (eg_args 0 [.ref 182, .int x]) = some (.int x) := rfl
  have hp := hq.1
  unfold mc
  refine hs_aload_n ci_2121_0 l0 ?_
  refine hs_iconst ci_2121_1 ?_
  refine hs_pfi 0 (0) (1) ci_2121_2 (by decide +kernel) hp (by decide) (by decide) ?_
  intro h2 w2
  replace hp := w2.1
  refine hs_iload_n ci_2121_5 l1 ?_
  have f2 : ab_fr [(182, 0, 0)] h2 h := w2.fr rfl
  have q2 : ab_hp h2 := ⟨hp, hq.2.fr (M := [(182, 0, 0)]) (by decide +kernel) f2⟩
  by_cases e0 : x.toInt = 0
  · refine hs_tbi 0 (off := 46) (t := 52) ci_2121_6 e0 (by decide) (by decide +kernel) (by decide +kernel) ?_
    refine hs_aload_n ci_2121_52 l0 ?_
    refine hs_gfr 6 184 ci_2121_53 (by decide +kernel) hp ?_
    refine hs_iconst ci_2121_56 ?_
    refine hs_iaload 0 0 (0) (6) ci_2121_57 (by decide +kernel) hp (by decide) (by decide) (fun r57_1 r57_2 => ?_)
    refine hs_k ⟨3, some (.int (hv h2 184 (Int32.ofInt 0).toInt.toNat)), by decide +kernel, by rw [rt_2121]; rfl, q2, f2, _, rfl, ?_⟩
    unfold cM
    rw [if_pos e0]
    rw [kN_0, hv_same (f2 184 0 rfl)]
  by_cases e1 : x.toInt = 1
  · refine hs_tbi 1 (off := 53) (t := 59) ci_2121_6 e1 (by decide) (by decide +kernel) (by decide +kernel) ?_
    refine hs_aload_n ci_2121_59 l0 ?_
    refine hs_gfr 6 184 ci_2121_60 (by decide +kernel) hp ?_
    refine hs_iconst ci_2121_63 ?_
    refine hs_iaload 1 1 (0) (10) ci_2121_64 (by decide +kernel) hp (by decide) (by decide) (fun r64_1 r64_2 => ?_)
    refine hs_k ⟨3, some (.int (hv h2 184 (Int32.ofInt 1).toInt.toNat)), by decide +kernel, by rw [rt_2121]; rfl, q2, f2, _, rfl, ?_⟩
    unfold cM
    rw [if_neg e0, if_pos e1]
    rw [kN_1, hv_same (f2 184 1 rfl)]
  by_cases e2 : x.toInt = 2
  · refine hs_tbi 2 (off := 60) (t := 66) ci_2121_6 e2 (by decide) (by decide +kernel) (by decide +kernel) ?_
    refine hs_aload_n ci_2121_66 l0 ?_
    refine hs_gfr 6 184 ci_2121_67 (by decide +kernel) hp ?_
    refine hs_iconst ci_2121_70 ?_
    refine hs_iaload 2 2 (0) (8) ci_2121_71 (by decide +kernel) hp (by decide) (by decide) (fun r71_1 r71_2 => ?_)
    refine hs_k ⟨3, some (.int (hv h2 184 (Int32.ofInt 2).toInt.toNat)), by decide +kernel, by rw [rt_2121]; rfl, q2, f2, _, rfl, ?_⟩
    unfold cM
    rw [if_neg e0, if_neg e1, if_pos e2]
    rw [kN_2, hv_same (f2 184 2 rfl)]
  by_cases e3 : x.toInt = 3
  · refine hs_tbi 3 (off := 67) (t := 73) ci_2121_6 e3 (by decide) (by decide +kernel) (by decide +kernel) ?_
    refine hs_aload_n ci_2121_73 l0 ?_
    refine hs_gfr 6 184 ci_2121_74 (by decide +kernel) hp ?_
    refine hs_iconst ci_2121_77 ?_
    refine hs_iaload 3 3 (0) (8) ci_2121_78 (by decide +kernel) hp (by decide) (by decide) (fun r78_1 r78_2 => ?_)
    refine hs_k ⟨3, some (.int (hv h2 184 (Int32.ofInt 3).toInt.toNat)), by decide +kernel, by rw [rt_2121]; rfl, q2, f2, _, rfl, ?_⟩
    unfold cM
    rw [if_neg e0, if_neg e1, if_neg e2, if_pos e3]
    rw [kN_3, hv_same (f2 184 3 rfl)]
  by_cases e4 : x.toInt = 4
  · refine hs_tbi 4 (off := 74) (t := 80) ci_2121_6 e4 (by decide) (by decide +kernel) (by decide +kernel) ?_
    refine hs_aload_n ci_2121_80 l0 ?_
    refine hs_gfr 6 184 ci_2121_81 (by decide +kernel) hp ?_
    refine hs_iconst ci_2121_84 ?_
    refine hs_iaload 4 4 (0) (8) ci_2121_85 (by decide +kernel) hp (by decide) (by decide) (fun r85_1 r85_2 => ?_)
    refine hs_k ⟨3, some (.int (hv h2 184 (Int32.ofInt 4).toInt.toNat)), by decide +kernel, by rw [rt_2121]; rfl, q2, f2, _, rfl, ?_⟩
    unfold cM
    rw [if_neg e0, if_neg e1, if_neg e2, if_neg e3, if_pos e4]
    rw [kN_4, hv_same (f2 184 4 rfl)]
  by_cases e5 : x.toInt = 5
  · refine hs_tbi 5 (off := 81) (t := 87) ci_2121_6 e5 (by decide) (by decide +kernel) (by decide +kernel) ?_
    refine hs_aload_n ci_2121_87 l0 ?_
    refine hs_gfr 6 184 ci_2121_88 (by decide +kernel) hp ?_
    refine hs_iconst ci_2121_91 ?_
    refine hs_iaload 5 5 (-2147483648) (2147483647) ci_2121_92 (by decide +kernel) hp (by decide) (by decide) (fun r92_1 r92_2 => ?_)
    refine hs_k ⟨3, some (.int (hv h2 184 (Int32.ofInt 5).toInt.toNat)), by decide +kernel, by rw [rt_2121]; rfl, q2, f2, _, rfl, ?_⟩
    unfold cM
    rw [if_neg e0, if_neg e1, if_neg e2, if_neg e3, if_neg e4, if_pos e5]
    rw [kN_5, hv_same (f2 184 5 rfl)]
  by_cases e6 : x.toInt = 6
  · refine hs_tbi 6 (off := 88) (t := 94) ci_2121_6 e6 (by decide) (by decide +kernel) (by decide +kernel) ?_
    refine hs_aload_n ci_2121_94 l0 ?_
    refine hs_gfr 6 184 ci_2121_95 (by decide +kernel) hp ?_
    refine hs_bipush ci_2121_98 ?_
    refine hs_iaload 6 6 (-2147483648) (2147483647) ci_2121_100 (by decide +kernel) hp (by decide) (by decide) (fun r100_1 r100_2 => ?_)
    refine hs_k ⟨3, some (.int (hv h2 184 (Int8.ofInt 6).toInt32.toInt.toNat)), by decide +kernel, by rw [rt_2121]; rfl, q2, f2, _, rfl, ?_⟩
    unfold cM
    rw [if_neg e0, if_neg e1, if_neg e2, if_neg e3, if_neg e4, if_neg e5, if_pos e6]
    rw [kM_6, hv_same (f2 184 6 rfl)]
  by_cases e7 : x.toInt = 7
  · refine hs_tbi 7 (off := 96) (t := 102) ci_2121_6 e7 (by decide) (by decide +kernel) (by decide +kernel) ?_
    refine hs_aload_n ci_2121_102 l0 ?_
    refine hs_gfi 2 ci_2121_103 (by decide +kernel) hp ?_
    refine hs_k ⟨3, some (.int (hv h2 182 2)), by decide +kernel, by rw [rt_2121]; rfl, q2, f2, _, rfl, ?_⟩
    unfold cM
    rw [if_neg e0, if_neg e1, if_neg e2, if_neg e3, if_neg e4, if_neg e5, if_neg e6, if_pos e7]
    rw [hv_same (f2 182 2 rfl)]
  refine hs_tbo (t := 107) ci_2121_6 (by decide +kernel) (by omega) ?_
  refine hs_iconst ci_2121_107 ?_
  refine hs_k ⟨3, some (.int (Int32.ofInt (-1))), by decide +kernel, by rw [rt_2121]; rfl, q2, f2, _, rfl, ?_⟩
  unfold cM
  rw [if_neg e0, if_neg e1, if_neg e2, if_neg e3, if_neg e4, if_neg e5, if_neg e6, if_neg e7]
  exact kI_m1
