/-! BY HAND: image and restore, what becomes of the headlands -/
theorem ci_1351_0 : ab_at 1351 0 (.iload_n 1) 1 = true := by decide +kernel
theorem ci_1351_1 : ab_at 1351 1 (.ifCond .lt 8) 3 = true := by decide +kernel
theorem ci_1351_4 : ab_at 1351 4 (.iload_n 1) 1 = true := by decide +kernel
theorem ci_1351_5 : ab_at 1351 5 (.iconst 2) 1 = true := by decide +kernel
theorem ci_1351_6 : ab_at 1351 6 (.if_icmp .lt 5) 3 = true := by decide +kernel
theorem ci_1351_9 : ab_at 1351 9 (.iconst 0) 1 = true := by decide +kernel
theorem ci_1351_21 : ab_at 1351 21 (.invokevirtual 133) 3 = true := by decide +kernel
theorem ci_1355_0 : ab_at 1355 0 (.iload_n 1) 1 = true := by decide +kernel
theorem ci_1355_1 : ab_at 1355 1 (.ifCond .lt 17) 3 = true := by decide +kernel
theorem ci_1355_4 : ab_at 1355 4 (.iload_n 1) 1 = true := by decide +kernel
theorem ci_1355_5 : ab_at 1355 5 (.iconst 2) 1 = true := by decide +kernel
theorem ci_1355_6 : ab_at 1355 6 (.if_icmp .ge 12) 3 = true := by decide +kernel
theorem ci_1355_9 : ab_at 1355 9 (.aload_n 0) 1 = true := by decide +kernel
theorem ci_1355_10 : ab_at 1355 10 (.getfield 102) 3 = true := by decide +kernel
theorem ci_1355_13 : ab_at 1355 13 (.iload_n 1) 1 = true := by decide +kernel
theorem ci_1355_14 : ab_at 1355 14 (.baload) 1 = true := by decide +kernel
theorem ci_1355_15 : ab_at 1355 15 (.ifCond .ne 5) 3 = true := by decide +kernel
theorem ci_1355_18 : ab_at 1355 18 (.iconst 0) 1 = true := by decide +kernel
theorem ci_1355_30 : ab_at 1355 30 (.invokevirtual 133) 3 = true := by decide +kernel
theorem ci_2113_0 : ab_at 2113 0 (.aload_n 0) 1 = true := by decide +kernel
theorem ci_2113_1 : ab_at 2113 1 (.iconst 0) 1 = true := by decide +kernel
theorem ci_2113_2 : ab_at 2113 2 (.putfield 1) 3 = true := by decide +kernel
theorem ci_2113_5 : ab_at 2113 5 (.iload_n 1) 1 = true := by decide +kernel
theorem ci_2113_6 : ab_at 2113 6 (.iconst 0) 1 = true := by decide +kernel
theorem ci_2113_7 : ab_at 2113 7 (.iconst 1) 1 = true := by decide +kernel
theorem ci_2113_8 : ab_at 2113 8 (.invokestatic 190) 3 = true := by decide +kernel
theorem ci_2113_11 : ab_at 2113 11 (.ifCond .ne 5) 3 = true := by decide +kernel
theorem ci_2113_14 : ab_at 2113 14 (.iconst 0) 1 = true := by decide +kernel
theorem ci_2113_16 : ab_at 2113 16 (.iconst 0) 1 = true := by decide +kernel
theorem ci_2113_17 : ab_at 2113 17 (.istore_n 2) 1 = true := by decide +kernel
theorem ci_2113_80 : ab_at 2113 80 (.aload_n 0) 1 = true := by decide +kernel
theorem ci_2113_81 : ab_at 2113 81 (.getfield 96) 3 = true := by decide +kernel
theorem ci_2113_84 : ab_at 2113 84 (.iload_n 1) 1 = true := by decide +kernel
theorem ci_2113_85 : ab_at 2113 85 (.iconst 1) 1 = true := by decide +kernel
theorem ci_2113_86 : ab_at 2113 86 (.bastore) 1 = true := by decide +kernel
theorem ci_2113_87 : ab_at 2113 87 (.iconst 1) 1 = true := by decide +kernel
theorem ci_2117_0 : ab_at 2117 0 (.aload_n 0) 1 = true := by decide +kernel
theorem ci_2117_1 : ab_at 2117 1 (.iconst 0) 1 = true := by decide +kernel
theorem ci_2117_2 : ab_at 2117 2 (.putfield 1) 3 = true := by decide +kernel
theorem ci_2117_5 : ab_at 2117 5 (.iload_n 1) 1 = true := by decide +kernel
theorem ci_2117_6 : ab_at 2117 6 (.iconst 0) 1 = true := by decide +kernel
theorem ci_2117_7 : ab_at 2117 7 (.iconst 1) 1 = true := by decide +kernel
theorem ci_2117_8 : ab_at 2117 8 (.invokestatic 190) 3 = true := by decide +kernel
theorem ci_2117_11 : ab_at 2117 11 (.ifCond .eq 12) 3 = true := by decide +kernel
theorem ci_2117_14 : ab_at 2117 14 (.aload_n 0) 1 = true := by decide +kernel
theorem ci_2117_15 : ab_at 2117 15 (.getfield 96) 3 = true := by decide +kernel
theorem ci_2117_18 : ab_at 2117 18 (.iload_n 1) 1 = true := by decide +kernel
theorem ci_2117_19 : ab_at 2117 19 (.baload) 1 = true := by decide +kernel
theorem ci_2117_20 : ab_at 2117 20 (.ifCond .ne 5) 3 = true := by decide +kernel
theorem ci_2117_23 : ab_at 2117 23 (.iconst 0) 1 = true := by decide +kernel
theorem ci_2117_25 : ab_at 2117 25 (.iconst 0) 1 = true := by decide +kernel
theorem ci_2117_26 : ab_at 2117 26 (.istore_n 2) 1 = true := by decide +kernel
theorem ci_2117_89 : ab_at 2117 89 (.aload_n 0) 1 = true := by decide +kernel
theorem ci_2117_90 : ab_at 2117 90 (.iconst 0) 1 = true := by decide +kernel
theorem ci_2117_91 : ab_at 2117 91 (.putfield 255) 3 = true := by decide +kernel
theorem ci_2117_94 : ab_at 2117 94 (.iconst 1) 1 = true := by decide +kernel
abbrev MIX : ab_M := [(129, 0, 1), (130, 0, 6), (131, 0, 5), (132, 0, 5), (133, 0, 5), (134, 0, 9), (135, 0, 9), (136, 0, 9), (137, 0, 9), (138, 0, 9), (139, 0, 9), (140, 0, 9), (141, 0, 9), (142, 0, 9), (143, 0, 9), (144, 6, 7), (145, 0, 9), (146, 0, 9), (147, 0, 9), (148, 0, 5), (149, 0, 5), (151, 3, 3), (152, 0, 47), (153, 0, 47), (154, 0, 47), (156, 0, 6), (157, 0, 5), (158, 0, 5), (159, 0, 5), (160, 0, 9), (161, 0, 9), (162, 0, 9), (163, 0, 9), (164, 0, 9), (165, 0, 9), (166, 0, 9), (167, 0, 9), (168, 0, 9), (169, 0, 9), (170, 6, 7), (171, 0, 9), (172, 0, 9), (173, 0, 9), (174, 0, 5), (175, 0, 5), (177, 3, 3), (178, 0, 47), (179, 0, 47), (180, 0, 47)]
abbrev MRX : ab_M := [(8, 0, 6), (9, 0, 5), (10, 0, 5), (11, 0, 5), (12, 0, 9), (13, 0, 9), (14, 0, 9), (15, 0, 9), (16, 0, 9), (17, 0, 9), (18, 0, 9), (19, 0, 9), (20, 0, 9), (21, 0, 9), (37, 6, 7), (38, 0, 9), (39, 0, 9), (40, 0, 9), (41, 0, 5), (42, 0, 5), (51, 2, 2), (115, 3, 3), (116, 0, 47), (117, 0, 47), (118, 0, 47)]
abbrev MIM : ab_M := [(182, 0, 0), (201, 0, 613), (202, 0, 31), (203, 0, 1)]
abbrev MRM : ab_M := [(182, 0, 0), (182, 25, 25), (184, 0, 306), (187, 0, 15)]
theorem ar_ri {L a : Nat} {lo hi : Int} {h : eg_H} {ls : eg_L} {x : Int32} (hp : ab_hp h) (l0 : eg_find 0 ls = some (.ref a)) (l1 : eg_find 1 ls = some (.int x)) (h1 : lo ≤ x.toInt) (h2 : x.toInt ≤ hi) : ab_r L (ar_n L [x]) (3, [(2, lo, hi, false, none)], [(0, .inr (a + 2)), (1, .inl (2, .ofNat 0))], [], []) ls [] h := by
  refine ⟨⟨show 2 ≤ 3 by decide, rfl, rfl⟩, ar_e (fun q hq => ?_), vl_ref l0 (vl_int l1 (show 2 < 3 by decide) (Int.add_zero _).symm vl_nil), rfl, (fun _ _ _ hf => by cases hf), hp⟩
  obtain rfl := List.mem_singleton.mp hq
  exact ⟨_, _, rfl, (show 2 < 3 by decide), h1, h2⟩
/-- what the class's image leaves -/
def imX_P (h : eg_H) (x : Int) (vo : Option Value) (h' : eg_H) : Prop := ab_hp h' ∧ ab_fr MIX h' h ∧ (∃ r : Int32, vo = some (.int r)) ∧ (hv h' 129 0).toInt = (if x = 0 then 1 else (hv h 129 0).toInt) ∧ (hv h' 129 1).toInt = (if x = 1 then 1 else (hv h 129 1).toInt) ∧ (∀ i, i < 7 → hv h' 130 i = if x = 0 then hv h 8 i else hv h 130 i) ∧ (∀ i, i < 7 → hv h' 156 i = if x = 1 then hv h 8 i else hv h 156 i) ∧ (∀ k, k < 10 → hv h' 135 k = if x = 0 then hv h 13 k else hv h 135 k) ∧ (∀ k, k < 10 → hv h' 161 k = if x = 1 then hv h 13 k else hv h 161 k) ∧ (∀ k, k < 6 → hl h' 131 k = if x = 0 then hl h 9 k else hl h 131 k) ∧ (∀ k, k < 6 → hl h' 157 k = if x = 1 then hl h 9 k else hl h 157 k) ∧ (∀ k, k < 10 → hl h' 134 k = if x = 0 then hl h 12 k else hl h 134 k) ∧ ∀ k, k < 10 → hl h' 160 k = if x = 1 then hl h 12 k else hl h 160 k
def reX_P (h : eg_H) (x : Int) (vo : Option Value) (h' : eg_H) : Prop := ab_hp h' ∧ ab_fr MRX h' h ∧ (∃ r : Int32, vo = some (.int r)) ∧ (∀ i, i < 7 → hv h' 8 i = if x = 0 ∧ (hv h 129 0).toInt = 1 then hv h 130 i else if x = 1 ∧ (hv h 129 1).toInt = 1 then hv h 156 i else hv h 8 i) ∧ (∀ k, k < 10 → hv h' 13 k = if x = 0 ∧ (hv h 129 0).toInt = 1 then hv h 135 k else if x = 1 ∧ (hv h 129 1).toInt = 1 then hv h 161 k else hv h 13 k) ∧ (∀ k, k < 6 → hl h' 9 k = if x = 0 ∧ (hv h 129 0).toInt = 1 then hl h 131 k else if x = 1 ∧ (hv h 129 1).toInt = 1 then hl h 157 k else hl h 9 k) ∧ ∀ k, k < 10 → hl h' 12 k = if x = 0 ∧ (hv h 129 0).toInt = 1 then hl h 134 k else if x = 1 ∧ (hv h 129 1).toInt = 1 then hl h 160 k else hl h 12 k
def imM_P (h : eg_H) (x : Int) (vo : Option Value) (h' : eg_H) : Prop := ab_hp h' ∧ ab_fr MIM h' h ∧ (∃ r : Int32, vo = some (.int r)) ∧ (hv h' 203 0).toInt = (if x = 0 then 1 else (hv h 203 0).toInt) ∧ (hv h' 203 1).toInt = (if x = 1 then 1 else (hv h 203 1).toInt) ∧ (∀ q, q < 307 → hv h' 201 q = if x = 0 then hv h 184 q else hv h 201 q) ∧ (∀ q, q < 307 → hv h' 201 (307 + q) = if x = 1 then hv h 184 q else hv h 201 (307 + q)) ∧ (∀ q, q < 16 → hl h' 202 q = if x = 0 then hl h 187 q else hl h 202 q) ∧ ∀ q, q < 16 → hl h' 202 (16 + q) = if x = 1 then hl h 187 q else hl h 202 (16 + q)
def reM_P (h : eg_H) (x : Int) (vo : Option Value) (h' : eg_H) : Prop := ab_hp h' ∧ ab_fr MRM h' h ∧ (∃ r : Int32, vo = some (.int r)) ∧ (∀ q, q < 307 → hv h' 184 q = if x = 0 ∧ (hv h 203 0).toInt = 1 then hv h 201 q else if x = 1 ∧ (hv h 203 1).toInt = 1 then hv h 201 (307 + q) else hv h 184 q) ∧ ∀ q, q < 16 → hl h' 187 q = if x = 0 ∧ (hv h 203 0).toInt = 1 then hl h 202 q else if x = 1 ∧ (hv h 203 1).toInt = 1 then hl h 202 (16 + q) else hl h 187 q
theorem rt_1351 : (eg_md 1351).2.2.2 = some .boolean := by decide +kernel
theorem rt_1355 : (eg_md 1355).2.2.2 = some .boolean := by decide +kernel
theorem rt_2113 : (eg_md 2113).2.2.2 = some .boolean := by decide +kernel
theorem rt_2117 : (eg_md 2117).2.2.2 = some .boolean := by decide +kernel
theorem k_imX {sc : List Value} {sp d : Nat} {h : eg_H} (hsc : ab_osc sc) (x : Int32) (hq : ab_hp h) : mc sc sp 1351 10 (d + 1 + 1) [.ref 0, .int x] h (imX_P h x.toInt) := by
  have l0 : eg_find 0 (eg_args 0 [.ref 0, .int x]) = some (.ref 0) := rfl
  have l1 : eg_find 1 (eg_args 0 [.ref 0, .int x]) = some (.int x) := rfl
  have hp := hq.1
  unfold mc
  refine hs_iload_n ci_1351_0 l1 ?_
  refine hs_if (t := 9) ci_1351_1 rfl (fun b1 => ?_) (fun b1 => ?_)
  · simp only [hs_cd, ab_not] at b1
    refine hs_iconst ci_1351_9 ?_
    exact hs_k ⟨3, some (.int (Int32.ofInt 0)), by decide +kernel, rv_b rt_1351 (Or.inl (by decide)), hq, ab_fr.rf, ⟨_, rfl⟩, by rw [if_neg (by omega)], by rw [if_neg (by omega)], fun i hi => by rw [if_neg (by omega)], fun i hi => by rw [if_neg (by omega)], fun k hk => by rw [if_neg (by omega)], fun k hk => by rw [if_neg (by omega)], fun k hk => by rw [if_neg (by omega)], fun k hk => by rw [if_neg (by omega)], fun k hk => by rw [if_neg (by omega)], fun k hk => by rw [if_neg (by omega)]⟩
  · simp only [hs_cd, ab_not] at b1
    refine hs_iload_n ci_1351_4 l1 ?_
    refine hs_iconst ci_1351_5 ?_
    refine hs_ic (t := 11) ci_1351_6 rfl (fun b6 => ?_) (fun b6 => ?_)
    · simp only [hs_cd, ab_not, kI_2] at b6
      rcases (show x.toInt = 0 ∨ x.toInt = 1 by omega) with e | e
      · refine hs_seg tr_ia0 rfl hsc (show 1 ≤ d + 1 + 1 by omega) (ar_ri (a := 0) (lo := .ofNat 0) (hi := .ofNat 0) hq l0 l1 (by rw [e]; decide) (by rw [e]; decide)) ?_
        rintro ν1 ls1 st1 h1 ⟨-, -, g0, g2, -, g3⟩ g4 f1
        obtain ⟨_, _, rfl, rfl, _, _, rfl, rfl, rfl⟩ := g2
        obtain ⟨v0, l0', e0⟩ := g0 0 _ (List.Mem.head _)
        obtain rfl : v0 = .ref 0 := e0
        obtain ⟨v1, l1', y, rfl, -, hy⟩ := g0 1 _ (List.Mem.tail _ (List.Mem.head _))
        have ey : y.toInt = 0 := by
          have g5 : ν1 2 = x.toInt := g4 2 (by decide)
          have hy : y.toInt = ν1 2 + 0 := hy
          omega
        refine hs_cv 835 1 1 ci_1351_21 (by decide +kernel) (by decide +kernel) g3.1 rfl (by rw [ml_835]; rfl) (k_cq_130_8 g3) ?_
        rintro v9 h2 ⟨e8, q2, f2, c2, cN, c3⟩
        rw [e8]
        clear e8 v9
        simp only [Option.toList, List.nil_append]
        refine hs_seg tr_ib0 rfl hsc (show 2 ≤ d + 1 + 1 by omega) (ar_ri (a := 0) (lo := .ofNat 0) (hi := .ofNat 0) q2 l0' l1' (by rw [ey]; decide) (by rw [ey]; decide)) ?_
        intro ν3 ls3 st3 h3 k9 _ f3
        have z0 : ν3 0 = 0 := k9.1.2.1
        obtain ⟨z, t, rfl, ⟨w, rfl, -, hw⟩, ht⟩ := k9.2.2.2.1
        obtain rfl : t = [] := ht
        have ew : w.toInt = 1 := by
          have hw : w.toInt = ν3 0 + 1 := hw
          omega
        have F9 : ab_fr MIX h3 h := (fr_sub (by decide +kernel) f3).tr ((fr_sub (by decide +kernel) f2).tr (fr_sub (by decide +kernel) f1))
        have fl : (hv h3 129 0).toInt = 1 := by
          have k8 := k9.ov 129 0 (j := 0) (d := .ofNat 1) rfl (by decide)
          have k8 : (hv h3 129 0).toInt = ν3 0 + 1 := k8
          omega
        refine hs_k ⟨3, some (.int w), by decide +kernel, rv_b rt_1351 (Or.inr ew), k9.2.2.2.2.2, F9, ⟨_, rfl⟩, ?_, ?_, fun i hi => ?_, fun i hi => ?_, fun k hk => ?_, fun k hk => ?_, fun k hk => ?_, fun k hk => ?_, fun k hk => ?_, fun k hk => ?_⟩
        · rw [if_pos e]; exact fl
        · rw [if_neg (by omega), hv_same (f3 129 1 rfl), hv_same (f2 129 1 rfl), hv_same (f1 129 1 rfl)]
        · rw [if_pos e, hv_same (f3 130 i rfl), c2 i hi, hv_same (f1 8 i rfl)]
        · rw [if_neg (by omega), hv_same (f3 156 i rfl), hv_same (f2 156 i rfl), hv_same (f1 156 i rfl)]
        · exact (hv_same (f3 135 k rfl)).trans ((c3 k hk).2.trans ((hv_same (f1 13 k rfl)).trans (if_pos e).symm))
        · rw [if_neg (by omega), hv_same (f3 161 k rfl), hv_same (f2 161 k rfl), hv_same (f1 161 k rfl)]
        · exact (hl_same (f3 131 k rfl)).trans ((cN k hk).trans ((hl_same (f1 9 k rfl)).trans (if_pos e).symm))
        · rw [if_neg (by omega), hl_same (f3 157 k rfl), hl_same (f2 157 k rfl), hl_same (f1 157 k rfl)]
        · exact (hl_same (f3 134 k rfl)).trans (((c3 k hk).1).trans ((hl_same (f1 12 k rfl)).trans (if_pos e).symm))
        · rw [if_neg (by omega), hl_same (f3 160 k rfl), hl_same (f2 160 k rfl), hl_same (f1 160 k rfl)]
      · refine hs_seg tr_ia1 rfl hsc (show 1 ≤ d + 1 + 1 by omega) (ar_ri (a := 0) (lo := .ofNat 1) (hi := .ofNat 1) hq l0 l1 (by rw [e]; decide) (by rw [e]; decide)) ?_
        rintro ν1 ls1 st1 h1 ⟨-, -, g0, g2, -, g3⟩ g4 f1
        obtain ⟨_, _, rfl, rfl, _, _, rfl, rfl, rfl⟩ := g2
        obtain ⟨v0, l0', e0⟩ := g0 0 _ (List.Mem.head _)
        obtain rfl : v0 = .ref 0 := e0
        obtain ⟨v1, l1', y, rfl, -, hy⟩ := g0 1 _ (List.Mem.tail _ (List.Mem.head _))
        have ey : y.toInt = 1 := by
          have g5 : ν1 2 = x.toInt := g4 2 (by decide)
          have hy : y.toInt = ν1 2 + 0 := hy
          omega
        refine hs_cv 835 1 1 ci_1351_21 (by decide +kernel) (by decide +kernel) g3.1 rfl (by rw [ml_835]; rfl) (k_cq_156_8 g3) ?_
        rintro v9 h2 ⟨e8, q2, f2, c2, cN, c3⟩
        rw [e8]
        clear e8 v9
        simp only [Option.toList, List.nil_append]
        refine hs_seg tr_ib1 rfl hsc (show 2 ≤ d + 1 + 1 by omega) (ar_ri (a := 0) (lo := .ofNat 1) (hi := .ofNat 1) q2 l0' l1' (by rw [ey]; decide) (by rw [ey]; decide)) ?_
        intro ν3 ls3 st3 h3 k9 _ f3
        have z0 : ν3 0 = 0 := k9.1.2.1
        obtain ⟨z, t, rfl, ⟨w, rfl, -, hw⟩, ht⟩ := k9.2.2.2.1
        obtain rfl : t = [] := ht
        have ew : w.toInt = 1 := by
          have hw : w.toInt = ν3 0 + 1 := hw
          omega
        have F9 : ab_fr MIX h3 h := (fr_sub (by decide +kernel) f3).tr ((fr_sub (by decide +kernel) f2).tr (fr_sub (by decide +kernel) f1))
        have fl : (hv h3 129 1).toInt = 1 := by
          have k8 := k9.ov 129 1 (j := 0) (d := .ofNat 1) rfl (by decide)
          have k8 : (hv h3 129 1).toInt = ν3 0 + 1 := k8
          omega
        refine hs_k ⟨3, some (.int w), by decide +kernel, rv_b rt_1351 (Or.inr ew), k9.2.2.2.2.2, F9, ⟨_, rfl⟩, ?_, ?_, fun i hi => ?_, fun i hi => ?_, fun k hk => ?_, fun k hk => ?_, fun k hk => ?_, fun k hk => ?_, fun k hk => ?_, fun k hk => ?_⟩
        · rw [if_neg (by omega), hv_same (f3 129 0 rfl), hv_same (f2 129 0 rfl), hv_same (f1 129 0 rfl)]
        · rw [if_pos e]; exact fl
        · rw [if_neg (by omega), hv_same (f3 130 i rfl), hv_same (f2 130 i rfl), hv_same (f1 130 i rfl)]
        · rw [if_pos e, hv_same (f3 156 i rfl), c2 i hi, hv_same (f1 8 i rfl)]
        · rw [if_neg (by omega), hv_same (f3 135 k rfl), hv_same (f2 135 k rfl), hv_same (f1 135 k rfl)]
        · exact (hv_same (f3 161 k rfl)).trans ((c3 k hk).2.trans ((hv_same (f1 13 k rfl)).trans (if_pos e).symm))
        · rw [if_neg (by omega), hl_same (f3 131 k rfl), hl_same (f2 131 k rfl), hl_same (f1 131 k rfl)]
        · exact (hl_same (f3 157 k rfl)).trans ((cN k hk).trans ((hl_same (f1 9 k rfl)).trans (if_pos e).symm))
        · rw [if_neg (by omega), hl_same (f3 134 k rfl), hl_same (f2 134 k rfl), hl_same (f1 134 k rfl)]
        · exact (hl_same (f3 160 k rfl)).trans (((c3 k hk).1).trans ((hl_same (f1 12 k rfl)).trans (if_pos e).symm))
    · simp only [hs_cd, ab_not, kI_2] at b6
      refine hs_iconst ci_1351_9 ?_
      exact hs_k ⟨3, some (.int (Int32.ofInt 0)), by decide +kernel, rv_b rt_1351 (Or.inl (by decide)), hq, ab_fr.rf, ⟨_, rfl⟩, by rw [if_neg (by omega)], by rw [if_neg (by omega)], fun i hi => by rw [if_neg (by omega)], fun i hi => by rw [if_neg (by omega)], fun k hk => by rw [if_neg (by omega)], fun k hk => by rw [if_neg (by omega)], fun k hk => by rw [if_neg (by omega)], fun k hk => by rw [if_neg (by omega)], fun k hk => by rw [if_neg (by omega)], fun k hk => by rw [if_neg (by omega)]⟩
theorem k_reX {sc : List Value} {sp d : Nat} {h : eg_H} (hsc : ab_osc sc) (x : Int32) (hq : ab_hp h) : mc sc sp 1355 10 (d + 1 + 1) [.ref 0, .int x] h (reX_P h x.toInt) := by
  have l0 : eg_find 0 (eg_args 0 [.ref 0, .int x]) = some (.ref 0) := rfl
  have l1 : eg_find 1 (eg_args 0 [.ref 0, .int x]) = some (.int x) := rfl
  have hp := hq.1
  unfold mc
  refine hs_iload_n ci_1355_0 l1 ?_
  refine hs_if (t := 18) ci_1355_1 rfl (fun b1 => ?_) (fun b1 => ?_)
  · simp only [hs_cd, ab_not] at b1
    refine hs_iconst ci_1355_18 ?_
    exact hs_k ⟨3, some (.int (Int32.ofInt 0)), by decide +kernel, rv_b rt_1355 (Or.inl (by decide)), hq, ab_fr.rf, ⟨_, rfl⟩, fun i hi => by rw [if_neg (by omega), if_neg (by omega)], fun k hk => by rw [if_neg (by omega), if_neg (by omega)], fun k hk => by rw [if_neg (by omega), if_neg (by omega)], fun k hk => by rw [if_neg (by omega), if_neg (by omega)]⟩
  · simp only [hs_cd, ab_not] at b1
    refine hs_iload_n ci_1355_4 l1 ?_
    refine hs_iconst ci_1355_5 ?_
    refine hs_ic (t := 18) ci_1355_6 rfl (fun b6 => ?_) (fun b6 => ?_)
    · simp only [hs_cd, ab_not, kI_2] at b6
      refine hs_iconst ci_1355_18 ?_
      exact hs_k ⟨3, some (.int (Int32.ofInt 0)), by decide +kernel, rv_b rt_1355 (Or.inl (by decide)), hq, ab_fr.rf, ⟨_, rfl⟩, fun i hi => by rw [if_neg (by omega), if_neg (by omega)], fun k hk => by rw [if_neg (by omega), if_neg (by omega)], fun k hk => by rw [if_neg (by omega), if_neg (by omega)], fun k hk => by rw [if_neg (by omega), if_neg (by omega)]⟩
    · simp only [hs_cd, ab_not, kI_2] at b6
      refine hs_aload_n ci_1355_9 l0 ?_
      refine hs_gfr 14 129 ci_1355_10 (by decide +kernel) hp ?_
      refine hs_iload_n ci_1355_13 l1 ?_
      refine hs_baload 3 0 1 (0) (1) ci_1355_14 ⟨rfl, by decide⟩ (by decide +kernel) hp (by omega) (by omega) (fun r14_1 r14_2 => ?_)
      refine hs_if (t := 20) ci_1355_15 rfl (fun b15 => ?_) (fun b15 => ?_)
      · simp only [hs_cd, ab_not] at b15
        rcases (show x.toInt = 0 ∨ x.toInt = 1 by omega) with e | e
        · have fl : (hv h 129 0).toInt = 1 := by
            have e9 : x.toInt.toNat = 0 := by omega
            rw [e9] at b15 r14_1 r14_2
            omega
          refine hs_seg tr_ra0 rfl hsc (show 1 ≤ d + 1 + 1 by omega) (ar_ri (a := 0) (lo := .ofNat 0) (hi := .ofNat 0) hq l0 l1 (by rw [e]; decide) (by rw [e]; decide)) ?_
          rintro ν1 ls1 st1 h1 ⟨-, -, g0, g2, -, g3⟩ g4 f1
          obtain ⟨_, _, rfl, rfl, _, _, rfl, rfl, rfl⟩ := g2
          obtain ⟨v0, l0', e0⟩ := g0 0 _ (List.Mem.head _)
          obtain rfl : v0 = .ref 0 := e0
          obtain ⟨v1, l1', y, rfl, -, hy⟩ := g0 1 _ (List.Mem.tail _ (List.Mem.head _))
          have ey : y.toInt = 0 := by
            have g5 : ν1 2 = x.toInt := g4 2 (by decide)
            have hy : y.toInt = ν1 2 + 0 := hy
            omega
          refine hs_cv 835 1 1 ci_1355_30 (by decide +kernel) (by decide +kernel) g3.1 rfl (by rw [ml_835]; rfl) (k_cq_8_130 g3) ?_
          rintro v9 h2 ⟨e8, q2, f2, c2, cN, c3⟩
          rw [e8]
          clear e8 v9
          simp only [Option.toList, List.nil_append]
          refine hs_seg tr_rb0 rfl hsc (show 2 ≤ d + 1 + 1 by omega) (ar_ri (a := 0) (lo := .ofNat 0) (hi := .ofNat 0) q2 l0' l1' (by rw [ey]; decide) (by rw [ey]; decide)) ?_
          intro ν3 ls3 st3 h3 k9 _ f3
          have z0 : ν3 0 = 0 := k9.1.2.1
          obtain ⟨z, t, rfl, ⟨w, rfl, -, hw⟩, ht⟩ := k9.2.2.2.1
          obtain rfl : t = [] := ht
          have ew : w.toInt = 1 := by
            have hw : w.toInt = ν3 0 + 1 := hw
            omega
          have F9 : ab_fr MRX h3 h := (fr_sub (by decide +kernel) f3).tr ((fr_sub (by decide +kernel) f2).tr (fr_sub (by decide +kernel) f1))
          refine hs_k ⟨3, some (.int w), by decide +kernel, rv_b rt_1355 (Or.inr ew), k9.2.2.2.2.2, F9, ⟨_, rfl⟩, fun i hi => ?_, fun k hk => ?_, fun k hk => ?_, fun k hk => ?_⟩
          · rw [if_pos ⟨e, fl⟩, hv_same (f3 8 i rfl), c2 i hi, hv_same (f1 130 i rfl)]
          · exact (hv_same (f3 13 k rfl)).trans ((c3 k hk).2.trans ((hv_same (f1 135 k rfl)).trans (if_pos ⟨e, fl⟩).symm))
          · exact (hl_same (f3 9 k rfl)).trans ((cN k hk).trans ((hl_same (f1 131 k rfl)).trans (if_pos ⟨e, fl⟩).symm))
          · exact (hl_same (f3 12 k rfl)).trans ((c3 k hk).1.trans ((hl_same (f1 134 k rfl)).trans (if_pos ⟨e, fl⟩).symm))
        · have fl : (hv h 129 1).toInt = 1 := by
            have e9 : x.toInt.toNat = 1 := by omega
            rw [e9] at b15 r14_1 r14_2
            omega
          refine hs_seg tr_ra1 rfl hsc (show 1 ≤ d + 1 + 1 by omega) (ar_ri (a := 0) (lo := .ofNat 1) (hi := .ofNat 1) hq l0 l1 (by rw [e]; decide) (by rw [e]; decide)) ?_
          rintro ν1 ls1 st1 h1 ⟨-, -, g0, g2, -, g3⟩ g4 f1
          obtain ⟨_, _, rfl, rfl, _, _, rfl, rfl, rfl⟩ := g2
          obtain ⟨v0, l0', e0⟩ := g0 0 _ (List.Mem.head _)
          obtain rfl : v0 = .ref 0 := e0
          obtain ⟨v1, l1', y, rfl, -, hy⟩ := g0 1 _ (List.Mem.tail _ (List.Mem.head _))
          have ey : y.toInt = 1 := by
            have g5 : ν1 2 = x.toInt := g4 2 (by decide)
            have hy : y.toInt = ν1 2 + 0 := hy
            omega
          refine hs_cv 835 1 1 ci_1355_30 (by decide +kernel) (by decide +kernel) g3.1 rfl (by rw [ml_835]; rfl) (k_cq_8_156 g3) ?_
          rintro v9 h2 ⟨e8, q2, f2, c2, cN, c3⟩
          rw [e8]
          clear e8 v9
          simp only [Option.toList, List.nil_append]
          refine hs_seg tr_rb1 rfl hsc (show 2 ≤ d + 1 + 1 by omega) (ar_ri (a := 0) (lo := .ofNat 1) (hi := .ofNat 1) q2 l0' l1' (by rw [ey]; decide) (by rw [ey]; decide)) ?_
          intro ν3 ls3 st3 h3 k9 _ f3
          have z0 : ν3 0 = 0 := k9.1.2.1
          obtain ⟨z, t, rfl, ⟨w, rfl, -, hw⟩, ht⟩ := k9.2.2.2.1
          obtain rfl : t = [] := ht
          have ew : w.toInt = 1 := by
            have hw : w.toInt = ν3 0 + 1 := hw
            omega
          have F9 : ab_fr MRX h3 h := (fr_sub (by decide +kernel) f3).tr ((fr_sub (by decide +kernel) f2).tr (fr_sub (by decide +kernel) f1))
          refine hs_k ⟨3, some (.int w), by decide +kernel, rv_b rt_1355 (Or.inr ew), k9.2.2.2.2.2, F9, ⟨_, rfl⟩, fun i hi => ?_, fun k hk => ?_, fun k hk => ?_, fun k hk => ?_⟩
          · rw [if_neg (by omega), if_pos ⟨e, fl⟩, hv_same (f3 8 i rfl), c2 i hi, hv_same (f1 156 i rfl)]
          · exact (hv_same (f3 13 k rfl)).trans ((c3 k hk).2.trans ((hv_same (f1 161 k rfl)).trans ((if_neg (by omega)).trans (if_pos ⟨e, fl⟩)).symm))
          · exact (hl_same (f3 9 k rfl)).trans ((cN k hk).trans ((hl_same (f1 157 k rfl)).trans ((if_neg (by omega)).trans (if_pos ⟨e, fl⟩)).symm))
          · exact (hl_same (f3 12 k rfl)).trans ((c3 k hk).1.trans ((hl_same (f1 160 k rfl)).trans ((if_neg (by omega)).trans (if_pos ⟨e, fl⟩)).symm))
      · simp only [hs_cd, ab_not] at b15
        refine hs_iconst ci_1355_18 ?_
        rcases (show x.toInt = 0 ∨ x.toInt = 1 by omega) with e | e
        · have e9 : x.toInt.toNat = 0 := by omega
          rw [e9] at b15 r14_1 r14_2
          exact hs_k ⟨3, some (.int (Int32.ofInt 0)), by decide +kernel, rv_b rt_1355 (Or.inl (by decide)), hq, ab_fr.rf, ⟨_, rfl⟩, fun i hi => by rw [if_neg (by omega), if_neg (by omega)], fun k hk => by rw [if_neg (by omega), if_neg (by omega)], fun k hk => by rw [if_neg (by omega), if_neg (by omega)], fun k hk => by rw [if_neg (by omega), if_neg (by omega)]⟩
        · have e9 : x.toInt.toNat = 1 := by omega
          rw [e9] at b15 r14_1 r14_2
          exact hs_k ⟨3, some (.int (Int32.ofInt 0)), by decide +kernel, rv_b rt_1355 (Or.inl (by decide)), hq, ab_fr.rf, ⟨_, rfl⟩, fun i hi => by rw [if_neg (by omega), if_neg (by omega)], fun k hk => by rw [if_neg (by omega), if_neg (by omega)], fun k hk => by rw [if_neg (by omega), if_neg (by omega)], fun k hk => by rw [if_neg (by omega), if_neg (by omega)]⟩
theorem im_J {h h' : eg_H} {m : Nat} (hm2 : m < 2) (hp : ab_hp0 h) (hJ : ab_J h) (hf : ab_fr [(201, 307 * m, 307 * m + 306)] h' h) (hc : ∀ j, j < 307 → hv h' 201 (307 * m + j) = hv h 184 j) : ab_J h' := by
  have hs45 : (hv h 184 (0 + 126)).toInt ≤ 45 := (gsl_b (q := (0, 45)) hp (by decide +kernel)).2
  have hn := hJ.1.copy (h' := h') (b := 0) (d := 201) (e := 307 * m) hs45 (fun j hj => by rw [hc j hj, Nat.zero_add])
  have hs1 : ∀ a k, ¬ a = 201 → ab_slot h' a k = ab_slot h a k := fun a k ha => hf a k (by
    unfold ab_inr
    have : Nat.beq a 201 = false := by
      cases hb : Nat.beq a 201 with
      | false => rfl
      | true => exact absurd (Nat.eq_of_beq_eq_true hb) ha
    rw [this]; rfl)
  have hs2 : ∀ k, k < 307 * m ∨ 307 * m + 306 < k → ab_slot h' 201 k = ab_slot h 201 k := fun k hk => hf 201 k (by
    unfold ab_inr
    cases hb : (Nat.beq 201 201 && Nat.ble (307 * m) k && Nat.ble k (307 * m + 306)) with
    | false => rfl
    | true =>
      have d1 := Bool.and_eq_true_iff.mp hb
      have d2 := Bool.and_eq_true_iff.mp d1.1
      have := Nat.le_of_ble_eq_true d2.2
      have := Nat.le_of_ble_eq_true d1.2
      omega)
  have hn' : ab_Jc h' 201 (307 * m + 126) := hn
  have h45 : ∀ b, b = 126 ∨ b = 433 → (hv h 201 b).toInt ≤ 45 := fun b hb => by
    rcases hb with rfl | rfl
    · exact (gsl_b (q := (0, 45)) hp (by decide +kernel)).2
    · exact (gsl_b (q := (0, 45)) hp (by decide +kernel)).2
  have hJ' : ab_J h' := by
    refine ⟨hJ.1.same (fun k _ => hs1 _ _ (by decide)), ?_, ?_, fun k hd => ?_⟩
    · rcases (show m = 0 ∨ m = 1 by omega) with rfl | rfl
      · exact hn'
      · unfold ab_Jc
        rw [hv_same (hs2 126 (by omega))]
        refine wf_ok_same (fun i hi => ?_) hJ.2.1
        have := h45 126 (Or.inl rfl)
        unfold ab_cd
        rw [hv_same (hs2 _ (by omega))]
    · rcases (show m = 0 ∨ m = 1 by omega) with rfl | rfl
      · unfold ab_Jc
        rw [hv_same (hs2 433 (by omega))]
        refine wf_ok_same (fun i hi => ?_) hJ.2.2.1
        unfold ab_cd
        rw [hv_same (hs2 _ (by omega))]
      · exact hn'
    · rw [hv_same (hs1 113 k (by decide))] at hd
      rw [hv_same (hs1 114 k (by decide))]
      exact hJ.2.2.2 k hd
  exact hJ'
theorem re_J {h h' : eg_H} {m : Nat} (hm2 : m < 2) (hp : ab_hp0 h) (hJ : ab_J h) (hf : ab_fr [(184, 0, 306)] h' h) (hc : ∀ j, j < 307 → hv h' 184 j = hv h 201 (307 * m + j)) : ab_J h' := by
  have hs1 : ∀ a k, ¬ a = 184 → ab_slot h' a k = ab_slot h a k := fun a k ha => hf a k (by
    unfold ab_inr
    have : Nat.beq a 184 = false := by
      cases hb : Nat.beq a 184 with
      | false => rfl
      | true => exact absurd (Nat.eq_of_beq_eq_true hb) ha
    rw [this]; rfl)
  have hJ' : ab_J h' := by
    refine ⟨?_, hJ.2.1.same (fun k _ => hs1 _ _ (by decide)), hJ.2.2.1.same (fun k _ => hs1 _ _ (by decide)), fun k hd => ?_⟩
    · have hk45 : (hv h 201 (307 * m + 126)).toInt ≤ 45 := by
        rcases (show m = 0 ∨ m = 1 by omega) with rfl | rfl
        · exact (gsl_b (q := (0, 45)) hp (by decide +kernel)).2
        · exact (gsl_b (q := (0, 45)) hp (by decide +kernel)).2
      have hk : ab_Jc h 201 (307 * m + 126) := by
        rcases (show m = 0 ∨ m = 1 by omega) with rfl | rfl
        · exact hJ.2.1
        · exact hJ.2.2.1
      exact hk.copy (h' := h') (d := 184) (e := 0) hk45 (fun j hj => by rw [Nat.zero_add]; exact hc j hj)
    · rw [hv_same (hs1 113 k (by decide))] at hd
      rw [hv_same (hs1 114 k (by decide))]
      exact hJ.2.2.2 k hd
  exact hJ'
theorem inr_out {m q : Nat} (h : q < 307 * m ∨ 307 * m + 306 < q) : ab_inr [(201, 307 * m, 307 * m + 306)] 201 q q = false := by
  unfold ab_inr
  cases hb : (Nat.beq 201 201 && Nat.ble (307 * m) q && Nat.ble q (307 * m + 306)) with
  | false => rfl
  | true =>
    have d1 := Bool.and_eq_true_iff.mp hb
    have d2 := Bool.and_eq_true_iff.mp d1.1
    have := Nat.le_of_ble_eq_true d2.2
    have := Nat.le_of_ble_eq_true d1.2
    omega
theorem m_imM {sc : List Value} {sp d : Nat} {h : eg_H} (hsc : ab_osc sc) (x : Int32) (hq : ab_hp h) : mc sc sp 2113 11 (d + 1) [.ref 182, .int x] h (imM_P h x.toInt) := by
  have l0 : eg_find 0 (eg_args 0 [.ref 182, .int x]) = some (.ref 182) := rfl
  have l1 : eg_find 1 (eg_args 0 [.ref 182, .int x]) = some (.int x) := rfl
  have hp := hq.1
  unfold mc
  refine hs_aload_n ci_2113_0 l0 ?_
  refine hs_iconst ci_2113_1 ?_
  refine hs_pfi 0 (0) (1) ci_2113_2 (by decide +kernel) hp (by decide) (by decide) ?_
  intro h2 w2
  replace hp := w2.1
  have f2 : ab_fr [(182, 0, 0)] h2 h := w2.fr rfl
  have q2 : ab_hp h2 := ⟨hp, hq.2.fr (M := [(182, 0, 0)]) (by decide +kernel) f2⟩
  refine hs_iload_n ci_2113_5 l1 ?_
  refine hs_iconst ci_2113_6 ?_
  refine hs_iconst ci_2113_7 ?_
  refine hs_cs 1698 11 3 ci_2113_8 (by decide +kernel) rfl (by rw [ml_1698]; rfl) (m_isI x (Int32.ofInt 0) (Int32.ofInt 1)) ?_
  rintro v9 h9 ⟨e9, rA, e8, hrA⟩
  rw [e8, e9]
  clear e8 e9 v9 h9
  rw [kI_0, kI_1] at hrA
  simp only [Option.toList, List.cons_append, List.nil_append]
  refine hs_if (t := 16) ci_2113_11 rfl (fun b11 => ?_) (fun b11 => ?_)
  · simp only [hs_cd, ab_not] at b11
    refine hs_iconst ci_2113_16 ?_
    refine hs_istore2_n ci_2113_17 (by decide +kernel) ?_
    intro ls9 q9
    replace l0 := q9.2 0 _ (by decide) (Or.inl rfl) l0
    replace l1 := q9.2 1 _ (by decide) (Or.inl rfl) l1
    have l2 := q9.1
    clear q9
    rcases (show x.toInt = 0 ∨ x.toInt = 1 by omega) with e | e
    · refine hs.bind (cp_im18 (h0 := h2) (m := 0) (by decide) x 307 0 _ _ h2 rfl hp ab_fr.rf (by rw [e]; decide) (fun j hj => by omega) l0 l2 kI_0 l1) ?_
      rintro pc' ls' st' h3 ⟨rfl, rfl, hp3, f3, k0, k1, hc⟩
      have q3 : ab_hp h3 := ⟨hp3, im_J (m := 0) (by decide) q2.1 q2.2 f3 hc⟩
      refine hs_iconst ci_2113_49 ?_
      refine hs_istore2_n ci_2113_50 (by decide +kernel) ?_
      intro ls9 q9
      replace k0 := q9.2 0 _ (by decide) (Or.inl rfl) k0
      replace k1 := q9.2 1 _ (by decide) (Or.inl rfl) k1
      have k2 := q9.1
      clear q9
      refine hs.bind (cn_im (h := h3) (v := 0) (by decide) e 16 0 _ _ h3 rfl kI_0 q3.1 ab_fr.rf (fun q hq => by omega) k0 k1 k2) ?_
      rintro pc' ls' st' h4 ⟨rfl, rfl, hp4, f4, hcn, l0, k1⟩
      have g3 : ab_hp h4 := ⟨hp4, q3.2.fr (M := [(202, 16 * 0, 16 * 0 + 15)]) (by decide +kernel) f4⟩
      obtain ⟨y, ey, l1⟩ : ∃ y : Int32, y.toInt = 0 ∧ eg_find 1 ls' = some (.int y) := ⟨x, e, k1⟩
      have hp := g3.1
      refine hs_aload_n ci_2113_80 l0 ?_
      refine hs_gfr 53 203 ci_2113_81 (by decide +kernel) hp ?_
      refine hs_iload_n ci_2113_84 l1 ?_
      refine hs_iconst ci_2113_85 ?_
      refine hs_bastore 3 0 1 (0) (1) ci_2113_86 ⟨rfl, by decide⟩ (by decide +kernel) hp (by omega) (by omega) (by decide) (by decide) ?_
      intro h86 w86
      replace hp := w86.1
      refine hs_iconst ci_2113_87 ?_
      have ey2 : y.toInt.toNat = 0 := by omega
      rw [ey2] at w86
      have f86 : ab_fr [(203, 0, 1)] h86 h4 := w86.fr rfl
      have F9 : ab_fr MIM h86 h := (fr_sub (by decide +kernel) f86).tr ((fr_sub (by decide +kernel) f4).tr ((fr_sub (by decide +kernel) f3).tr (fr_sub (by decide +kernel) f2)))
      refine hs_k ⟨3, some (.int (Int32.ofInt 1)), by decide +kernel, rv_b rt_2113 (Or.inr (by decide)), ⟨hp, g3.2.fr (M := [(203, 0, 1)]) (by decide +kernel) f86⟩, F9, ⟨_, rfl⟩, ?_, ?_, fun q hq => ?_, fun q hq => ?_, fun q hq => ?_, fun q hq => ?_⟩
      · rw [if_pos e, w86.v, if_pos ⟨rfl, rfl⟩]
        exact kI_1
      · rw [if_neg (by omega), w86.v, if_neg (by decide), hv_same (f4 203 1 rfl), hv_same (f3 203 1 rfl), hv_same (f2 203 1 rfl)]
      · rw [if_pos e, hv_same (f86 201 q rfl), hv_same (f4 201 q rfl)]
        have := hc q hq
        rw [Nat.mul_zero, Nat.zero_add] at this
        rw [this, hv_same (f2 184 q rfl)]
      · rw [if_neg (by omega), hv_same (f86 201 (307 + q) rfl), hv_same (f4 201 (307 + q) rfl), hv_same (f3 201 (307 + q) (inr_out (by omega))), hv_same (f2 201 (307 + q) rfl)]
      · rw [if_pos e, hl_same (f86 202 q rfl)]
        have := hcn q hq
        rw [Nat.mul_zero, Nat.zero_add] at this
        rw [this, hl_same (f3 187 q rfl), hl_same (f2 187 q rfl)]
      · rw [if_neg (by omega), hl_same (f86 202 (16 + q) rfl), hl_same (f4 202 (16 + q) (inr_off (by omega))), hl_same (f3 202 (16 + q) rfl), hl_same (f2 202 (16 + q) rfl)]
    · refine hs.bind (cp_im18 (h0 := h2) (m := 1) (by decide) x 307 0 _ _ h2 rfl hp ab_fr.rf (by rw [e]; decide) (fun j hj => by omega) l0 l2 kI_0 l1) ?_
      rintro pc' ls' st' h3 ⟨rfl, rfl, hp3, f3, k0, k1, hc⟩
      have q3 : ab_hp h3 := ⟨hp3, im_J (m := 1) (by decide) q2.1 q2.2 f3 hc⟩
      refine hs_iconst ci_2113_49 ?_
      refine hs_istore2_n ci_2113_50 (by decide +kernel) ?_
      intro ls9 q9
      replace k0 := q9.2 0 _ (by decide) (Or.inl rfl) k0
      replace k1 := q9.2 1 _ (by decide) (Or.inl rfl) k1
      have k2 := q9.1
      clear q9
      refine hs.bind (cn_im (h := h3) (v := 1) (by decide) e 16 0 _ _ h3 rfl kI_0 q3.1 ab_fr.rf (fun q hq => by omega) k0 k1 k2) ?_
      rintro pc' ls' st' h4 ⟨rfl, rfl, hp4, f4, hcn, l0, k1⟩
      have g3 : ab_hp h4 := ⟨hp4, q3.2.fr (M := [(202, 16 * 1, 16 * 1 + 15)]) (by decide +kernel) f4⟩
      obtain ⟨y, ey, l1⟩ : ∃ y : Int32, y.toInt = 1 ∧ eg_find 1 ls' = some (.int y) := ⟨x, e, k1⟩
      have hp := g3.1
      refine hs_aload_n ci_2113_80 l0 ?_
      refine hs_gfr 53 203 ci_2113_81 (by decide +kernel) hp ?_
      refine hs_iload_n ci_2113_84 l1 ?_
      refine hs_iconst ci_2113_85 ?_
      refine hs_bastore 3 0 1 (0) (1) ci_2113_86 ⟨rfl, by decide⟩ (by decide +kernel) hp (by omega) (by omega) (by decide) (by decide) ?_
      intro h86 w86
      replace hp := w86.1
      refine hs_iconst ci_2113_87 ?_
      have ey2 : y.toInt.toNat = 1 := by omega
      rw [ey2] at w86
      have f86 : ab_fr [(203, 0, 1)] h86 h4 := w86.fr rfl
      have F9 : ab_fr MIM h86 h := (fr_sub (by decide +kernel) f86).tr ((fr_sub (by decide +kernel) f4).tr ((fr_sub (by decide +kernel) f3).tr (fr_sub (by decide +kernel) f2)))
      refine hs_k ⟨3, some (.int (Int32.ofInt 1)), by decide +kernel, rv_b rt_2113 (Or.inr (by decide)), ⟨hp, g3.2.fr (M := [(203, 0, 1)]) (by decide +kernel) f86⟩, F9, ⟨_, rfl⟩, ?_, ?_, fun q hq => ?_, fun q hq => ?_, fun q hq => ?_, fun q hq => ?_⟩
      · rw [if_neg (by omega), w86.v, if_neg (by decide), hv_same (f4 203 0 rfl), hv_same (f3 203 0 rfl), hv_same (f2 203 0 rfl)]
      · rw [if_pos e, w86.v, if_pos ⟨rfl, rfl⟩]
        exact kI_1
      · rw [if_neg (by omega), hv_same (f86 201 q rfl), hv_same (f4 201 q rfl), hv_same (f3 201 q (inr_out (by omega))), hv_same (f2 201 q rfl)]
      · rw [if_pos e, hv_same (f86 201 (307 + q) rfl), hv_same (f4 201 (307 + q) rfl)]
        have := hc q hq
        rw [Nat.mul_one] at this
        rw [this, hv_same (f2 184 q rfl)]
      · rw [if_neg (by omega), hl_same (f86 202 q rfl), hl_same (f4 202 q (inr_off (by omega))), hl_same (f3 202 q rfl), hl_same (f2 202 q rfl)]
      · rw [if_pos e, hl_same (f86 202 (16 + q) rfl)]
        have := hcn q hq
        rw [Nat.mul_one] at this
        rw [this, hl_same (f3 187 q rfl), hl_same (f2 187 q rfl)]
  · simp only [hs_cd, ab_not] at b11
    refine hs_iconst ci_2113_14 ?_
    exact hs_k ⟨3, some (.int (Int32.ofInt 0)), by decide +kernel, rv_b rt_2113 (Or.inl (by decide)), q2, fr_sub (by decide +kernel) f2, ⟨_, rfl⟩, by rw [if_neg (by omega), hv_same (f2 203 0 rfl)], by rw [if_neg (by omega), hv_same (f2 203 1 rfl)], fun q hq => by rw [if_neg (by omega), hv_same (f2 201 q rfl)], fun q hq => by rw [if_neg (by omega), hv_same (f2 201 (307 + q) rfl)], fun q hq => by rw [if_neg (by omega), hl_same (f2 202 q rfl)], fun q hq => by rw [if_neg (by omega), hl_same (f2 202 (16 + q) rfl)]⟩
theorem m_reM {sc : List Value} {sp d : Nat} {h : eg_H} (hsc : ab_osc sc) (x : Int32) (hq : ab_hp h) : mc sc sp 2117 11 (d + 1) [.ref 182, .int x] h (reM_P h x.toInt) := by
  have l0 : eg_find 0 (eg_args 0 [.ref 182, .int x]) = some (.ref 182) := rfl
  have l1 : eg_find 1 (eg_args 0 [.ref 182, .int x]) = some (.int x) := rfl
  have hp := hq.1
  unfold mc
  refine hs_aload_n ci_2117_0 l0 ?_
  refine hs_iconst ci_2117_1 ?_
  refine hs_pfi 0 (0) (1) ci_2117_2 (by decide +kernel) hp (by decide) (by decide) ?_
  intro h2 w2
  replace hp := w2.1
  have f2 : ab_fr [(182, 0, 0)] h2 h := w2.fr rfl
  have q2 : ab_hp h2 := ⟨hp, hq.2.fr (M := [(182, 0, 0)]) (by decide +kernel) f2⟩
  refine hs_iload_n ci_2117_5 l1 ?_
  refine hs_iconst ci_2117_6 ?_
  refine hs_iconst ci_2117_7 ?_
  refine hs_cs 1698 11 3 ci_2117_8 (by decide +kernel) rfl (by rw [ml_1698]; rfl) (m_isI x (Int32.ofInt 0) (Int32.ofInt 1)) ?_
  rintro v9 h9 ⟨e9, rA, e8, hrA⟩
  rw [e8, e9]
  clear e8 e9 v9 h9
  rw [kI_0, kI_1] at hrA
  simp only [Option.toList, List.cons_append, List.nil_append]
  refine hs_if (t := 23) ci_2117_11 rfl (fun b11 => ?_) (fun b11 => ?_)
  · simp only [hs_cd, ab_not] at b11
    refine hs_iconst ci_2117_23 ?_
    exact hs_k ⟨3, some (.int (Int32.ofInt 0)), by decide +kernel, rv_b rt_2117 (Or.inl (by decide)), q2, fr_sub (by decide +kernel) f2, ⟨_, rfl⟩, fun q hq => by rw [if_neg (by omega), if_neg (by omega), hv_same (f2 184 q rfl)], fun q hq => by rw [if_neg (by omega), if_neg (by omega), hl_same (f2 187 q rfl)]⟩
  · simp only [hs_cd, ab_not] at b11
    refine hs_aload_n ci_2117_14 l0 ?_
    refine hs_gfr 53 203 ci_2117_15 (by decide +kernel) hp ?_
    refine hs_iload_n ci_2117_18 l1 ?_
    refine hs_baload 3 0 1 (0) (1) ci_2117_19 ⟨rfl, by decide⟩ (by decide +kernel) hp (by omega) (by omega) (fun r19_1 r19_2 => ?_)
    refine hs_if (t := 25) ci_2117_20 rfl (fun b20 => ?_) (fun b20 => ?_)
    · simp only [hs_cd, ab_not] at b20
      refine hs_iconst ci_2117_25 ?_
      refine hs_istore2_n ci_2117_26 (by decide +kernel) ?_
      intro ls9 q9
      replace l0 := q9.2 0 _ (by decide) (Or.inl rfl) l0
      replace l1 := q9.2 1 _ (by decide) (Or.inl rfl) l1
      have l2 := q9.1
      clear q9
      rcases (show x.toInt = 0 ∨ x.toInt = 1 by omega) with e | e
      · have fl : (hv h 203 0).toInt = 1 := by
          have e9 : x.toInt.toNat = 0 := by omega
          rw [e9, hv_same (f2 203 0 rfl)] at b20 r19_1 r19_2
          omega
        refine hs.bind (cp_re27 (h0 := h2) (m := 0) (by decide) x 307 0 _ _ h2 rfl hp ab_fr.rf (by rw [e]; decide) (fun j hj => by omega) l0 l2 kI_0 l1) ?_
        rintro pc' ls' st' h3 ⟨rfl, rfl, hp3, f3, k0, k1, hc⟩
        have q3 : ab_hp h3 := ⟨hp3, re_J (m := 0) (by decide) q2.1 q2.2 f3 hc⟩
        refine hs_iconst ci_2117_58 ?_
        refine hs_istore2_n ci_2117_59 (by decide +kernel) ?_
        intro ls9 q9
        replace k0 := q9.2 0 _ (by decide) (Or.inl rfl) k0
        replace k1 := q9.2 1 _ (by decide) (Or.inl rfl) k1
        have k2 := q9.1
        clear q9
        refine hs.bind (cn_re (h := h3) (v := 0) (by decide) e 16 0 _ _ h3 rfl kI_0 q3.1 ab_fr.rf (fun q hq => by omega) k0 k1 k2) ?_
        rintro pc' ls' st' h4 ⟨rfl, rfl, hp4, f4, hcn, l0, k1⟩
        have g3 : ab_hp h4 := ⟨hp4, q3.2.fr (M := [(187, 0, 15)]) (by decide +kernel) f4⟩
        obtain ⟨y, ey, l1⟩ : ∃ y : Int32, y.toInt = 0 ∧ eg_find 1 ls' = some (.int y) := ⟨x, e, k1⟩
        have hp := g3.1
        refine hs_aload_n ci_2117_89 l0 ?_
        refine hs_iconst ci_2117_90 ?_
        refine hs_pfi 25 (0) (8) ci_2117_91 (by decide +kernel) hp (by decide) (by decide) ?_
        intro h91 w91
        replace hp := w91.1
        refine hs_iconst ci_2117_94 ?_
        have f91 : ab_fr [(182, 25, 25)] h91 h4 := w91.fr rfl
        have F9 : ab_fr MRM h91 h := (fr_sub (by decide +kernel) f91).tr ((fr_sub (by decide +kernel) f4).tr ((fr_sub (by decide +kernel) f3).tr (fr_sub (by decide +kernel) f2)))
        refine hs_k ⟨3, some (.int (Int32.ofInt 1)), by decide +kernel, rv_b rt_2117 (Or.inr (by decide)), ⟨hp, g3.2.fr (M := [(182, 25, 25)]) (by decide +kernel) f91⟩, F9, ⟨_, rfl⟩, fun q hq => ?_, fun q hq => ?_⟩
        · have := hc q hq
          rw [Nat.mul_zero, Nat.zero_add] at this
          rw [if_pos ⟨e, fl⟩, hv_same (f91 184 q rfl), hv_same (f4 184 q rfl), this, hv_same (f2 201 q rfl)]
        · have := hcn q hq
          rw [Nat.mul_zero, Nat.zero_add] at this
          rw [if_pos ⟨e, fl⟩, hl_same (f91 187 q rfl), this, hl_same (f3 202 q rfl), hl_same (f2 202 q rfl)]
      · have fl : (hv h 203 1).toInt = 1 := by
          have e9 : x.toInt.toNat = 1 := by omega
          rw [e9, hv_same (f2 203 1 rfl)] at b20 r19_1 r19_2
          omega
        refine hs.bind (cp_re27 (h0 := h2) (m := 1) (by decide) x 307 0 _ _ h2 rfl hp ab_fr.rf (by rw [e]; decide) (fun j hj => by omega) l0 l2 kI_0 l1) ?_
        rintro pc' ls' st' h3 ⟨rfl, rfl, hp3, f3, k0, k1, hc⟩
        have q3 : ab_hp h3 := ⟨hp3, re_J (m := 1) (by decide) q2.1 q2.2 f3 hc⟩
        refine hs_iconst ci_2117_58 ?_
        refine hs_istore2_n ci_2117_59 (by decide +kernel) ?_
        intro ls9 q9
        replace k0 := q9.2 0 _ (by decide) (Or.inl rfl) k0
        replace k1 := q9.2 1 _ (by decide) (Or.inl rfl) k1
        have k2 := q9.1
        clear q9
        refine hs.bind (cn_re (h := h3) (v := 1) (by decide) e 16 0 _ _ h3 rfl kI_0 q3.1 ab_fr.rf (fun q hq => by omega) k0 k1 k2) ?_
        rintro pc' ls' st' h4 ⟨rfl, rfl, hp4, f4, hcn, l0, k1⟩
        have g3 : ab_hp h4 := ⟨hp4, q3.2.fr (M := [(187, 0, 15)]) (by decide +kernel) f4⟩
        obtain ⟨y, ey, l1⟩ : ∃ y : Int32, y.toInt = 1 ∧ eg_find 1 ls' = some (.int y) := ⟨x, e, k1⟩
        have hp := g3.1
        refine hs_aload_n ci_2117_89 l0 ?_
        refine hs_iconst ci_2117_90 ?_
        refine hs_pfi 25 (0) (8) ci_2117_91 (by decide +kernel) hp (by decide) (by decide) ?_
        intro h91 w91
        replace hp := w91.1
        refine hs_iconst ci_2117_94 ?_
        have f91 : ab_fr [(182, 25, 25)] h91 h4 := w91.fr rfl
        have F9 : ab_fr MRM h91 h := (fr_sub (by decide +kernel) f91).tr ((fr_sub (by decide +kernel) f4).tr ((fr_sub (by decide +kernel) f3).tr (fr_sub (by decide +kernel) f2)))
        refine hs_k ⟨3, some (.int (Int32.ofInt 1)), by decide +kernel, rv_b rt_2117 (Or.inr (by decide)), ⟨hp, g3.2.fr (M := [(182, 25, 25)]) (by decide +kernel) f91⟩, F9, ⟨_, rfl⟩, fun q hq => ?_, fun q hq => ?_⟩
        · have := hc q hq
          rw [Nat.mul_one] at this
          rw [if_neg (by omega), if_pos ⟨e, fl⟩, hv_same (f91 184 q rfl), hv_same (f4 184 q rfl), this, hv_same (f2 201 (307 + q) rfl)]
        · have := hcn q hq
          rw [Nat.mul_one] at this
          rw [if_neg (by omega), if_pos ⟨e, fl⟩, hl_same (f91 187 q rfl), this, hl_same (f3 202 (16 + q) rfl), hl_same (f2 202 (16 + q) rfl)]
    · simp only [hs_cd, ab_not] at b20
      refine hs_iconst ci_2117_23 ?_
      rcases (show x.toInt = 0 ∨ x.toInt = 1 by omega) with e | e
      · have e9 : x.toInt.toNat = 0 := by omega
        rw [e9, hv_same (f2 203 0 rfl)] at b20 r19_1 r19_2
        exact hs_k ⟨3, some (.int (Int32.ofInt 0)), by decide +kernel, rv_b rt_2117 (Or.inl (by decide)), q2, fr_sub (by decide +kernel) f2, ⟨_, rfl⟩, fun q hq => by rw [if_neg (by omega), if_neg (by omega), hv_same (f2 184 q rfl)], fun q hq => by rw [if_neg (by omega), if_neg (by omega), hl_same (f2 187 q rfl)]⟩
      · have e9 : x.toInt.toNat = 1 := by omega
        rw [e9, hv_same (f2 203 1 rfl)] at b20 r19_1 r19_2
        exact hs_k ⟨3, some (.int (Int32.ofInt 0)), by decide +kernel, rv_b rt_2117 (Or.inl (by decide)), q2, fr_sub (by decide +kernel) f2, ⟨_, rfl⟩, fun q hq => by rw [if_neg (by omega), if_neg (by omega), hv_same (f2 184 q rfl)], fun q hq => by rw [if_neg (by omega), if_neg (by omega), hl_same (f2 187 q rfl)]⟩
