/-! BY HAND: op 39: both answer by one number of the script -/
theorem cl_1217 : ab_atL 9999 1217 (.aload_n 1) 1 = true := by decide +kernel
theorem cl_1218 : ab_atL 9999 1218 (.aload_n 0) 1 = true := by decide +kernel
theorem cl_1219 : ab_atL 9999 1219 (.iload 4) 2 = true := by decide +kernel
theorem cl_1221 : ab_atL 9999 1221 (.iconst 1) 1 = true := by decide +kernel
theorem cl_1222 : ab_atL 9999 1222 (.iadd) 1 = true := by decide +kernel
theorem cl_1223 : ab_atL 9999 1223 (.iaload) 1 = true := by decide +kernel
theorem cl_1224 : ab_atL 9999 1224 (.invokevirtual 184) 3 = true := by decide +kernel
theorem cl_1227 : ab_atL 9999 1227 (.aload_n 2) 1 = true := by decide +kernel
theorem cl_1228 : ab_atL 9999 1228 (.aload_n 0) 1 = true := by decide +kernel
theorem cl_1229 : ab_atL 9999 1229 (.iload 4) 2 = true := by decide +kernel
theorem cl_1231 : ab_atL 9999 1231 (.iconst 1) 1 = true := by decide +kernel
theorem cl_1232 : ab_atL 9999 1232 (.iadd) 1 = true := by decide +kernel
theorem cl_1233 : ab_atL 9999 1233 (.iaload) 1 = true := by decide +kernel
theorem cl_1234 : ab_atL 9999 1234 (.invokevirtual 187) 3 = true := by decide +kernel
theorem cl_1237 : ab_atL 9999 1237 (.if_icmp .eq 55) 3 = true := by decide +kernel
set_option maxHeartbeats 1000000 in
theorem hl_call {sc : List Value} {sp u o d pc : Nat} {K : Nat → eg_L → List Value → eg_H → Prop} {ls : eg_L} {st0 as st1 as2 st2 : List Value} {h : eg_H} {i : Instr} {ik k mu o' np : Nat} {Post : Option Value → eg_H → Prop} (hst : (Nat.beq pc sp && Nat.beq u 9999) = false) (c : ab_atL u pc i 3 = true) (hks : eg_ks i 3 = some (ik, k)) (hG : eg_hd [] sc u o pc i 3 = none) (hcx : ck_cl o k ik mu o' np = true) (hpop : eg_pop np st0 [] = some (as, st1)) (hrcv : eg_rcv ik o' h as st1 = some (as2, st2)) (hcat : (Nat.ble (eg_cat st2) 8 && Nat.ble (eg_cat as2) (eg_md mu).2.2.1) = true) (m : mc sc sp mu o' d as2 h Post) (n : ∀ vo h', Post vo h' → hs sc sp u o (d + 1) K (pc + 3) ls (vo.toList ++ st2) h') : hs sc sp u o (d + 1) K pc ls st0 h := by
  have hs0 := ab_atL_v c
  obtain ⟨pc1, ls1, st3, h1, g1, ir, vo, hir, hrv, hpost⟩ := m
  refine (n vo h1 hpost).pre ?_
  intro r hr
  unfold ck_cl at hcx
  have c1 := Bool.and_eq_true_iff.mp hcx
  have c2 := Bool.and_eq_true_iff.mp c1.1
  have c3 := Bool.and_eq_true_iff.mp c2.1
  have c4 := Bool.and_eq_true_iff.mp c3.1
  have c5 := Bool.and_eq_true_iff.mp c4.1
  have hb1 := Nat.eq_of_beq_eq_true c3.2
  have hb2 := Nat.eq_of_beq_eq_true c2.2
  have hmu : Nat.beq mu 9999 = false := by
    have := c4.2
    cases hb : Nat.beq mu 9999 with
    | false => rfl
    | true => rw [hb] at this; cases this
  cases ha : eg_at o eg_cx k with
  | none => have := c5.1; rw [ha] at this; cases this
  | some e =>
    obtain ⟨kd, pl, m', oo, n', pa, pb, pi⟩ := e
    have c6 := c5.1
    rw [ha] at c6
    simp only at c6
    have d1 := Bool.and_eq_true_iff.mp c6
    have d2 := Bool.and_eq_true_iff.mp d1.1
    have d3 := Bool.and_eq_true_iff.mp d2.1
    obtain rfl := Nat.eq_of_beq_eq_true d3.1
    obtain rfl := Nat.eq_of_beq_eq_true d3.2
    obtain rfl := Nat.eq_of_beq_eq_true d2.2
    obtain rfl := Nat.eq_of_beq_eq_true d1.2
    have hk02 : kd = 0 ∨ kd = 2 := by
      rcases Bool.or_eq_true_iff.mp c5.2 with e | e
      · exact Or.inl (Nat.eq_of_beq_eq_true e)
      · exact Or.inr (Nat.eq_of_beq_eq_true e)
    have hik : Nat.ble 3 kd = false := by rcases hk02 with rfl | rfl <;> rfl
    have hk4 : Nat.ble 4 kd = false := by rcases hk02 with rfl | rfl <;> rfl
    have hkb : (bif Nat.beq kd 3 then Nat.beq kd 1 else Nat.beq kd kd) = true := by rcases hk02 with rfl | rfl <;> rfl
    have hk13 : (Nat.beq kd 1 || Nat.beq kd 3) = false := by rcases hk02 with rfl | rfl <;> rfl
    refine ab_Re_call hs0 hst hG hks hik ?_
    obtain ⟨m1, hm1⟩ := g1 _ (ab_ret_v hmu hir)
    obtain ⟨m2, hm2⟩ := hr
    refine ⟨m1 + m2, ?_⟩
    have w1 := eg_run_mo (Nat.le_add_right m1 m2) _ _ _ _ _ _ _ _ _ _ _ _ hm1
    have w2 := eg_run_mo (Nat.le_add_left m2 m1) _ _ _ _ _ _ _ _ _ _ _ _ hm2
    have hpg : eg_seek 0 (eg_pg m') = eg_pg m' := by
      have := c1.2
      split at this
      next p i0 l0 cs0 hpg =>
        rw [hpg]
        unfold eg_seek
        rw [this]
      next => cases this
    rw [hpg] at w1
    have hcat2 := Bool.and_eq_true_iff.mp hcat
    have hcc : (!(Nat.beq m' 9999) && Nat.ble (eg_cat st2) 8 && Nat.ble (eg_cat as2) (eg_md m').2.2.1 && Nat.ble 0 0 && Nat.ble 0 0) = true := by rw [hmu, hcat2.1, hcat2.2]; rfl
    simp only [eg_call, ha, hk4, hkb, cond_true, hpop, hrcv, hb1, hb2, hcc, w1, hrv]
    cases vo with
    | none => exact w2
    | some z =>
      simp only [hk13, cond_false]
      exact w2
theorem ml_img1 : (eg_md 1351).2.2.1 = 2 := by decide +kernel
theorem ml_img2 : (eg_md 2113).2.2.1 = 3 := by decide +kernel
theorem c_imgX {sc : List Value} {sp d : Nat} (hsc : ab_osc sc) {h : eg_H} (x : Int32) (hp : ab_hp h) : mc sc sp 1351 10 (d + 2) [.ref 0, .int x] h (mc_K [(129, 0, 1), (130, 0, 6), (131, 0, 5), (132, 0, 5), (133, 0, 5), (134, 0, 9), (135, 0, 9), (136, 0, 9), (137, 0, 9), (138, 0, 9), (139, 0, 9), (140, 0, 9), (141, 0, 9), (142, 0, 9), (143, 0, 9), (144, 6, 7), (145, 0, 9), (146, 0, 9), (147, 0, 9), (148, 0, 5), (149, 0, 5), (151, 3, 3), (152, 0, 47), (153, 0, 47), (154, 0, 47), (156, 0, 6), (157, 0, 5), (158, 0, 5), (159, 0, 5), (160, 0, 9), (161, 0, 9), (162, 0, 9), (163, 0, 9), (164, 0, 9), (165, 0, 9), (166, 0, 9), (167, 0, 9), (168, 0, 9), (169, 0, 9), (170, 6, 7), (171, 0, 9), (172, 0, 9), (173, 0, 9), (174, 0, 5), (175, 0, 5), (177, 3, 3), (178, 0, 47), (179, 0, 47), (180, 0, 47)] h x.toInt 0 1) := mc_qk (ν := ar_n sc.length [x]) tr_z4450 (lo := 0) (hi := 1) (by decide +kernel) hsc (show 2 ≤ d + 2 by omega) (ar_1 hp (ab_ige x) (ab_ile x))
theorem c_imgM {sc : List Value} {sp d : Nat} (hsc : ab_osc sc) {h : eg_H} (x : Int32) (hp : ab_hp h) : mc sc sp 2113 11 (d + 2) [.ref 182, .int x] h (mc_K [(182, 0, 0), (201, 0, 613), (202, 0, 31), (203, 0, 1)] h x.toInt 0 1) := mc_qk (ν := ar_n sc.length [x]) tr_z5923 (lo := 0) (hi := 1) (by decide +kernel) hsc (show 2 ≤ d + 2 by omega) (ar_1 hp (ab_ige x) (ab_ile x))
def sm_op39 : ab_Q := (9999, 12, 1217, 3, (3, [(1, .ofNat 0, .ofNat 3072, false, some (2, .ofNat 6)), (2, .ofNat 0, .ofNat 3072, false, none)], [(0, .inr 1), (1, .inr 2), (2, .inr 184), (3, .inr 206), (4, .inl (2, .ofNat 0))], [], []), [(129, 0, 1), (130, 0, 6), (131, 0, 5), (132, 0, 5), (133, 0, 5), (134, 0, 9), (135, 0, 9), (136, 0, 9), (137, 0, 9), (138, 0, 9), (139, 0, 9), (140, 0, 9), (141, 0, 9), (142, 0, 9), (143, 0, 9), (144, 6, 7), (145, 0, 9), (146, 0, 9), (147, 0, 9), (148, 0, 5), (149, 0, 5), (151, 3, 3), (152, 0, 47), (153, 0, 47), (154, 0, 47), (156, 0, 6), (157, 0, 5), (158, 0, 5), (159, 0, 5), (160, 0, 9), (161, 0, 9), (162, 0, 9), (163, 0, 9), (164, 0, 9), (165, 0, 9), (166, 0, 9), (167, 0, 9), (168, 0, 9), (169, 0, 9), (170, 6, 7), (171, 0, 9), (172, 0, 9), (173, 0, 9), (174, 0, 5), (175, 0, 5), (177, 3, 3), (178, 0, 47), (179, 0, 47), (180, 0, 47), (182, 0, 0), (201, 0, 613), (202, 0, 31), (203, 0, 1)], [(1292, (3, [], [(0, .inr 1), (1, .inr 2), (2, .inr 184), (3, .inr 206), (4, .inl (2, .ofNat 0))], [], []))], none)
theorem tr_op39 {sc : List Value} (hsc : ab_osc sc) : ab_trs sc 1292 sm_op39 := by
  refine ⟨fun e he => ?_, by show 2 ≤ 3; decide, fun dq hdq ν ls st h hr => ?_⟩
  · have : e = (1292, (3, [], [(0, .inr 1), (1, .inr 2), (2, .inr 184), (3, .inr 206), (4, .inl (2, .ofNat 0))], [], [])) := by
      rcases List.mem_cons.mp he with q | q
      · exact q
      · cases q
    subst this
    exact ⟨rfl, by show 3 ≤ 3; decide⟩
  have hdq : 3 ≤ dq := hdq
  obtain ⟨d, rfl⟩ : ∃ d, dq = d + 2 + 1 := ⟨dq - 3, by omega⟩
  obtain ⟨v0, l0, e0⟩ := hr.loc (k := 0) (by rfl)
  obtain rfl : v0 = .float 1 := e0
  have l1 := hr.ref 1 0 (by rfl)
  have l2 := hr.ref 2 182 (by rfl)
  have l3 := hr.ref 3 204 (by rfl)
  obtain ⟨xi, l4, hxi⟩ := hr.int 4 (by rfl)
  have hxi : xi.toInt = ν 2 + 0 := hxi
  have hb2 : 0 ≤ ν 2 ∧ ν 2 ≤ 3072 := hr.bnd 2 (by rfl)
  have hL : ν 1 = sc.length := hr.1.2.2
  obtain ⟨-, -, -, -, hrel⟩ := hr.2.1 1 (.ofNat 0, .ofNat 3072, false, some (2, .ofNat 6)) (by rfl)
  have hrel : ν 2 + 6 ≤ ν 1 := (hrel 2 6 rfl).2
  obtain rfl : st = [] := hr.2.2.2.1
  have hp : ab_hp h := hr.2.2.2.2.2
  obtain ⟨i, hi⟩ : ∃ i : Nat, xi.toInt = (i : Int) := ⟨xi.toInt.toNat, by omega⟩
  have hlt : i + 1 < sc.length := by omega
  have hk0 : eg_nth sc (i + 1) = some sc[i + 1] := by rw [eg_nth_eq, List.getElem?_eq_getElem hlt]
  obtain ⟨x, hx⟩ := hsc.1 _ _ hk0
  rw [hx] at hk0
  have ei : (xi + Int32.ofInt 1).toInt = ((i + 1 : Nat) : Int) := (i32_add hi (b := 1) rfl (by omega) (by omega)).trans (by omega)
  have H : hs sc 1292 9999 12 (d + 2 + 1) (fun pc' ls' st' h' => pc' = 1292 ∧ ls' = ls ∧ st' = [] ∧ ab_hp h' ∧ ab_fr [(129, 0, 1), (130, 0, 6), (131, 0, 5), (132, 0, 5), (133, 0, 5), (134, 0, 9), (135, 0, 9), (136, 0, 9), (137, 0, 9), (138, 0, 9), (139, 0, 9), (140, 0, 9), (141, 0, 9), (142, 0, 9), (143, 0, 9), (144, 6, 7), (145, 0, 9), (146, 0, 9), (147, 0, 9), (148, 0, 5), (149, 0, 5), (151, 3, 3), (152, 0, 47), (153, 0, 47), (154, 0, 47), (156, 0, 6), (157, 0, 5), (158, 0, 5), (159, 0, 5), (160, 0, 9), (161, 0, 9), (162, 0, 9), (163, 0, 9), (164, 0, 9), (165, 0, 9), (166, 0, 9), (167, 0, 9), (168, 0, 9), (169, 0, 9), (170, 6, 7), (171, 0, 9), (172, 0, 9), (173, 0, 9), (174, 0, 5), (175, 0, 5), (177, 3, 3), (178, 0, 47), (179, 0, 47), (180, 0, 47), (182, 0, 0), (201, 0, 613), (202, 0, 31), (203, 0, 1)] h' h) 1217 ls [] h := by
    refine hl_ld rfl cl_1217 rfl l1 rfl ?_
    refine hl_ld rfl cl_1218 rfl l0 rfl ?_
    refine hl_ld rfl cl_1219 rfl l4 rfl ?_
    refine hl_iconst rfl cl_1221 ?_
    refine hl_iadd rfl cl_1222 ?_
    refine hl_scr rfl cl_1223 ei hk0 ?_
    refine hl_call (np := 1) rfl cl_1224 rfl rfl (by decide +kernel) rfl (ck_ob_v hp.1 (by decide +kernel) _ _) (by rw [ml_img1]; rfl) (c_imgX hsc x hp) ?_
    rintro v9 h2 ⟨hp2, f2, r1, e8, hr1⟩
    rw [e8]
    clear e8 v9
    simp only [Option.toList, List.cons_append, List.nil_append]
    refine hl_ld rfl cl_1227 rfl l2 rfl ?_
    refine hl_ld rfl cl_1228 rfl l0 rfl ?_
    refine hl_ld rfl cl_1229 rfl l4 rfl ?_
    refine hl_iconst rfl cl_1231 ?_
    refine hl_iadd rfl cl_1232 ?_
    refine hl_scr rfl cl_1233 ei hk0 ?_
    refine hl_call (np := 1) rfl cl_1234 rfl rfl (by decide +kernel) rfl (ck_ob_v hp2.1 (by decide +kernel) _ _) (by rw [ml_img2]; rfl) (c_imgM hsc x hp2) ?_
    rintro v9 h3 ⟨hp3, f3, r2, e8, hr2⟩
    rw [e8]
    clear e8 v9
    simp only [Option.toList, List.cons_append, List.nil_append]
    refine hl_ic (t := 1292) rfl cl_1237 rfl (fun b => ?_) (fun b => ?_)
    · exact hs_k ⟨rfl, rfl, rfl, hp3, (fr_sub (M := [(129, 0, 1), (130, 0, 6), (131, 0, 5), (132, 0, 5), (133, 0, 5), (134, 0, 9), (135, 0, 9), (136, 0, 9), (137, 0, 9), (138, 0, 9), (139, 0, 9), (140, 0, 9), (141, 0, 9), (142, 0, 9), (143, 0, 9), (144, 6, 7), (145, 0, 9), (146, 0, 9), (147, 0, 9), (148, 0, 5), (149, 0, 5), (151, 3, 3), (152, 0, 47), (153, 0, 47), (154, 0, 47), (156, 0, 6), (157, 0, 5), (158, 0, 5), (159, 0, 5), (160, 0, 9), (161, 0, 9), (162, 0, 9), (163, 0, 9), (164, 0, 9), (165, 0, 9), (166, 0, 9), (167, 0, 9), (168, 0, 9), (169, 0, 9), (170, 6, 7), (171, 0, 9), (172, 0, 9), (173, 0, 9), (174, 0, 5), (175, 0, 5), (177, 3, 3), (178, 0, 47), (179, 0, 47), (180, 0, 47), (182, 0, 0), (201, 0, 613), (202, 0, 31), (203, 0, 1)]) (by decide +kernel) f3).tr (fr_sub (by decide +kernel) f2)⟩
    · simp only [hs_cd, ab_not] at b
      omega
  obtain ⟨pc', ls', st', h', g1, rfl, rfl, rfl, g2, g3⟩ := H
  exact ⟨_, List.mem_cons_self, ν, ls', [], h', ⟨hr.1, (fun j B hf => by cases hf), hr.2.2.1, rfl, (fun _ _ _ hf => by cases hf), g2⟩, ab_ext.rf, Nat.le_refl _, g3, g1⟩
