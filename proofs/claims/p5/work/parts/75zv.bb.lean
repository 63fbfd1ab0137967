/-! BY HAND: a BOOK is read in both -/
theorem ci_1200_0 : ab_at 1200 0 (.aload_n 0) 1 = true := by decide +kernel
theorem ci_1200_1 : ab_at 1200 1 (.iconst 0) 1 = true := by decide +kernel
theorem ci_1200_2 : ab_at 1200 2 (.putfield 18) 3 = true := by decide +kernel
theorem ci_1200_5 : ab_at 1200 5 (.iconst 0) 1 = true := by decide +kernel
theorem ci_1200_6 : ab_at 1200 6 (.istore_n 1) 1 = true := by decide +kernel
theorem ci_1200_7 : ab_at 1200 7 (.iload_n 1) 1 = true := by decide +kernel
theorem ci_1200_8 : ab_at 1200 8 (.bipush 40) 2 = true := by decide +kernel
theorem ci_1200_10 : ab_at 1200 10 (.if_icmp .gt 57) 3 = true := by decide +kernel
theorem ci_1200_13 : ab_at 1200 13 (.aload_n 0) 1 = true := by decide +kernel
theorem ci_1200_14 : ab_at 1200 14 (.getfield 38) 3 = true := by decide +kernel
theorem ci_1200_17 : ab_at 1200 17 (.invokevirtual 46) 3 = true := by decide +kernel
theorem ci_1200_20 : ab_at 1200 20 (.aload_n 0) 1 = true := by decide +kernel
theorem ci_1200_21 : ab_at 1200 21 (.getfield 38) 3 = true := by decide +kernel
theorem ci_1200_24 : ab_at 1200 24 (.getfield 51) 3 = true := by decide +kernel
theorem ci_1200_27 : ab_at 1200 27 (.ifCond .ne 5) 3 = true := by decide +kernel
theorem ci_1200_30 : ab_at 1200 30 (.iconst 1) 1 = true := by decide +kernel
theorem ci_1200_32 : ab_at 1200 32 (.aload_n 0) 1 = true := by decide +kernel
theorem ci_1200_33 : ab_at 1200 33 (.invokevirtual 54) 3 = true := by decide +kernel
theorem ci_1200_36 : ab_at 1200 36 (.ifCond .eq 13) 3 = true := by decide +kernel
theorem ci_1200_39 : ab_at 1200 39 (.aload_n 0) 1 = true := by decide +kernel
theorem ci_1200_40 : ab_at 1200 40 (.getfield 38) 3 = true := by decide +kernel
theorem ci_1200_43 : ab_at 1200 43 (.invokevirtual 58) 3 = true := by decide +kernel
theorem ci_1200_46 : ab_at 1200 46 (.ifCond .ne 5) 3 = true := by decide +kernel
theorem ci_1200_49 : ab_at 1200 49 (.iconst 0) 1 = true := by decide +kernel
theorem ci_1200_51 : ab_at 1200 51 (.aload_n 0) 1 = true := by decide +kernel
theorem ci_1200_52 : ab_at 1200 52 (.dup) 1 = true := by decide +kernel
theorem ci_1200_53 : ab_at 1200 53 (.getfield 18) 3 = true := by decide +kernel
theorem ci_1200_56 : ab_at 1200 56 (.iconst 1) 1 = true := by decide +kernel
theorem ci_1200_57 : ab_at 1200 57 (.iadd) 1 = true := by decide +kernel
theorem ci_1200_58 : ab_at 1200 58 (.putfield 18) 3 = true := by decide +kernel
theorem ci_1200_61 : ab_at 1200 61 (.iinc 1 1) 3 = true := by decide +kernel
theorem ci_1200_64 : ab_at 1200 64 (.goto (-57)) 3 = true := by decide +kernel
theorem ml_1205 : (eg_md 1205).2.2.1 = 1 := by decide +kernel
/-- what the class's reader comes to -/
def be_P (h : eg_H) (tk : Nat → tx_K) (ta : Nat → Nat) (ps : PS) (vo : Option Value) (h' : eg_H) : Prop := ab_hp h' ∧ ab_fr MBK h' h ∧ ∃ r : Int32, vo = some (.int r) ∧ ((r.toInt = 1 ∧ ∃ n, sb_all tk ta ps 41 0 0 = .inr n) ∨ (r.toInt = 0 ∧ ∃ (k : Int) (a : Nat), sb_all tk ta ps 41 0 0 = .inl (k, a) ∧ flt h' k a))
theorem br_loop {sc : List Value} {sp d : Nat} {h : eg_H} {tk : Nat → tx_K} {ta : Nat → Nat} {m : Nat} {ps : PS} (hsc : ab_osc sc) : ∀ (f n j : Nat) (x : Int32) (ls : eg_L) (h1 : eg_H), f + n = 41 → x.toInt = (n : Int) → ab_hp h1 → kwok h1 → ro h1 tk ta m → cu h1 tk ta m j → (hv h1 112 4).toInt = (n : Int) → PN h1 ps → ab_fr MBK h1 h → sb_all tk ta ps 41 0 0 = sb_all tk ta ps f n j → eg_find 0 ls = some (.ref 112) → eg_find 1 ls = some (.int x) → hs sc sp 1200 0 (d + 1 + 1 + 1 + 1 + 1) (fun pc' _ st' h' => ∃ ik vo, ab_ret 1200 pc' = some ik ∧ eg_rv (eg_md 1200).2.2.2 ik st' = some vo ∧ be_P h tk ta ps vo h') 7 ls [] h1 := by
  intro f
  induction f with
  | zero =>
    intro n j x ls h1 hf hx q1 k1 r1 c1 hn
    obtain ⟨-, -, b2⟩ := sb_v (a := 112) (k := 4) (lo := .ofNat 0) (hi := .ofNat 40) q1 (by decide +kernel)
    have b2 : (hv h1 112 4).toInt ≤ (40 : Int) := b2
    omega
  | succ f ih =>
    intro n j x ls h1 hf hx q1 k1 r1 c1 hn p1 f1 eS l0 l1
    have hp := q1.1
    have eU : sb_all tk ta ps (f + 1) n j = if (tk j).1 = 0 then .inr n else sbn (sb_ln tk ta ps n j) (fun _ => if (tk (j + 2)).1 = 2 ∧ (tk (j + 2)).2.1 = 59 then sb_all tk ta ps f (n + 1) (j + 3) else .inl (1, ta (j + 2))) := rfl
    rw [eU] at eS
    refine hs_iload_n ci_1200_7 l1 ?_
    refine hs_bipush ci_1200_8 ?_
    refine hs_ic (t := 67) ci_1200_10 rfl (fun b10 => ?_) (fun b10 => ?_)
    · simp only [hs_cd, ab_not, kB_40] at b10
      omega
    · simp only [hs_cd, ab_not, kB_40] at b10
      refine hs_aload_n ci_1200_13 l0 ?_
      refine hs_gfr 0 3 ci_1200_14 (by decide +kernel) hp ?_
      refine hs_cv 736 8 0 ci_1200_17 (by decide +kernel) (by decide +kernel) hp rfl (by rw [ml_736]; rfl) (k_adv q1 r1 c1) ?_
      rintro v9 h2 ⟨e8, q2, f2, c2⟩
      rw [e8]
      clear e8 v9
      replace hp := q2.1
      have s1 : bk_S h1 tk ta m ps n j → True := fun _ => trivial
      have s2 : bk_S h2 tk ta m ps n j := ⟨q2, k1.fr f2 (fun _ => rfl), by
        obtain ⟨t1, t2, t3, t4, t5⟩ := r1
        exact ⟨t1, t2, by rw [hv_same (f2 3 5 rfl)]; exact t3, fun t ht => (t4 t ht).same (f2 5 t rfl) (f2 6 t rfl) (f2 7 t rfl) (fun k => hl_same (f2 4 k rfl)), t5⟩, c2, by rw [hv_same (f2 112 4 rfl)]; exact hn, by rw [hv_same (f2 8 5 rfl)]; exact p1.1, fun q hq => by rw [hl_same (f2 12 q rfl)]; exact p1.2 q hq⟩
      have e0 := (cur_k s2.cur s2.2.1).1
      simp only [Option.toList, List.nil_append]
      refine hs_aload_n ci_1200_20 l0 ?_
      refine hs_gfr 0 3 ci_1200_21 (by decide +kernel) hp ?_
      refine hs_gfi 7 ci_1200_24 (by decide +kernel) hp ?_
      refine hs_if (t := 32) ci_1200_27 rfl (fun b27 => ?_) (fun b27 => ?_)
      · simp only [hs_cd, ab_not] at b27
        refine hs_aload_n ci_1200_32 l0 ?_
        refine hs_cv 1205 0 0 ci_1200_33 (by decide +kernel) (by decide +kernel) hp rfl (by rw [ml_1205]; rfl) (mc.and (by decide) (k_bln s2) (c_bln (n := n) hsc s2.2.2.2.2.1 q2)) ?_
        rintro v9 h3 ⟨⟨f3, r3, e8, hr3⟩, q3, -, -⟩
        rw [e8]
        clear e8 v9
        replace hp := q3.1
        simp only [Option.toList, List.cons_append, List.nil_append]
        refine hs_if (t := 49) ci_1200_36 rfl (fun b36 => ?_) (fun b36 => ?_)
        · simp only [hs_cd, ab_not] at b36
          refine hs_iconst ci_1200_49 ?_
          obtain ⟨k, a, y1, y2⟩ : ∃ (k : Int) (a : Nat), sb_ln tk ta ps n j = .inl (k, a) ∧ flt h3 k a := by
            rcases hr3 with ⟨y, -⟩ | ⟨-, y⟩
            · omega
            · exact y
          exact hs_k ⟨3, some (.int (Int32.ofInt 0)), by decide +kernel, rv_b rt_1200 (Or.inl (by decide)), q3, (fr_sub (M := MBK) (by decide +kernel) f3).tr ((fr_sub (M := MBK) (by decide +kernel) f2).tr f1), _, rfl, Or.inr ⟨by decide, k, a, by rw [eS, if_neg (fun z => b27 (e0.mpr z))]; exact sbn_l y1, y2⟩⟩
        · simp only [hs_cd, ab_not] at b36
          obtain ⟨⟨u3, y3⟩, c3⟩ : (∃ u, sb_ln tk ta ps n j = .inr u) ∧ cu h3 tk ta m (j + 1 + 1) := by
            rcases hr3 with ⟨-, y⟩ | ⟨y, -⟩
            · exact y
            · omega
          have s3 : bk_S h3 tk ta m ps n (j + 1) := s2.up (fr_sub (by decide +kernel) f3) q3 c3 (by rw [hv_same (f3 112 4 rfl)]; exact s2.2.2.2.2.1)
          have hn40 : n < 40 := by
            rcases Nat.lt_or_ge n 40 with z | z
            · exact z
            · exact absurd y3 (sb_40 z)
          refine hs_aload_n ci_1200_39 l0 ?_
          refine hs_gfr 0 3 ci_1200_40 (by decide +kernel) hp ?_
          refine hs_cv 827 8 0 ci_1200_43 (by decide +kernel) (by decide +kernel) hp rfl (by rw [ml_827]; rfl) (k_end s3.1 s3.2.1 s3.2.2.1 s3.2.2.2.1) ?_
          rintro v9 h4 ⟨q4, f4, c4, r4, e8, hr4⟩
          rw [e8]
          clear e8 v9
          replace hp := q4.1
          simp only [Option.toList, List.cons_append, List.nil_append]
          refine hs_if (t := 51) ci_1200_46 rfl (fun b46 => ?_) (fun b46 => ?_)
          · simp only [hs_cd, ab_not] at b46
            have s4 : bk_S h4 tk ta m ps n (j + 2) := s3.up (fr_sub (by decide +kernel) f4) q4 c4 (by rw [hv_same (f4 112 4 rfl)]; exact s3.2.2.2.2.1)
            have hl4 : (hv h4 112 4).toInt = (n : Int) := s4.2.2.2.2.1
            have e5 : (hv h4 112 4 + Int32.ofInt 1).toInt = ((n + 1 : Nat) : Int) := (i32_add hl4 (b := 1) rfl (by omega) (by omega)).trans (by omega)
            refine hs_aload_n ci_1200_51 l0 ?_
            refine hs_dup ci_1200_52 rfl ?_
            refine hs_gfi 4 ci_1200_53 (by decide +kernel) hp ?_
            refine hs_iconst ci_1200_56 ?_
            refine hs_iadd ci_1200_57 ?_
            refine hs_pfi 4 (0) (40) ci_1200_58 (by decide +kernel) hp (by rw [e5]; omega) (by rw [e5]; omega) ?_
            intro h58 w58
            replace hp := w58.1
            refine hs_iinc2 ci_1200_61 (by decide +kernel) l1 ?_
            intro ls9 q9
            replace l0 := q9.2 0 _ (by decide) (Or.inl rfl) l0
            have l1 := q9.1
            clear q9
            refine hs_goto (t := 7) ci_1200_64 rfl ?_
            have f58 : ab_fr [(112, 4, 4)] h58 h4 := w58.fr rfl
            have q58 : ab_hp h58 := ⟨hp, q4.2.fr (M := [(112, 4, 4)]) (by decide +kernel) f58⟩
            have s5 : bk_S h58 tk ta m ps (n + 1) (j + 2) := s4.up (fr_sub (by decide +kernel) f58) q58 (s4.2.2.2.1.fr f58 rfl rfl rfl rfl (fun _ => rfl)) (by rw [w58.v, if_pos ⟨rfl, rfl⟩]; exact e5)
            rcases hr4 with ⟨-, z⟩ | ⟨z, -⟩
            · exact ih (n + 1) (j + 3) _ _ _ (by omega) ((i32_inc hx (by omega) (by omega)).trans (by omega)) q58 s5.2.1 s5.2.2.1 s5.2.2.2.1 s5.2.2.2.2.1 s5.2.2.2.2.2 ((fr_sub (M := MBK) (by decide +kernel) f58).tr ((fr_sub (M := MBK) (by decide +kernel) f4).tr ((fr_sub (M := MBK) (by decide +kernel) f3).tr ((fr_sub (M := MBK) (by decide +kernel) f2).tr f1)))) (by rw [eS, if_neg (fun z => b27 (e0.mpr z)), sbn_r y3, if_pos z]) l0 l1
            · omega
          · simp only [hs_cd, ab_not] at b46
            refine hs_iconst ci_1200_49 ?_
            rcases hr4 with ⟨z, -⟩ | ⟨-, z1, z2⟩
            · omega
            · exact hs_k ⟨3, some (.int (Int32.ofInt 0)), by decide +kernel, rv_b rt_1200 (Or.inl (by decide)), q4, (fr_sub (M := MBK) (by decide +kernel) f4).tr ((fr_sub (M := MBK) (by decide +kernel) f3).tr ((fr_sub (M := MBK) (by decide +kernel) f2).tr f1)), _, rfl, Or.inr ⟨by decide, 1, ta (j + 2), by rw [eS, if_neg (fun z => b27 (e0.mpr z)), sbn_r y3, if_neg z1], z2⟩⟩
      · simp only [hs_cd, ab_not] at b27
        refine hs_iconst ci_1200_30 ?_
        exact hs_k ⟨3, some (.int (Int32.ofInt 1)), by decide +kernel, rv_b rt_1200 (Or.inr (by decide)), q2, (fr_sub (M := MBK) (by decide +kernel) f2).tr f1, _, rfl, Or.inl ⟨by decide, n, by rw [eS, if_pos (e0.mp b27)]⟩⟩
theorem k_brd {sc : List Value} {sp d : Nat} {h : eg_H} {tk : Nat → tx_K} {ta : Nat → Nat} {m : Nat} {ps : PS} (hsc : ab_osc sc) (hq : ab_hp h) (hk : kwok h) (hr : ro h tk ta m) (hc : cu h tk ta m 0) (hN : PN h ps) : mc sc sp 1200 0 (d + 1 + 1 + 1 + 1 + 1) [.ref 112] h (be_P h tk ta ps) := by
  have l0 : eg_find 0 (eg_args 0 [.ref 112]) = some (.ref 112) := rfl
  have hp := hq.1
  unfold mc
  refine hs_aload_n ci_1200_0 l0 ?_
  refine hs_iconst ci_1200_1 ?_
  refine hs_pfi 4 (0) (40) ci_1200_2 (by decide +kernel) hp (by decide) (by decide) ?_
  intro h2 w2
  replace hp := w2.1
  refine hs_iconst ci_1200_5 ?_
  refine hs_istore2_n ci_1200_6 (by decide +kernel) ?_
  intro ls9 q9
  replace l0 := q9.2 0 _ (by decide) (Or.inl rfl) l0
  have l1 := q9.1
  clear q9
  have f2 : ab_fr [(112, 4, 4)] h2 h := w2.fr rfl
  have q2 : ab_hp h2 := ⟨hp, hq.2.fr (M := [(112, 4, 4)]) (by decide +kernel) f2⟩
  have r2 : ro h2 tk ta m := by
    obtain ⟨t1, t2, t3, t4, t5⟩ := hr
    exact ⟨t1, t2, by rw [hv_same (f2 3 5 rfl)]; exact t3, fun t ht => (t4 t ht).same (f2 5 t rfl) (f2 6 t rfl) (f2 7 t rfl) (fun k => hl_same (f2 4 k rfl)), t5⟩
  exact br_loop hsc 41 0 0 _ _ _ rfl kI_0 q2 (hk.fr f2 (fun _ => rfl)) r2 (hc.fr f2 rfl rfl rfl rfl (fun _ => rfl)) (by rw [w2.v, if_pos ⟨rfl, rfl⟩]; exact kI_0) ⟨by rw [hv_same (f2 8 5 rfl)]; exact hN.1, fun q hq => by rw [hl_same (f2 12 q rfl)]; exact hN.2 q hq⟩ (fr_sub (M := MBK) (by decide +kernel) f2) rfl l0 l1
section RBK
variable {B : Nat → Int} {n0 lim : Nat} {tk : Nat → tx_K} {ta P : Nat → Nat} {sc : List Value} {sp d : Nat} {h : eg_H} {j n : Nat} {ps : PS}
/-- the promises' names, as the reference has them -/
def RP (h : eg_H) (ps : PS) : Prop := (hv h 184 1).toInt = ps.1 5 ∧ ∀ q : Nat, (q : Int) < ps.1 5 → tx_co (ps.2 3 q) (hl h 187 (6 + q)).toInt
theorem RP.fr {M : ab_M} {h' : eg_H} (r : RP h ps) (f : ab_fr M h' h) (k1 : ab_inr M 184 1 1 = false) (k2 : ∀ q, ab_inr M 187 q q = false) : RP h' ps := ⟨by rw [hv_same (f 184 1 k1)]; exact r.1, fun q hq => by rw [hl_same (f 187 (6 + q) (k2 _))]; exact r.2 q hq⟩
def rl_P (B : Nat → Int) (n0 lim : Nat) (tk : Nat → tx_K) (ta P : Nat → Nat) (ps : PS) (h : eg_H) (n j : Nat) (vo : Option Value) (h' : eg_H) : Prop := ab_hp h' ∧ ab_fr MBL h' h ∧ ∃ r : Int32, vo = some (.int r) ∧ ((r.toInt = 1 ∧ (∃ u, sb_ln tk ta ps n j = .inr u) ∧ rt B n0 lim tk ta P h' (j + 2) ∧ (hv h' 182 15).toInt = 0) ∨ (r.toInt = 0 ∧ ∃ (k : Int) (a : Nat), sb_ln tk ta ps n j = .inl (k, a) ∧ flm h' k a))
theorem rb_36 {h1 : eg_H} {xt x2 : Int32} (hsc : ab_osc sc) (ts : TS B n0 lim tk ta P) (q1 : ab_hp h1) (r1 : rt B n0 lim tk ta P h1 j) (hn : (hv h1 182 41).toInt = (n : Int)) (h15 : (hv h1 182 15).toInt = 0) (hn40 : 0 ≤ (hv h 182 41).toInt ∧ (hv h 182 41).toInt ≤ 40) (et : xt.toInt = ((2 * n : Nat) : Int)) (et1 : (xt + Int32.ofInt 1).toInt = ((2 * n + 1 : Nat) : Int)) (hf : ab_fr MBL h1 h) (hK : (¬ x2.toInt = 0 ∧ isday (tk j)) ∨ (x2.toInt = 0 ∧ ¬ isday (tk j) ∧ ∃ g, sp_old ps 3 5 (tk j) (ta j) = .inr g)) {ls : eg_L} (l0 : eg_find 0 ls = some (.ref 182)) (l1 : eg_find 1 ls = some (.int xt)) (l2 : eg_find 2 ls = some (.int x2)) : hs sc sp 2061 11 (d + 1 + 1 + 1 + 1) (fun pc' _ st' h' => ∃ ik vo, ab_ret 2061 pc' = some ik ∧ eg_rv (eg_md 2061).2.2.2 ik st' = some vo ∧ rl_P B n0 lim tk ta P ps h n j vo h') 36 ls [] h1 := by
  have hp := q1.1
  have hn9 := gb_told hp
  refine hs_aload_n ci_2061_36 l0 ?_
  refine hs_gfi 41 ci_2061_37 (by decide +kernel) hp ?_
  refine hs_bipush ci_2061_40 ?_
  refine hs_ic (t := 51) ci_2061_42 rfl (fun b42 => ?_) (fun b42 => ?_)
  · simp only [hs_cd, ab_not, kB_40] at b42
    refine hs_aload_n ci_2061_51 l0 ?_
    refine hs_gfr 8 186 ci_2061_52 (by decide +kernel) hp ?_
    refine hs_iload_n ci_2061_55 l1 ?_
    refine hs_iconst ci_2061_56 ?_
    refine hs_iadd ci_2061_57 ?_
    refine hs_aload_n ci_2061_58 l0 ?_
    refine hs_gfi 18 ci_2061_59 (by decide +kernel) hp ?_
    refine hs_iastore 0 134 (-2147483648) (2147483647) ci_2061_62 (by decide +kernel) hp (by rw [et1]; omega) (by rw [et1]; omega) (ab_ige _) (ab_ile _) ?_
    intro h62 w62
    replace hp := w62.1
    have ei1 : (xt + Int32.ofInt 1).toInt.toNat = 2 * n + 1 := by omega
    have f62 : ab_fr [(186, 0, 134)] h62 h1 := w62.fr (ab_inr_up (k1 := 0) (k2 := 134) rfl (by omega) (by omega))
    have q62 : ab_hp h62 := ⟨hp, q1.2.fr (M := [(186, 0, 134)]) (by decide +kernel) f62⟩
    have r62 : rt B n0 lim tk ta P h62 j := r1.fr f62 (fun _ => rfl) ⟨rfl, rfl, rfl, rfl, rfl, rfl, rfl⟩
    refine hs_aload_n ci_2061_63 l0 ?_
    refine hs_cv 1658 11 0 ci_2061_64 (by decide +kernel) (by decide +kernel) hp rfl (by rw [ml_1658]; rfl) (m_next ts q62 r62) ?_
    rintro v9 h3 ⟨e8, q3, f3, r3⟩
    rw [e8]
    clear e8 v9
    replace hp := q3.1
    simp only [Option.toList, List.nil_append]
    have F3 : ab_fr MBL h3 h := (fr_sub (by decide +kernel) f3).tr ((fr_sub (by decide +kernel) f62).tr hf)
    have z15 : (hv h3 182 15).toInt = 0 := by rw [hv_same (f3 182 15 rfl), hv_same (f62 182 15 rfl)]; exact h15
    refine hs_iload_n ci_2061_67 l2 ?_
    refine hs_if (t := 104) ci_2061_68 rfl (fun b68 => ?_) (fun b68 => ?_)
    · simp only [hs_cd, ab_not] at b68
      refine hs_aload_n ci_2061_104 l0 ?_
      refine hs_ldc2v (1801810036) ci_2061_105 (by decide +kernel) ?_
      refine hs_cv 1676 11 1 ci_2061_108 (by decide +kernel) (by decide +kernel) hp rfl (by rw [ml_1676]; rfl) (m_isW _ q3 r3) ?_
      rintro v9 h9 ⟨e9, rW108, e8, hrW108⟩
      rw [e8, e9]
      clear e8 e9 v9 h9
      replace hrW108 := iw_c (wd_iff r3 wco_6 (by decide +kernel)) hrW108
      simp only [Option.toList, List.cons_append, List.nil_append]
      refine hs_if (t := 118) ci_2061_111 rfl (fun b111 => ?_) (fun b111 => ?_)
      · simp only [hs_cd, ab_not] at b111
        refine hs_aload_n ci_2061_118 l0 ?_
        refine hs_ldc2v (108243635103086) ci_2061_119 (by decide +kernel) ?_
        refine hs_cv 1676 11 1 ci_2061_122 (by decide +kernel) (by decide +kernel) hp rfl (by rw [ml_1676]; rfl) (m_isW _ q3 r3) ?_
        rintro v9 h9 ⟨e9, rW122, e8, hrW122⟩
        rw [e8, e9]
        clear e8 e9 v9 h9
        replace hrW122 := iw_c (wd_iff r3 wco_7 (by decide +kernel)) hrW122
        simp only [Option.toList, List.cons_append, List.nil_append]
        refine hs_if (t := 132) ci_2061_125 rfl (fun b125 => ?_) (fun b125 => ?_)
        · simp only [hs_cd, ab_not] at b125
          refine hs_aload_n ci_2061_132 l0 ?_
          refine hs_ldc2v (440005911908) ci_2061_133 (by decide +kernel) ?_
          refine hs_cv 1676 11 1 ci_2061_136 (by decide +kernel) (by decide +kernel) hp rfl (by rw [ml_1676]; rfl) (m_isW _ q3 r3) ?_
          rintro v9 h9 ⟨e9, rW136, e8, hrW136⟩
          rw [e8, e9]
          clear e8 e9 v9 h9
          replace hrW136 := iw_c (wd_iff r3 wco_8 (by decide +kernel)) hrW136
          simp only [Option.toList, List.cons_append, List.nil_append]
          refine hs_if (t := 146) ci_2061_139 rfl (fun b139 => ?_) (fun b139 => ?_)
          · simp only [hs_cd, ab_not] at b139
            refine hs_aload_n ci_2061_146 l0 ?_
            refine hs_ldc2v (33602674774664548) ci_2061_147 (by decide +kernel) ?_
            refine hs_cv 1676 11 1 ci_2061_150 (by decide +kernel) (by decide +kernel) hp rfl (by rw [ml_1676]; rfl) (m_isW _ q3 r3) ?_
            rintro v9 h9 ⟨e9, rW150, e8, hrW150⟩
            rw [e8, e9]
            clear e8 e9 v9 h9
            replace hrW150 := iw_c (wd_iff r3 wco_9 (by decide +kernel)) hrW150
            simp only [Option.toList, List.cons_append, List.nil_append]
            refine hs_if (t := 160) ci_2061_153 rfl (fun b153 => ?_) (fun b153 => ?_)
            · simp only [hs_cd, ab_not] at b153
              refine hs_iconst ci_2061_160 ?_
              obtain ⟨hnd, gO, yO⟩ : ¬ isday (tk j) ∧ ∃ g, sp_old ps 3 5 (tk j) (ta j) = .inr g := by
                rcases hK with ⟨z, -⟩ | ⟨-, z⟩
                · exact absurd b68 z
                · exact z
              refine hs_istore2_n ci_2061_161 (by decide +kernel) ?_
              intro ls9 q9
              replace l0 := q9.2 0 _ (by decide) (Or.inl rfl) l0
              replace l1 := q9.2 1 _ (by decide) (Or.inl rfl) l1
              have l3 := q9.1
              clear q9
              refine hs_iload_n ci_2061_162 l3 ?_
              refine hs_if (t := 172) ci_2061_163 rfl (fun b163 => ?_) (fun b163 => ?_)
              · simp only [hs_cd, ab_not] at b163
                exact absurd b163 (by decide)
              · simp only [hs_cd, ab_not] at b163
                refine hs_aload_n ci_2061_166 l0 ?_
                refine hs_iconst ci_2061_167 ?_
                refine hs_cv 1687 11 1 ci_2061_168 (by decide +kernel) (by decide +kernel) hp rfl (by rw [ml_1687]; rfl) (m_bad (Int32.ofInt 1) (by decide) q3 r3) ?_
                rintro v9 h4 ⟨r4, e8, hr4, q4, f4, g4⟩
                rw [e8]
                clear e8 v9
                replace hp := q4.1
                rw [kI_1] at g4
                simp only [Option.toList, List.cons_append, List.nil_append]
                have hnz : ¬ isded (tk (j + 1)) := by
                  rintro ⟨g, z | z | z | z⟩
                  · exact iw_0 hrW108 b111 ⟨g, z⟩
                  · exact iw_0 hrW122 b125 ⟨g, z⟩
                  · exact iw_0 hrW136 b139 ⟨g, z⟩
                  · exact iw_0 hrW150 b153 ⟨g, z⟩
                exact hs_k ⟨3, some (.int r4), by decide +kernel, rv_b rt_2061 (Or.inl hr4), q4, (fr_sub (by decide +kernel) f4).tr F3, r4, rfl, Or.inr ⟨hr4, 1, ta (j + 1), by rw [sd_n hnd, sbn_r yO, if_neg (by omega), if_neg hnz], g4⟩⟩
            · simp only [hs_cd, ab_not] at b153
              refine hs_iconst ci_2061_156 ?_
              refine hs_goto (t := 161) ci_2061_157 rfl ?_
              obtain ⟨hnd, gO, yO⟩ : ¬ isday (tk j) ∧ ∃ g, sp_old ps 3 5 (tk j) (ta j) = .inr g := by
                rcases hK with ⟨z, -⟩ | ⟨-, z⟩
                · exact absurd b68 z
                · exact z
              refine hs_istore2_n ci_2061_161 (by decide +kernel) ?_
              intro ls9 q9
              replace l0 := q9.2 0 _ (by decide) (Or.inl rfl) l0
              replace l1 := q9.2 1 _ (by decide) (Or.inl rfl) l1
              have l3 := q9.1
              clear q9
              refine hs_iload_n ci_2061_162 l3 ?_
              refine hs_if (t := 172) ci_2061_163 rfl (fun b163 => ?_) (fun b163 => ?_)
              · simp only [hs_cd, ab_not] at b163
                refine hs_aload_n ci_2061_172 l0 ?_
                refine hs_gfr 8 186 ci_2061_173 (by decide +kernel) hp ?_
                refine hs_iload_n ci_2061_176 l1 ?_
                refine hs_iload_n ci_2061_177 l3 ?_
                refine hs_iastore 0 134 (-2147483648) (2147483647) ci_2061_178 (by decide +kernel) hp (by rw [et]; omega) (by rw [et]; omega) (ab_ige _) (ab_ile _) ?_
                intro h178 w178
                replace hp := w178.1
                have ei0 : xt.toInt.toNat = 2 * n := by omega
                have f178 : ab_fr [(186, 0, 134)] h178 h3 := w178.fr (ab_inr_up (k1 := 0) (k2 := 134) rfl (by omega) (by omega))
                have q178 : ab_hp h178 := ⟨hp, q3.2.fr (M := [(186, 0, 134)]) (by decide +kernel) f178⟩
                have r178 : rt B n0 lim tk ta P h178 (j + 1) := r3.fr f178 (fun _ => rfl) ⟨rfl, rfl, rfl, rfl, rfl, rfl, rfl⟩
                refine hs_aload_n ci_2061_179 l0 ?_
                refine hs_cv 1658 11 0 ci_2061_180 (by decide +kernel) (by decide +kernel) hp rfl (by rw [ml_1658]; rfl) (m_next ts q178 r178) ?_
                rintro v9 h5 ⟨e8, q5, f5, r5⟩
                rw [e8]
                clear e8 v9
                replace hp := q5.1
                simp only [Option.toList, List.nil_append]
                refine hs_iconst ci_2061_183 ?_
                exact hs_k ⟨3, some (.int (Int32.ofInt 1)), by decide +kernel, rv_b rt_2061 (Or.inr (by decide)), q5, (fr_sub (by decide +kernel) f5).tr ((fr_sub (by decide +kernel) f178).tr F3), _, rfl, Or.inl ⟨by decide, ⟨(), by rw [sd_n hnd, sbn_r yO, if_neg (by omega), if_pos ⟨(iw_1 hrW150 b153).1, Or.inr (Or.inr (Or.inr (iw_1 hrW150 b153).2))⟩]⟩, r5, by rw [hv_same (f5 182 15 rfl), hv_same (f178 182 15 rfl)]; exact z15⟩⟩
              · simp only [hs_cd, ab_not] at b163
                exact absurd b163 (by decide)
          · simp only [hs_cd, ab_not] at b139
            refine hs_iconst ci_2061_142 ?_
            refine hs_goto (t := 161) ci_2061_143 rfl ?_
            obtain ⟨hnd, gO, yO⟩ : ¬ isday (tk j) ∧ ∃ g, sp_old ps 3 5 (tk j) (ta j) = .inr g := by
              rcases hK with ⟨z, -⟩ | ⟨-, z⟩
              · exact absurd b68 z
              · exact z
            refine hs_istore2_n ci_2061_161 (by decide +kernel) ?_
            intro ls9 q9
            replace l0 := q9.2 0 _ (by decide) (Or.inl rfl) l0
            replace l1 := q9.2 1 _ (by decide) (Or.inl rfl) l1
            have l3 := q9.1
            clear q9
            refine hs_iload_n ci_2061_162 l3 ?_
            refine hs_if (t := 172) ci_2061_163 rfl (fun b163 => ?_) (fun b163 => ?_)
            · simp only [hs_cd, ab_not] at b163
              refine hs_aload_n ci_2061_172 l0 ?_
              refine hs_gfr 8 186 ci_2061_173 (by decide +kernel) hp ?_
              refine hs_iload_n ci_2061_176 l1 ?_
              refine hs_iload_n ci_2061_177 l3 ?_
              refine hs_iastore 0 134 (-2147483648) (2147483647) ci_2061_178 (by decide +kernel) hp (by rw [et]; omega) (by rw [et]; omega) (ab_ige _) (ab_ile _) ?_
              intro h178 w178
              replace hp := w178.1
              have ei0 : xt.toInt.toNat = 2 * n := by omega
              have f178 : ab_fr [(186, 0, 134)] h178 h3 := w178.fr (ab_inr_up (k1 := 0) (k2 := 134) rfl (by omega) (by omega))
              have q178 : ab_hp h178 := ⟨hp, q3.2.fr (M := [(186, 0, 134)]) (by decide +kernel) f178⟩
              have r178 : rt B n0 lim tk ta P h178 (j + 1) := r3.fr f178 (fun _ => rfl) ⟨rfl, rfl, rfl, rfl, rfl, rfl, rfl⟩
              refine hs_aload_n ci_2061_179 l0 ?_
              refine hs_cv 1658 11 0 ci_2061_180 (by decide +kernel) (by decide +kernel) hp rfl (by rw [ml_1658]; rfl) (m_next ts q178 r178) ?_
              rintro v9 h5 ⟨e8, q5, f5, r5⟩
              rw [e8]
              clear e8 v9
              replace hp := q5.1
              simp only [Option.toList, List.nil_append]
              refine hs_iconst ci_2061_183 ?_
              exact hs_k ⟨3, some (.int (Int32.ofInt 1)), by decide +kernel, rv_b rt_2061 (Or.inr (by decide)), q5, (fr_sub (by decide +kernel) f5).tr ((fr_sub (by decide +kernel) f178).tr F3), _, rfl, Or.inl ⟨by decide, ⟨(), by rw [sd_n hnd, sbn_r yO, if_neg (by omega), if_pos ⟨(iw_1 hrW136 b139).1, Or.inr (Or.inr (Or.inl (iw_1 hrW136 b139).2))⟩]⟩, r5, by rw [hv_same (f5 182 15 rfl), hv_same (f178 182 15 rfl)]; exact z15⟩⟩
            · simp only [hs_cd, ab_not] at b163
              exact absurd b163 (by decide)
        · simp only [hs_cd, ab_not] at b125
          refine hs_iconst ci_2061_128 ?_
          refine hs_goto (t := 161) ci_2061_129 rfl ?_
          obtain ⟨hnd, gO, yO⟩ : ¬ isday (tk j) ∧ ∃ g, sp_old ps 3 5 (tk j) (ta j) = .inr g := by
            rcases hK with ⟨z, -⟩ | ⟨-, z⟩
            · exact absurd b68 z
            · exact z
          refine hs_istore2_n ci_2061_161 (by decide +kernel) ?_
          intro ls9 q9
          replace l0 := q9.2 0 _ (by decide) (Or.inl rfl) l0
          replace l1 := q9.2 1 _ (by decide) (Or.inl rfl) l1
          have l3 := q9.1
          clear q9
          refine hs_iload_n ci_2061_162 l3 ?_
          refine hs_if (t := 172) ci_2061_163 rfl (fun b163 => ?_) (fun b163 => ?_)
          · simp only [hs_cd, ab_not] at b163
            refine hs_aload_n ci_2061_172 l0 ?_
            refine hs_gfr 8 186 ci_2061_173 (by decide +kernel) hp ?_
            refine hs_iload_n ci_2061_176 l1 ?_
            refine hs_iload_n ci_2061_177 l3 ?_
            refine hs_iastore 0 134 (-2147483648) (2147483647) ci_2061_178 (by decide +kernel) hp (by rw [et]; omega) (by rw [et]; omega) (ab_ige _) (ab_ile _) ?_
            intro h178 w178
            replace hp := w178.1
            have ei0 : xt.toInt.toNat = 2 * n := by omega
            have f178 : ab_fr [(186, 0, 134)] h178 h3 := w178.fr (ab_inr_up (k1 := 0) (k2 := 134) rfl (by omega) (by omega))
            have q178 : ab_hp h178 := ⟨hp, q3.2.fr (M := [(186, 0, 134)]) (by decide +kernel) f178⟩
            have r178 : rt B n0 lim tk ta P h178 (j + 1) := r3.fr f178 (fun _ => rfl) ⟨rfl, rfl, rfl, rfl, rfl, rfl, rfl⟩
            refine hs_aload_n ci_2061_179 l0 ?_
            refine hs_cv 1658 11 0 ci_2061_180 (by decide +kernel) (by decide +kernel) hp rfl (by rw [ml_1658]; rfl) (m_next ts q178 r178) ?_
            rintro v9 h5 ⟨e8, q5, f5, r5⟩
            rw [e8]
            clear e8 v9
            replace hp := q5.1
            simp only [Option.toList, List.nil_append]
            refine hs_iconst ci_2061_183 ?_
            exact hs_k ⟨3, some (.int (Int32.ofInt 1)), by decide +kernel, rv_b rt_2061 (Or.inr (by decide)), q5, (fr_sub (by decide +kernel) f5).tr ((fr_sub (by decide +kernel) f178).tr F3), _, rfl, Or.inl ⟨by decide, ⟨(), by rw [sd_n hnd, sbn_r yO, if_neg (by omega), if_pos ⟨(iw_1 hrW122 b125).1, Or.inr (Or.inl (iw_1 hrW122 b125).2)⟩]⟩, r5, by rw [hv_same (f5 182 15 rfl), hv_same (f178 182 15 rfl)]; exact z15⟩⟩
          · simp only [hs_cd, ab_not] at b163
            exact absurd b163 (by decide)
      · simp only [hs_cd, ab_not] at b111
        refine hs_iconst ci_2061_114 ?_
        refine hs_goto (t := 161) ci_2061_115 rfl ?_
        obtain ⟨hnd, gO, yO⟩ : ¬ isday (tk j) ∧ ∃ g, sp_old ps 3 5 (tk j) (ta j) = .inr g := by
          rcases hK with ⟨z, -⟩ | ⟨-, z⟩
          · exact absurd b68 z
          · exact z
        refine hs_istore2_n ci_2061_161 (by decide +kernel) ?_
        intro ls9 q9
        replace l0 := q9.2 0 _ (by decide) (Or.inl rfl) l0
        replace l1 := q9.2 1 _ (by decide) (Or.inl rfl) l1
        have l3 := q9.1
        clear q9
        refine hs_iload_n ci_2061_162 l3 ?_
        refine hs_if (t := 172) ci_2061_163 rfl (fun b163 => ?_) (fun b163 => ?_)
        · simp only [hs_cd, ab_not] at b163
          refine hs_aload_n ci_2061_172 l0 ?_
          refine hs_gfr 8 186 ci_2061_173 (by decide +kernel) hp ?_
          refine hs_iload_n ci_2061_176 l1 ?_
          refine hs_iload_n ci_2061_177 l3 ?_
          refine hs_iastore 0 134 (-2147483648) (2147483647) ci_2061_178 (by decide +kernel) hp (by rw [et]; omega) (by rw [et]; omega) (ab_ige _) (ab_ile _) ?_
          intro h178 w178
          replace hp := w178.1
          have ei0 : xt.toInt.toNat = 2 * n := by omega
          have f178 : ab_fr [(186, 0, 134)] h178 h3 := w178.fr (ab_inr_up (k1 := 0) (k2 := 134) rfl (by omega) (by omega))
          have q178 : ab_hp h178 := ⟨hp, q3.2.fr (M := [(186, 0, 134)]) (by decide +kernel) f178⟩
          have r178 : rt B n0 lim tk ta P h178 (j + 1) := r3.fr f178 (fun _ => rfl) ⟨rfl, rfl, rfl, rfl, rfl, rfl, rfl⟩
          refine hs_aload_n ci_2061_179 l0 ?_
          refine hs_cv 1658 11 0 ci_2061_180 (by decide +kernel) (by decide +kernel) hp rfl (by rw [ml_1658]; rfl) (m_next ts q178 r178) ?_
          rintro v9 h5 ⟨e8, q5, f5, r5⟩
          rw [e8]
          clear e8 v9
          replace hp := q5.1
          simp only [Option.toList, List.nil_append]
          refine hs_iconst ci_2061_183 ?_
          exact hs_k ⟨3, some (.int (Int32.ofInt 1)), by decide +kernel, rv_b rt_2061 (Or.inr (by decide)), q5, (fr_sub (by decide +kernel) f5).tr ((fr_sub (by decide +kernel) f178).tr F3), _, rfl, Or.inl ⟨by decide, ⟨(), by rw [sd_n hnd, sbn_r yO, if_neg (by omega), if_pos ⟨(iw_1 hrW108 b111).1, Or.inl (iw_1 hrW108 b111).2⟩]⟩, r5, by rw [hv_same (f5 182 15 rfl), hv_same (f178 182 15 rfl)]; exact z15⟩⟩
        · simp only [hs_cd, ab_not] at b163
          exact absurd b163 (by decide)
    · simp only [hs_cd, ab_not] at b68
      refine hs_aload_n ci_2061_71 l0 ?_
      refine hs_gfr 8 186 ci_2061_72 (by decide +kernel) hp ?_
      refine hs_iload_n ci_2061_75 l1 ?_
      refine hs_iconst ci_2061_76 ?_
      refine hs_iastore 0 134 (-2147483648) (2147483647) ci_2061_77 (by decide +kernel) hp (by rw [et]; omega) (by rw [et]; omega) (by decide) (by decide) ?_
      intro h77 w77
      replace hp := w77.1
      have ei0 : xt.toInt.toNat = 2 * n := by omega
      have f77 : ab_fr [(186, 0, 134)] h77 h3 := w77.fr (ab_inr_up (k1 := 0) (k2 := 134) rfl (by omega) (by omega))
      have q77 : ab_hp h77 := ⟨hp, q3.2.fr (M := [(186, 0, 134)]) (by decide +kernel) f77⟩
      have r77 : rt B n0 lim tk ta P h77 (j + 1) := r3.fr f77 (fun _ => rfl) ⟨rfl, rfl, rfl, rfl, rfl, rfl, rfl⟩
      have y77 : (hv h77 182 15).toInt = 0 := by rw [hv_same (f77 182 15 rfl)]; exact z15
      refine hs_aload_n ci_2061_78 l0 ?_
      refine hs_iconst ci_2061_79 ?_
      refine hs_bipush ci_2061_80 ?_
      refine hs_cv 1695 11 2 ci_2061_82 (by decide +kernel) (by decide +kernel) hp rfl (by rw [ml_1695]; rfl) (mc.and (by decide) (m_takes (Int32.ofInt 1) (Int8.ofInt 60).toInt32 ts q77 r77) (c_tk15 (d := d) hsc _ _ q77 y77)) ?_
      rintro v9 h4 ⟨⟨q4, f4, rT, e8, hrT⟩, rT2, e82, hz⟩
      rw [e8]
      obtain rfl : rT = rT2 := by
        have := Option.some.inj (e8.symm.trans e82)
        exact Value.int.inj this
      clear e8 e82 v9
      replace hp := q4.1
      rw [kI_1, kB_60] at hrT
      simp only [Option.toList, List.cons_append, List.nil_append]
      refine hs_if (t := 90) ci_2061_85 rfl (fun b85 => ?_) (fun b85 => ?_)
      · simp only [hs_cd, ab_not] at b85
        refine hs_aload_n ci_2061_90 l0 ?_
        refine hs_gfr 8 186 ci_2061_91 (by decide +kernel) hp ?_
        refine hs_iload_n ci_2061_94 l1 ?_
        refine hs_iconst ci_2061_95 ?_
        refine hs_iadd ci_2061_96 ?_
        refine hs_aload_n ci_2061_97 l0 ?_
        refine hs_gfi 18 ci_2061_98 (by decide +kernel) hp ?_
        refine hs_iastore 0 134 (-2147483648) (2147483647) ci_2061_101 (by decide +kernel) hp (by rw [et1]; omega) (by rw [et1]; omega) (ab_ige _) (ab_ile _) ?_
        intro h101 w101
        replace hp := w101.1
        refine hs_iconst ci_2061_102 ?_
        have hdy : isday (tk j) := by
          rcases hK with ⟨-, z⟩ | ⟨z, -⟩
          · exact z
          · exact absurd z b68
        rcases hrT with ⟨v, y1, y2, -, y4⟩ | ⟨k, a, -, y2, -⟩
        · have ei1 : (xt + Int32.ofInt 1).toInt.toNat = 2 * n + 1 := by omega
          have f101 : ab_fr [(186, 0, 134)] h101 h4 := w101.fr (ab_inr_up (k1 := 0) (k2 := 134) rfl (by omega) (by omega))
          have q101 : ab_hp h101 := ⟨hp, q4.2.fr (M := [(186, 0, 134)]) (by decide +kernel) f101⟩
          exact hs_k ⟨3, some (.int (Int32.ofInt 1)), by decide +kernel, rv_b rt_2061 (Or.inr (by decide)), q101, (fr_sub (by decide +kernel) f101).tr ((fr_sub (by decide +kernel) f4).tr ((fr_sub (by decide +kernel) f77).tr F3)), _, rfl, Or.inl ⟨by decide, ⟨(), by rw [sd_d hdy, if_neg (by omega)]; exact sbn_r y1⟩, y4.fr f101 (fun _ => rfl) ⟨rfl, rfl, rfl, rfl, rfl, rfl, rfl⟩, by rw [hv_same (f101 182 15 rfl)]; exact hz y2⟩⟩
        · omega
      · simp only [hs_cd, ab_not] at b85
        refine hs_iconst ci_2061_88 ?_
        have hdy : isday (tk j) := by
          rcases hK with ⟨-, z⟩ | ⟨z, -⟩
          · exact z
          · exact absurd z b68
        rcases hrT with ⟨v, -, y2, -⟩ | ⟨k, a, y1, -, y3⟩
        · omega
        · exact hs_k ⟨3, some (.int (Int32.ofInt 0)), by decide +kernel, rv_b rt_2061 (Or.inl (by decide)), q4, (fr_sub (by decide +kernel) f4).tr ((fr_sub (by decide +kernel) f77).tr F3), _, rfl, Or.inr ⟨by decide, k, a, by rw [sd_d hdy, if_neg (by omega)]; exact sbn_l y1, y3⟩⟩
  · simp only [hs_cd, ab_not, kB_40] at b42
    refine hs_aload_n ci_2061_45 l0 ?_
    refine hs_iconst ci_2061_46 ?_
    refine hs_cv 1687 11 1 ci_2061_47 (by decide +kernel) (by decide +kernel) hp rfl (by rw [ml_1687]; rfl) (m_bad (Int32.ofInt 4) (by decide) q1 r1) ?_
    rintro v9 h2 ⟨r2, e8, hr2, q2, f2, g2⟩
    rw [e8]
    clear e8 v9
    replace hp := q2.1
    rw [kI_4] at g2
    simp only [Option.toList, List.cons_append, List.nil_append]
    exact hs_k ⟨3, some (.int r2), by decide +kernel, rv_b rt_2061 (Or.inl hr2), q2, (fr_sub (by decide +kernel) f2).tr hf, r2, rfl, Or.inr ⟨hr2, 4, ta j, by
      rcases hK with ⟨-, z⟩ | ⟨-, z, g, y⟩
      · rw [sd_d z, if_pos (by omega)]
      · rw [sd_n z, sbn_r y, if_pos (by omega)], g2⟩⟩
theorem m_bln (hsc : ab_osc sc) (ts : TS B n0 lim tk ta P) (hq : ab_hp h) (hw : rwok h) (hN : RP h ps) (hr : rt B n0 lim tk ta P h j) (hn : (hv h 182 41).toInt = (n : Int)) (h15 : (hv h 182 15).toInt = 0) : mc sc sp 2061 11 (d + 1 + 1 + 1 + 1) [.ref 182] h (rl_P B n0 lim tk ta P ps h n j) := by
  have l0 : eg_find 0 (eg_args 0 [.ref 182]) = some (.ref 182) := rfl
  have hp := hq.1
  have hn40 := gb_told hp
  have e2n : (Int32.ofInt 2 * hv h 182 41).toInt = ((2 * n : Nat) : Int) := (i32_mul kI_2 hn (by omega) (by omega)).trans (by omega)
  have e2n1 : (Int32.ofInt 2 * hv h 182 41 + Int32.ofInt 1).toInt = ((2 * n + 1 : Nat) : Int) := (i32_add e2n (b := 1) rfl (by omega) (by omega)).trans (by omega)
  obtain ⟨-, c1, c2⟩ := sb_v (a := 184) (k := 1) (lo := .ofNat 0) (hi := .ofNat 10) hq (by decide +kernel)
  have c1 : (0 : Int) ≤ (hv h 184 1).toInt := c1
  have c2 : (hv h 184 1).toInt ≤ (10 : Int) := c2
  have hN1 := hN.1
  unfold mc
  refine hs_iconst ci_2061_0 ?_
  refine hs_aload_n ci_2061_1 l0 ?_
  refine hs_gfi 41 ci_2061_2 (by decide +kernel) hp ?_
  refine hs_imul ci_2061_5 ?_
  refine hs_istore2_n ci_2061_6 (by decide +kernel) ?_
  intro ls9 q9
  replace l0 := q9.2 0 _ (by decide) (Or.inl rfl) l0
  have l1 := q9.1
  clear q9
  refine hs_aload_n ci_2061_7 l0 ?_
  refine hs_ldc2v (6578553) ci_2061_8 (by decide +kernel) ?_
  refine hs_cv 1676 11 1 ci_2061_11 (by decide +kernel) (by decide +kernel) hp rfl (by rw [ml_1676]; rfl) (m_isW _ hq hr) ?_
  rintro v9 h9 ⟨e9, rW11, e8, hrW11⟩
  rw [e8, e9]
  clear e8 e9 v9 h9
  replace hrW11 := iw_c (wd_iff hr wco_10 (by decide +kernel)) hrW11
  simp only [Option.toList, List.cons_append, List.nil_append]
  refine hs_istore2_n ci_2061_14 (by decide +kernel) ?_
  intro ls9 q9
  replace l0 := q9.2 0 _ (by decide) (Or.inl rfl) l0
  replace l1 := q9.2 1 _ (by decide) (Or.inl rfl) l1
  have l2 := q9.1
  clear q9
  refine hs_iload_n ci_2061_15 l2 ?_
  refine hs_if (t := 36) ci_2061_16 rfl (fun b16 => ?_) (fun b16 => ?_)
  · simp only [hs_cd, ab_not] at b16
    exact rb_36 hsc ts hq hr hn h15 hn40 e2n e2n1 ab_fr.rf (Or.inl ⟨b16, iw_1 hrW11 b16⟩) l0 l1 l2
  · simp only [hs_cd, ab_not] at b16
    refine hs_aload_n ci_2061_19 l0 ?_
    refine hs_bipush ci_2061_20 ?_
    refine hs_aload_n ci_2061_22 l0 ?_
    refine hs_gfr 6 184 ci_2061_23 (by decide +kernel) hp ?_
    refine hs_iconst ci_2061_26 ?_
    refine hs_ial1 1 ci_2061_27 rfl gq_1 hp ?_
    refine hs_cv 1730 11 2 ci_2061_28 (by decide +kernel) (by decide +kernel) hp rfl (by rw [ml_1730]; rfl) (mc.and (by decide) (m_looks (ps := ps) (fr := 6) (many := (ps.1 5).toNat) (k := 3) (nn := 5) kB_6 (by rw [hN.1]; omega) (by omega) rfl (fun a ha => sf_same _ (fun q hq => (tx_co_one (hN.2 q (by omega)) ha).symm)) hq hw hr) (c_lk15 (d := d + 1) hsc (by rw [kB_6]; decide) (by rw [kB_6]; decide) c1 c2 hq h15)) ?_
    rintro v9 hA ⟨⟨qA, fA, rL, e8, hrL⟩, rL2, e82, hz⟩
    rw [e8]
    obtain rfl : rL = rL2 := by
      have := Option.some.inj (e8.symm.trans e82)
      exact Value.int.inj this
    clear e8 e82 v9
    replace hp := qA.1
    simp only [Option.toList, List.cons_append, List.nil_append]
    refine hs_if (t := 36) ci_2061_31 rfl (fun b31 => ?_) (fun b31 => ?_)
    · simp only [hs_cd, ab_not] at b31
      obtain ⟨gL, yL, rtA⟩ : ∃ v, sp_old ps 3 5 (tk j) (ta j) = .inr v ∧ rt B n0 lim tk ta P hA j := by
        rcases hrL with ⟨g, z1, -, -, z4⟩ | ⟨k, a, -, z2, -⟩
        · exact ⟨g, z1, z4⟩
        · omega
      have hr1 : rL.toInt = 1 := by
        rcases hrL with ⟨-, -, z, -, -⟩ | ⟨-, -, -, z, -⟩
        · exact z
        · omega
      exact rb_36 hsc ts qA rtA (by rw [hv_same (fA 182 41 rfl)]; exact hn) (hz hr1) hn40 e2n e2n1 (fr_sub (by decide +kernel) fA) (Or.inr ⟨b16, iw_0 hrW11 b16, gL, yL⟩) l0 l1 l2
    · simp only [hs_cd, ab_not] at b31
      refine hs_iconst ci_2061_34 ?_
      rcases hrL with ⟨g, -, z2, -⟩ | ⟨k, a, z1, z2, z3⟩
      · omega
      · exact hs_k ⟨3, some (.int (Int32.ofInt 0)), by decide +kernel, rv_b rt_2061 (Or.inl (by decide)), qA, fr_sub (by decide +kernel) fA, _, rfl, Or.inr ⟨by decide, k, a, by rw [sd_n (iw_0 hrW11 b16)]; exact sbn_l z1, z3⟩⟩
end RBK
