/-! BY HAND: the class's headland -/
theorem ci_688_0 : ab_at 688 0 (.aload_n 0) 1 = true := by decide +kernel
theorem ci_688_1 : ab_at 688 1 (.getfield 24) 3 = true := by decide +kernel
theorem ci_688_4 : ab_at 688 4 (.sipush 900) 3 = true := by decide +kernel
theorem ci_688_7 : ab_at 688 7 (.invokevirtual 117) 3 = true := by decide +kernel
theorem ci_688_10 : ab_at 688 10 (.aload_n 0) 1 = true := by decide +kernel
theorem ci_688_11 : ab_at 688 11 (.getfield 37) 3 = true := by decide +kernel
theorem ci_688_14 : ab_at 688 14 (.invokevirtual 120) 3 = true := by decide +kernel
theorem ci_688_17 : ab_at 688 17 (.istore_n 1) 1 = true := by decide +kernel
theorem ci_688_18 : ab_at 688 18 (.aload_n 0) 1 = true := by decide +kernel
theorem ci_688_19 : ab_at 688 19 (.invokevirtual 124) 3 = true := by decide +kernel
theorem ci_688_22 : ab_at 688 22 (.iload_n 1) 1 = true := by decide +kernel
theorem ci_688_23 : ab_at 688 23 (.ifCond .ne 13) 3 = true := by decide +kernel
theorem ci_688_26 : ab_at 688 26 (.iconst (-1)) 1 = true := by decide +kernel
theorem ci_688_27 : ab_at 688 27 (.aload_n 0) 1 = true := by decide +kernel
theorem ci_688_28 : ab_at 688 28 (.getfield 24) 3 = true := by decide +kernel
theorem ci_688_31 : ab_at 688 31 (.getfield 127) 3 = true := by decide +kernel
theorem ci_688_34 : ab_at 688 34 (.isub) 1 = true := by decide +kernel
theorem ci_688_36 : ab_at 688 36 (.aload_n 0) 1 = true := by decide +kernel
theorem ci_688_37 : ab_at 688 37 (.getfield 28) 3 = true := by decide +kernel
theorem ci_688_40 : ab_at 688 40 (.aload_n 0) 1 = true := by decide +kernel
theorem ci_688_41 : ab_at 688 41 (.getfield 37) 3 = true := by decide +kernel
theorem ci_688_44 : ab_at 688 44 (.getfield 130) 3 = true := by decide +kernel
theorem ci_688_47 : ab_at 688 47 (.invokevirtual 133) 3 = true := by decide +kernel
theorem ci_688_50 : ab_at 688 50 (.aload_n 0) 1 = true := by decide +kernel
theorem ci_688_51 : ab_at 688 51 (.getfield 46) 3 = true := by decide +kernel
theorem ci_688_54 : ab_at 688 54 (.invokevirtual 136) 3 = true := by decide +kernel
theorem ci_688_57 : ab_at 688 57 (.aload_n 0) 1 = true := by decide +kernel
theorem ci_688_58 : ab_at 688 58 (.getfield 79) 3 = true := by decide +kernel
theorem ci_688_61 : ab_at 688 61 (.invokevirtual 139) 3 = true := by decide +kernel
theorem ci_688_64 : ab_at 688 64 (.aload_n 0) 1 = true := by decide +kernel
theorem ci_688_65 : ab_at 688 65 (.getfield 56) 3 = true := by decide +kernel
theorem ci_688_68 : ab_at 688 68 (.invokevirtual 142) 3 = true := by decide +kernel
theorem ci_688_71 : ab_at 688 71 (.aload_n 0) 1 = true := by decide +kernel
theorem ci_688_72 : ab_at 688 72 (.getfield 37) 3 = true := by decide +kernel
theorem ci_688_75 : ab_at 688 75 (.getfield 143) 3 = true := by decide +kernel
theorem ci_831_0 : ab_at 831 0 (.aload_n 0) 1 = true := by decide +kernel
theorem ci_831_1 : ab_at 831 1 (.aload_n 0) 1 = true := by decide +kernel
theorem ci_831_2 : ab_at 831 2 (.getfield 24) 3 = true := by decide +kernel
theorem ci_831_5 : ab_at 831 5 (.getfield 146) 3 = true := by decide +kernel
theorem ci_831_8 : ab_at 831 8 (.putfield 106) 3 = true := by decide +kernel
theorem ci_831_11 : ab_at 831 11 (.aload_n 0) 1 = true := by decide +kernel
theorem ci_831_12 : ab_at 831 12 (.getfield 18) 3 = true := by decide +kernel
theorem ci_831_15 : ab_at 831 15 (.iconst 0) 1 = true := by decide +kernel
theorem ci_831_16 : ab_at 831 16 (.putfield 110) 3 = true := by decide +kernel
theorem ci_843_0 : ab_at 843 0 (.aload_n 0) 1 = true := by decide +kernel
theorem ci_843_1 : ab_at 843 1 (.iconst 0) 1 = true := by decide +kernel
theorem ci_843_2 : ab_at 843 2 (.putfield 19) 3 = true := by decide +kernel
theorem ci_847_0 : ab_at 847 0 (.aload_n 0) 1 = true := by decide +kernel
theorem ci_847_1 : ab_at 847 1 (.iconst 0) 1 = true := by decide +kernel
theorem ci_847_2 : ab_at 847 2 (.putfield 21) 3 = true := by decide +kernel
theorem ml_692 : (eg_md 692).2.2.1 = 6 := by decide +kernel
theorem ml_728 : (eg_md 728).2.2.1 = 2 := by decide +kernel
theorem ml_831 : (eg_md 831).2.2.1 = 1 := by decide +kernel
theorem ml_835 : (eg_md 835).2.2.1 = 3 := by decide +kernel
theorem ml_839 : (eg_md 839).2.2.1 = 2 := by decide +kernel
theorem ml_843 : (eg_md 843).2.2.1 = 1 := by decide +kernel
theorem ml_847 : (eg_md 847).2.2.1 = 1 := by decide +kernel
def ct_P (h : eg_H) (vo : Option Value) (h' : eg_H) : Prop := vo = none ∧ ab_hp h' ∧ ab_fr [(0, 15, 15), (1, 1, 1)] h' h ∧ (hv h' 1 1).toInt = 0 ∧ hv h' 0 15 = hv h 3 8
theorem rt_831 : (eg_md 831).2.2.2 = none := by decide +kernel
theorem k_close {sc : List Value} {sp d : Nat} {h : eg_H} (hq : ab_hp h) : mc sc sp 831 10 d [.ref 0] h (ct_P h) := by
  have l0 : eg_find 0 (eg_args 0 [.ref 0]) = some (.ref 0) := rfl
  have hp := hq.1
  unfold mc
  refine hs_aload_n ci_831_0 l0 ?_
  refine hs_aload_n ci_831_1 l0 ?_
  refine hs_gfr 1 3 ci_831_2 (by decide +kernel) hp ?_
  refine hs_gfi 8 ci_831_5 (by decide +kernel) hp ?_
  refine hs_pfi 15 (-2147483648) (2147483647) ci_831_8 (by decide +kernel) hp (ab_ige _) (ab_ile _) ?_
  intro h8 w8
  replace hp := w8.1
  refine hs_aload_n ci_831_11 l0 ?_
  refine hs_gfr 0 1 ci_831_12 (by decide +kernel) hp ?_
  refine hs_iconst ci_831_15 ?_
  refine hs_pfi 1 (0) (940) ci_831_16 (by decide +kernel) hp (by decide) (by decide) ?_
  intro h16 w16
  replace hp := w16.1
  have f16 : ab_fr [(0, 15, 15), (1, 1, 1)] h16 h := (w16.fr rfl).tr (w8.fr rfl)
  refine hs_k ⟨5, none, by decide +kernel, by rw [rt_831]; rfl, rfl, ⟨hp, hq.2.fr (M := [(0, 15, 15), (1, 1, 1)]) (by decide +kernel) f16⟩, f16, ?_, ?_⟩
  · rw [w16.v, if_pos ⟨rfl, rfl⟩]
    exact kI_0
  · rw [w16.v, if_neg (by omega), w8.v, if_pos ⟨rfl, rfl⟩]
abbrev MHX : ab_M := [(0, 15, 15), (1, 1, 1), (3, 5, 11), (5, 0, 940), (6, 0, 940), (7, 0, 940), (22, 2, 9), (23, 0, 6), (24, 0, 5), (25, 0, 5), (26, 0, 5), (27, 0, 9), (28, 0, 9), (29, 0, 9), (30, 0, 9), (31, 0, 9), (32, 0, 9), (33, 0, 9), (34, 0, 9), (35, 0, 9), (36, 0, 9), (8, 0, 6), (9, 0, 5), (10, 0, 5), (11, 0, 5), (12, 0, 9), (13, 0, 9), (14, 0, 9), (15, 0, 9), (16, 0, 9), (17, 0, 9), (18, 0, 9), (19, 0, 9), (20, 0, 9), (21, 0, 9), (37, 6, 7), (38, 0, 9), (39, 0, 9), (40, 0, 9), (41, 0, 5), (42, 0, 5), (51, 2, 2), (115, 3, 3)]
/-- the tokens of the class's text -/
def tks (B : Nat → Int) (n lim : Nat) (tk : Nat → tx_K) (ta P : Nat → Nat) (m : Nat) : Prop := m ≤ 941 ∧ 1 ≤ m ∧ P 0 = 0 ∧ (∀ t, tx_X B n lim (P t) (tk t) (ta t) (P (t + 1))) ∧ ∀ t, m ≤ t → tk t = tk (m - 1) ∧ ta t = ta (m - 1)
def hx_P (h : eg_H) (vo : Option Value) (h' : eg_H) : Prop := ab_hp h' ∧ ab_fr MHX h' h ∧ (hv h' 1 1).toInt = 0 ∧ ∃ (r : Int32) (tk : Nat → tx_K) (ta P : Nat → Nat) (m : Nat), vo = some (.int r) ∧ tks (bA h) (hv h 1 1).toInt.toNat 900 tk ta P m ∧ ((∃ p n, sp_all tk ta 901 ps0 0 0 = .inr (p, n) ∧ r.toInt = (n : Int) ∧ (hv h' 0 15).toInt = 0 ∧ (∀ k, k < 7 → (hv h' 8 k).toInt = p.1 k) ∧ p.1 5 ≤ 10 ∧ (∀ q : Nat, (q : Int) < p.1 5 → (hv h' 13 q).toInt = p.2 4 q) ∧ p.1 4 ≤ 6 ∧ (∀ q : Nat, (q : Int) < p.1 4 → (hl h' 9 q).toInt = p.2 0 q) ∧ ∀ q : Nat, (q : Int) < p.1 5 → (hl h' 12 q).toInt = p.2 3 q) ∨ (∃ k a, sp_all tk ta 901 ps0 0 0 = .inl (k, a) ∧ r.toInt = -1 - (a : Int) ∧ (hv h' 0 15).toInt = k ∧ (∀ k, k < 7 → hv h' 8 k = hv h 8 k) ∧ (∀ k : Nat, hv h' 13 k = hv h 13 k) ∧ (∀ k : Nat, hl h' 9 k = hl h 9 k) ∧ ∀ k : Nat, hl h' 12 k = hl h 12 k))
def fg_P (h : eg_H) (a k : Nat) (vo : Option Value) (h' : eg_H) : Prop := vo = none ∧ ab_hp h' ∧ ab_fr [(a, k, k)] h' h
theorem rt_843 : (eg_md 843).2.2.2 = none := by decide +kernel
theorem k_sfg {sc : List Value} {sp d : Nat} {h : eg_H} (hq : ab_hp h) : mc sc sp 843 5 d [.ref 115] h (fg_P h 115 3) := by
  have l0 : eg_find 0 (eg_args 0 [.ref 115]) = some (.ref 115) := rfl
  have hp := hq.1
  unfold mc
  refine hs_aload_n ci_843_0 l0 ?_
  refine hs_iconst ci_843_1 ?_
  refine hs_pfi 3 (0) (48) ci_843_2 (by decide +kernel) hp (by decide) (by decide) ?_
  intro h2 w2
  replace hp := w2.1
  have f2 : ab_fr [(115, 3, 3)] h2 h := w2.fr rfl
  exact hs_k ⟨5, none, by decide +kernel, by rw [rt_843]; rfl, rfl, ⟨hp, hq.2.fr (M := [(115, 3, 3)]) (by decide +kernel) f2⟩, f2⟩
theorem rt_847 : (eg_md 847).2.2.2 = none := by decide +kernel
theorem k_pfg {sc : List Value} {sp d : Nat} {h : eg_H} (hq : ab_hp h) : mc sc sp 847 3 d [.ref 51] h (fg_P h 51 2) := by
  have l0 : eg_find 0 (eg_args 0 [.ref 51]) = some (.ref 51) := rfl
  have hp := hq.1
  unfold mc
  refine hs_aload_n ci_847_0 l0 ?_
  refine hs_iconst ci_847_1 ?_
  refine hs_pfi 2 (-2147483648) (2147483647) ci_847_2 (by decide +kernel) hp (by decide) (by decide) ?_
  intro h2 w2
  replace hp := w2.1
  have f2 : ab_fr [(51, 2, 2)] h2 h := w2.fr rfl
  exact hs_k ⟨5, none, by decide +kernel, by rw [rt_847]; rfl, rfl, ⟨hp, hq.2.fr (M := [(51, 2, 2)]) (by decide +kernel) f2⟩, f2⟩
theorem c_begin {sc : List Value} {sp d : Nat} {h : eg_H} (hsc : ab_osc sc) (hp : ab_hp h) : mc sc sp 839 9 (d + 1) [.ref 37] h (mc_P [(37, 6, 7), (38, 0, 9), (39, 0, 9), (40, 0, 9), (41, 0, 5), (42, 0, 5)] h none) := mc_q tr_z152 (iv := none) (by decide +kernel) hsc (show 1 ≤ d + 1 by omega) (ar_0 hp)
theorem rt_688 : (eg_md 688).2.2.2 = some .int := by decide +kernel
theorem k_head {sc : List Value} {sp d : Nat} {h : eg_H} (hsc : ab_osc sc) (hq : ab_hp h) (hk : kwok h) : mc sc sp 688 10 (d + 1 + 1 + 1 + 1 + 1 + 1 + 1) [.ref 0] h (hx_P h) := by
  have l0 : eg_find 0 (eg_args 0 [.ref 0]) = some (.ref 0) := rfl
  have hp := hq.1
  unfold mc
  refine hs_aload_n ci_688_0 l0 ?_
  refine hs_gfr 1 3 ci_688_1 (by decide +kernel) hp ?_
  refine hs_sipush ci_688_4 ?_
  refine hs_cv 692 8 1 ci_688_7 (by decide +kernel) (by decide +kernel) hp rfl (by rw [ml_692]; rfl) (k_open (lim := 900) hq kS_900 (by decide)) ?_
  rintro v9 hA ⟨e8, qA, fA, a6, a8, P, tk, ta, m, m1, m2, m3, m4, m5, m6, m7⟩
  rw [e8]
  clear e8 v9
  simp only [Option.toList, List.nil_append]
  replace hp := qA.1
  have kA : kwok hA := hk.fr fA (fun _ => rfl)
  have roA : ro hA tk ta m := ⟨m1, m2, m3, m6, m7⟩
  have cA : cu hA tk ta m 0 := ⟨by rw [a6]; rfl, fun g => by omega⟩
  have tsA : tks (bA h) (hv h 1 1).toInt.toNat 900 tk ta P m := ⟨m2, m1, m4, m5, m7⟩
  refine hs_aload_n ci_688_10 l0 ?_
  refine hs_gfr 3 22 ci_688_11 (by decide +kernel) hp ?_
  refine hs_cv 728 2 0 ci_688_14 (by decide +kernel) (by decide +kernel) hp rfl (by rw [ml_728]; rfl) (mc.and (by decide) (k_reads hsc qA kA roA cA) (c_lr15 hsc qA a8)) ?_
  rintro v9 hB ⟨⟨qB, fB, rB, e8, hrB⟩, rB2, e82, hz⟩
  obtain rfl : rB = rB2 := by
    have := Option.some.inj (e8.symm.trans e82)
    exact Value.int.inj this
  rw [e8]
  clear e8 e82 v9
  replace hp := qB.1
  simp only [Option.toList, List.cons_append, List.nil_append]
  refine hs_istore2_n ci_688_17 (by decide +kernel) ?_
  intro ls9 q9
  replace l0 := q9.2 0 _ (by decide) (Or.inl rfl) l0
  have l1 := q9.1
  clear q9
  refine hs_aload_n ci_688_18 l0 ?_
  refine hs_cv 831 10 0 ci_688_19 (by decide +kernel) (by decide +kernel) hp rfl (by rw [ml_831]; rfl) (k_close qB) ?_
  rintro v9 hC ⟨e8, qC, fC, c11, c15⟩
  rw [e8]
  clear e8 v9
  simp only [Option.toList, List.nil_append]
  replace hp := qC.1
  have FC : ab_fr MHX hC h := (fr_sub (by decide +kernel) fC).tr ((fr_sub (by decide +kernel) fB).tr (fr_sub (by decide +kernel) fA))
  refine hs_iload_n ci_688_22 l1 ?_
  refine hs_if (t := 36) ci_688_23 rfl (fun b23 => ?_) (fun b23 => ?_)
  · simp only [hs_cd, ab_not] at b23
    have hr1 : rB.toInt = 1 := by
      rcases hrB with ⟨p, n, -, y2, -⟩ | ⟨k, a, -, y2, -⟩
      · exact y2
      · omega
    obtain ⟨p, n, hx1, hx2, hx9⟩ : ∃ p n, sp_all tk ta 901 ps0 0 0 = .inr (p, n) ∧ (hv hB 22 2).toInt = (n : Int) ∧ CP hB p := by
      rcases hrB with ⟨p, n, y1, -, y3, y4⟩ | ⟨k, a, -, y2, -⟩
      · exact ⟨p, n, y1, y3, y4⟩
      · omega
    clear hrB
    have hx3 : (hv hC 22 2).toInt = (n : Int) := by rw [hv_same (fC 22 2 rfl)]; exact hx2
    refine hs_aload_n ci_688_36 l0 ?_
    refine hs_gfr 2 8 ci_688_37 (by decide +kernel) hp ?_
    refine hs_aload_n ci_688_40 l0 ?_
    refine hs_gfr 3 22 ci_688_41 (by decide +kernel) hp ?_
    refine hs_gfr 1 23 ci_688_44 (by decide +kernel) hp ?_
    refine hs_cv 835 1 1 ci_688_47 (by decide +kernel) (by decide +kernel) hp rfl (by rw [ml_835]; rfl) (k_cq_8_23 qC) ?_
    rintro v9 hD ⟨e8, qD, fD, cD, cN, cG⟩
    rw [e8]
    clear e8 v9
    simp only [Option.toList, List.nil_append]
    replace hp := qD.1
    refine hs_aload_n ci_688_50 l0 ?_
    refine hs_gfr 4 37 ci_688_51 (by decide +kernel) hp ?_
    refine hs_cv 839 9 0 ci_688_54 (by decide +kernel) (by decide +kernel) hp rfl (by rw [ml_839]; rfl) (c_begin hsc qD) ?_
    rintro v9 hE ⟨qE, fE, e8⟩
    rw [e8]
    clear e8 v9
    simp only [Option.toList, List.nil_append]
    replace hp := qE.1
    refine hs_aload_n ci_688_57 l0 ?_
    refine hs_gfr 9 115 ci_688_58 (by decide +kernel) hp ?_
    refine hs_cv 843 5 0 ci_688_61 (by decide +kernel) (by decide +kernel) hp rfl (by rw [ml_843]; rfl) (k_sfg qE) ?_
    rintro v9 hF ⟨e8, qF, fF⟩
    rw [e8]
    clear e8 v9
    simp only [Option.toList, List.nil_append]
    replace hp := qF.1
    refine hs_aload_n ci_688_64 l0 ?_
    refine hs_gfr 6 51 ci_688_65 (by decide +kernel) hp ?_
    refine hs_cv 847 3 0 ci_688_68 (by decide +kernel) (by decide +kernel) hp rfl (by rw [ml_847]; rfl) (k_pfg qF) ?_
    rintro v9 hG ⟨e8, qG, fG⟩
    rw [e8]
    clear e8 v9
    simp only [Option.toList, List.nil_append]
    replace hp := qG.1
    refine hs_aload_n ci_688_71 l0 ?_
    refine hs_gfr 3 22 ci_688_72 (by decide +kernel) hp ?_
    refine hs_gfi 2 ci_688_75 (by decide +kernel) hp ?_
    have F9 : ab_fr MHX hG h := (fr_sub (by decide +kernel) fG).tr ((fr_sub (by decide +kernel) fF).tr ((fr_sub (by decide +kernel) fE).tr ((fr_sub (by decide +kernel) fD).tr FC)))
    refine hs_k ⟨3, some (.int (hv hG 22 2)), by decide +kernel, by rw [rt_688]; rfl, qG, F9, ?_, _, tk, ta, P, m, rfl, tsA, Or.inl ⟨p, n, hx1, ?_, ?_, fun k hk => ?_, hx9.2.2.2.2.2.2.2.2.2.2.2.2.2, fun q hq => ?_, by have hb := hx9.2.2.2.2.2.2; omega, fun q hq => ?_, fun q hq => ?_⟩⟩
    · rw [hv_same (fG 1 1 rfl), hv_same (fF 1 1 rfl), hv_same (fE 1 1 rfl), hv_same (fD 1 1 rfl)]
      exact c11
    · rw [hv_same (fG 22 2 rfl), hv_same (fF 22 2 rfl), hv_same (fE 22 2 rfl), hv_same (fD 22 2 rfl)]
      exact hx3
    · rw [hv_same (fG 0 15 rfl), hv_same (fF 0 15 rfl), hv_same (fE 0 15 rfl), hv_same (fD 0 15 rfl), c15]
      exact hz hr1
    · rw [hv_same (fG 8 k rfl), hv_same (fF 8 k rfl), hv_same (fE 8 k rfl), cD k hk, hv_same (fC 23 k rfl)]
      exact hx9.1 k hk
    · have hb := hx9.2.2.2.2.2.2
      have cg : hv hD 13 q = hv hC 28 q := (cG q (by omega)).2
      rw [hv_same (fG 13 q rfl), hv_same (fF 13 q rfl), hv_same (fE 13 q rfl), cg, hv_same (fC 28 q rfl)]
      exact (hx9.2.2.2.1 q hq).2.1
    · have hb := hx9.2.2.2.2.2.2
      have cg : hl hD 9 q = hl hC 24 q := cN q (by omega)
      rw [hl_same (fG 9 q rfl), hl_same (fF 9 q rfl), hl_same (fE 9 q rfl), cg, hl_same (fC 24 q rfl)]
      exact (hx9.2.2.1 q hq).1
    · have hb := hx9.2.2.2.2.2.2
      have cg : hl hD 12 q = hl hC 27 q := (cG q (by omega)).1
      rw [hl_same (fG 12 q rfl), hl_same (fF 12 q rfl), hl_same (fE 12 q rfl), cg, hl_same (fC 27 q rfl)]
      exact (hx9.2.2.2.1 q hq).1
  · simp only [hs_cd, ab_not] at b23
    refine hs_iconst ci_688_26 ?_
    refine hs_aload_n ci_688_27 l0 ?_
    refine hs_gfr 1 3 ci_688_28 (by decide +kernel) hp ?_
    refine hs_gfi 9 ci_688_31 (by decide +kernel) hp ?_
    refine hs_isub ci_688_34 ?_
    obtain ⟨k, a, hx1, hx2⟩ : ∃ k a, sp_all tk ta 901 ps0 0 0 = .inl (k, a) ∧ flt hB k a := by
      rcases hrB with ⟨p, n, -, y2, -⟩ | ⟨k, a, y1, -, y3⟩
      · omega
      · exact ⟨k, a, y1, y3⟩
    clear hrB
    have hx3 : (hv hC 3 9).toInt = (a : Int) := by rw [hv_same (fC 3 9 rfl)]; exact hx2.2
    have hx4 := ab_ile (hv hC 3 9)
    refine hs_k ⟨3, some (.int (Int32.ofInt (-1) - hv hC 3 9)), by decide +kernel, by rw [rt_688]; rfl, qC, FC, c11, _, tk, ta, P, m, rfl, tsA, Or.inr ⟨k, a, hx1, i32_sub kI_m1 hx3 (by omega) (by omega), by rw [c15]; exact hx2.1, fun k hk => ?_, fun k => ?_, fun k => ?_, fun k => ?_⟩⟩
    · rw [hv_same (fC 8 k rfl), hv_same (fB 8 k rfl), hv_same (fA 8 k rfl)]
    · rw [hv_same (fC 13 k rfl), hv_same (fB 13 k rfl), hv_same (fA 13 k rfl)]
    · rw [hl_same (fC 9 k rfl), hl_same (fB 9 k rfl), hl_same (fA 9 k rfl)]
    · rw [hl_same (fC 12 k rfl), hl_same (fB 12 k rfl), hl_same (fA 12 k rfl)]
