/-! BY HAND: the class's headland -/
theorem ci_688_0 : ab_at 688 0 (.aload_n 0) 1 = true := by decide +kernel
theorem ci_688_1 : ab_at 688 1 (.getfield 24) 3 = true := by decide +kernel
theorem ci_688_4 : ab_at 688 4 (.sipush 900) 3 = true := by decide +kernel
theorem ci_688_7 : ab_at 688 7 (.invokevirtual 117) 3 = true := by decide +kernel
theorem ci_688_10 : ab_at 688 10 (.aload_n 0) 1 = true := by decide +kernel
theorem ci_688_11 : ab_at 688 11 (.getfield 37) 3 = true := by decide +kernel
theorem ci_688_14 : ab_at 688 14 (.invokevirtual 120) 3 = true := by decide +kernel
theorem ci_688_17 : ab_at 688 17 (.istore_n 1) 1 = true := by decide +kernel
theorem ci_688_18 : ab_at 688 18 (.aload_n 0) 1 = true := by decide +kernel
theorem ci_688_19 : ab_at 688 19 (.invokevirtual 124) 3 = true := by decide +kernel
theorem ci_688_22 : ab_at 688 22 (.iload_n 1) 1 = true := by decide +kernel
theorem ci_688_23 : ab_at 688 23 (.ifCond .ne 13) 3 = true := by decide +kernel
theorem ci_688_26 : ab_at 688 26 (.iconst (-1)) 1 = true := by decide +kernel
theorem ci_688_27 : ab_at 688 27 (.aload_n 0) 1 = true := by decide +kernel
theorem ci_688_28 : ab_at 688 28 (.getfield 24) 3 = true := by decide +kernel
theorem ci_688_31 : ab_at 688 31 (.getfield 127) 3 = true := by decide +kernel
theorem ci_688_34 : ab_at 688 34 (.isub) 1 = true := by decide +kernel
theorem ci_831_0 : ab_at 831 0 (.aload_n 0) 1 = true := by decide +kernel
theorem ci_831_1 : ab_at 831 1 (.aload_n 0) 1 = true := by decide +kernel
theorem ci_831_2 : ab_at 831 2 (.getfield 24) 3 = true := by decide +kernel
theorem ci_831_5 : ab_at 831 5 (.getfield 146) 3 = true := by decide +kernel
theorem ci_831_8 : ab_at 831 8 (.putfield 106) 3 = true := by decide +kernel
theorem ci_831_11 : ab_at 831 11 (.aload_n 0) 1 = true := by decide +kernel
theorem ci_831_12 : ab_at 831 12 (.getfield 18) 3 = true := by decide +kernel
theorem ci_831_15 : ab_at 831 15 (.iconst 0) 1 = true := by decide +kernel
theorem ci_831_16 : ab_at 831 16 (.putfield 110) 3 = true := by decide +kernel
theorem ml_692 : (eg_md 692).2.2.1 = 6 := by decide +kernel
theorem ml_728 : (eg_md 728).2.2.1 = 2 := by decide +kernel
theorem ml_831 : (eg_md 831).2.2.1 = 1 := by decide +kernel
/-- a summary from where one is -/
theorem hs_seg {q : ab_Q} (hq : ab_Tr q) {pc' : Nat} {σ : ab_S} (he : q.2.2.2.2.2.2.1 = [(pc', σ)]) {sc : List Value} {sp d : Nat} (hsc : ab_osc sc) (hd : q.2.2.2.1 ≤ d) {ν : Nat → Int} {ls : eg_L} {st : List Value} {h : eg_H} {K : Nat → eg_L → List Value → eg_H → Prop} (hr : ab_r sc.length ν q.2.2.2.2.1 ls st h) (n : ∀ ν' ls' st' h', ab_r sc.length ν' σ ls' st' h' → ab_ext ν ν' q.2.2.2.2.1.1 → ab_fr q.2.2.2.2.2.1 h' h → hs sc sp q.1 q.2.1 d K pc' ls' st' h') : hs sc sp q.1 q.2.1 d K q.2.2.1 ls st h := by
  obtain ⟨-, -, ht⟩ := hq sc sp hsc
  obtain ⟨e, hem, ν', ls', st', h', g1, g2, g3, g4, g5⟩ := ht d hd ν ls st h hr
  rw [he] at hem
  obtain rfl := List.mem_singleton.mp hem
  exact (n ν' ls' st' h' g1 g2 g4).pre g5
theorem ar_ov {L a key : Nat} {h : eg_H} {ls : eg_L} {x : Int32} (hp : ab_hp h) (l0 : eg_find 0 ls = some (.ref a)) (hx : ab_slot h (key / 1024) (key % 1024) = some (.int x)) : ab_r L (ar_n L [x]) (3, [(2, .negSucc 2147483647, .ofNat 2147483647, false, none)], [(0, .inr (a + 2))], [], [(key, 2, .ofNat 0)]) ls [] h := by
  refine ⟨⟨show 2 ≤ 3 by decide, rfl, rfl⟩, ar_e (fun q hq => ?_), fun k A hm => ?_, rfl, fun key' j d hf => ?_, hp⟩
  · obtain rfl := List.mem_singleton.mp hq
    exact ⟨_, _, rfl, by decide, ab_ige x, ab_ile x⟩
  · obtain ⟨rfl, rfl⟩ := Prod.mk.inj (List.mem_singleton.mp hm)
    exact ⟨.ref a, l0, rfl⟩
  · obtain ⟨rfl, e⟩ := Prod.mk.inj (List.mem_singleton.mp (eg_find_mem hf))
    obtain ⟨rfl, rfl⟩ := Prod.mk.inj e
    exact ⟨x, hx, by decide, (Int.add_zero _).symm⟩
def ct_P (h : eg_H) (vo : Option Value) (h' : eg_H) : Prop := vo = none ∧ ab_hp h' ∧ ab_fr [(0, 15, 15), (1, 1, 1)] h' h ∧ (hv h' 1 1).toInt = 0
theorem rt_831 : (eg_md 831).2.2.2 = none := by decide +kernel
theorem k_close {sc : List Value} {sp d : Nat} {h : eg_H} (hq : ab_hp h) : mc sc sp 831 10 d [.ref 0] h (ct_P h) := by
  have l0 : eg_find 0 (eg_args 0 [.ref 0]) = some (.ref 0) := rfl
  have hp := hq.1
  unfold mc
  refine hs_aload_n ci_831_0 l0 ?_
  refine hs_aload_n ci_831_1 l0 ?_
  refine hs_gfr 1 3 ci_831_2 (by decide +kernel) hp ?_
  refine hs_gfi 8 ci_831_5 (by decide +kernel) hp ?_
  refine hs_pfi 15 (-2147483648) (2147483647) ci_831_8 (by decide +kernel) hp (ab_ige _) (ab_ile _) ?_
  intro h8 w8
  replace hp := w8.1
  refine hs_aload_n ci_831_11 l0 ?_
  refine hs_gfr 0 1 ci_831_12 (by decide +kernel) hp ?_
  refine hs_iconst ci_831_15 ?_
  refine hs_pfi 1 (0) (940) ci_831_16 (by decide +kernel) hp (by decide) (by decide) ?_
  intro h16 w16
  replace hp := w16.1
  have f16 : ab_fr [(0, 15, 15), (1, 1, 1)] h16 h := (w16.fr rfl).tr (w8.fr rfl)
  refine hs_k ⟨5, none, by decide +kernel, by rw [rt_831]; rfl, rfl, ⟨hp, hq.2.fr (M := [(0, 15, 15), (1, 1, 1)]) (by decide +kernel) f16⟩, f16, ?_⟩
  rw [w16.v, if_pos ⟨rfl, rfl⟩]
  exact kI_0
/-- what all lines answer -/
def hres : Sum ER (PS × Nat) → Int
  | .inl e => -1 - (e.2 : Int)
  | .inr r => (r.2 : Int)
abbrev MHX : ab_M := [(0, 15, 15), (1, 1, 1), (3, 5, 11), (5, 0, 940), (6, 0, 940), (7, 0, 940), (22, 2, 9), (23, 0, 6), (24, 0, 5), (25, 0, 5), (26, 0, 5), (27, 0, 9), (28, 0, 9), (29, 0, 9), (30, 0, 9), (31, 0, 9), (32, 0, 9), (33, 0, 9), (34, 0, 9), (35, 0, 9), (36, 0, 9), (8, 0, 6), (9, 0, 5), (10, 0, 5), (11, 0, 5), (12, 0, 9), (13, 0, 9), (14, 0, 9), (15, 0, 9), (16, 0, 9), (17, 0, 9), (18, 0, 9), (19, 0, 9), (20, 0, 9), (21, 0, 9), (37, 6, 7), (38, 0, 9), (39, 0, 9), (40, 0, 9), (41, 0, 5), (42, 0, 5), (51, 2, 2), (115, 3, 3)]
/-- the tokens of the class's text -/
def tks (B : Nat → Int) (n lim : Nat) (tk : Nat → tx_K) (ta P : Nat → Nat) (m : Nat) : Prop := m ≤ 941 ∧ 1 ≤ m ∧ P 0 = 0 ∧ (∀ t, tx_X B n lim (P t) (tk t) (ta t) (P (t + 1))) ∧ ∀ t, m ≤ t → tk t = tk (m - 1) ∧ ta t = ta (m - 1)
def hx_P (h : eg_H) (vo : Option Value) (h' : eg_H) : Prop := ab_hp h' ∧ ab_fr MHX h' h ∧ (hv h' 1 1).toInt = 0 ∧ ∃ (r : Int32) (tk : Nat → tx_K) (ta P : Nat → Nat) (m : Nat), vo = some (.int r) ∧ tks (bA h) (hv h 1 1).toInt.toNat 900 tk ta P m ∧ r.toInt = hres (sp_all tk ta 901 ps0 0 0)
theorem rt_688 : (eg_md 688).2.2.2 = some .int := by decide +kernel
theorem k_head {sc : List Value} {sp d : Nat} {h : eg_H} (hsc : ab_osc sc) (hq : ab_hp h) (hk : kwok h) : mc sc sp 688 10 (d + 1 + 1 + 1 + 1 + 1 + 1) [.ref 0] h (hx_P h) := by
  have l0 : eg_find 0 (eg_args 0 [.ref 0]) = some (.ref 0) := rfl
  have hp := hq.1
  unfold mc
  refine hs_aload_n ci_688_0 l0 ?_
  refine hs_gfr 1 3 ci_688_1 (by decide +kernel) hp ?_
  refine hs_sipush ci_688_4 ?_
  refine hs_cv 692 8 1 ci_688_7 (by decide +kernel) (by decide +kernel) hp rfl (by rw [ml_692]; rfl) (k_open (lim := 900) hq kS_900 (by decide)) ?_
  rintro v9 hA ⟨e8, qA, fA, a6, a8, P, tk, ta, m, m1, m2, m3, m4, m5, m6, m7⟩
  rw [e8]
  clear e8 v9
  simp only [Option.toList, List.nil_append]
  replace hp := qA.1
  have kA : kwok hA := hk.fr fA (fun _ => rfl)
  have roA : ro hA tk ta m := ⟨m1, m2, m3, m6, m7⟩
  have cA : cu hA tk ta m 0 := ⟨by rw [a6]; rfl, fun g => by omega⟩
  have tsA : tks (bA h) (hv h 1 1).toInt.toNat 900 tk ta P m := ⟨m2, m1, m4, m5, m7⟩
  refine hs_aload_n ci_688_10 l0 ?_
  refine hs_gfr 3 22 ci_688_11 (by decide +kernel) hp ?_
  refine hs_cv 728 2 0 ci_688_14 (by decide +kernel) (by decide +kernel) hp rfl (by rw [ml_728]; rfl) (k_reads hsc qA kA roA cA) ?_
  rintro v9 hB ⟨qB, fB, rB, e8, hrB⟩
  rw [e8]
  clear e8 v9
  replace hp := qB.1
  simp only [Option.toList, List.cons_append, List.nil_append]
  refine hs_istore2_n ci_688_17 (by decide +kernel) ?_
  intro ls9 q9
  replace l0 := q9.2 0 _ (by decide) (Or.inl rfl) l0
  have l1 := q9.1
  clear q9
  refine hs_aload_n ci_688_18 l0 ?_
  refine hs_cv 831 10 0 ci_688_19 (by decide +kernel) (by decide +kernel) hp rfl (by rw [ml_831]; rfl) (k_close qB) ?_
  rintro v9 hC ⟨e8, qC, fC, c11⟩
  rw [e8]
  clear e8 v9
  simp only [Option.toList, List.nil_append]
  replace hp := qC.1
  have FC : ab_fr MHX hC h := (fr_sub (by decide +kernel) fC).tr ((fr_sub (by decide +kernel) fB).tr (fr_sub (by decide +kernel) fA))
  refine hs_iload_n ci_688_22 l1 ?_
  refine hs_if (t := 36) ci_688_23 rfl (fun b23 => ?_) (fun b23 => ?_)
  · simp only [hs_cd, ab_not] at b23
    obtain ⟨p, n, hx1, hx2⟩ : ∃ p n, sp_all tk ta 901 ps0 0 0 = .inr (p, n) ∧ (hv hB 22 2).toInt = (n : Int) := by
      rcases hrB with ⟨p, n, y1, -, y3, -⟩ | ⟨k, a, -, y2, -⟩
      · exact ⟨p, n, y1, y3⟩
      · omega
    have hx3 : (hv hC 22 2).toInt = (n : Int) := by rw [hv_same (fC 22 2 rfl)]; exact hx2
    refine hs_seg tr_hd36 rfl hsc (show 2 ≤ d + 1 + 1 + 1 + 1 + 1 + 1 by omega) (ar_ov (a := 0) (key := 22530) qC l0 (sb_v (a := 22) (k := 2) (lo := .negSucc 2147483647) (hi := .ofNat 2147483647) qC (by decide +kernel)).1) ?_
    rintro ν' ls' st' h' ⟨g1, -, -, g2, -, g3⟩ g4 g5
    obtain ⟨v, t, e1, ⟨z, rfl, -, hz⟩, e2⟩ := g2
    obtain rfl : t = [] := e2
    subst e1
    have hz2 : z.toInt = (n : Int) := by
      have e9 : ν' 2 = (hv hC 22 2).toInt := g4 2 (by decide)
      have hz : z.toInt = ν' 2 + 0 := hz
      omega
    refine hs_k ⟨3, some (.int z), by decide +kernel, by rw [rt_688]; rfl, g3, (fr_sub (by decide +kernel) g5).tr FC, ?_, z, tk, ta, P, m, rfl, tsA, ?_⟩
    · rw [hv_same (g5 1 1 rfl)]; exact c11
    · rw [hx1]; exact hz2
  · simp only [hs_cd, ab_not] at b23
    refine hs_iconst ci_688_26 ?_
    refine hs_aload_n ci_688_27 l0 ?_
    refine hs_gfr 1 3 ci_688_28 (by decide +kernel) hp ?_
    refine hs_gfi 9 ci_688_31 (by decide +kernel) hp ?_
    refine hs_isub ci_688_34 ?_
    obtain ⟨k, a, hx1, hx2⟩ : ∃ k a, sp_all tk ta 901 ps0 0 0 = .inl (k, a) ∧ flt hB k a := by
      rcases hrB with ⟨p, n, -, y2, -⟩ | ⟨k, a, y1, -, y3⟩
      · omega
      · exact ⟨k, a, y1, y3⟩
    have hx3 : (hv hC 3 9).toInt = (a : Int) := by rw [hv_same (fC 3 9 rfl)]; exact hx2.2
    have hx4 := ab_ile (hv hC 3 9)
    refine hs_k ⟨3, some (.int (Int32.ofInt (-1) - hv hC 3 9)), by decide +kernel, by rw [rt_688]; rfl, qC, FC, c11, _, tk, ta, P, m, rfl, tsA, ?_⟩
    rw [hx1]
    exact i32_sub kI_m1 hx3 (by omega) (by omega)
