/-! BY HAND: the class's reader: a clash -/
theorem ci_811_0 : ab_at 811 0 (.aload_n 0) 1 = true := by decide +kernel
theorem ci_811_1 : ab_at 811 1 (.getfield 12) 3 = true := by decide +kernel
theorem ci_811_4 : ab_at 811 4 (.getfield 158) 3 = true := by decide +kernel
theorem ci_811_7 : ab_at 811 7 (.bipush 8) 2 = true := by decide +kernel
theorem ci_811_9 : ab_at 811 9 (.if_icmp .lt 12) 3 = true := by decide +kernel
theorem ci_811_12 : ab_at 811 12 (.aload_n 0) 1 = true := by decide +kernel
theorem ci_811_13 : ab_at 811 13 (.getfield 18) 3 = true := by decide +kernel
theorem ci_811_16 : ab_at 811 16 (.iconst 4) 1 = true := by decide +kernel
theorem ci_811_17 : ab_at 811 17 (.invokevirtual 58) 3 = true := by decide +kernel
theorem ci_811_21 : ab_at 811 21 (.aload_n 0) 1 = true := by decide +kernel
theorem ci_811_22 : ab_at 811 22 (.invokevirtual 161) 3 = true := by decide +kernel
theorem ci_811_25 : ab_at 811 25 (.ifCond .ne 5) 3 = true := by decide +kernel
theorem ci_811_28 : ab_at 811 28 (.iconst 0) 1 = true := by decide +kernel
theorem ci_811_30 : ab_at 811 30 (.aload_n 0) 1 = true := by decide +kernel
theorem ci_811_31 : ab_at 811 31 (.getfield 136) 3 = true := by decide +kernel
theorem ci_811_34 : ab_at 811 34 (.istore_n 1) 1 = true := by decide +kernel
theorem ci_811_35 : ab_at 811 35 (.aload_n 0) 1 = true := by decide +kernel
theorem ci_811_36 : ab_at 811 36 (.invokevirtual 161) 3 = true := by decide +kernel
theorem ci_811_39 : ab_at 811 39 (.ifCond .ne 5) 3 = true := by decide +kernel
theorem ci_811_42 : ab_at 811 42 (.iconst 0) 1 = true := by decide +kernel
theorem ci_811_44 : ab_at 811 44 (.aload_n 0) 1 = true := by decide +kernel
theorem ci_811_45 : ab_at 811 45 (.getfield 136) 3 = true := by decide +kernel
theorem ci_811_48 : ab_at 811 48 (.istore_n 2) 1 = true := by decide +kernel
theorem ci_811_49 : ab_at 811 49 (.iload_n 1) 1 = true := by decide +kernel
theorem ci_811_50 : ab_at 811 50 (.iload_n 2) 1 = true := by decide +kernel
theorem ci_811_51 : ab_at 811 51 (.if_icmp .eq 19) 3 = true := by decide +kernel
theorem ci_811_54 : ab_at 811 54 (.aload_n 0) 1 = true := by decide +kernel
theorem ci_811_55 : ab_at 811 55 (.getfield 12) 3 = true := by decide +kernel
theorem ci_811_58 : ab_at 811 58 (.getfield 164) 3 = true := by decide +kernel
theorem ci_811_61 : ab_at 811 61 (.iload_n 1) 1 = true := by decide +kernel
theorem ci_811_62 : ab_at 811 62 (.iaload) 1 = true := by decide +kernel
theorem ci_811_63 : ab_at 811 63 (.iconst 1) 1 = true := by decide +kernel
theorem ci_811_64 : ab_at 811 64 (.iload_n 2) 1 = true := by decide +kernel
theorem ci_811_65 : ab_at 811 65 (.ishl) 1 = true := by decide +kernel
theorem ci_811_66 : ab_at 811 66 (.iand) 1 = true := by decide +kernel
theorem ci_811_67 : ab_at 811 67 (.ifCond .eq 12) 3 = true := by decide +kernel
theorem ci_811_70 : ab_at 811 70 (.aload_n 0) 1 = true := by decide +kernel
theorem ci_811_71 : ab_at 811 71 (.getfield 18) 3 = true := by decide +kernel
theorem ci_811_74 : ab_at 811 74 (.iconst 3) 1 = true := by decide +kernel
theorem ci_811_75 : ab_at 811 75 (.invokevirtual 58) 3 = true := by decide +kernel
theorem ci_811_79 : ab_at 811 79 (.aload_n 0) 1 = true := by decide +kernel
theorem ci_811_80 : ab_at 811 80 (.getfield 12) 3 = true := by decide +kernel
theorem ci_811_83 : ab_at 811 83 (.getfield 164) 3 = true := by decide +kernel
theorem ci_811_86 : ab_at 811 86 (.iload_n 1) 1 = true := by decide +kernel
theorem ci_811_87 : ab_at 811 87 (.dup2) 1 = true := by decide +kernel
theorem ci_811_88 : ab_at 811 88 (.iaload) 1 = true := by decide +kernel
theorem ci_811_89 : ab_at 811 89 (.iconst 1) 1 = true := by decide +kernel
theorem ci_811_90 : ab_at 811 90 (.iload_n 2) 1 = true := by decide +kernel
theorem ci_811_91 : ab_at 811 91 (.ishl) 1 = true := by decide +kernel
theorem ci_811_92 : ab_at 811 92 (.ior) 1 = true := by decide +kernel
theorem ci_811_93 : ab_at 811 93 (.iastore) 1 = true := by decide +kernel
theorem ci_811_94 : ab_at 811 94 (.aload_n 0) 1 = true := by decide +kernel
theorem ci_811_95 : ab_at 811 95 (.getfield 12) 3 = true := by decide +kernel
theorem ci_811_98 : ab_at 811 98 (.getfield 164) 3 = true := by decide +kernel
theorem ci_811_101 : ab_at 811 101 (.iload_n 2) 1 = true := by decide +kernel
theorem ci_811_102 : ab_at 811 102 (.dup2) 1 = true := by decide +kernel
theorem ci_811_103 : ab_at 811 103 (.iaload) 1 = true := by decide +kernel
theorem ci_811_104 : ab_at 811 104 (.iconst 1) 1 = true := by decide +kernel
theorem ci_811_105 : ab_at 811 105 (.iload_n 1) 1 = true := by decide +kernel
theorem ci_811_106 : ab_at 811 106 (.ishl) 1 = true := by decide +kernel
theorem ci_811_107 : ab_at 811 107 (.ior) 1 = true := by decide +kernel
theorem ci_811_108 : ab_at 811 108 (.iastore) 1 = true := by decide +kernel
theorem ci_811_109 : ab_at 811 109 (.aload_n 0) 1 = true := by decide +kernel
theorem ci_811_110 : ab_at 811 110 (.getfield 12) 3 = true := by decide +kernel
theorem ci_811_113 : ab_at 811 113 (.dup) 1 = true := by decide +kernel
theorem ci_811_114 : ab_at 811 114 (.getfield 158) 3 = true := by decide +kernel
theorem ci_811_117 : ab_at 811 117 (.iconst 1) 1 = true := by decide +kernel
theorem ci_811_118 : ab_at 811 118 (.iadd) 1 = true := by decide +kernel
theorem ci_811_119 : ab_at 811 119 (.putfield 158) 3 = true := by decide +kernel
theorem ci_811_122 : ab_at 811 122 (.iconst 1) 1 = true := by decide +kernel
theorem ml_815 : (eg_md 815).2.2.1 = 1 := by decide +kernel
theorem fb_and {a x : Int32} {k : Nat} (hx : x.toInt = (k : Int)) (hk : k < 32) : (a &&& (Int32.ofInt 1 <<< (x &&& 31))).toInt = 0 ↔ ¬ fb a k = true := by
  have e : x = Int32.ofNat k := i32_of hx hk
  subst e
  have e0 : (Int32.ofInt 1 <<< (Int32.ofNat k &&& 31)).toBitVec = (1#32) <<< k := by
    rw [Int32.toBitVec_shiftLeft, BitVec.shiftLeft_eq', ab_31 k hk]
    rfl
  have e1 : (a &&& (Int32.ofInt 1 <<< (Int32.ofNat k &&& 31))).toBitVec = if a.toBitVec.getLsbD k then BitVec.twoPow 32 k else 0#32 := by
    rw [Int32.toBitVec_and, e0]
    show a.toBitVec &&& BitVec.twoPow 32 k = _
    rw [BitVec.and_twoPow]
  unfold fb
  constructor
  · intro g gb
    have g1 : (a &&& (Int32.ofInt 1 <<< (Int32.ofNat k &&& 31))) = Int32.ofInt 0 := Int32.toInt_inj.mp (by rw [g]; rfl)
    have g2 : (a &&& (Int32.ofInt 1 <<< (Int32.ofNat k &&& 31))).toBitVec = 0#32 := by rw [g1]; rfl
    rw [e1, gb, if_pos rfl] at g2
    have g3 := congrArg (fun z => z.getLsbD k) g2
    simp only [BitVec.getLsbD_twoPow, BitVec.getLsbD_zero] at g3
    simp at g3
    omega
  · intro g
    have gb : a.toBitVec.getLsbD k = false := by
      cases hb : a.toBitVec.getLsbD k with
      | false => rfl
      | true => exact absurd hb g
    have g1 : (a &&& (Int32.ofInt 1 <<< (Int32.ofNat k &&& 31))).toBitVec = (Int32.ofInt 0).toBitVec := by
      rw [e1, gb]
      rfl
    rw [Int32.toBitVec_inj.mp g1]
    rfl
theorem fb_oi {a x : Int32} {k : Nat} (hx : x.toInt = (k : Int)) (hk : k < 32) (j : Nat) : fb (a ||| (Int32.ofInt 1 <<< (x &&& 31))) j = true ↔ (fb a j = true ∨ j = k) := by
  rw [fb_or hx hk, Bool.or_eq_true, Bool.and_eq_true, decide_eq_true_eq, decide_eq_true_eq]
  constructor
  · rintro (g | g)
    · exact Or.inl g
    · exact Or.inr g.2
  · rintro (g | g)
    · exact Or.inl g
    · exact Or.inr ⟨by omega, g⟩
theorem occ_same {ps ps' : PS} (e4 : ps'.1 4 = ps.1 4) (e5 : ps'.1 5 = ps.1 5) (e : ∀ a, a < 10 → ∀ q, ps'.2 a q = ps.2 a q) (x y : Int) : occ ps' x y ↔ occ ps x y := by
  unfold occ
  have h1 := e 1 (by decide)
  have h2 := e 2 (by decide)
  have h6 := e 6 (by decide)
  have h7 := e 7 (by decide)
  simp only [e4, e5, h1, h2, h6, h7]
abbrev MCH : ab_M := [(3, 6, 11), (22, 7, 9), (23, 6, 6), (34, 0, 9)]
/-- a clash more -/
theorem CP.clash {h h' : eg_H} {ps : PS} {p q : Nat} (hc : CP h ps) (f : ab_fr MCH h' h) (s6 : (hv h' 23 6).toInt = ps.1 6 + 1) (b : ∀ r, r < 10 → ∀ i, (fb (hv h' 34 r) i = true ↔ (fb (hv h 34 r) i = true ∨ (r = p ∧ i = q) ∨ (r = q ∧ i = p)))) : CP h' (uf ps.1 6 (ps.1 6 + 1), ug (ug ps.2 (10 + p) q 1) (10 + q) p 1) := by
  obtain ⟨c1, ⟨c2, c3, c4⟩, c5, c6, c7, c8, c9⟩ := hc
  have e2 : ∀ a, a < 10 → ∀ r, ug (ug ps.2 (10 + p) q 1) (10 + q) p 1 a r = ps.2 a r := fun a ha r => by rw [ug_n (by omega), ug_n (by omega)]
  have e20 := e2 0 (by decide)
  have e21 := e2 1 (by decide)
  have e22 := e2 2 (by decide)
  have e23 := e2 3 (by decide)
  have e24 := e2 4 (by decide)
  have e26 := e2 6 (by decide)
  have e27 := e2 7 (by decide)
  refine ⟨fun k hk => ?_, ⟨?_, ?_, ?_⟩, fun r hr => ?_, fun r hr => ?_, fun r hr i => ?_, fun x y hx hy => ?_, c9⟩
  · show _ = uf ps.1 6 (ps.1 6 + 1) k
    rw [uf_v]
    by_cases e : k = 6
    · rw [if_pos e, e]
      exact s6
    · rw [if_neg e]
      have : k = 0 ∨ k = 1 ∨ k = 2 ∨ k = 3 ∨ k = 4 ∨ k = 5 := by omega
      rcases this with rfl | rfl | rfl | rfl | rfl | rfl
      · rw [hv_same (f 23 0 rfl)]; exact c1 0 hk
      · rw [hv_same (f 23 1 rfl)]; exact c1 1 hk
      · rw [hv_same (f 23 2 rfl)]; exact c1 2 hk
      · rw [hv_same (f 23 3 rfl)]; exact c1 3 hk
      · rw [hv_same (f 23 4 rfl)]; exact c1 4 hk
      · rw [hv_same (f 23 5 rfl)]; exact c1 5 hk
  · rw [hv_same (f 22 3 rfl)]; exact c2
  · rw [hv_same (f 22 4 rfl)]; exact c3
  · rw [hv_same (f 22 5 rfl)]; exact c4
  · show (hl h' 24 r).toInt = ug (ug ps.2 (10 + p) q 1) (10 + q) p 1 0 r ∧ (hv h' 25 r).toInt = ug (ug ps.2 (10 + p) q 1) (10 + q) p 1 1 r ∧ (hv h' 26 r).toInt = ug (ug ps.2 (10 + p) q 1) (10 + q) p 1 2 r ∧ 0 ≤ ug (ug ps.2 (10 + p) q 1) (10 + q) p 1 1 r ∧ ug (ug ps.2 (10 + p) q 1) (10 + q) p 1 1 r ≤ 7 ∧ 0 ≤ ug (ug ps.2 (10 + p) q 1) (10 + q) p 1 2 r ∧ ug (ug ps.2 (10 + p) q 1) (10 + q) p 1 2 r ≤ 7
    rw [hl_same (f 24 r rfl), hv_same (f 25 r rfl), hv_same (f 26 r rfl), e20, e21, e22]
    exact c5 r hr
  · show (hl h' 27 r).toInt = ug (ug ps.2 (10 + p) q 1) (10 + q) p 1 3 r ∧ (hv h' 28 r).toInt = ug (ug ps.2 (10 + p) q 1) (10 + q) p 1 4 r ∧ (hv h' 30 r).toInt = ug (ug ps.2 (10 + p) q 1) (10 + q) p 1 6 r ∧ (hv h' 31 r).toInt = ug (ug ps.2 (10 + p) q 1) (10 + q) p 1 7 r ∧ 0 ≤ ug (ug ps.2 (10 + p) q 1) (10 + q) p 1 6 r ∧ ug (ug ps.2 (10 + p) q 1) (10 + q) p 1 6 r ≤ 7 ∧ 0 ≤ ug (ug ps.2 (10 + p) q 1) (10 + q) p 1 7 r ∧ ug (ug ps.2 (10 + p) q 1) (10 + q) p 1 7 r ≤ 7
    rw [hl_same (f 27 r rfl), hv_same (f 28 r rfl), hv_same (f 30 r rfl), hv_same (f 31 r rfl), e23, e24, e26, e27]
    exact c6 r hr
  · refine (b r hr i).trans ?_
    have g := c7 r hr i
    show _ ↔ ug (ug ps.2 (10 + p) q 1) (10 + q) p 1 (10 + r) i ≠ 0
    rw [ug_v, ug_v]
    by_cases e1 : r = q ∧ i = p
    · rw [if_pos (by omega)]
      exact ⟨fun _ => by decide, fun _ => Or.inr (Or.inr e1)⟩
    · rw [if_neg (by omega)]
      by_cases e3 : r = p ∧ i = q
      · rw [if_pos (by omega)]
        exact ⟨fun _ => by decide, fun _ => Or.inr (Or.inl e3)⟩
      · rw [if_neg (by omega)]
        constructor
        · rintro (g2 | g2 | g2)
          · exact g.mp g2
          · exact absurd g2 e3
          · exact absurd g2 e1
        · intro g2
          exact Or.inl (g.mpr g2)
  · rw [hl_same (f 22 6 rfl)]
    refine (c8 x y hx hy).trans ?_
    exact (occ_same (ps := ps) (ps' := (uf ps.1 6 (ps.1 6 + 1), ug (ug ps.2 (10 + p) q 1) (10 + q) p 1)) rfl rfl e2 x y).symm
theorem rt_811 : (eg_md 811).2.2.2 = some .boolean := by decide +kernel
theorem k_clash {sc : List Value} {sp d : Nat} {h : eg_H} {tk : Nat → tx_K} {ta : Nat → Nat} {m j : Nat} {ps : PS} (hq : ab_hp h) (hk : kwok h) (hr : ro h tk ta m) (hc : cu h tk ta m j) (hj : 1 ≤ j) (hP : CP h ps) : mc sc sp 811 2 (d + 1 + 1 + 1) [.ref 22] h (ln_P h tk ta m (sp_clash tk ta ps j)) := by
  have l0 : eg_find 0 (eg_args 0 [.ref 22]) = some (.ref 22) := rfl
  have hp := hq.1
  have hcj := hc.2 hj
  have e6 : (hv h 23 6).toInt = ps.1 6 := hP.1 6 (by omega)
  have hb9 := hP.2.2.2.2.2.2
  unfold mc
  refine hs_aload_n ci_811_0 l0 ?_
  refine hs_gfr 1 23 ci_811_1 (by decide +kernel) hp ?_
  refine hs_gfi 6 ci_811_4 (by decide +kernel) hp ?_
  refine hs_bipush ci_811_7 ?_
  refine hs_ic (t := 21) ci_811_9 rfl (fun b9 => ?_) (fun b9 => ?_)
  · simp only [hs_cd, ab_not, kB_8] at b9
    refine hs_aload_n ci_811_21 l0 ?_
    refine hs_cv 815 2 0 ci_811_22 (by decide +kernel) (by decide +kernel) hp rfl (by rw [ml_815]; rfl) (k_tprm hq hk hr hc hP) ?_
    rintro v9 hA ⟨qA, fA, rA, e8, hrA⟩
    rw [e8]
    clear e8 v9
    replace hp := qA.1
    simp only [Option.toList, List.cons_append, List.nil_append]
    refine hs_if (t := 30) ci_811_25 rfl (fun b25 => ?_) (fun b25 => ?_)
    · simp only [hs_cd, ab_not] at b25
      obtain ⟨p, hp1, hcA, hp2⟩ : ∃ g, sp_old ps 3 5 (tk j) (ta j) = .inr g ∧ cu hA tk ta m (j + 1) ∧ (hv hA 22 9).toInt = g := by
        rcases hrA with ⟨g, y1, -, y3, y4⟩ | ⟨k, a, -, y2, -⟩
        · exact ⟨g, y1, y3, y4⟩
        · omega
      have bp := sp_old_b hp1
      have kA : kwok hA := hk.fr fA (fun _ => rfl)
      have rrA : ro hA tk ta m := hr.fr (fr_sub (by decide +kernel) fA)
      have PA : CP hA ps := hP.fr fA
      refine hs_aload_n ci_811_30 l0 ?_
      refine hs_gfi 9 ci_811_31 (by decide +kernel) hp ?_
      refine hs_istore2_n ci_811_34 (by decide +kernel) ?_
      intro ls9 q9
      replace l0 := q9.2 0 _ (by decide) (Or.inl rfl) l0
      have l1 := q9.1
      clear q9
      refine hs_aload_n ci_811_35 l0 ?_
      refine hs_cv 815 2 0 ci_811_36 (by decide +kernel) (by decide +kernel) hp rfl (by rw [ml_815]; rfl) (k_tprm qA kA rrA hcA PA) ?_
      rintro v9 hB ⟨qB, fB, rB, e8, hrB⟩
      rw [e8]
      clear e8 v9
      replace hp := qB.1
      simp only [Option.toList, List.cons_append, List.nil_append]
      refine hs_if (t := 44) ci_811_39 rfl (fun b39 => ?_) (fun b39 => ?_)
      · simp only [hs_cd, ab_not] at b39
        obtain ⟨q, hq1, hcB, hq2⟩ : ∃ g, sp_old ps 3 5 (tk (j + 1)) (ta (j + 1)) = .inr g ∧ cu hB tk ta m (j + 1 + 1) ∧ (hv hB 22 9).toInt = g := by
          rcases hrB with ⟨g, y1, -, y3, y4⟩ | ⟨k, a, -, y2, -⟩
          · exact ⟨g, y1, y3, y4⟩
          · omega
        have bq := sp_old_b hq1
        have PB : CP hB ps := PA.fr fB
        have ep : (hv hA 22 9).toInt = ((p.toNat : Nat) : Int) := by omega
        have eq9 : (hv hB 22 9).toInt = ((q.toNat : Nat) : Int) := by omega
        have ep2 : (hv hA 22 9).toInt.toNat = p.toNat := by omega
        have eq2 : (hv hB 22 9).toInt.toNat = q.toNat := by omega
        clear hrA hrB
        refine hs_aload_n ci_811_44 l0 ?_
        refine hs_gfi 9 ci_811_45 (by decide +kernel) hp ?_
        refine hs_istore2_n ci_811_48 (by decide +kernel) ?_
        intro ls9 q9
        replace l0 := q9.2 0 _ (by decide) (Or.inl rfl) l0
        replace l1 := q9.2 1 _ (by decide) (Or.inl rfl) l1
        have l2 := q9.1
        clear q9
        refine hs_iload_n ci_811_49 l1 ?_
        refine hs_iload_n ci_811_50 l2 ?_
        refine hs_ic (t := 70) ci_811_51 rfl (fun b51 => ?_) (fun b51 => ?_)
        · simp only [hs_cd, ab_not] at b51
          refine hs_aload_n ci_811_70 l0 ?_
          refine hs_gfr 0 3 ci_811_71 (by decide +kernel) hp ?_
          refine hs_iconst ci_811_74 ?_
          refine hs_cv 748 8 1 ci_811_75 (by decide +kernel) (by decide +kernel) hp rfl (by rw [ml_748]; rfl) (k_fail (Int32.ofInt 3) qB) ?_
          rintro v9 h2 ⟨r2, e8, hr2, q2, f2, g8, g9⟩
          rw [e8]
          clear e8 v9
          replace hp := q2.1
          simp only [Option.toList, List.cons_append, List.nil_append]
          refine hs_k ⟨3, some (.int r2), by decide +kernel, rv_b rt_811 (Or.inl hr2), q2, (fr_sub (M := MRD) (by decide +kernel) f2).tr ((fr_sub (M := MRD) (by decide +kernel) fB).tr (fr_sub (M := MRD) (by decide +kernel) fA)), _, rfl, Or.inr ⟨3, ta (j + 1), ?_, hr2, g8.trans kI_3, by rw [g9]; exact (hcB.2 (by omega)).1⟩⟩
          unfold sp_clash
          rw [if_neg (by omega), sbn_r hp1, sbn_r hq1, if_pos (Or.inl (by omega))]
        · simp only [hs_cd, ab_not] at b51
          refine hs_aload_n ci_811_54 l0 ?_
          refine hs_gfr 1 23 ci_811_55 (by decide +kernel) hp ?_
          refine hs_gfr 17 34 ci_811_58 (by decide +kernel) hp ?_
          refine hs_iload_n ci_811_61 l1 ?_
          refine hs_iaload 0 9 (-2147483648) (2147483647) ci_811_62 (by decide +kernel) hp (by omega) (by omega) (fun r62_1 r62_2 => ?_)
          refine hs_iconst ci_811_63 ?_
          refine hs_iload_n ci_811_64 l2 ?_
          refine hs_ishl ci_811_65 ?_
          refine hs_iand ci_811_66 ?_
          refine hs_if (t := 79) ci_811_67 rfl (fun b67 => ?_) (fun b67 => ?_)
          · simp only [hs_cd, ab_not] at b67
            refine hs_aload_n ci_811_79 l0 ?_
            refine hs_gfr 1 23 ci_811_80 (by decide +kernel) hp ?_
            refine hs_gfr 17 34 ci_811_83 (by decide +kernel) hp ?_
            refine hs_iload_n ci_811_86 l1 ?_
            refine hs_d2 ci_811_87 rfl ?_
            refine hs_iaload 0 9 (-2147483648) (2147483647) ci_811_88 (by decide +kernel) hp (by omega) (by omega) (fun r88_1 r88_2 => ?_)
            refine hs_iconst ci_811_89 ?_
            refine hs_iload_n ci_811_90 l2 ?_
            refine hs_ishl ci_811_91 ?_
            refine hs_ior ci_811_92 ?_
            refine hs_iastore 0 9 (-2147483648) (2147483647) ci_811_93 (by decide +kernel) hp (by omega) (by omega) (ab_ige _) (ab_ile _) ?_
            intro h93 w93
            replace hp := w93.1
            refine hs_aload_n ci_811_94 l0 ?_
            refine hs_gfr 1 23 ci_811_95 (by decide +kernel) hp ?_
            refine hs_gfr 17 34 ci_811_98 (by decide +kernel) hp ?_
            refine hs_iload_n ci_811_101 l2 ?_
            refine hs_d2 ci_811_102 rfl ?_
            refine hs_iaload 0 9 (-2147483648) (2147483647) ci_811_103 (by decide +kernel) hp (by omega) (by omega) (fun r103_1 r103_2 => ?_)
            refine hs_iconst ci_811_104 ?_
            refine hs_iload_n ci_811_105 l1 ?_
            refine hs_ishl ci_811_106 ?_
            refine hs_ior ci_811_107 ?_
            refine hs_iastore 0 9 (-2147483648) (2147483647) ci_811_108 (by decide +kernel) hp (by omega) (by omega) (ab_ige _) (ab_ile _) ?_
            intro h108 w108
            replace hp := w108.1
            refine hs_aload_n ci_811_109 l0 ?_
            refine hs_gfr 1 23 ci_811_110 (by decide +kernel) hp ?_
            refine hs_dup ci_811_113 rfl ?_
            refine hs_gfi 6 ci_811_114 (by decide +kernel) hp ?_
            refine hs_iconst ci_811_117 ?_
            refine hs_iadd ci_811_118 ?_
            refine hs_pfi 6 (-2147483648) (2147483647) ci_811_119 (by decide +kernel) hp (ab_ige _) (ab_ile _) ?_
            intro h119 w119
            replace hp := w119.1
            refine hs_iconst ci_811_122 ?_
            have nf : ¬ fb (hv hB 34 p.toNat) q.toNat = true := by
              have g := (fb_and eq9 (by omega)).mp b67
              rw [ep2] at g
              exact g
            have f93 : ab_fr [(34, 0, 9)] h93 hB := w93.f9 (n := 9) rfl (by omega)
            have f108 : ab_fr [(34, 0, 9)] h108 h93 := w108.f9 (n := 9) rfl (by omega)
            have f119 : ab_fr [(23, 6, 6)] h119 h108 := w119.fr rfl
            have F0 : ab_fr MCH h119 h := (fr_sub (by decide +kernel) f119).tr ((fr_sub (by decide +kernel) f108).tr ((fr_sub (by decide +kernel) f93).tr ((fr_sub (by decide +kernel) fB).tr (fr_sub (by decide +kernel) fA))))
            have fT : ab_fr MRD h119 h := fr_sub (by decide +kernel) F0
            have e66 : hv h108 23 6 = hv h 23 6 := by rw [hv_same (f108 23 6 rfl), hv_same (f93 23 6 rfl), hv_same (fB 23 6 rfl), hv_same (fA 23 6 rfl)]
            have h34 : ∀ r, hv hB 34 r = hv h 34 r := fun r => by rw [hv_same (fB 34 r rfl), hv_same (fA 34 r rfl)]
            refine hs_k ⟨3, some (.int (Int32.ofInt 1)), by decide +kernel, rv_b rt_811 (Or.inr (by decide)), ⟨hp, hq.2.fr (M := MRD) (by decide +kernel) fT⟩, fT, _, rfl, Or.inl ⟨_, j + 2, ?_, by decide, by omega, ?_, hP.clash (p := p.toNat) (q := q.toNat) F0 ?_ (fun r hr i => ?_)⟩⟩
            · unfold sp_clash
              rw [if_neg (by omega), sbn_r hp1, sbn_r hq1, if_neg]
              rintro (g | g)
              · omega
              · exact nf ((PB.2.2.2.2.1 p.toNat (by omega) q.toNat).mpr g)
            · exact ((hcB.fr f93 rfl rfl rfl rfl (fun _ => rfl)).fr f108 rfl rfl rfl rfl (fun _ => rfl)).fr f119 rfl rfl rfl rfl (fun _ => rfl)
            · rw [w119.v, if_pos ⟨rfl, rfl⟩, e66, i32_inc e6 (by have := ab_ige (hv h 23 6); omega) (by omega)]
            · rw [hv_same (f119 34 r rfl), w108.v, ← h34 r]
              by_cases e1 : r = q.toNat
              · rw [if_pos ⟨rfl, by omega⟩, fb_oi ep (by omega), w93.v, if_neg (by omega), eq2, e1]
                constructor
                · rintro (g | g)
                  · exact Or.inl g
                  · exact Or.inr (Or.inr ⟨rfl, g⟩)
                · rintro (g | g | g)
                  · exact Or.inl g
                  · omega
                  · exact Or.inr g.2
              · rw [if_neg (by omega), w93.v]
                by_cases e2 : r = p.toNat
                · rw [if_pos ⟨rfl, by omega⟩, fb_oi eq9 (by omega), ep2, e2]
                  constructor
                  · rintro (g | g)
                    · exact Or.inl g
                    · exact Or.inr (Or.inl ⟨rfl, g⟩)
                  · rintro (g | g | g)
                    · exact Or.inl g
                    · exact Or.inr g.2
                    · omega
                · rw [if_neg (by omega)]
                  constructor
                  · intro g
                    exact Or.inl g
                  · rintro (g | g | g)
                    · exact g
                    · omega
                    · omega
          · simp only [hs_cd, ab_not] at b67
            refine hs_aload_n ci_811_70 l0 ?_
            refine hs_gfr 0 3 ci_811_71 (by decide +kernel) hp ?_
            refine hs_iconst ci_811_74 ?_
            refine hs_cv 748 8 1 ci_811_75 (by decide +kernel) (by decide +kernel) hp rfl (by rw [ml_748]; rfl) (k_fail (Int32.ofInt 3) qB) ?_
            rintro v9 h2 ⟨r2, e8, hr2, q2, f2, g8, g9⟩
            rw [e8]
            clear e8 v9
            replace hp := q2.1
            simp only [Option.toList, List.cons_append, List.nil_append]
            refine hs_k ⟨3, some (.int r2), by decide +kernel, rv_b rt_811 (Or.inl hr2), q2, (fr_sub (M := MRD) (by decide +kernel) f2).tr ((fr_sub (M := MRD) (by decide +kernel) fB).tr (fr_sub (M := MRD) (by decide +kernel) fA)), _, rfl, Or.inr ⟨3, ta (j + 1), ?_, hr2, g8.trans kI_3, by rw [g9]; exact (hcB.2 (by omega)).1⟩⟩
            unfold sp_clash
            rw [if_neg (by omega), sbn_r hp1, sbn_r hq1, if_pos (Or.inr ((PB.2.2.2.2.1 p.toNat (by omega) q.toNat).mp (Classical.byContradiction (fun g => b67 ((fb_and eq9 (by omega)).mpr (by rw [ep2]; exact g))))))]
      · simp only [hs_cd, ab_not] at b39
        refine hs_iconst ci_811_42 ?_
        rcases hrB with ⟨g, -, y2, -⟩ | ⟨k, a, y1, y2, y3⟩
        · omega
        · refine hs_k ⟨3, some (.int (Int32.ofInt 0)), by decide +kernel, rv_b rt_811 (Or.inl (by decide)), qB, (fr_sub (M := MRD) (by decide +kernel) fB).tr (fr_sub (M := MRD) (by decide +kernel) fA), _, rfl, Or.inr ⟨k, a, ?_, by decide, y3⟩⟩
          unfold sp_clash
          rw [if_neg (by omega), sbn_r hp1, sbn_l y1]
    · simp only [hs_cd, ab_not] at b25
      refine hs_iconst ci_811_28 ?_
      rcases hrA with ⟨g, -, y2, -⟩ | ⟨k, a, y1, y2, y3⟩
      · omega
      · refine hs_k ⟨3, some (.int (Int32.ofInt 0)), by decide +kernel, rv_b rt_811 (Or.inl (by decide)), qA, fr_sub (M := MRD) (by decide +kernel) fA, _, rfl, Or.inr ⟨k, a, ?_, by decide, y3⟩⟩
        unfold sp_clash
        rw [if_neg (by omega), sbn_l y1]
  · simp only [hs_cd, ab_not, kB_8] at b9
    refine hs_aload_n ci_811_12 l0 ?_
    refine hs_gfr 0 3 ci_811_13 (by decide +kernel) hp ?_
    refine hs_iconst ci_811_16 ?_
    refine hs_cv 748 8 1 ci_811_17 (by decide +kernel) (by decide +kernel) hp rfl (by rw [ml_748]; rfl) (k_fail (Int32.ofInt 4) hq) ?_
    rintro v9 h2 ⟨r2, e8, hr2, q2, f2, g8, g9⟩
    rw [e8]
    clear e8 v9
    replace hp := q2.1
    simp only [Option.toList, List.cons_append, List.nil_append]
    refine hs_k ⟨3, some (.int r2), by decide +kernel, rv_b rt_811 (Or.inl hr2), q2, fr_sub (by decide +kernel) f2, _, rfl, Or.inr ⟨4, ta (j - 1), ?_, hr2, g8.trans kI_4, by rw [g9]; exact hcj.1⟩⟩
    unfold sp_clash
    rw [if_pos (by omega)]
