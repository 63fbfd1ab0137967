/-! BY HAND: the class's reader: lines of numbers -/
theorem ci_819_0 : ab_at 819 0 (.aload_n 0) 1 = true := by decide +kernel
theorem ci_819_1 : ab_at 819 1 (.getfield 29) 3 = true := by decide +kernel
theorem ci_819_4 : ab_at 819 4 (.ifCond .eq 12) 3 = true := by decide +kernel
theorem ci_819_7 : ab_at 819 7 (.aload_n 0) 1 = true := by decide +kernel
theorem ci_819_8 : ab_at 819 8 (.getfield 18) 3 = true := by decide +kernel
theorem ci_819_11 : ab_at 819 11 (.iconst 3) 1 = true := by decide +kernel
theorem ci_819_12 : ab_at 819 12 (.invokevirtual 58) 3 = true := by decide +kernel
theorem ci_819_16 : ab_at 819 16 (.aload_n 0) 1 = true := by decide +kernel
theorem ci_819_17 : ab_at 819 17 (.iconst 1) 1 = true := by decide +kernel
theorem ci_819_18 : ab_at 819 18 (.putfield 29) 3 = true := by decide +kernel
theorem ci_819_21 : ab_at 819 21 (.aload_n 0) 1 = true := by decide +kernel
theorem ci_819_22 : ab_at 819 22 (.getfield 18) 3 = true := by decide +kernel
theorem ci_819_25 : ab_at 819 25 (.iconst 0) 1 = true := by decide +kernel
theorem ci_819_26 : ab_at 819 26 (.bipush 9) 2 = true := by decide +kernel
theorem ci_819_28 : ab_at 819 28 (.invokevirtual 80) 3 = true := by decide +kernel
theorem ci_819_31 : ab_at 819 31 (.ifCond .ne 5) 3 = true := by decide +kernel
theorem ci_819_34 : ab_at 819 34 (.iconst 0) 1 = true := by decide +kernel
theorem ci_819_36 : ab_at 819 36 (.aload_n 0) 1 = true := by decide +kernel
theorem ci_819_37 : ab_at 819 37 (.getfield 12) 3 = true := by decide +kernel
theorem ci_819_40 : ab_at 819 40 (.aload_n 0) 1 = true := by decide +kernel
theorem ci_819_41 : ab_at 819 41 (.getfield 18) 3 = true := by decide +kernel
theorem ci_819_44 : ab_at 819 44 (.invokevirtual 84) 3 = true := by decide +kernel
theorem ci_819_47 : ab_at 819 47 (.putfield 167) 3 = true := by decide +kernel
theorem ci_819_50 : ab_at 819 50 (.iconst 1) 1 = true := by decide +kernel
theorem ci_823_0 : ab_at 823 0 (.aload_n 0) 1 = true := by decide +kernel
theorem ci_823_1 : ab_at 823 1 (.getfield 32) 3 = true := by decide +kernel
theorem ci_823_4 : ab_at 823 4 (.ifCond .eq 12) 3 = true := by decide +kernel
theorem ci_823_7 : ab_at 823 7 (.aload_n 0) 1 = true := by decide +kernel
theorem ci_823_8 : ab_at 823 8 (.getfield 18) 3 = true := by decide +kernel
theorem ci_823_11 : ab_at 823 11 (.iconst 3) 1 = true := by decide +kernel
theorem ci_823_12 : ab_at 823 12 (.invokevirtual 58) 3 = true := by decide +kernel
theorem ci_823_16 : ab_at 823 16 (.aload_n 0) 1 = true := by decide +kernel
theorem ci_823_17 : ab_at 823 17 (.iconst 1) 1 = true := by decide +kernel
theorem ci_823_18 : ab_at 823 18 (.putfield 32) 3 = true := by decide +kernel
theorem ci_823_21 : ab_at 823 21 (.aload_n 0) 1 = true := by decide +kernel
theorem ci_823_22 : ab_at 823 22 (.getfield 18) 3 = true := by decide +kernel
theorem ci_823_25 : ab_at 823 25 (.iconst 0) 1 = true := by decide +kernel
theorem ci_823_26 : ab_at 823 26 (.bipush 12) 2 = true := by decide +kernel
theorem ci_823_28 : ab_at 823 28 (.invokevirtual 80) 3 = true := by decide +kernel
theorem ci_823_31 : ab_at 823 31 (.ifCond .ne 5) 3 = true := by decide +kernel
theorem ci_823_34 : ab_at 823 34 (.iconst 0) 1 = true := by decide +kernel
theorem ci_823_36 : ab_at 823 36 (.aload_n 0) 1 = true := by decide +kernel
theorem ci_823_37 : ab_at 823 37 (.getfield 12) 3 = true := by decide +kernel
theorem ci_823_40 : ab_at 823 40 (.aload_n 0) 1 = true := by decide +kernel
theorem ci_823_41 : ab_at 823 41 (.getfield 18) 3 = true := by decide +kernel
theorem ci_823_44 : ab_at 823 44 (.invokevirtual 84) 3 = true := by decide +kernel
theorem ci_823_47 : ab_at 823 47 (.putfield 170) 3 = true := by decide +kernel
theorem ci_823_50 : ab_at 823 50 (.iconst 1) 1 = true := by decide +kernel
theorem ml_752 : (eg_md 752).2.2.1 = 3 := by decide +kernel
theorem kB_12 : (Int8.ofInt (12)).toInt32.toInt = 12 := by decide +kernel
theorem kB_9 : (Int8.ofInt (9)).toInt32.toInt = 9 := by decide +kernel
theorem i64_to32 {x : Int64} {a : Int} (hx : x.toInt = a) (h1 : -2147483648 ≤ a) (h2 : a ≤ 2147483647) : x.toInt32.toInt = a := by
  rw [Int64.toInt_toInt32, hx]
  exact Int.bmod_eq_of_le (by omega) (by omega)
/-- a line is read -/
def ln_P (h : eg_H) (tk : Nat → tx_K) (ta : Nat → Nat) (m : Nat) (x : Sum ER (PS × Nat)) (vo : Option Value) (h' : eg_H) : Prop := ab_hp h' ∧ ab_fr MRD h' h ∧ ∃ r : Int32, vo = some (.int r) ∧ ((∃ p j', x = .inr (p, j') ∧ r.toInt = 1 ∧ 1 ≤ j' ∧ cu h' tk ta m j' ∧ CP h' p) ∨ (∃ k a, x = .inl (k, a) ∧ r.toInt = 0 ∧ flt h' k a))
abbrev MSC : ab_M := [(3, 6, 11), (22, 2, 5), (22, 7, 9), (23, 0, 6)]
abbrev MSD : ab_M := [(3, 6, 11), (22, 3, 5), (22, 7, 9), (23, 0, 6)]
theorem CP.scal {h h' : eg_H} {ps : PS} {f' : Nat → Int} (c : CP h ps) (f : ab_fr MSC h' h) (e4 : f' 4 = ps.1 4) (e5 : f' 5 = ps.1 5) (s : ∀ k, k < 7 → (hv h' 23 k).toInt = f' k) (s7 : (hv h' 22 3).toInt = f' 7) (s8 : (hv h' 22 4).toInt = f' 8) (s9 : (hv h' 22 5).toInt = f' 9) (b : 2 ≤ f' 0 ∧ f' 0 ≤ 8 ∧ 2 ≤ f' 1 ∧ f' 1 ≤ 8) : CP h' (f', ps.2) := by
  obtain ⟨c1, ⟨c2, c3, c4⟩, c5, c6, c7, c8, c9⟩ := c
  refine ⟨s, ⟨s7, s8, s9⟩, fun q hq => ?_, fun q hq => ?_, fun q hq => by rw [hv_same (f 34 q rfl)]; exact c7 q hq, fun x y hx hy => ?_, ⟨b.1, b.2.1, b.2.2.1, b.2.2.2, ?_⟩⟩
  · rw [hl_same (f 24 q rfl), hv_same (f 25 q rfl), hv_same (f 26 q rfl)]
    have hq : (q : Int) < f' 4 := hq
    exact c5 q (by omega)
  · rw [hl_same (f 27 q rfl), hv_same (f 28 q rfl), hv_same (f 30 q rfl), hv_same (f 31 q rfl)]
    have hq : (q : Int) < f' 5 := hq
    exact c6 q (by omega)
  · rw [hl_same (f 22 6 rfl)]
    refine (c8 x y hx hy).trans ?_
    unfold occ
    show ((∃ m : Nat, (m : Int) < ps.1 4 ∧ _) ∨ _) ↔ ((∃ m : Nat, (m : Int) < f' 4 ∧ _) ∨ (∃ p : Nat, (p : Int) < f' 5 ∧ _))
    rw [e4, e5]
  · show 0 ≤ f' 4 ∧ f' 4 ≤ 6 ∧ 0 ≤ f' 5 ∧ f' 5 ≤ 10
    rw [e4, e5]
    exact c9.2.2.2.2
theorem sp_num_b {t : tx_K} {a : Nat} {lo hi v : Int} (h : sp_num t a lo hi = .inr v) : lo ≤ v ∧ v ≤ hi := by
  unfold sp_num at h
  split at h
  · split at h
    next g =>
      cases h
      exact g
    next => cases h
  · cases h
theorem rt_819 : (eg_md 819).2.2.2 = some .boolean := by decide +kernel
theorem k_grow {sc : List Value} {sp d : Nat} {h : eg_H} {tk : Nat → tx_K} {ta : Nat → Nat} {m j : Nat} {ps : PS} (hq : ab_hp h) (hk : kwok h) (hr : ro h tk ta m) (hc : cu h tk ta m j) (hj : 1 ≤ j) (hP : CP h ps) : mc sc sp 819 2 (d + 1 + 1) [.ref 22] h (ln_P h tk ta m (sp_grow tk ta ps j)) := by
  have l0 : eg_find 0 (eg_args 0 [.ref 22]) = some (.ref 22) := rfl
  have hp := hq.1
  have hcj := hc.2 hj
  have hs0 := hP.2.1
  unfold mc
  refine hs_aload_n ci_819_0 l0 ?_
  refine hs_gfi 4 ci_819_1 (by decide +kernel) hp ?_
  refine hs_if (t := 16) ci_819_4 rfl (fun b4 => ?_) (fun b4 => ?_)
  · simp only [hs_cd, ab_not] at b4
    refine hs_aload_n ci_819_16 l0 ?_
    refine hs_iconst ci_819_17 ?_
    refine hs_pfi 4 (0) (1) ci_819_18 (by decide +kernel) hp (by decide) (by decide) ?_
    intro h18 w18
    replace hp := w18.1
    refine hs_aload_n ci_819_21 l0 ?_
    refine hs_gfr 0 3 ci_819_22 (by decide +kernel) hp ?_
    refine hs_iconst ci_819_25 ?_
    refine hs_bipush ci_819_26 ?_
    have f18 : ab_fr [(22, 3, 5)] h18 h := w18.fr rfl
    have q18 : ab_hp h18 := ⟨hp, hq.2.fr (M := [(22, 3, 5)]) (by decide +kernel) f18⟩
    have c18 : cu h18 tk ta m j := hc.fr f18 rfl rfl rfl rfl (fun _ => rfl)
    refine hs_cv 752 8 2 ci_819_28 (by decide +kernel) (by decide +kernel) hp rfl (by rw [ml_752]; rfl) (k_num (lo := Int32.ofInt 0) (hi := (Int8.ofInt 9).toInt32) q18 (hk.fr f18 (fun _ => rfl)) (hr.fr (fr_sub (by decide +kernel) f18)) c18) ?_
    rintro v9 h1 ⟨q1, f1, c1, r1, e8, hr1⟩
    rw [e8]
    clear e8 v9
    replace hp := q1.1
    have k0 : (Int32.ofInt 0).toInt = 0 := kI_0
    have k9 : (Int8.ofInt 9).toInt32.toInt = 9 := kB_9
    rw [k0, k9] at hr1
    simp only [Option.toList, List.cons_append, List.nil_append]
    refine hs_if (t := 36) ci_819_31 rfl (fun b31 => ?_) (fun b31 => ?_)
    · simp only [hs_cd, ab_not] at b31
      refine hs_aload_n ci_819_36 l0 ?_
      refine hs_gfr 1 23 ci_819_37 (by decide +kernel) hp ?_
      refine hs_aload_n ci_819_40 l0 ?_
      refine hs_gfr 0 3 ci_819_41 (by decide +kernel) hp ?_
      refine hs_cv 758 8 0 ci_819_44 (by decide +kernel) (by decide +kernel) hp rfl (by rw [ml_758]; rfl) (k_int q1) ?_
      rintro v9 h9 ⟨e9, e8⟩
      rw [e8, e9]
      clear e8 e9 v9 h9
      obtain ⟨v, hv1, hv2⟩ : ∃ v, sp_num (tk j) (ta j) 0 9 = .inr v ∧ (hl h1 3 11).toInt = v := by
        rcases hr1 with ⟨v, y1, -, y3⟩ | ⟨k, a, -, y2, -⟩
        · exact ⟨v, y1, y3⟩
        · omega
      have hvb := sp_num_b hv1
      have hv3 : (hl h1 3 11).toInt32.toInt = v := i64_to32 hv2 (by omega) (by omega)
      simp only [Option.toList, List.cons_append, List.nil_append]
      refine hs_pfi 2 (-2147483648) (2147483647) ci_819_47 (by decide +kernel) hp (ab_ige _) (ab_ile _) ?_
      intro h47 w47
      replace hp := w47.1
      refine hs_iconst ci_819_50 ?_
      have hfl : (hv h 22 4).toInt = ps.1 8 := hs0.2.1
      have f47 : ab_fr MSD h47 h := (w47.fr (M := MSD) rfl).tr ((fr_sub (M := MSD) (by decide +kernel) f1).tr (w18.fr (M := MSD) rfl))
      have g22 : ∀ k, hv h47 22 k = hv h18 22 k := fun k => by rw [w47.v, if_neg (by omega), hv_same (f1 22 k rfl)]
      refine hs_k ⟨3, some (.int (Int32.ofInt 1)), by decide +kernel, rv_b rt_819 (Or.inr (by decide)), ⟨hp, hq.2.fr (M := MSD) (by decide +kernel) f47⟩, fr_sub (by decide +kernel) f47, _, rfl, Or.inl ⟨(uf (uf ps.1 8 1) 2 v, ps.2), j + 1, ?_, by decide, by omega, c1.fr (M := [(23, 0, 6)]) (w47.fr rfl) rfl rfl rfl rfl (fun _ => rfl), ?_⟩⟩
      · unfold sp_grow
        rw [if_neg (by omega), sbn_r hv1]
      · refine hP.scal (fr_sub (by decide +kernel) f47) rfl rfl (fun k hk => ?_) ?_ ?_ ?_ ⟨hP.2.2.2.2.2.2.1, hP.2.2.2.2.2.2.2.1, hP.2.2.2.2.2.2.2.2.1, hP.2.2.2.2.2.2.2.2.2.1⟩
        · rw [uf_v, w47.v]
          by_cases e : k = 2
          · rw [if_pos ⟨rfl, e⟩, if_pos e]
            exact hv3
          · rw [if_neg (fun g => e g.2), if_neg e, uf_v, if_neg (by omega), hv_same (f1 23 k rfl), w18.v, if_neg (by omega)]
            exact hP.1 k hk
        · rw [g22, w18.v, if_neg (by omega)]
          exact hs0.1
        · rw [g22, w18.v, if_pos ⟨rfl, rfl⟩]
          exact kI_1
        · rw [g22, w18.v, if_neg (by omega)]
          exact hs0.2.2
    · simp only [hs_cd, ab_not] at b31
      refine hs_iconst ci_819_34 ?_
      have hfl : (hv h 22 4).toInt = ps.1 8 := hs0.2.1
      rcases hr1 with ⟨v, -, y2, -⟩ | ⟨k, a, y1, y2, y3⟩
      · omega
      · refine hs_k ⟨3, some (.int (Int32.ofInt 0)), by decide +kernel, rv_b rt_819 (Or.inl (by decide)), q1, (fr_sub (M := MRD) (by decide +kernel) f1).tr (w18.fr (M := MRD) rfl), _, rfl, Or.inr ⟨k, a, ?_, by decide, y3⟩⟩
        unfold sp_grow
        rw [if_neg (by omega), sbn_l y1]
  · simp only [hs_cd, ab_not] at b4
    refine hs_aload_n ci_819_7 l0 ?_
    refine hs_gfr 0 3 ci_819_8 (by decide +kernel) hp ?_
    refine hs_iconst ci_819_11 ?_
    refine hs_cv 748 8 1 ci_819_12 (by decide +kernel) (by decide +kernel) hp rfl (by rw [ml_748]; rfl) (k_fail (Int32.ofInt 3) hq) ?_
    rintro v9 h2 ⟨r2, e8, hr2, q2, f2, g8, g9⟩
    rw [e8]
    clear e8 v9
    replace hp := q2.1
    simp only [Option.toList, List.cons_append, List.nil_append]
    have hfl : (hv h 22 4).toInt = ps.1 8 := hs0.2.1
    refine hs_k ⟨3, some (.int r2), by decide +kernel, rv_b rt_819 (Or.inl hr2), q2, fr_sub (by decide +kernel) f2, _, rfl, Or.inr ⟨3, ta (j - 1), ?_, hr2, g8.trans kI_3, by rw [g9]; exact hcj.1⟩⟩
    unfold sp_grow
    rw [if_pos (by omega)]
theorem rt_823 : (eg_md 823).2.2.2 = some .boolean := by decide +kernel
theorem k_stor {sc : List Value} {sp d : Nat} {h : eg_H} {tk : Nat → tx_K} {ta : Nat → Nat} {m j : Nat} {ps : PS} (hq : ab_hp h) (hk : kwok h) (hr : ro h tk ta m) (hc : cu h tk ta m j) (hj : 1 ≤ j) (hP : CP h ps) : mc sc sp 823 2 (d + 1 + 1) [.ref 22] h (ln_P h tk ta m (sp_stor tk ta ps j)) := by
  have l0 : eg_find 0 (eg_args 0 [.ref 22]) = some (.ref 22) := rfl
  have hp := hq.1
  have hcj := hc.2 hj
  have hs0 := hP.2.1
  unfold mc
  refine hs_aload_n ci_823_0 l0 ?_
  refine hs_gfi 5 ci_823_1 (by decide +kernel) hp ?_
  refine hs_if (t := 16) ci_823_4 rfl (fun b4 => ?_) (fun b4 => ?_)
  · simp only [hs_cd, ab_not] at b4
    refine hs_aload_n ci_823_16 l0 ?_
    refine hs_iconst ci_823_17 ?_
    refine hs_pfi 5 (0) (1) ci_823_18 (by decide +kernel) hp (by decide) (by decide) ?_
    intro h18 w18
    replace hp := w18.1
    refine hs_aload_n ci_823_21 l0 ?_
    refine hs_gfr 0 3 ci_823_22 (by decide +kernel) hp ?_
    refine hs_iconst ci_823_25 ?_
    refine hs_bipush ci_823_26 ?_
    have f18 : ab_fr [(22, 3, 5)] h18 h := w18.fr rfl
    have q18 : ab_hp h18 := ⟨hp, hq.2.fr (M := [(22, 3, 5)]) (by decide +kernel) f18⟩
    have c18 : cu h18 tk ta m j := hc.fr f18 rfl rfl rfl rfl (fun _ => rfl)
    refine hs_cv 752 8 2 ci_823_28 (by decide +kernel) (by decide +kernel) hp rfl (by rw [ml_752]; rfl) (k_num (lo := Int32.ofInt 0) (hi := (Int8.ofInt 12).toInt32) q18 (hk.fr f18 (fun _ => rfl)) (hr.fr (fr_sub (by decide +kernel) f18)) c18) ?_
    rintro v9 h1 ⟨q1, f1, c1, r1, e8, hr1⟩
    rw [e8]
    clear e8 v9
    replace hp := q1.1
    have k0 : (Int32.ofInt 0).toInt = 0 := kI_0
    have k9 : (Int8.ofInt 12).toInt32.toInt = 12 := kB_12
    rw [k0, k9] at hr1
    simp only [Option.toList, List.cons_append, List.nil_append]
    refine hs_if (t := 36) ci_823_31 rfl (fun b31 => ?_) (fun b31 => ?_)
    · simp only [hs_cd, ab_not] at b31
      refine hs_aload_n ci_823_36 l0 ?_
      refine hs_gfr 1 23 ci_823_37 (by decide +kernel) hp ?_
      refine hs_aload_n ci_823_40 l0 ?_
      refine hs_gfr 0 3 ci_823_41 (by decide +kernel) hp ?_
      refine hs_cv 758 8 0 ci_823_44 (by decide +kernel) (by decide +kernel) hp rfl (by rw [ml_758]; rfl) (k_int q1) ?_
      rintro v9 h9 ⟨e9, e8⟩
      rw [e8, e9]
      clear e8 e9 v9 h9
      obtain ⟨v, hv1, hv2⟩ : ∃ v, sp_num (tk j) (ta j) 0 12 = .inr v ∧ (hl h1 3 11).toInt = v := by
        rcases hr1 with ⟨v, y1, -, y3⟩ | ⟨k, a, -, y2, -⟩
        · exact ⟨v, y1, y3⟩
        · omega
      have hvb := sp_num_b hv1
      have hv3 : (hl h1 3 11).toInt32.toInt = v := i64_to32 hv2 (by omega) (by omega)
      simp only [Option.toList, List.cons_append, List.nil_append]
      refine hs_pfi 3 (-2147483648) (2147483647) ci_823_47 (by decide +kernel) hp (ab_ige _) (ab_ile _) ?_
      intro h47 w47
      replace hp := w47.1
      refine hs_iconst ci_823_50 ?_
      have hfl : (hv h 22 5).toInt = ps.1 9 := hs0.2.2
      have f47 : ab_fr MSD h47 h := (w47.fr (M := MSD) rfl).tr ((fr_sub (M := MSD) (by decide +kernel) f1).tr (w18.fr (M := MSD) rfl))
      have g22 : ∀ k, hv h47 22 k = hv h18 22 k := fun k => by rw [w47.v, if_neg (by omega), hv_same (f1 22 k rfl)]
      refine hs_k ⟨3, some (.int (Int32.ofInt 1)), by decide +kernel, rv_b rt_823 (Or.inr (by decide)), ⟨hp, hq.2.fr (M := MSD) (by decide +kernel) f47⟩, fr_sub (by decide +kernel) f47, _, rfl, Or.inl ⟨(uf (uf ps.1 9 1) 3 v, ps.2), j + 1, ?_, by decide, by omega, c1.fr (M := [(23, 0, 6)]) (w47.fr rfl) rfl rfl rfl rfl (fun _ => rfl), ?_⟩⟩
      · unfold sp_stor
        rw [if_neg (by omega), sbn_r hv1]
      · refine hP.scal (fr_sub (by decide +kernel) f47) rfl rfl (fun k hk => ?_) ?_ ?_ ?_ ⟨hP.2.2.2.2.2.2.1, hP.2.2.2.2.2.2.2.1, hP.2.2.2.2.2.2.2.2.1, hP.2.2.2.2.2.2.2.2.2.1⟩
        · rw [uf_v, w47.v]
          by_cases e : k = 3
          · rw [if_pos ⟨rfl, e⟩, if_pos e]
            exact hv3
          · rw [if_neg (fun g => e g.2), if_neg e, uf_v, if_neg (by omega), hv_same (f1 23 k rfl), w18.v, if_neg (by omega)]
            exact hP.1 k hk
        · rw [g22, w18.v, if_neg (by omega)]
          exact hs0.1
        · rw [g22, w18.v, if_neg (by omega)]
          exact hs0.2.1
        · rw [g22, w18.v, if_pos ⟨rfl, rfl⟩]
          exact kI_1
    · simp only [hs_cd, ab_not] at b31
      refine hs_iconst ci_823_34 ?_
      have hfl : (hv h 22 5).toInt = ps.1 9 := hs0.2.2
      rcases hr1 with ⟨v, -, y2, -⟩ | ⟨k, a, y1, y2, y3⟩
      · omega
      · refine hs_k ⟨3, some (.int (Int32.ofInt 0)), by decide +kernel, rv_b rt_823 (Or.inl (by decide)), q1, (fr_sub (M := MRD) (by decide +kernel) f1).tr (w18.fr (M := MRD) rfl), _, rfl, Or.inr ⟨k, a, ?_, by decide, y3⟩⟩
        unfold sp_stor
        rw [if_neg (by omega), sbn_l y1]
  · simp only [hs_cd, ab_not] at b4
    refine hs_aload_n ci_823_7 l0 ?_
    refine hs_gfr 0 3 ci_823_8 (by decide +kernel) hp ?_
    refine hs_iconst ci_823_11 ?_
    refine hs_cv 748 8 1 ci_823_12 (by decide +kernel) (by decide +kernel) hp rfl (by rw [ml_748]; rfl) (k_fail (Int32.ofInt 3) hq) ?_
    rintro v9 h2 ⟨r2, e8, hr2, q2, f2, g8, g9⟩
    rw [e8]
    clear e8 v9
    replace hp := q2.1
    simp only [Option.toList, List.cons_append, List.nil_append]
    have hfl : (hv h 22 5).toInt = ps.1 9 := hs0.2.2
    refine hs_k ⟨3, some (.int r2), by decide +kernel, rv_b rt_823 (Or.inl hr2), q2, fr_sub (by decide +kernel) f2, _, rfl, Or.inr ⟨3, ta (j - 1), ?_, hr2, g8.trans kI_3, by rw [g9]; exact hcj.1⟩⟩
    unfold sp_stor
    rw [if_pos (by omega)]
