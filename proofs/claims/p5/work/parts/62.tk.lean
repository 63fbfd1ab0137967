/-! BY HAND: how far a trunk lies -/
theorem ml_1698 : (eg_md 1698).2.2.1 = 3 := by decide +kernel
theorem rt_1698 : (eg_md 1698).2.2.2 = some .boolean := by decide +kernel
theorem ml_1794 : (eg_md 1794).2.2.1 = 3 := by decide +kernel
theorem rt_1794 : (eg_md 1794).2.2.2 = some .boolean := by decide +kernel
theorem ml_1865 : (eg_md 1865).2.2.1 = 3 := by decide +kernel
theorem rt_1865 : (eg_md 1865).2.2.2 = some .int := by decide +kernel
theorem ci_1698_0 : ab_at 1698 0 (.iload_n 0) 1 = true := by decide +kernel
theorem ci_1698_1 : ab_at 1698 1 (.iload_n 1) 1 = true := by decide +kernel
theorem ci_1698_2 : ab_at 1698 2 (.if_icmp .lt 12) 3 = true := by decide +kernel
theorem ci_1698_5 : ab_at 1698 5 (.iload_n 0) 1 = true := by decide +kernel
theorem ci_1698_6 : ab_at 1698 6 (.iload_n 2) 1 = true := by decide +kernel
theorem ci_1698_7 : ab_at 1698 7 (.if_icmp .gt 7) 3 = true := by decide +kernel
theorem ci_1698_10 : ab_at 1698 10 (.iconst 1) 1 = true := by decide +kernel
theorem ci_1698_11 : ab_at 1698 11 (.goto 4) 3 = true := by decide +kernel
theorem ci_1698_14 : ab_at 1698 14 (.iconst 0) 1 = true := by decide +kernel
theorem ci_1794_0 : ab_at 1794 0 (.iload_n 1) 1 = true := by decide +kernel
theorem ci_1794_1 : ab_at 1794 1 (.iconst 0) 1 = true := by decide +kernel
theorem ci_1794_2 : ab_at 1794 2 (.aload_n 0) 1 = true := by decide +kernel
theorem ci_1794_3 : ab_at 1794 3 (.getfield 33) 3 = true := by decide +kernel
theorem ci_1794_6 : ab_at 1794 6 (.iconst 2) 1 = true := by decide +kernel
theorem ci_1794_7 : ab_at 1794 7 (.iaload) 1 = true := by decide +kernel
theorem ci_1794_8 : ab_at 1794 8 (.iconst 1) 1 = true := by decide +kernel
theorem ci_1794_9 : ab_at 1794 9 (.isub) 1 = true := by decide +kernel
theorem ci_1794_10 : ab_at 1794 10 (.invokestatic 190) 3 = true := by decide +kernel
theorem ci_1794_13 : ab_at 1794 13 (.ifCond .eq 23) 3 = true := by decide +kernel
theorem ci_1794_16 : ab_at 1794 16 (.iload_n 2) 1 = true := by decide +kernel
theorem ci_1794_17 : ab_at 1794 17 (.iconst 0) 1 = true := by decide +kernel
theorem ci_1794_18 : ab_at 1794 18 (.aload_n 0) 1 = true := by decide +kernel
theorem ci_1794_19 : ab_at 1794 19 (.getfield 33) 3 = true := by decide +kernel
theorem ci_1794_22 : ab_at 1794 22 (.iconst 3) 1 = true := by decide +kernel
theorem ci_1794_23 : ab_at 1794 23 (.iaload) 1 = true := by decide +kernel
theorem ci_1794_24 : ab_at 1794 24 (.iconst 1) 1 = true := by decide +kernel
theorem ci_1794_25 : ab_at 1794 25 (.isub) 1 = true := by decide +kernel
theorem ci_1794_26 : ab_at 1794 26 (.invokestatic 190) 3 = true := by decide +kernel
theorem ci_1794_29 : ab_at 1794 29 (.ifCond .eq 7) 3 = true := by decide +kernel
theorem ci_1794_32 : ab_at 1794 32 (.iconst 1) 1 = true := by decide +kernel
theorem ci_1794_33 : ab_at 1794 33 (.goto 4) 3 = true := by decide +kernel
theorem ci_1794_36 : ab_at 1794 36 (.iconst 0) 1 = true := by decide +kernel
theorem ci_1865_0 : ab_at 1865 0 (.iconst 0) 1 = true := by decide +kernel
theorem ci_1865_1 : ab_at 1865 1 (.istore_n 2) 1 = true := by decide +kernel
theorem ci_1865_2 : ab_at 1865 2 (.iload_n 2) 1 = true := by decide +kernel
theorem ci_1865_3 : ab_at 1865 3 (.iconst 1) 1 = true := by decide +kernel
theorem ci_1865_4 : ab_at 1865 4 (.aload_n 0) 1 = true := by decide +kernel
theorem ci_1865_5 : ab_at 1865 5 (.getfield 33) 3 = true := by decide +kernel
theorem ci_1865_8 : ab_at 1865 8 (.bipush 90) 2 = true := by decide +kernel
theorem ci_1865_10 : ab_at 1865 10 (.iload_n 1) 1 = true := by decide +kernel
theorem ci_1865_11 : ab_at 1865 11 (.iadd) 1 = true := by decide +kernel
theorem ci_1865_12 : ab_at 1865 12 (.iaload) 1 = true := by decide +kernel
theorem ci_1865_13 : ab_at 1865 13 (.bipush 10) 2 = true := by decide +kernel
theorem ci_1865_15 : ab_at 1865 15 (.idiv) 1 = true := by decide +kernel
theorem ci_1865_16 : ab_at 1865 16 (.iadd) 1 = true := by decide +kernel
theorem ci_1865_17 : ab_at 1865 17 (.if_icmp .ge 54) 3 = true := by decide +kernel
theorem ci_1865_20 : ab_at 1865 20 (.aload_n 0) 1 = true := by decide +kernel
theorem ci_1865_21 : ab_at 1865 21 (.aload_n 0) 1 = true := by decide +kernel
theorem ci_1865_22 : ab_at 1865 22 (.getfield 33) 3 = true := by decide +kernel
theorem ci_1865_25 : ab_at 1865 25 (.bipush 39) 2 = true := by decide +kernel
theorem ci_1865_27 : ab_at 1865 27 (.iload_n 1) 1 = true := by decide +kernel
theorem ci_1865_28 : ab_at 1865 28 (.iadd) 1 = true := by decide +kernel
theorem ci_1865_29 : ab_at 1865 29 (.iaload) 1 = true := by decide +kernel
theorem ci_1865_30 : ab_at 1865 30 (.iload_n 2) 1 = true := by decide +kernel
theorem ci_1865_31 : ab_at 1865 31 (.iconst 1) 1 = true := by decide +kernel
theorem ci_1865_32 : ab_at 1865 32 (.iadd) 1 = true := by decide +kernel
theorem ci_1865_33 : ab_at 1865 33 (.aload_n 0) 1 = true := by decide +kernel
theorem ci_1865_34 : ab_at 1865 34 (.iload_n 1) 1 = true := by decide +kernel
theorem ci_1865_35 : ab_at 1865 35 (.invokevirtual 324) 3 = true := by decide +kernel
theorem ci_1865_38 : ab_at 1865 38 (.imul) 1 = true := by decide +kernel
theorem ci_1865_39 : ab_at 1865 39 (.iadd) 1 = true := by decide +kernel
theorem ci_1865_40 : ab_at 1865 40 (.aload_n 0) 1 = true := by decide +kernel
theorem ci_1865_41 : ab_at 1865 41 (.getfield 33) 3 = true := by decide +kernel
theorem ci_1865_44 : ab_at 1865 44 (.bipush 49) 2 = true := by decide +kernel
theorem ci_1865_46 : ab_at 1865 46 (.iload_n 1) 1 = true := by decide +kernel
theorem ci_1865_47 : ab_at 1865 47 (.iadd) 1 = true := by decide +kernel
theorem ci_1865_48 : ab_at 1865 48 (.iaload) 1 = true := by decide +kernel
theorem ci_1865_49 : ab_at 1865 49 (.iload_n 2) 1 = true := by decide +kernel
theorem ci_1865_50 : ab_at 1865 50 (.iconst 1) 1 = true := by decide +kernel
theorem ci_1865_51 : ab_at 1865 51 (.iadd) 1 = true := by decide +kernel
theorem ci_1865_52 : ab_at 1865 52 (.aload_n 0) 1 = true := by decide +kernel
theorem ci_1865_53 : ab_at 1865 53 (.iload_n 1) 1 = true := by decide +kernel
theorem ci_1865_54 : ab_at 1865 54 (.invokevirtual 327) 3 = true := by decide +kernel
theorem ci_1865_57 : ab_at 1865 57 (.imul) 1 = true := by decide +kernel
theorem ci_1865_58 : ab_at 1865 58 (.iadd) 1 = true := by decide +kernel
theorem ci_1865_59 : ab_at 1865 59 (.invokevirtual 297) 3 = true := by decide +kernel
theorem ci_1865_62 : ab_at 1865 62 (.ifCond .eq 9) 3 = true := by decide +kernel
theorem ci_1865_65 : ab_at 1865 65 (.iinc 2 1) 3 = true := by decide +kernel
theorem ci_1865_68 : ab_at 1865 68 (.goto (-66)) 3 = true := by decide +kernel
theorem ci_1865_71 : ab_at 1865 71 (.iload_n 2) 1 = true := by decide +kernel
theorem c_isIn {sc : List Value} {sp d : Nat} {h : eg_H} (a b c : Int32) : mc sc sp 1698 11 d [.int a, .int b, .int c] h (fun vo h' => h' = h ∧ ∃ r : Int32, vo = some (.int r) ∧ ((r.toInt = 1 ∧ b.toInt ≤ a.toInt ∧ a.toInt ≤ c.toInt) ∨ (r.toInt = 0 ∧ ¬ (b.toInt ≤ a.toInt ∧ a.toInt ≤ c.toInt)))) := by
  have l0 : eg_find 0 (eg_args 0 [.int a, .int b, .int c]) = some (.int a) := rfl
  have l1 : eg_find 1 (eg_args 0 [.int a, .int b, .int c]) = some (.int b) := rfl
  have l2 : eg_find 2 (eg_args 0 [.int a, .int b, .int c]) = some (.int c) := rfl
  unfold mc
  refine hs_iload_n ci_1698_0 l0 ?_
  refine hs_iload_n ci_1698_1 l1 ?_
  refine hs_ic (t := 14) ci_1698_2 rfl (fun b2 => ?_) (fun b2 => ?_)
  · simp only [hs_cd, ab_not] at b2
    refine hs_iconst ci_1698_14 ?_
    exact hs_k ⟨3, some (.int _), by decide +kernel, by rw [rt_1698]; rfl, rfl, _, rfl, Or.inr ⟨rfl, by omega⟩⟩
  · simp only [hs_cd, ab_not] at b2
    refine hs_iload_n ci_1698_5 l0 ?_
    refine hs_iload_n ci_1698_6 l2 ?_
    refine hs_ic (t := 14) ci_1698_7 rfl (fun b7 => ?_) (fun b7 => ?_)
    · simp only [hs_cd, ab_not] at b7
      refine hs_iconst ci_1698_14 ?_
      exact hs_k ⟨3, some (.int _), by decide +kernel, by rw [rt_1698]; rfl, rfl, _, rfl, Or.inr ⟨rfl, by omega⟩⟩
    · simp only [hs_cd, ab_not] at b7
      refine hs_iconst ci_1698_10 ?_
      refine hs_goto (t := 15) ci_1698_11 rfl ?_
      exact hs_k ⟨3, some (.int _), by decide +kernel, by rw [rt_1698]; rfl, rfl, _, rfl, Or.inl ⟨rfl, by omega⟩⟩
theorem gq_2 : gsl 184 2 = some (0, 8) := by decide +kernel
theorem gq_3 : gsl 184 3 = some (0, 8) := by decide +kernel
theorem c_isCell {sc : List Value} {sp d : Nat} {h : eg_H} (x y : Int32) (hp : ab_hp0 h) : mc sc sp 1794 11 (d + 1) [.ref 182, .int x, .int y] h (fun vo h' => h' = h ∧ ∃ r : Int32, vo = some (.int r) ∧ ((r.toInt = 1 ∧ (0 ≤ x.toInt ∧ x.toInt ≤ 7) ∧ 0 ≤ y.toInt ∧ y.toInt ≤ 7) ∨ r.toInt = 0)) := by
  have l0 : eg_find 0 (eg_args 0 [.ref 182, .int x, .int y]) = some (.ref 182) := rfl
  have l1 : eg_find 1 (eg_args 0 [.ref 182, .int x, .int y]) = some (.int x) := rfl
  have l2 : eg_find 2 (eg_args 0 [.ref 182, .int x, .int y]) = some (.int y) := rfl
  have b2 := gsl_b hp gq_2
  have b3 := gsl_b hp gq_3
  simp only at b2 b3
  have e2 : (hv h 184 2 - Int32.ofInt 1).toInt = (hv h 184 2).toInt - 1 := i32_sub rfl rfl (by omega) (by omega)
  have e3 : (hv h 184 3 - Int32.ofInt 1).toInt = (hv h 184 3).toInt - 1 := i32_sub rfl rfl (by omega) (by omega)
  have e0 : (Int32.ofInt 0).toInt = 0 := rfl
  unfold mc
  refine hs_iload_n ci_1794_0 l1 ?_
  refine hs_iconst ci_1794_1 ?_
  refine hs_aload_n ci_1794_2 l0 ?_
  refine hs_gfr 6 184 ci_1794_3 (by decide +kernel) hp ?_
  refine hs_iconst ci_1794_6 ?_
  refine hs_ial1 (2) ci_1794_7 (rfl) (gq_2) hp ?_
  refine hs_iconst ci_1794_8 ?_
  refine hs_isub ci_1794_9 ?_
  refine hs_cs 1698 11 3 ci_1794_10 (by decide +kernel) rfl (by rw [ml_1698]; rfl) (c_isIn _ _ _) ?_
  rintro v9 h9 ⟨e9, r1, e8, hr1⟩
  rw [e8, e9]
  clear e8 e9 v9 h9
  simp only [Option.toList, List.cons_append, List.nil_append]
  refine hs_if (t := 36) ci_1794_13 rfl (fun b13 => ?_) (fun b13 => ?_)
  · simp only [hs_cd, ab_not] at b13
    refine hs_iconst ci_1794_36 ?_
    exact hs_k ⟨3, some (.int _), by decide +kernel, by rw [rt_1794]; rfl, rfl, _, rfl, Or.inr rfl⟩
  · simp only [hs_cd, ab_not] at b13
    refine hs_iload_n ci_1794_16 l2 ?_
    refine hs_iconst ci_1794_17 ?_
    refine hs_aload_n ci_1794_18 l0 ?_
    refine hs_gfr 6 184 ci_1794_19 (by decide +kernel) hp ?_
    refine hs_iconst ci_1794_22 ?_
    refine hs_ial1 (3) ci_1794_23 (rfl) (gq_3) hp ?_
    refine hs_iconst ci_1794_24 ?_
    refine hs_isub ci_1794_25 ?_
    refine hs_cs 1698 11 3 ci_1794_26 (by decide +kernel) rfl (by rw [ml_1698]; rfl) (c_isIn _ _ _) ?_
    rintro v9 h9 ⟨e9, r2, e8, hr2⟩
    rw [e8, e9]
    clear e8 e9 v9 h9
    simp only [Option.toList, List.cons_append, List.nil_append]
    refine hs_if (t := 36) ci_1794_29 rfl (fun b29 => ?_) (fun b29 => ?_)
    · simp only [hs_cd, ab_not] at b29
      refine hs_iconst ci_1794_36 ?_
      exact hs_k ⟨3, some (.int _), by decide +kernel, by rw [rt_1794]; rfl, rfl, _, rfl, Or.inr rfl⟩
    · simp only [hs_cd, ab_not] at b29
      refine hs_iconst ci_1794_32 ?_
      refine hs_goto (t := 37) ci_1794_33 rfl ?_
      exact hs_k ⟨3, some (.int _), by decide +kernel, by rw [rt_1794]; rfl, rfl, _, rfl, Or.inl ⟨rfl, by omega, by omega⟩⟩
theorem i32_d10 (x : Int32) : (x / (Int8.ofInt 10).toInt32).toInt ≤ 214748364 ∧ -214748364 ≤ (x / (Int8.ofInt 10).toInt32).toInt := by
  have e : ((Int8.ofInt 10).toInt32).toInt = 10 := rfl
  rw [ab_div_v (by rw [e]; decide), e]
  have h1 := ab_ige x
  have h2 := ab_ile x
  rcases Int.le_total 0 x.toInt with h | h
  · rw [Int.tdiv_eq_ediv_of_nonneg h]
    omega
  · have h3 : (-x.toInt).tdiv 10 = (-x.toInt) / 10 := Int.tdiv_eq_ediv_of_nonneg (by omega)
    rw [Int.neg_tdiv] at h3
    omega
/-- these cells are there -/
def fx_on (h : eg_H) (k : Nat) (n : Int) : Prop := ∀ m : Int, 1 ≤ m → m ≤ n → (0 ≤ (hv h 184 (39 + k)).toInt + m * fx_sx h k ∧ (hv h 184 (39 + k)).toInt + m * fx_sx h k ≤ 7) ∧ 0 ≤ (hv h 184 (49 + k)).toInt + m * fx_sy h k ∧ (hv h 184 (49 + k)).toInt + m * fx_sy h k ≤ 7
theorem fx_mb {m s : Int} (h1 : 0 ≤ m) (h2 : m ≤ 214748366) (h3 : -1 ≤ s) (h4 : s ≤ 1) : -214748366 ≤ m * s ∧ m * s ≤ 214748366 := by
  rcases (show s = -1 ∨ s = 0 ∨ s = 1 by omega) with rfl | rfl | rfl <;> omega
theorem tk_loop {sc : List Value} {sp d : Nat} {h : eg_H} {x : Int32} {k : Nat} (hx : x.toInt = (k : Int)) (hk : k < 10) (hp : ab_hp0 h) (r : Nat) : ∀ (n : Int32) (ls : eg_L), 214748366 - n.toInt ≤ (r : Int) → 0 ≤ n.toInt → n.toInt ≤ 214748365 → fx_on h k n.toInt → eg_find 0 ls = some (.ref 182) → eg_find 1 ls = some (.int x) → eg_find 2 ls = some (.int n) → hs sc sp 1865 11 (d + 3) (fun pc' _ st' h' => pc' = 72 ∧ h' = h ∧ ∃ t : Int32, st' = [.int t] ∧ 0 ≤ t.toInt ∧ t.toInt ≤ 214748365 ∧ fx_on h k t.toInt) 2 ls [] h := by
  induction r with
  | zero =>
    intro n ls hr h0 hn
    omega
  | succ r ih =>
    intro n ls hr h0 hn hon l0 l1 l2
    have bX := gsl_b hp (ckq_v gq_tx k hk)
    have bY := gsl_b hp (ckq_v gq_ty k hk)
    simp only at bX bY
    have d10 := i32_d10 (hv h 184 (90 + k))
    have eB : (Int32.ofInt 1 + hv h 184 (90 + k) / (Int8.ofInt 10).toInt32).toInt = 1 + (hv h 184 (90 + k) / (Int8.ofInt 10).toInt32).toInt := i32_add rfl rfl (by omega) (by omega)
    have e1 : (n + Int32.ofInt 1).toInt = n.toInt + 1 := i32_add rfl rfl (by omega) (by omega)
    refine hs_iload_n ci_1865_2 l2 ?_
    refine hs_iconst ci_1865_3 ?_
    refine hs_aload_n ci_1865_4 l0 ?_
    refine hs_gfr 6 184 ci_1865_5 (by decide +kernel) hp ?_
    refine hs_bipush ci_1865_8 ?_
    refine hs_iload_n ci_1865_10 l1 ?_
    refine hs_iadd ci_1865_11 ?_
    refine hs_ial1 (90 + k) ci_1865_12 ((i32_add (a := 90) rfl hx (by omega) (by omega)).trans (by omega)) (ckq_v gq_tl k hk) hp ?_
    refine hs_bipush ci_1865_13 ?_
    refine hs_idiv ci_1865_15 (by decide) ?_
    refine hs_iadd ci_1865_16 ?_
    refine hs_ic (t := 71) ci_1865_17 rfl (fun b17 => ?_) (fun b17 => ?_)
    · simp only [hs_cd, ab_not] at b17
      refine hs_iload_n ci_1865_71 l2 ?_
      exact hs_k ⟨rfl, rfl, n, rfl, h0, hn, hon⟩
    · simp only [hs_cd, ab_not] at b17
      refine hs_aload_n ci_1865_20 l0 ?_
      refine hs_aload_n ci_1865_21 l0 ?_
      refine hs_gfr 6 184 ci_1865_22 (by decide +kernel) hp ?_
      refine hs_bipush ci_1865_25 ?_
      refine hs_iload_n ci_1865_27 l1 ?_
      refine hs_iadd ci_1865_28 ?_
      refine hs_ial1 (39 + k) ci_1865_29 ((i32_add (a := 39) rfl hx (by omega) (by omega)).trans (by omega)) (ckq_v gq_tx k hk) hp ?_
      refine hs_iload_n ci_1865_30 l2 ?_
      refine hs_iconst ci_1865_31 ?_
      refine hs_iadd ci_1865_32 ?_
      refine hs_aload_n ci_1865_33 l0 ?_
      refine hs_iload_n ci_1865_34 l1 ?_
      refine hs_cv 1869 11 1 ci_1865_35 (by decide +kernel) (by decide +kernel) hp rfl (by rw [ml_1869]; rfl) (c_stepX hx hk hp) ?_
      rintro v9 h9 ⟨e9, r1, e8, hr1⟩
      rw [e8, e9]
      clear e8 e9 v9 h9
      simp only [Option.toList, List.cons_append, List.nil_append]
      refine hs_imul ci_1865_38 ?_
      refine hs_iadd ci_1865_39 ?_
      refine hs_aload_n ci_1865_40 l0 ?_
      refine hs_gfr 6 184 ci_1865_41 (by decide +kernel) hp ?_
      refine hs_bipush ci_1865_44 ?_
      refine hs_iload_n ci_1865_46 l1 ?_
      refine hs_iadd ci_1865_47 ?_
      refine hs_ial1 (49 + k) ci_1865_48 ((i32_add (a := 49) rfl hx (by omega) (by omega)).trans (by omega)) (ckq_v gq_ty k hk) hp ?_
      refine hs_iload_n ci_1865_49 l2 ?_
      refine hs_iconst ci_1865_50 ?_
      refine hs_iadd ci_1865_51 ?_
      refine hs_aload_n ci_1865_52 l0 ?_
      refine hs_iload_n ci_1865_53 l1 ?_
      refine hs_cv 1883 11 1 ci_1865_54 (by decide +kernel) (by decide +kernel) hp rfl (by rw [ml_1883]; rfl) (c_stepY hx hk hp) ?_
      rintro v9 h9 ⟨e9, r2, e8, hr2⟩
      rw [e8, e9]
      clear e8 e9 v9 h9
      simp only [Option.toList, List.cons_append, List.nil_append]
      refine hs_imul ci_1865_57 ?_
      refine hs_iadd ci_1865_58 ?_
      refine hs_cv 1794 11 2 ci_1865_59 (by decide +kernel) (by decide +kernel) hp rfl (by rw [ml_1794]; rfl) (c_isCell _ _ hp) ?_
      rintro v9 h9 ⟨e9, r3, e8, hr3⟩
      rw [e8, e9]
      clear e8 e9 v9 h9
      simp only [Option.toList, List.cons_append, List.nil_append]
      refine hs_if (t := 71) ci_1865_62 rfl (fun b62 => ?_) (fun b62 => ?_)
      · simp only [hs_cd, ab_not] at b62
        refine hs_iload_n ci_1865_71 l2 ?_
        exact hs_k ⟨rfl, rfl, n, rfl, h0, hn, hon⟩
      · simp only [hs_cd, ab_not] at b62
        refine hs_iinc ci_1865_65 (by decide +kernel) l2 ?_
        intro ls9 q9
        replace l0 := q9.2 0 _ (by decide) rfl l0
        replace l1 := q9.2 1 _ (by decide) rfl l1
        have l2 := q9.1
        clear q9
        refine hs_goto (t := 2) ci_1865_68 rfl ?_
        have bx := fx_sx_b h k
        have by' := fx_sy_b h k
        have m1 := fx_mb (m := n.toInt + 1) (by omega) (by omega) bx.1 bx.2
        have m2 := fx_mb (m := n.toInt + 1) (by omega) (by omega) by'.1 by'.2
        have p1 : ((n + Int32.ofInt 1) * r1).toInt = (n.toInt + 1) * fx_sx h k := i32_mul e1 hr1 (by omega) (by omega)
        have p2 : ((n + Int32.ofInt 1) * r2).toInt = (n.toInt + 1) * fx_sy h k := i32_mul e1 hr2 (by omega) (by omega)
        have q1 := i32_add (x := hv h 184 (39 + k)) rfl p1 (by omega) (by omega)
        have q2 := i32_add (x := hv h 184 (49 + k)) rfl p2 (by omega) (by omega)
        rcases hr3 with ⟨-, hr3, hr4⟩ | hr3
        · rw [q1] at hr3
          rw [q2] at hr4
          refine ih _ _ (by rw [e1]; omega) (by rw [e1]; omega) (by rw [e1]; omega) (fun m hm1 hm2 => ?_) l0 l1 l2
          rw [e1] at hm2
          by_cases e : m = n.toInt + 1
          · subst e
            exact ⟨hr3, hr4⟩
          · exact hon m hm1 (by omega)
        · omega
theorem c_trunkOf {sc : List Value} {sp d : Nat} {h : eg_H} {x : Int32} {k : Nat} (hx : x.toInt = (k : Int)) (hk : k < 10) (hp : ab_hp0 h) : mc sc sp 1865 11 (d + 3) [.ref 182, .int x] h (fun vo h' => h' = h ∧ ∃ t : Int32, vo = some (.int t) ∧ (0 ≤ t.toInt ∧ t.toInt ≤ 214748365) ∧ fx_on h k t.toInt) := by
  have l0 : eg_find 0 (eg_args 0 [.ref 182, .int x]) = some (.ref 182) := rfl
  have l1 : eg_find 1 (eg_args 0 [.ref 182, .int x]) = some (.int x) := rfl
  unfold mc
  refine hs_iconst ci_1865_0 ?_
  refine hs_istore_n ci_1865_1 (by decide +kernel) ?_
  intro ls9 q9
  replace l0 := q9.2 0 _ (by decide) rfl l0
  replace l1 := q9.2 1 _ (by decide) rfl l1
  have l2 := q9.1
  clear q9
  refine hs.mono (tk_loop hx hk hp 214748366 _ _ (by decide) (by decide) (by decide) (fun m h1 h2 => by have : (Int32.ofInt 0).toInt = 0 := rfl; omega) l0 l1 l2) ?_
  rintro pc' ls' st' h' ⟨rfl, e9, t, rfl, t1, t2, t3⟩
  exact ⟨3, some (.int t), by decide +kernel, by rw [rt_1865]; rfl, e9, t, rfl, ⟨t1, t2⟩, t3⟩
