/-! BY HAND: the class's tokens: a letter more, a token more, which word -/
theorem ci_225_0 : ab_at 225 0 (.lload_n 0) 1 = true := by decide +kernel
theorem ci_225_1 : ab_at 225 1 (.ldc2_w 108) 3 = true := by decide +kernel
theorem ci_225_4 : ab_at 225 4 (.lmul) 1 = true := by decide +kernel
theorem ci_225_5 : ab_at 225 5 (.iload_n 2) 1 = true := by decide +kernel
theorem ci_225_6 : ab_at 225 6 (.bipush 97) 2 = true := by decide +kernel
theorem ci_225_8 : ab_at 225 8 (.isub) 1 = true := by decide +kernel
theorem ci_225_9 : ab_at 225 9 (.iconst 1) 1 = true := by decide +kernel
theorem ci_225_10 : ab_at 225 10 (.iadd) 1 = true := by decide +kernel
theorem ci_225_11 : ab_at 225 11 (.i2l) 1 = true := by decide +kernel
theorem ci_225_12 : ab_at 225 12 (.ladd) 1 = true := by decide +kernel
theorem ci_714_0 : ab_at 714 0 (.iconst 0) 1 = true := by decide +kernel
theorem ci_714_1 : ab_at 714 1 (.istore_n 3) 1 = true := by decide +kernel
theorem ci_714_2 : ab_at 714 2 (.iload_n 3) 1 = true := by decide +kernel
theorem ci_714_3 : ab_at 714 3 (.bipush 23) 2 = true := by decide +kernel
theorem ci_714_5 : ab_at 714 5 (.if_icmp .ge 26) 3 = true := by decide +kernel
theorem ci_714_8 : ab_at 714 8 (.aload_n 0) 1 = true := by decide +kernel
theorem ci_714_9 : ab_at 714 9 (.getfield 11) 3 = true := by decide +kernel
theorem ci_714_12 : ab_at 714 12 (.iload_n 3) 1 = true := by decide +kernel
theorem ci_714_13 : ab_at 714 13 (.laload) 1 = true := by decide +kernel
theorem ci_714_14 : ab_at 714 14 (.lload_n 1) 1 = true := by decide +kernel
theorem ci_714_15 : ab_at 714 15 (.lcmp) 1 = true := by decide +kernel
theorem ci_714_16 : ab_at 714 16 (.ifCond .ne 9) 3 = true := by decide +kernel
theorem ci_714_19 : ab_at 714 19 (.sipush 200) 3 = true := by decide +kernel
theorem ci_714_22 : ab_at 714 22 (.iload_n 3) 1 = true := by decide +kernel
theorem ci_714_23 : ab_at 714 23 (.iadd) 1 = true := by decide +kernel
theorem ci_714_25 : ab_at 714 25 (.iinc 3 1) 3 = true := by decide +kernel
theorem ci_714_28 : ab_at 714 28 (.goto (-26)) 3 = true := by decide +kernel
theorem ci_714_31 : ab_at 714 31 (.iconst 1) 1 = true := by decide +kernel
theorem ci_718_0 : ab_at 718 0 (.aload_n 0) 1 = true := by decide +kernel
theorem ci_718_1 : ab_at 718 1 (.getfield 25) 3 = true := by decide +kernel
theorem ci_718_4 : ab_at 718 4 (.sipush 941) 3 = true := by decide +kernel
theorem ci_718_7 : ab_at 718 7 (.if_icmp .ge 43) 3 = true := by decide +kernel
theorem ci_718_10 : ab_at 718 10 (.aload_n 0) 1 = true := by decide +kernel
theorem ci_718_11 : ab_at 718 11 (.getfield 15) 3 = true := by decide +kernel
theorem ci_718_14 : ab_at 718 14 (.aload_n 0) 1 = true := by decide +kernel
theorem ci_718_15 : ab_at 718 15 (.getfield 25) 3 = true := by decide +kernel
theorem ci_718_18 : ab_at 718 18 (.iload_n 1) 1 = true := by decide +kernel
theorem ci_718_19 : ab_at 718 19 (.iastore) 1 = true := by decide +kernel
theorem ci_718_20 : ab_at 718 20 (.aload_n 0) 1 = true := by decide +kernel
theorem ci_718_21 : ab_at 718 21 (.getfield 19) 3 = true := by decide +kernel
theorem ci_718_24 : ab_at 718 24 (.aload_n 0) 1 = true := by decide +kernel
theorem ci_718_25 : ab_at 718 25 (.getfield 25) 3 = true := by decide +kernel
theorem ci_718_28 : ab_at 718 28 (.iload_n 2) 1 = true := by decide +kernel
theorem ci_718_29 : ab_at 718 29 (.iastore) 1 = true := by decide +kernel
theorem ci_718_30 : ab_at 718 30 (.aload_n 0) 1 = true := by decide +kernel
theorem ci_718_31 : ab_at 718 31 (.getfield 22) 3 = true := by decide +kernel
theorem ci_718_34 : ab_at 718 34 (.aload_n 0) 1 = true := by decide +kernel
theorem ci_718_35 : ab_at 718 35 (.getfield 25) 3 = true := by decide +kernel
theorem ci_718_38 : ab_at 718 38 (.lload_n 3) 1 = true := by decide +kernel
theorem ci_718_39 : ab_at 718 39 (.lastore) 1 = true := by decide +kernel
theorem ci_718_40 : ab_at 718 40 (.aload_n 0) 1 = true := by decide +kernel
theorem ci_718_41 : ab_at 718 41 (.dup) 1 = true := by decide +kernel
theorem ci_718_42 : ab_at 718 42 (.getfield 25) 3 = true := by decide +kernel
theorem ci_718_45 : ab_at 718 45 (.iconst 1) 1 = true := by decide +kernel
theorem ci_718_46 : ab_at 718 46 (.iadd) 1 = true := by decide +kernel
theorem ci_718_47 : ab_at 718 47 (.putfield 25) 3 = true := by decide +kernel
theorem kB_23 : (Int8.ofInt (23)).toInt32.toInt = 23 := by decide +kernel
theorem kS_200 : (Int16.ofInt (200)).toInt32.toInt = 200 := by decide +kernel
theorem kS_941 : (Int16.ofInt (941)).toInt32.toInt = 941 := by decide +kernel
theorem rt_225 : (eg_md 225).2.2.2 = some .long := by decide +kernel
def wl_v (c : Int64) (x : Int32) : Int64 := c * 27 + (x - (Int8.ofInt 97).toInt32 + Int32.ofInt 1).toInt64
theorem k_with {sc : List Value} {sp d : Nat} {h : eg_H} (c : Int64) (x : Int32) : mc sc sp 225 8 d [.long c, .int x] h (fun vo h' => h' = h ∧ vo = some (.long (wl_v c x))) := by
  have l0 : eg_find 0 (eg_args 0 [.long c, .int x]) = some (.long c) := rfl
  have l2 : eg_find 2 (eg_args 0 [.long c, .int x]) = some (.int x) := rfl
  unfold mc
  refine hs_lload_n ci_225_0 l0 ?_
  refine hs_ldc2v (27) ci_225_1 (by decide +kernel) ?_
  refine hs_lmul ci_225_4 ?_
  refine hs_iload_n ci_225_5 l2 ?_
  refine hs_bipush ci_225_6 ?_
  refine hs_isub ci_225_8 ?_
  refine hs_iconst ci_225_9 ?_
  refine hs_iadd ci_225_10 ?_
  refine hs_i2l ci_225_11 ?_
  refine hs_ladd ci_225_12 ?_
  refine hs_k ⟨4, some (.long (wl_v c x)), by decide +kernel, ?_, rfl, rfl⟩
  rw [rt_225]
  rfl
/-- as Ints -/
theorem i64_mul {x y : Int64} {a b : Int} (hx : x.toInt = a) (hy : y.toInt = b) (h1 : -9223372036854775808 ≤ a * b) (h2 : a * b ≤ 9223372036854775807) : (x * y).toInt = a * b := by
  rw [Int64.toInt_mul, hx, hy]
  exact Int.bmod_eq_of_le (by omega) (by omega)
theorem i64_add {x y : Int64} {a b : Int} (hx : x.toInt = a) (hy : y.toInt = b) (h1 : -9223372036854775808 ≤ a + b) (h2 : a + b ≤ 9223372036854775807) : (x + y).toInt = a + b := by
  rw [Int64.toInt_add, hx, hy]
  exact Int.bmod_eq_of_le (by omega) (by omega)
theorem i64_of32 (x : Int32) : x.toInt64.toInt = x.toInt := Int32.toInt_toInt64 x
theorem wl_i {c : Int64} {x : Int32} {a : Int} (hc : c.toInt = a) (h0 : 0 ≤ a) (h1 : a ≤ 387420489) (hx : tx_l x.toInt) : (wl_v c x).toInt = a * 27 + (x.toInt - 96) := by
  obtain ⟨x1, x2⟩ := hx
  have e1 : (x - (Int8.ofInt 97).toInt32).toInt = x.toInt - 97 := i32_sub rfl rfl (by omega) (by omega)
  have e2 : (x - (Int8.ofInt 97).toInt32 + Int32.ofInt 1).toInt = x.toInt - 97 + 1 := i32_add e1 rfl (by omega) (by omega)
  have e3 : (c * 27).toInt = a * 27 := i64_mul hc (by decide) (by omega) (by omega)
  have e4 : (wl_v c x).toInt = a * 27 + (x.toInt - 97 + 1) := i64_add e3 ((i64_of32 _).trans e2) (by omega) (by omega)
  rw [e4]
  omega
abbrev MAT : ab_M := [(3, 5, 5), (5, 0, 940), (6, 0, 940), (7, 0, 940)]
def at_P (h : eg_H) (k p : Int32) (v : Int64) (vo : Option Value) (h' : eg_H) : Prop := vo = none ∧ ab_hp h' ∧ ab_fr MAT h' h ∧ (∀ b j, b = 5 ∨ b = 6 ∨ b = 7 → j ≠ (hv h 3 5).toInt.toNat → ab_slot h' b j = ab_slot h b j) ∧ hv h' 5 (hv h 3 5).toInt.toNat = k ∧ hv h' 6 (hv h 3 5).toInt.toNat = p ∧ hl h' 7 (hv h 3 5).toInt.toNat = v ∧ (hv h' 3 5).toInt = (hv h 3 5).toInt + 1
theorem rt_718 : (eg_md 718).2.2.2 = none := by decide +kernel
theorem k_add {sc : List Value} {sp d : Nat} {h : eg_H} (k p : Int32) (v : Int64) (hq : ab_hp h) (hm : (hv h 3 5).toInt < 941) : mc sc sp 718 8 d [.ref 3, .int k, .int p, .long v] h (at_P h k p v) := by
  have l0 : eg_find 0 (eg_args 0 [.ref 3, .int k, .int p, .long v]) = some (.ref 3) := rfl
  have l1 : eg_find 1 (eg_args 0 [.ref 3, .int k, .int p, .long v]) = some (.int k) := rfl
  have l2 : eg_find 2 (eg_args 0 [.ref 3, .int k, .int p, .long v]) = some (.int p) := rfl
  have l3 : eg_find 3 (eg_args 0 [.ref 3, .int k, .int p, .long v]) = some (.long v) := rfl
  have hp := hq.1
  obtain ⟨-, m2, m3⟩ := sb_v (a := 3) (k := 5) (lo := .ofNat 0) (hi := .ofNat 941) hq (by decide +kernel)
  have m2 : (0 : Int) ≤ (hv h 3 5).toInt := m2
  unfold mc
  refine hs_aload_n ci_718_0 l0 ?_
  refine hs_gfi 5 ci_718_1 (by decide +kernel) hp ?_
  refine hs_sipush ci_718_4 ?_
  refine hs_ic (t := 50) ci_718_7 rfl (fun b7 => ?_) (fun b7 => ?_)
  · simp only [hs_cd, ab_not, kS_941] at b7
    omega
  · simp only [hs_cd, ab_not, kS_941] at b7
    refine hs_aload_n ci_718_10 l0 ?_
    refine hs_gfr 2 5 ci_718_11 (by decide +kernel) hp ?_
    refine hs_aload_n ci_718_14 l0 ?_
    refine hs_gfi 5 ci_718_15 (by decide +kernel) hp ?_
    refine hs_iload_n ci_718_18 l1 ?_
    refine hs_iastore 0 940 (-2147483648) (2147483647) ci_718_19 (by decide +kernel) hp (by omega) (by omega) (ab_ige _) (ab_ile _) ?_
    intro h19 w19
    replace hp := w19.1
    refine hs_aload_n ci_718_20 l0 ?_
    refine hs_gfr 3 6 ci_718_21 (by decide +kernel) hp ?_
    refine hs_aload_n ci_718_24 l0 ?_
    refine hs_gfi 5 ci_718_25 (by decide +kernel) hp ?_
    refine hs_iload_n ci_718_28 l2 ?_
    have n29 : hv h19 3 5 = hv h 3 5 := by rw [w19.v, if_neg (by omega)]
    rw [n29]
    refine hs_iastore 0 940 (-2147483648) (2147483647) ci_718_29 (by decide +kernel) hp (by omega) (by omega) (ab_ige _) (ab_ile _) ?_
    intro h29 w29
    replace hp := w29.1
    refine hs_aload_n ci_718_30 l0 ?_
    refine hs_gfr 4 7 ci_718_31 (by decide +kernel) hp ?_
    refine hs_aload_n ci_718_34 l0 ?_
    refine hs_gfi 5 ci_718_35 (by decide +kernel) hp ?_
    refine hs_lload_n ci_718_38 l3 ?_
    have n39 : hv h29 3 5 = hv h 3 5 := by rw [w29.v, if_neg (by omega), n29]
    rw [n39]
    refine hs_lastore 941 ci_718_39 (by decide +kernel) hp (by omega) (by omega) ?_
    intro h39 w39
    replace hp := w39.1
    refine hs_aload_n ci_718_40 l0 ?_
    refine hs_dup ci_718_41 rfl ?_
    refine hs_gfi 5 ci_718_42 (by decide +kernel) hp ?_
    refine hs_iconst ci_718_45 ?_
    refine hs_iadd ci_718_46 ?_
    have n47 : hv h39 3 5 = hv h 3 5 := by rw [w39.i _ _ (by omega), n39]
    rw [n47]
    refine hs_pfi 5 (0) (941) ci_718_47 (by decide +kernel) hp (by rw [i32_add (x := hv h 3 5) (y := Int32.ofInt 1) rfl rfl (by show (-2147483648 : Int) ≤ (hv h 3 5).toInt + 1; omega) (by show (hv h 3 5).toInt + 1 ≤ (2147483647 : Int); omega)]; show (0 : Int) ≤ (hv h 3 5).toInt + 1; omega) (by rw [i32_add (x := hv h 3 5) (y := Int32.ofInt 1) rfl rfl (by show (-2147483648 : Int) ≤ (hv h 3 5).toInt + 1; omega) (by show (hv h 3 5).toInt + 1 ≤ (2147483647 : Int); omega)]; show (hv h 3 5).toInt + 1 ≤ (941 : Int); omega) ?_
    intro h47 w47
    replace hp := w47.1
    have hM : ∀ M : ab_M, M = MAT → ab_inr M 5 (hv h 3 5).toInt.toNat (hv h 3 5).toInt.toNat = true ∧ ab_inr M 6 (hv h 3 5).toInt.toNat (hv h 3 5).toInt.toNat = true ∧ ab_inr M 7 (hv h 3 5).toInt.toNat (hv h 3 5).toInt.toNat = true := fun M e => by
      subst e
      have a1 : Nat.ble 0 (hv h 3 5).toInt.toNat = true := Nat.ble_eq.mpr (by omega)
      have a2 : Nat.ble (hv h 3 5).toInt.toNat 940 = true := Nat.ble_eq.mpr (by omega)
      simp only [ab_inr, a1, a2]
      exact ⟨rfl, rfl, rfl⟩
    obtain ⟨hM5, hM6, hM7⟩ := hM MAT rfl
    have f1 : ab_fr MAT h47 h := (w47.fr (M := MAT) rfl).tr ((w39.fr (M := MAT) hM7).tr ((w29.fr (M := MAT) hM6).tr (w19.fr (M := MAT) hM5)))
    refine hs_k ⟨5, none, by decide +kernel, by rw [rt_718]; rfl, rfl, ⟨hp, hq.2.fr (M := MAT) (by decide +kernel) f1⟩, f1, ?_, ?_, ?_, ?_, ?_⟩
    · intro b j hb hj
      have e1 : ¬ (b = 3 ∧ j = 5) := by omega
      have e2 : ¬ (b = 7 ∧ j = (hv h 3 5).toInt.toNat) := by omega
      have e3 : ¬ (b = 6 ∧ j = (hv h 3 5).toInt.toNat) := by omega
      have e4 : ¬ (b = 5 ∧ j = (hv h 3 5).toInt.toNat) := by omega
      rw [w47.2, if_neg e1, w39.2, if_neg e2, w29.2, if_neg e3, w19.2, if_neg e4]
    · rw [w47.v, if_neg (by omega), w39.i _ _ (by omega), w29.v, if_neg (by omega), w19.v, if_pos ⟨rfl, rfl⟩]
    · rw [w47.v, if_neg (by omega), w39.i _ _ (by omega), w29.v, if_pos ⟨rfl, rfl⟩]
    · rw [w47.l _ _ (by omega), w39.v, if_pos ⟨rfl, rfl⟩]
    · rw [w47.v, if_pos ⟨rfl, rfl⟩]
      exact i32_add rfl rfl (by omega) (by omega)
def kw_P (h : eg_H) (c : Int64) (vo : Option Value) (h' : eg_H) : Prop := h' = h ∧ ∃ r : Int32, vo = some (.int r) ∧ ((∃ k : Nat, k < 23 ∧ r.toInt = 200 + (k : Int) ∧ hl h 4 k = c) ∨ (r.toInt = 1 ∧ ∀ j, j < 23 → hl h 4 j ≠ c))
theorem rt_714 : (eg_md 714).2.2.2 = some .int := by decide +kernel
theorem kw_loop {sc : List Value} {sp d : Nat} {h : eg_H} (c : Int64) (hq : ab_hp h) : ∀ (m k : Nat) (x : Int32) (ls : eg_L), k + m = 23 → x.toInt = (k : Int) → eg_find 0 ls = some (.ref 3) → eg_find 1 ls = some (.long c) → eg_find 3 ls = some (.int x) → (∀ j, j < k → hl h 4 j ≠ c) → hs sc sp 714 8 d (fun pc' _ st' h' => ∃ ik vo, ab_ret 714 pc' = some ik ∧ eg_rv (eg_md 714).2.2.2 ik st' = some vo ∧ kw_P h c vo h') 2 ls [] h := by
  have hp := hq.1
  intro m
  induction m with
  | zero =>
    intro k x ls hk hx l0 l1 l3 hne
    refine hs_iload_n ci_714_2 l3 ?_
    refine hs_bipush ci_714_3 ?_
    refine hs_ic (t := 31) ci_714_5 rfl (fun b5 => ?_) (fun b5 => ?_)
    · simp only [hs_cd, ab_not, kB_23] at b5
      refine hs_iconst ci_714_31 ?_
      exact hs_k ⟨3, _, by decide +kernel, by rw [rt_714]; rfl, rfl, _, rfl, Or.inr ⟨by decide, fun j hj => hne j (by omega)⟩⟩
    · simp only [hs_cd, ab_not, kB_23] at b5
      omega
  | succ m ih =>
    intro k x ls hk hx l0 l1 l3 hne
    refine hs_iload_n ci_714_2 l3 ?_
    refine hs_bipush ci_714_3 ?_
    refine hs_ic (t := 31) ci_714_5 rfl (fun b5 => ?_) (fun b5 => ?_)
    · simp only [hs_cd, ab_not, kB_23] at b5
      omega
    · simp only [hs_cd, ab_not, kB_23] at b5
      refine hs_aload_n ci_714_8 l0 ?_
      refine hs_gfr 1 4 ci_714_9 (by decide +kernel) hp ?_
      refine hs_iload_n ci_714_12 l3 ?_
      refine hs_laload 23 ci_714_13 (by decide +kernel) hp (by omega) (by omega) ?_
      refine hs_lload_n ci_714_14 l1 ?_
      refine hs_lcmp ci_714_15 (fun z15 q15 => ?_)
      refine hs_if (t := 25) ci_714_16 rfl (fun b16 => ?_) (fun b16 => ?_)
      · simp only [hs_cd, ab_not] at b16
        refine hs_iinc2 ci_714_25 (by decide +kernel) l3 ?_
        intro ls9 q9
        replace l0 := q9.2 0 _ (by decide) (Or.inl rfl) l0
        replace l1 := q9.2 1 _ (by decide) (Or.inr (by decide)) l1
        have l3 := q9.1
        clear q9
        refine hs_goto (t := 2) ci_714_28 rfl ?_
        refine ih (k + 1) _ _ (by omega) (i32_add hx (b := 1) rfl (by omega) (by omega)) l0 l1 l3 (fun j hj => ?_)
        by_cases e9 : j = k
        · subst e9
          have e8 : x.toInt.toNat = j := by omega
          intro e7
          rw [← e8] at e7
          rcases q15 with ⟨-, q1⟩ | ⟨q1, -⟩ | ⟨-, q1⟩
          · rw [e7] at q1; omega
          · omega
          · rw [e7] at q1; omega
        · exact hne j (by omega)
      · simp only [hs_cd, ab_not] at b16
        refine hs_sipush ci_714_19 ?_
        refine hs_iload_n ci_714_22 l3 ?_
        refine hs_iadd ci_714_23 ?_
        refine hs_k ⟨3, _, by decide +kernel, by rw [rt_714]; rfl, rfl, _, rfl, Or.inl ⟨k, by omega, (i32_add (x := (Int16.ofInt 200).toInt32) (a := 200) (b := (k : Int)) (by decide) hx (by omega) (by omega)), ?_⟩⟩
        have e9 : x.toInt.toNat = k := by omega
        rw [← e9]
        rcases q15 with ⟨q1, -⟩ | ⟨-, q2⟩ | ⟨q1, -⟩
        · omega
        · exact q2
        · omega
theorem k_kind {sc : List Value} {sp d : Nat} {h : eg_H} (c : Int64) (hq : ab_hp h) : mc sc sp 714 8 d [.ref 3, .long c] h (kw_P h c) := by
  have l0 : eg_find 0 (eg_args 0 [.ref 3, .long c]) = some (.ref 3) := rfl
  have l1 : eg_find 1 (eg_args 0 [.ref 3, .long c]) = some (.long c) := rfl
  unfold mc
  refine hs_iconst ci_714_0 ?_
  refine hs_istore2_n ci_714_1 (by decide +kernel) ?_
  intro ls9 q9
  replace l0 := q9.2 0 _ (by decide) (Or.inl rfl) l0
  replace l1 := q9.2 1 _ (by decide) (Or.inr (by decide)) l1
  have l3 := q9.1
  clear q9
  exact kw_loop c hq 23 0 _ _ (by omega) rfl l0 l1 l3 (fun j hj => by omega)
