/-! BY HAND: the class goes through its row of tokens -/
theorem ci_736_0 : ab_at 736 0 (.aload_n 0) 1 = true := by decide +kernel
theorem ci_736_1 : ab_at 736 1 (.getfield 29) 3 = true := by decide +kernel
theorem ci_736_4 : ab_at 736 4 (.aload_n 0) 1 = true := by decide +kernel
theorem ci_736_5 : ab_at 736 5 (.getfield 25) 3 = true := by decide +kernel
theorem ci_736_8 : ab_at 736 8 (.if_icmp .ge 62) 3 = true := by decide +kernel
theorem ci_736_11 : ab_at 736 11 (.aload_n 0) 1 = true := by decide +kernel
theorem ci_736_12 : ab_at 736 12 (.getfield 29) 3 = true := by decide +kernel
theorem ci_736_15 : ab_at 736 15 (.sipush 941) 3 = true := by decide +kernel
theorem ci_736_18 : ab_at 736 18 (.if_icmp .ge 52) 3 = true := by decide +kernel
theorem ci_736_21 : ab_at 736 21 (.aload_n 0) 1 = true := by decide +kernel
theorem ci_736_22 : ab_at 736 22 (.aload_n 0) 1 = true := by decide +kernel
theorem ci_736_23 : ab_at 736 23 (.getfield 15) 3 = true := by decide +kernel
theorem ci_736_26 : ab_at 736 26 (.aload_n 0) 1 = true := by decide +kernel
theorem ci_736_27 : ab_at 736 27 (.getfield 29) 3 = true := by decide +kernel
theorem ci_736_30 : ab_at 736 30 (.iaload) 1 = true := by decide +kernel
theorem ci_736_31 : ab_at 736 31 (.putfield 32) 3 = true := by decide +kernel
theorem ci_736_34 : ab_at 736 34 (.aload_n 0) 1 = true := by decide +kernel
theorem ci_736_35 : ab_at 736 35 (.aload_n 0) 1 = true := by decide +kernel
theorem ci_736_36 : ab_at 736 36 (.getfield 19) 3 = true := by decide +kernel
theorem ci_736_39 : ab_at 736 39 (.aload_n 0) 1 = true := by decide +kernel
theorem ci_736_40 : ab_at 736 40 (.getfield 29) 3 = true := by decide +kernel
theorem ci_736_43 : ab_at 736 43 (.iaload) 1 = true := by decide +kernel
theorem ci_736_44 : ab_at 736 44 (.putfield 41) 3 = true := by decide +kernel
theorem ci_736_47 : ab_at 736 47 (.aload_n 0) 1 = true := by decide +kernel
theorem ci_736_48 : ab_at 736 48 (.aload_n 0) 1 = true := by decide +kernel
theorem ci_736_49 : ab_at 736 49 (.getfield 22) 3 = true := by decide +kernel
theorem ci_736_52 : ab_at 736 52 (.aload_n 0) 1 = true := by decide +kernel
theorem ci_736_53 : ab_at 736 53 (.getfield 29) 3 = true := by decide +kernel
theorem ci_736_56 : ab_at 736 56 (.laload) 1 = true := by decide +kernel
theorem ci_736_57 : ab_at 736 57 (.putfield 44) 3 = true := by decide +kernel
theorem ci_736_60 : ab_at 736 60 (.aload_n 0) 1 = true := by decide +kernel
theorem ci_736_61 : ab_at 736 61 (.dup) 1 = true := by decide +kernel
theorem ci_736_62 : ab_at 736 62 (.getfield 29) 3 = true := by decide +kernel
theorem ci_736_65 : ab_at 736 65 (.iconst 1) 1 = true := by decide +kernel
theorem ci_736_66 : ab_at 736 66 (.iadd) 1 = true := by decide +kernel
theorem ci_736_67 : ab_at 736 67 (.putfield 29) 3 = true := by decide +kernel
theorem ci_748_0 : ab_at 748 0 (.aload_n 0) 1 = true := by decide +kernel
theorem ci_748_1 : ab_at 748 1 (.iload_n 1) 1 = true := by decide +kernel
theorem ci_748_2 : ab_at 748 2 (.putfield 35) 3 = true := by decide +kernel
theorem ci_748_5 : ab_at 748 5 (.aload_n 0) 1 = true := by decide +kernel
theorem ci_748_6 : ab_at 748 6 (.aload_n 0) 1 = true := by decide +kernel
theorem ci_748_7 : ab_at 748 7 (.getfield 41) 3 = true := by decide +kernel
theorem ci_748_10 : ab_at 748 10 (.putfield 38) 3 = true := by decide +kernel
theorem ci_748_13 : ab_at 748 13 (.iconst 0) 1 = true := by decide +kernel
theorem ci_752_0 : ab_at 752 0 (.aload_n 0) 1 = true := by decide +kernel
theorem ci_752_1 : ab_at 752 1 (.invokevirtual 110) 3 = true := by decide +kernel
theorem ci_752_4 : ab_at 752 4 (.aload_n 0) 1 = true := by decide +kernel
theorem ci_752_5 : ab_at 752 5 (.getfield 32) 3 = true := by decide +kernel
theorem ci_752_8 : ab_at 752 8 (.iconst 2) 1 = true := by decide +kernel
theorem ci_752_9 : ab_at 752 9 (.if_icmp .eq 9) 3 = true := by decide +kernel
theorem ci_752_12 : ab_at 752 12 (.aload_n 0) 1 = true := by decide +kernel
theorem ci_752_13 : ab_at 752 13 (.iconst 1) 1 = true := by decide +kernel
theorem ci_752_14 : ab_at 752 14 (.invokevirtual 113) 3 = true := by decide +kernel
theorem ci_752_18 : ab_at 752 18 (.aload_n 0) 1 = true := by decide +kernel
theorem ci_752_19 : ab_at 752 19 (.getfield 44) 3 = true := by decide +kernel
theorem ci_752_22 : ab_at 752 22 (.iload_n 1) 1 = true := by decide +kernel
theorem ci_752_23 : ab_at 752 23 (.i2l) 1 = true := by decide +kernel
theorem ci_752_24 : ab_at 752 24 (.lcmp) 1 = true := by decide +kernel
theorem ci_752_25 : ab_at 752 25 (.ifCond .lt 13) 3 = true := by decide +kernel
theorem ci_752_28 : ab_at 752 28 (.aload_n 0) 1 = true := by decide +kernel
theorem ci_752_29 : ab_at 752 29 (.getfield 44) 3 = true := by decide +kernel
theorem ci_752_32 : ab_at 752 32 (.iload_n 2) 1 = true := by decide +kernel
theorem ci_752_33 : ab_at 752 33 (.i2l) 1 = true := by decide +kernel
theorem ci_752_34 : ab_at 752 34 (.lcmp) 1 = true := by decide +kernel
theorem ci_752_35 : ab_at 752 35 (.ifCond .le 11) 3 = true := by decide +kernel
theorem ci_752_38 : ab_at 752 38 (.aload_n 0) 1 = true := by decide +kernel
theorem ci_752_39 : ab_at 752 39 (.iconst 2) 1 = true := by decide +kernel
theorem ci_752_40 : ab_at 752 40 (.invokevirtual 113) 3 = true := by decide +kernel
theorem ci_752_43 : ab_at 752 43 (.ifCond .eq 7) 3 = true := by decide +kernel
theorem ci_752_46 : ab_at 752 46 (.iconst 1) 1 = true := by decide +kernel
theorem ci_752_47 : ab_at 752 47 (.goto 4) 3 = true := by decide +kernel
theorem ci_752_50 : ab_at 752 50 (.iconst 0) 1 = true := by decide +kernel
theorem ci_758_0 : ab_at 758 0 (.aload_n 0) 1 = true := by decide +kernel
theorem ci_758_1 : ab_at 758 1 (.getfield 44) 3 = true := by decide +kernel
theorem ci_758_4 : ab_at 758 4 (.l2i) 1 = true := by decide +kernel
theorem ci_770_0 : ab_at 770 0 (.aload_n 0) 1 = true := by decide +kernel
theorem ci_770_1 : ab_at 770 1 (.invokevirtual 110) 3 = true := by decide +kernel
theorem ci_770_4 : ab_at 770 4 (.aload_n 0) 1 = true := by decide +kernel
theorem ci_770_5 : ab_at 770 5 (.getfield 32) 3 = true := by decide +kernel
theorem ci_770_8 : ab_at 770 8 (.iconst 1) 1 = true := by decide +kernel
theorem ci_770_9 : ab_at 770 9 (.if_icmp .eq 11) 3 = true := by decide +kernel
theorem ci_770_12 : ab_at 770 12 (.aload_n 0) 1 = true := by decide +kernel
theorem ci_770_13 : ab_at 770 13 (.iconst 1) 1 = true := by decide +kernel
theorem ci_770_14 : ab_at 770 14 (.invokevirtual 113) 3 = true := by decide +kernel
theorem ci_770_17 : ab_at 770 17 (.ifCond .eq 7) 3 = true := by decide +kernel
theorem ci_770_20 : ab_at 770 20 (.iconst 1) 1 = true := by decide +kernel
theorem ci_770_21 : ab_at 770 21 (.goto 4) 3 = true := by decide +kernel
theorem ci_770_24 : ab_at 770 24 (.iconst 0) 1 = true := by decide +kernel
theorem ci_774_0 : ab_at 774 0 (.aload_n 0) 1 = true := by decide +kernel
theorem ci_774_1 : ab_at 774 1 (.getfield 44) 3 = true := by decide +kernel
theorem ci_827_0 : ab_at 827 0 (.aload_n 0) 1 = true := by decide +kernel
theorem ci_827_1 : ab_at 827 1 (.invokevirtual 110) 3 = true := by decide +kernel
theorem ci_827_4 : ab_at 827 4 (.aload_n 0) 1 = true := by decide +kernel
theorem ci_827_5 : ab_at 827 5 (.getfield 32) 3 = true := by decide +kernel
theorem ci_827_8 : ab_at 827 8 (.bipush 59) 2 = true := by decide +kernel
theorem ci_827_10 : ab_at 827 10 (.if_icmp .eq 11) 3 = true := by decide +kernel
theorem ci_827_13 : ab_at 827 13 (.aload_n 0) 1 = true := by decide +kernel
theorem ci_827_14 : ab_at 827 14 (.iconst 1) 1 = true := by decide +kernel
theorem ci_827_15 : ab_at 827 15 (.invokevirtual 113) 3 = true := by decide +kernel
theorem ci_827_18 : ab_at 827 18 (.ifCond .eq 7) 3 = true := by decide +kernel
theorem ci_827_21 : ab_at 827 21 (.iconst 1) 1 = true := by decide +kernel
theorem ci_827_22 : ab_at 827 22 (.goto 4) 3 = true := by decide +kernel
theorem ci_827_25 : ab_at 827 25 (.iconst 0) 1 = true := by decide +kernel
theorem ml_736 : (eg_md 736).2.2.1 = 1 := by decide +kernel
theorem ml_748 : (eg_md 748).2.2.1 = 2 := by decide +kernel
/-- what reading writes: the cursor, the reader, the draft -/
abbrev MRD : ab_M := [(3, 6, 11), (22, 3, 9), (23, 0, 6), (24, 0, 5), (25, 0, 5), (26, 0, 5), (27, 0, 9), (28, 0, 9), (29, 0, 9), (30, 0, 9), (31, 0, 9), (32, 0, 9), (33, 0, 9), (34, 0, 9), (35, 0, 9), (36, 0, 9)]
/-- all lines: the lines told too -/
abbrev MR2 : ab_M := [(3, 6, 11), (22, 2, 9), (23, 0, 6), (24, 0, 5), (25, 0, 5), (26, 0, 5), (27, 0, 9), (28, 0, 9), (29, 0, 9), (30, 0, 9), (31, 0, 9), (32, 0, 9), (33, 0, 9), (34, 0, 9), (35, 0, 9), (36, 0, 9)]
/-- the row of tokens, as it lies in the heap -/
def ro (h : eg_H) (tk : Nat → tx_K) (ta : Nat → Nat) (m : Nat) : Prop := 1 ≤ m ∧ m ≤ 941 ∧ (hv h 3 5).toInt = (m : Int) ∧ (∀ t, t < m → en_C h t (tk t) (ta t)) ∧ ∀ t, m ≤ t → tk t = tk (m - 1) ∧ ta t = ta (m - 1)
theorem ro.fr {h h' : eg_H} {tk : Nat → tx_K} {ta : Nat → Nat} {m : Nat} (r : ro h tk ta m) (f : ab_fr MR2 h' h) : ro h' tk ta m := by
  obtain ⟨r1, r2, r3, r4, r5⟩ := r
  exact ⟨r1, r2, by rw [hv_same (f 3 5 rfl)]; exact r3, fun t ht => (r4 t ht).same (f 5 t rfl) (f 6 t rfl) (f 7 t rfl) (fun k => hl_same (f 4 k rfl)), r5⟩
/-- the current token is this one -/
def cur (h : eg_H) (t : tx_K) (a : Nat) : Prop := (hv h 3 10).toInt = (a : Int) ∧ (match t with
  | (0, _) => (hv h 3 7).toInt = 0
  | (1, _) => (hv h 3 7).toInt = 3
  | (2, c, _) => (hv h 3 7).toInt = c ∧ tx_s c
  | (3, v, _) => (hv h 3 7).toInt = 2 ∧ (hl h 3 11).toInt = v
  | (_, a, b) => (hl h 3 11).toInt = a ∧ tx_co a b ∧ en_K h (hl h 3 11) (hv h 3 7).toInt)
theorem cur.same {h h' : eg_H} {t : tx_K} {a : Nat} (c : cur h t a) (e10 : hv h' 3 10 = hv h 3 10) (e7 : hv h' 3 7 = hv h 3 7) (e11 : hl h' 3 11 = hl h 3 11) (e4 : ∀ k, hl h' 4 k = hl h 4 k) : cur h' t a := by
  unfold cur at c ⊢
  rw [e10, e7, e11]
  refine ⟨c.1, ?_⟩
  have e2 := c.2
  split at e2
  · exact e2
  · exact e2
  · exact e2
  · exact e2
  · refine ⟨e2.1, e2.2.1, ?_⟩
    rcases e2.2.2 with ⟨k, k1, k2, k3⟩ | ⟨k1, k2⟩
    · exact Or.inl ⟨k, k1, k2, (e4 k).trans k3⟩
    · exact Or.inr ⟨k1, fun j hj => by rw [e4]; exact k2 j hj⟩
/-- j tokens have been taken -/
def cu (h : eg_H) (tk : Nat → tx_K) (ta : Nat → Nat) (m j : Nat) : Prop := (hv h 3 6).toInt = ((min j m : Nat) : Int) ∧ (1 ≤ j → cur h (tk (j - 1)) (ta (j - 1)))
abbrev MAD : ab_M := [(3, 6, 7), (3, 10, 11)]
def ad_P (h : eg_H) (tk : Nat → tx_K) (ta : Nat → Nat) (m j : Nat) (vo : Option Value) (h' : eg_H) : Prop := vo = none ∧ ab_hp h' ∧ ab_fr MAD h' h ∧ cu h' tk ta m (j + 1)
theorem rt_736 : (eg_md 736).2.2.2 = none := by decide +kernel
theorem k_adv {sc : List Value} {sp d : Nat} {h : eg_H} {tk : Nat → tx_K} {ta : Nat → Nat} {m j : Nat} (hq : ab_hp h) (hr : ro h tk ta m) (hc : cu h tk ta m j) : mc sc sp 736 8 d [.ref 3] h (ad_P h tk ta m j) := by
  have l0 : eg_find 0 (eg_args 0 [.ref 3]) = some (.ref 3) := rfl
  have hp := hq.1
  obtain ⟨r1, r2, r3, r4, r5⟩ := hr
  obtain ⟨c1, c2⟩ := hc
  unfold mc
  refine hs_aload_n ci_736_0 l0 ?_
  refine hs_gfi 6 ci_736_1 (by decide +kernel) hp ?_
  refine hs_aload_n ci_736_4 l0 ?_
  refine hs_gfi 5 ci_736_5 (by decide +kernel) hp ?_
  refine hs_ic (t := 70) ci_736_8 rfl (fun b8 => ?_) (fun b8 => ?_)
  · simp only [hs_cd, ab_not] at b8
    have hj : m ≤ j := by omega
    refine hs_k ⟨5, none, by decide +kernel, by rw [rt_736]; rfl, rfl, hq, ab_fr.rf, ?_, fun _ => ?_⟩
    · rw [c1]
      have : min j m = min (j + 1) m := by omega
      rw [this]
    · have e0 : j + 1 - 1 = j := by omega
      have k1 := r5 j hj
      have k2 : tk (j - 1) = tk (m - 1) ∧ ta (j - 1) = ta (m - 1) := by
        by_cases e : m ≤ j - 1
        · exact r5 (j - 1) e
        · have e3 : j - 1 = m - 1 := by omega
          rw [e3]
          exact ⟨rfl, rfl⟩
      rw [e0, k1.1, k1.2, ← k2.1, ← k2.2]
      exact c2 (by omega)
  · simp only [hs_cd, ab_not] at b8
    refine hs_aload_n ci_736_11 l0 ?_
    refine hs_gfi 6 ci_736_12 (by decide +kernel) hp ?_
    refine hs_sipush ci_736_15 ?_
    refine hs_ic (t := 70) ci_736_18 rfl (fun b18 => ?_) (fun b18 => ?_)
    · simp only [hs_cd, ab_not, kS_941] at b18
      have hj : m ≤ j := by omega
      refine hs_k ⟨5, none, by decide +kernel, by rw [rt_736]; rfl, rfl, hq, ab_fr.rf, ?_, fun _ => ?_⟩
      · rw [c1]
        have : min j m = min (j + 1) m := by omega
        rw [this]
      · have e0 : j + 1 - 1 = j := by omega
        have k1 := r5 j hj
        have k2 : tk (j - 1) = tk (m - 1) ∧ ta (j - 1) = ta (m - 1) := by
          by_cases e : m ≤ j - 1
          · exact r5 (j - 1) e
          · have e3 : j - 1 = m - 1 := by omega
            rw [e3]
            exact ⟨rfl, rfl⟩
        rw [e0, k1.1, k1.2, ← k2.1, ← k2.2]
        exact c2 (by omega)
    · simp only [hs_cd, ab_not, kS_941] at b18
      refine hs_aload_n ci_736_21 l0 ?_
      refine hs_aload_n ci_736_22 l0 ?_
      refine hs_gfr 2 5 ci_736_23 (by decide +kernel) hp ?_
      refine hs_aload_n ci_736_26 l0 ?_
      refine hs_gfi 6 ci_736_27 (by decide +kernel) hp ?_
      refine hs_iaload 0 940 (-2147483648) (2147483647) ci_736_30 (by decide +kernel) hp (by omega) (by omega) (fun r30_1 r30_2 => ?_)
      refine hs_pfi 7 (-2147483648) (2147483647) ci_736_31 (by decide +kernel) hp (ab_ige _) (ab_ile _) ?_
      intro h31 w31
      replace hp := w31.1
      refine hs_aload_n ci_736_34 l0 ?_
      refine hs_aload_n ci_736_35 l0 ?_
      refine hs_gfr 3 6 ci_736_36 (by decide +kernel) hp ?_
      refine hs_aload_n ci_736_39 l0 ?_
      refine hs_gfi 6 ci_736_40 (by decide +kernel) hp ?_
      have n43 : hv h31 3 6 = hv h 3 6 := by rw [w31.v, if_neg (by omega)]
      refine hs_iaload 0 940 (-2147483648) (2147483647) ci_736_43 (by decide +kernel) hp (by rw [n43]; omega) (by rw [n43]; omega) (fun r43_1 r43_2 => ?_)
      refine hs_pfi 10 (-2147483648) (2147483647) ci_736_44 (by decide +kernel) hp (ab_ige _) (ab_ile _) ?_
      intro h44 w44
      replace hp := w44.1
      refine hs_aload_n ci_736_47 l0 ?_
      refine hs_aload_n ci_736_48 l0 ?_
      refine hs_gfr 4 7 ci_736_49 (by decide +kernel) hp ?_
      refine hs_aload_n ci_736_52 l0 ?_
      refine hs_gfi 6 ci_736_53 (by decide +kernel) hp ?_
      have n56 : hv h44 3 6 = hv h 3 6 := by rw [w44.v, if_neg (by omega), n43]
      refine hs_laload 941 ci_736_56 (by decide +kernel) hp (by rw [n56]; omega) (by rw [n56]; omega) ?_
      refine hs_pfl 11 ci_736_57 (by decide +kernel) hp ?_
      intro h57 w57
      replace hp := w57.1
      refine hs_aload_n ci_736_60 l0 ?_
      refine hs_dup ci_736_61 rfl ?_
      refine hs_gfi 6 ci_736_62 (by decide +kernel) hp ?_
      refine hs_iconst ci_736_65 ?_
      refine hs_iadd ci_736_66 ?_
      have n67 : hv h57 3 6 = hv h 3 6 := by rw [w57.i _ _ (by omega), n56]
      refine hs_pfi 6 (0) (941) ci_736_67 (by decide +kernel) hp (by rw [n67, i32_inc c1 (by omega) (by omega)]; omega) (by rw [n67, i32_inc c1 (by omega) (by omega)]; omega) ?_
      intro h67 w67
      replace hp := w67.1
      have hj : j < m := by omega
      have ej : (hv h 3 6).toInt.toNat = j := by omega
      have f31 : ab_fr MAD h31 h := w31.fr (M := MAD) rfl
      have f44 : ab_fr MAD h44 h := (w44.fr (M := MAD) rfl).tr f31
      have f57 : ab_fr MAD h57 h := (w57.fr (M := MAD) rfl).tr f44
      have f67 : ab_fr MAD h67 h := (w67.fr (M := MAD) rfl).tr f57
      have g7 : hv h67 3 7 = hv h 5 j := by rw [w67.v, if_neg (by omega), w57.i _ _ (by omega), w44.v, if_neg (by omega), w31.v, if_pos ⟨rfl, rfl⟩, ej]
      have g10 : hv h67 3 10 = hv h 6 j := by rw [w67.v, if_neg (by omega), w57.i _ _ (by omega), w44.v, if_pos ⟨rfl, rfl⟩, n43, ej, w31.v, if_neg (by omega)]
      have g11 : hl h67 3 11 = hl h 7 j := by rw [w67.l _ _ (by omega), w57.v, if_pos ⟨rfl, rfl⟩, n56, ej, w44.l _ _ (by omega), w31.l _ _ (by omega)]
      refine hs_k ⟨5, none, by decide +kernel, by rw [rt_736]; rfl, rfl, ⟨hp, hq.2.fr (M := MAD) (by decide +kernel) f67⟩, f67, ?_, fun _ => ?_⟩
      · rw [w67.v, if_pos ⟨rfl, rfl⟩, n67, i32_inc c1 (by omega) (by omega)]
        have : min j m = j ∧ min (j + 1) m = j + 1 := by omega
        rw [this.1, this.2]
        rfl
      · have e0 : j + 1 - 1 = j := by omega
        rw [e0]
        have hen := r4 j hj
        unfold en_C at hen
        unfold cur
        rw [g7, g10, g11]
        refine ⟨hen.1, ?_⟩
        have e2 := hen.2
        clear hen
        revert e2
        generalize tk j = tt
        obtain ⟨n9, x9, y9⟩ := tt
        intro e2
        match n9, e2 with
        | 0, e2 => exact e2
        | 1, e2 => exact e2
        | 2, e2 => exact e2
        | 3, e2 => exact e2
        | n9 + 4, e2 =>
          refine ⟨e2.1, e2.2.1, ?_⟩
          rcases e2.2.2 with ⟨k, k1, k2, k3⟩ | ⟨k1, k2⟩
          · exact Or.inl ⟨k, k1, k2, (hl_same (f67 4 k rfl)).trans k3⟩
          · exact Or.inr ⟨k1, fun j hj => by rw [hl_same (f67 4 j rfl)]; exact k2 j hj⟩
abbrev MFL : ab_M := [(3, 8, 9)]
/-- told as a fault, where the current token is -/
def fl_P (h : eg_H) (k : Int) (vo : Option Value) (h' : eg_H) : Prop := ∃ r : Int32, vo = some (.int r) ∧ r.toInt = 0 ∧ ab_hp h' ∧ ab_fr MFL h' h ∧ (hv h' 3 8).toInt = k ∧ hv h' 3 9 = hv h 3 10
theorem k_fail {sc : List Value} {sp d : Nat} {h : eg_H} (x : Int32) (hq : ab_hp h) : mc sc sp 748 8 d [.ref 3, .int x] h (fl_P h x.toInt) := by
  have l0 : eg_find 0 (eg_args 0 [.ref 3, .int x]) = some (.ref 3) := rfl
  have l1 : eg_find 1 (eg_args 0 [.ref 3, .int x]) = some (.int x) := rfl
  have hp := hq.1
  unfold mc
  refine hs_aload_n ci_748_0 l0 ?_
  refine hs_iload_n ci_748_1 l1 ?_
  refine hs_pfi 8 (-2147483648) (2147483647) ci_748_2 (by decide +kernel) hp (ab_ige _) (ab_ile _) ?_
  intro h2 w2
  replace hp := w2.1
  refine hs_aload_n ci_748_5 l0 ?_
  refine hs_aload_n ci_748_6 l0 ?_
  refine hs_gfi 10 ci_748_7 (by decide +kernel) hp ?_
  refine hs_pfi 9 (-2147483648) (2147483647) ci_748_10 (by decide +kernel) hp (ab_ige _) (ab_ile _) ?_
  intro h10 w10
  replace hp := w10.1
  refine hs_iconst ci_748_13 ?_
  have f10 : ab_fr MFL h10 h := (w10.fr (M := MFL) rfl).tr (w2.fr (M := MFL) rfl)
  refine hs_k ⟨3, some (.int (Int32.ofInt 0)), by decide +kernel, by decide +kernel, Int32.ofInt 0, rfl, by decide, ⟨hp, hq.2.fr (M := MFL) (by decide +kernel) f10⟩, f10, ?_, ?_⟩
  · rw [w10.v, if_neg (by omega), w2.v, if_pos ⟨rfl, rfl⟩]
  · rw [w10.v, if_pos ⟨rfl, rfl⟩, w2.v, if_neg (by omega)]
/-- the words that are no names -/
def kwv : List Int := [237307, 9518, 6465242723, 1831769, 4085956, 10502473, 38567165, 3546724, 8935760650, 2968, 423, 1111, 220610, 10631, 283288069, 122079, 10506715, 276903499, 79, 555, 394725, 400557, 212302449]
def isnm (a : Int) : Prop := ∀ j : Nat, j < 23 → kwv.getD j 0 ≠ a
/-- what the current token is, by its kind -/
def kwok (h : eg_H) : Prop := ∀ j : Nat, j < 23 → (hl h 4 j).toInt = kwv.getD j 0
theorem kwok.fr {M : ab_M} {h h' : eg_H} (k : kwok h) (f : ab_fr M h' h) (c : ∀ j, ab_inr M 4 j j = false) : kwok h' := fun j hj => by rw [hl_same (f 4 j (c j))]; exact k j hj
theorem kw_inj : ∀ j k : Nat, j < 23 → k < 23 → kwv.getD j 0 = kwv.getD k 0 → j = k := by
  intro j k hj hk
  have : ∀ j, j < 23 → ∀ k, k < 23 → kwv.getD j 0 = kwv.getD k 0 → j = k := by decide +kernel
  exact this j hj k hk
theorem tx_s_b {c : Int} (h : tx_s c) : 40 ≤ c ∧ c ≤ 62 ∧ c ≠ 59 ∨ c = 59 := by
  unfold tx_s at h
  omega
theorem cur_k {h : eg_H} {t : tx_K} {a : Nat} (c : cur h t a) (hk : kwok h) : ((hv h 3 7).toInt = 0 ↔ t.1 = 0) ∧ ((hv h 3 7).toInt = 2 ↔ t.1 = 3) ∧ ((hv h 3 7).toInt = 59 ↔ (t.1 = 2 ∧ t.2.1 = 59)) ∧ ((hv h 3 7).toInt = 1 ↔ (4 ≤ t.1 ∧ isnm t.2.1)) ∧ (∀ j : Nat, j < 23 → ((hv h 3 7).toInt = 200 + (j : Int) ↔ (4 ≤ t.1 ∧ t.2.1 = kwv.getD j 0))) ∧ (t.1 = 3 → (hl h 3 11).toInt = t.2.1) ∧ (4 ≤ t.1 → (hl h 3 11).toInt = t.2.1 ∧ tx_co t.2.1 t.2.2) := by
  obtain ⟨-, c2⟩ := c
  obtain ⟨n, x, y⟩ := t
  match n, c2 with
  | 0, c2 =>
    have c2 : (hv h 3 7).toInt = 0 := c2
    simp only
    refine ⟨⟨fun _ => trivial, fun _ => c2⟩, by omega, by omega, by omega, fun j hj => by omega, by omega, by omega⟩
  | 1, c2 =>
    have c2 : (hv h 3 7).toInt = 3 := c2
    simp only
    refine ⟨by omega, by omega, by omega, by omega, fun j hj => by omega, by omega, by omega⟩
  | 2, c2 =>
    have c3 : (hv h 3 7).toInt = x := c2.1
    have c4 := tx_s_b c2.2
    simp only
    refine ⟨by omega, by omega, ⟨fun g => ⟨trivial, by omega⟩, fun g => by have := g.2; omega⟩, by omega, fun j hj => by omega, by omega, by omega⟩
  | 3, c2 =>
    have c3 : (hv h 3 7).toInt = 2 := c2.1
    have c4 : (hl h 3 11).toInt = x := c2.2
    simp only
    refine ⟨by omega, ⟨fun _ => trivial, fun _ => c3⟩, by omega, by omega, fun j hj => by omega, fun _ => c4, by omega⟩
  | n + 4, c2 =>
    have c3 : (hl h 3 11).toInt = x := c2.1
    have c4 : tx_co x y := c2.2.1
    have c5 : en_K h (hl h 3 11) (hv h 3 7).toInt := c2.2.2
    simp only
    rcases c5 with ⟨k, k1, k2, k3⟩ | ⟨k1, k2⟩
    · have k4 : kwv.getD k 0 = x := by rw [← hk k k1, k3]; exact c3
      refine ⟨by omega, by omega, by omega, ?_, fun j hj => ?_, by omega, fun _ => ⟨c3, c4⟩⟩
      · constructor
        · intro g; omega
        · rintro ⟨-, g⟩
          exact absurd k4 (g k k1)
      · constructor
        · intro g
          have : j = k := by omega
          subst this
          exact ⟨by omega, k4.symm⟩
        · rintro ⟨-, g⟩
          have := kw_inj j k hj k1 (by rw [k4]; exact g.symm)
          subst this
          exact k2
    · have k3 : isnm x := fun j hj g => k2 j hj (Int64.toInt_inj.mp (by rw [hk j hj, c3]; exact g))
      refine ⟨by omega, by omega, by omega, ⟨fun _ => ⟨by omega, k3⟩, fun _ => k1⟩, fun j hj => ?_, by omega, fun _ => ⟨c3, c4⟩⟩
      constructor
      · intro g; omega
      · rintro ⟨-, g⟩
        exact absurd g.symm (k3 j hj)
abbrev MTK : ab_M := [(3, 6, 11)]
def flt (h : eg_H) (k : Int) (a : Nat) : Prop := (hv h 3 8).toInt = k ∧ (hv h 3 9).toInt = (a : Int)
/-- what a token told as a number is -/
def sp_num (t : tx_K) (a : Nat) (lo hi : Int) : Sum (Int × Nat) Int := if t.1 = 3 then (if lo ≤ t.2.1 ∧ t.2.1 ≤ hi then .inr t.2.1 else .inl (2, a)) else .inl (1, a)
def tn_P (h : eg_H) (tk : Nat → tx_K) (ta : Nat → Nat) (m j : Nat) (lo hi : Int) (vo : Option Value) (h' : eg_H) : Prop := ab_hp h' ∧ ab_fr MTK h' h ∧ cu h' tk ta m (j + 1) ∧ ∃ r : Int32, vo = some (.int r) ∧ ((∃ v, sp_num (tk j) (ta j) lo hi = .inr v ∧ r.toInt = 1 ∧ (hl h' 3 11).toInt = v) ∨ (∃ k a, sp_num (tk j) (ta j) lo hi = .inl (k, a) ∧ r.toInt = 0 ∧ flt h' k a))
theorem cu.fail {h h' : eg_H} {tk : Nat → tx_K} {ta : Nat → Nat} {m j : Nat} (c : cu h tk ta m j) (f : ab_fr MFL h' h) : cu h' tk ta m j := ⟨by rw [hv_same (f 3 6 rfl)]; exact c.1, fun g => (c.2 g).same (hv_same (f 3 10 rfl)) (hv_same (f 3 7 rfl)) (hl_same (f 3 11 rfl)) (fun k => hl_same (f 4 k rfl))⟩
theorem rt_752 : (eg_md 752).2.2.2 = some .boolean := by decide +kernel
theorem rv_b {mu : Nat} (h : (eg_md mu).2.2.2 = some .boolean) {r : Int32} (hr : r.toInt = 0 ∨ r.toInt = 1) : eg_rv (eg_md mu).2.2.2 3 [.int r] = some (some (.int r)) := by
  rw [h]
  rcases hr with e | e
  · obtain rfl : r = 0 := Int32.toInt_inj.mp (by rw [e]; decide)
    decide
  · obtain rfl : r = 1 := Int32.toInt_inj.mp (by rw [e]; decide)
    decide
theorem k_num {sc : List Value} {sp d : Nat} {h : eg_H} {tk : Nat → tx_K} {ta : Nat → Nat} {m j : Nat} {lo hi : Int32} (hq : ab_hp h) (hk : kwok h) (hr : ro h tk ta m) (hc : cu h tk ta m j) : mc sc sp 752 8 (d + 1) [.ref 3, .int lo, .int hi] h (tn_P h tk ta m j lo.toInt hi.toInt) := by
  have l0 : eg_find 0 (eg_args 0 [.ref 3, .int lo, .int hi]) = some (.ref 3) := rfl
  have l1 : eg_find 1 (eg_args 0 [.ref 3, .int lo, .int hi]) = some (.int lo) := rfl
  have l2 : eg_find 2 (eg_args 0 [.ref 3, .int lo, .int hi]) = some (.int hi) := rfl
  have hp := hq.1
  unfold mc
  refine hs_aload_n ci_752_0 l0 ?_
  refine hs_cv 736 8 0 ci_752_1 (by decide +kernel) (by decide +kernel) hp rfl (by rw [ml_736]; rfl) (k_adv hq hr hc) ?_
  rintro v9 h1 ⟨e8, q1, f1, c1⟩
  rw [e8]
  clear e8 v9
  simp only [Option.toList, List.nil_append]
  replace hp := q1.1
  have hcu : cur h1 (tk j) (ta j) := c1.2 (by omega)
  have hk1 : kwok h1 := hk.fr f1 (fun _ => rfl)
  obtain ⟨k0, k2, k59, kn, kk, kv, kw⟩ := cur_k hcu hk1
  refine hs_aload_n ci_752_4 l0 ?_
  refine hs_gfi 7 ci_752_5 (by decide +kernel) hp ?_
  refine hs_iconst ci_752_8 ?_
  refine hs_ic (t := 18) ci_752_9 rfl (fun b9 => ?_) (fun b9 => ?_)
  · simp only [hs_cd, ab_not, kI_2] at b9
    refine hs_aload_n ci_752_18 l0 ?_
    refine hs_gfl 11 ci_752_19 (by decide +kernel) hp ?_
    refine hs_iload_n ci_752_22 l1 ?_
    refine hs_i2l ci_752_23 ?_
    refine hs_lcmp ci_752_24 (fun z24 q24 => ?_)
    refine hs_if (t := 38) ci_752_25 rfl (fun b25 => ?_) (fun b25 => ?_)
    · simp only [hs_cd, ab_not] at b25
      refine hs_aload_n ci_752_38 l0 ?_
      refine hs_iconst ci_752_39 ?_
      refine hs_cv 748 8 1 ci_752_40 (by decide +kernel) (by decide +kernel) hp rfl (by rw [ml_748]; rfl) (k_fail (Int32.ofInt 2) q1) ?_
      rintro v9 h2 ⟨r2, e8, hr2, q2, f2, g8, g9⟩
      rw [e8]
      clear e8 v9
      replace hp := q2.1
      simp only [Option.toList, List.cons_append, List.nil_append]
      refine hs_if (t := 50) ci_752_43 rfl (fun b43 => ?_) (fun b43 => ?_)
      · simp only [hs_cd, ab_not] at b43
        refine hs_iconst ci_752_50 ?_
        have hv9 : (hl h1 3 11).toInt = (tk j).2.1 := kv (by omega)
        refine hs_k ⟨3, some (.int (Int32.ofInt 0)), by decide +kernel, rv_b rt_752 (Or.inl (by decide)), q2, (fr_sub (M := MTK) (by decide +kernel) f2).tr (fr_sub (by decide +kernel) f1), c1.fail f2, _, rfl, Or.inr ⟨2, ta j, ?_, by decide, g8.trans kI_2, by rw [g9]; exact hcu.1⟩⟩
        unfold sp_num
        rw [if_pos (by omega), if_neg]
        rintro ⟨g1, g2⟩
        rcases q24 with ⟨y1, y2⟩ | ⟨y1, y2⟩ | ⟨y1, y2⟩
        · rw [i64_of32, hv9] at y2
          omega
        · omega
        · rw [i64_of32, hv9] at y2
          omega
      · simp only [hs_cd, ab_not] at b43
        refine hs_iconst ci_752_46 ?_
        refine hs_goto (t := 51) ci_752_47 rfl ?_
        exfalso; omega
    · simp only [hs_cd, ab_not] at b25
      refine hs_aload_n ci_752_28 l0 ?_
      refine hs_gfl 11 ci_752_29 (by decide +kernel) hp ?_
      refine hs_iload_n ci_752_32 l2 ?_
      refine hs_i2l ci_752_33 ?_
      refine hs_lcmp ci_752_34 (fun z34 q34 => ?_)
      refine hs_if (t := 46) ci_752_35 rfl (fun b35 => ?_) (fun b35 => ?_)
      · simp only [hs_cd, ab_not] at b35
        refine hs_iconst ci_752_46 ?_
        refine hs_goto (t := 51) ci_752_47 rfl ?_
        have hv9 : (hl h1 3 11).toInt = (tk j).2.1 := kv (by omega)
        refine hs_k ⟨3, some (.int (Int32.ofInt 1)), by decide +kernel, rv_b rt_752 (Or.inr (by decide)), q1, fr_sub (by decide +kernel) f1, c1, _, rfl, Or.inl ⟨(tk j).2.1, ?_, by decide, hv9⟩⟩
        unfold sp_num
        refine (if_pos (by omega)).trans (if_pos ⟨?_, ?_⟩)
        · rcases q24 with ⟨y1, y2⟩ | ⟨y1, y2⟩ | ⟨y1, y2⟩
          · rw [i64_of32, hv9] at y2
            omega
          · rw [← hv9, y2, i64_of32]
            exact Int.le_refl _
          · omega
        · rcases q34 with ⟨y1, y2⟩ | ⟨y1, y2⟩ | ⟨y1, y2⟩
          · omega
          · rw [← hv9, y2, i64_of32]
            exact Int.le_refl _
          · rw [i64_of32, hv9] at y2
            omega
      · simp only [hs_cd, ab_not] at b35
        refine hs_aload_n ci_752_38 l0 ?_
        refine hs_iconst ci_752_39 ?_
        refine hs_cv 748 8 1 ci_752_40 (by decide +kernel) (by decide +kernel) hp rfl (by rw [ml_748]; rfl) (k_fail (Int32.ofInt 2) q1) ?_
        rintro v9 h2 ⟨r2, e8, hr2, q2, f2, g8, g9⟩
        rw [e8]
        clear e8 v9
        replace hp := q2.1
        simp only [Option.toList, List.cons_append, List.nil_append]
        refine hs_if (t := 50) ci_752_43 rfl (fun b43 => ?_) (fun b43 => ?_)
        · simp only [hs_cd, ab_not] at b43
          refine hs_iconst ci_752_50 ?_
          have hv9 : (hl h1 3 11).toInt = (tk j).2.1 := kv (by omega)
          refine hs_k ⟨3, some (.int (Int32.ofInt 0)), by decide +kernel, rv_b rt_752 (Or.inl (by decide)), q2, (fr_sub (M := MTK) (by decide +kernel) f2).tr (fr_sub (by decide +kernel) f1), c1.fail f2, _, rfl, Or.inr ⟨2, ta j, ?_, by decide, g8.trans kI_2, by rw [g9]; exact hcu.1⟩⟩
          unfold sp_num
          rw [if_pos (by omega), if_neg]
          rintro ⟨g1, g2⟩
          rcases q34 with ⟨y1, y2⟩ | ⟨y1, y2⟩ | ⟨y1, y2⟩
          · rw [i64_of32, hv9] at y2
            omega
          · omega
          · rw [i64_of32, hv9] at y2
            omega
        · simp only [hs_cd, ab_not] at b43
          refine hs_iconst ci_752_46 ?_
          refine hs_goto (t := 51) ci_752_47 rfl ?_
          exfalso; omega
  · simp only [hs_cd, ab_not, kI_2] at b9
    refine hs_aload_n ci_752_12 l0 ?_
    refine hs_iconst ci_752_13 ?_
    refine hs_cv 748 8 1 ci_752_14 (by decide +kernel) (by decide +kernel) hp rfl (by rw [ml_748]; rfl) (k_fail (Int32.ofInt 1) q1) ?_
    rintro v9 h2 ⟨r2, e8, hr2, q2, f2, g8, g9⟩
    rw [e8]
    clear e8 v9
    replace hp := q2.1
    simp only [Option.toList, List.cons_append, List.nil_append]
    refine hs_k ⟨3, some (.int r2), by decide +kernel, rv_b rt_752 (Or.inl hr2), q2, (fr_sub (M := MTK) (by decide +kernel) f2).tr (fr_sub (by decide +kernel) f1), c1.fail f2, r2, rfl, Or.inr ⟨1, ta j, ?_, hr2, g8.trans kI_1, by rw [g9]; exact hcu.1⟩⟩
    unfold sp_num
    rw [if_neg (by omega)]
theorem rt_770 : (eg_md 770).2.2.2 = some .boolean := by decide +kernel
def k_namP (h : eg_H) (tk : Nat → tx_K) (ta : Nat → Nat) (m j : Nat) (vo : Option Value) (h' : eg_H) : Prop := ab_hp h' ∧ ab_fr MTK h' h ∧ cu h' tk ta m (j + 1) ∧ ∃ r : Int32, vo = some (.int r) ∧ ((r.toInt = 1 ∧ 4 ≤ (tk j).1 ∧ isnm (tk j).2.1) ∨ (r.toInt = 0 ∧ ¬ (4 ≤ (tk j).1 ∧ isnm (tk j).2.1) ∧ flt h' 1 (ta j)))
theorem k_nam {sc : List Value} {sp d : Nat} {h : eg_H} {tk : Nat → tx_K} {ta : Nat → Nat} {m j : Nat} (hq : ab_hp h) (hk : kwok h) (hr : ro h tk ta m) (hc : cu h tk ta m j) : mc sc sp 770 8 (d + 1) [.ref 3] h (k_namP h tk ta m j) := by
  have l0 : eg_find 0 (eg_args 0 [.ref 3]) = some (.ref 3) := rfl
  have hp := hq.1
  unfold mc
  refine hs_aload_n ci_770_0 l0 ?_
  refine hs_cv 736 8 0 ci_770_1 (by decide +kernel) (by decide +kernel) hp rfl (by rw [ml_736]; rfl) (k_adv hq hr hc) ?_
  rintro v9 h1 ⟨e8, q1, f1, c1⟩
  rw [e8]
  clear e8 v9
  simp only [Option.toList, List.nil_append]
  replace hp := q1.1
  have hcu : cur h1 (tk j) (ta j) := c1.2 (by omega)
  have hk1 : kwok h1 := hk.fr f1 (fun _ => rfl)
  obtain ⟨k0, k2, k59, kn, kk, kv, kw⟩ := cur_k hcu hk1
  refine hs_aload_n ci_770_4 l0 ?_
  refine hs_gfi 7 ci_770_5 (by decide +kernel) hp ?_
  refine hs_iconst ci_770_8 ?_
  refine hs_ic (t := 20) ci_770_9 rfl (fun b9 => ?_) (fun b9 => ?_)
  · simp only [hs_cd, ab_not, kI_1] at b9
    refine hs_iconst ci_770_20 ?_
    refine hs_goto (t := 25) ci_770_21 rfl ?_
    exact hs_k ⟨3, some (.int (Int32.ofInt 1)), by decide +kernel, rv_b rt_770 (Or.inr (by decide)), q1, fr_sub (by decide +kernel) f1, c1, _, rfl, Or.inl ⟨by decide, kn.mp b9⟩⟩
  · simp only [hs_cd, ab_not, kI_1] at b9
    refine hs_aload_n ci_770_12 l0 ?_
    refine hs_iconst ci_770_13 ?_
    refine hs_cv 748 8 1 ci_770_14 (by decide +kernel) (by decide +kernel) hp rfl (by rw [ml_748]; rfl) (k_fail (Int32.ofInt 1) q1) ?_
    rintro v9 h2 ⟨r2, e8, hr2, q2, f2, g8, g9⟩
    rw [e8]
    clear e8 v9
    replace hp := q2.1
    simp only [Option.toList, List.cons_append, List.nil_append]
    refine hs_if (t := 24) ci_770_17 rfl (fun b17 => ?_) (fun b17 => ?_)
    · simp only [hs_cd, ab_not] at b17
      refine hs_iconst ci_770_24 ?_
      exact hs_k ⟨3, some (.int (Int32.ofInt 0)), by decide +kernel, rv_b rt_770 (Or.inl (by decide)), q2, (fr_sub (M := MTK) (by decide +kernel) f2).tr (fr_sub (by decide +kernel) f1), c1.fail f2, _, rfl, Or.inr ⟨by decide, fun g => b9 (kn.mpr g), g8.trans kI_1, by rw [g9]; exact hcu.1⟩⟩
    · simp only [hs_cd, ab_not] at b17
      refine hs_iconst ci_770_20 ?_
      refine hs_goto (t := 25) ci_770_21 rfl ?_
      exfalso; omega
theorem rt_827 : (eg_md 827).2.2.2 = some .boolean := by decide +kernel
def k_endP (h : eg_H) (tk : Nat → tx_K) (ta : Nat → Nat) (m j : Nat) (vo : Option Value) (h' : eg_H) : Prop := ab_hp h' ∧ ab_fr MTK h' h ∧ cu h' tk ta m (j + 1) ∧ ∃ r : Int32, vo = some (.int r) ∧ ((r.toInt = 1 ∧ (tk j).1 = 2 ∧ (tk j).2.1 = 59) ∨ (r.toInt = 0 ∧ ¬ ((tk j).1 = 2 ∧ (tk j).2.1 = 59) ∧ flt h' 1 (ta j)))
theorem k_end {sc : List Value} {sp d : Nat} {h : eg_H} {tk : Nat → tx_K} {ta : Nat → Nat} {m j : Nat} (hq : ab_hp h) (hk : kwok h) (hr : ro h tk ta m) (hc : cu h tk ta m j) : mc sc sp 827 8 (d + 1) [.ref 3] h (k_endP h tk ta m j) := by
  have l0 : eg_find 0 (eg_args 0 [.ref 3]) = some (.ref 3) := rfl
  have hp := hq.1
  unfold mc
  refine hs_aload_n ci_827_0 l0 ?_
  refine hs_cv 736 8 0 ci_827_1 (by decide +kernel) (by decide +kernel) hp rfl (by rw [ml_736]; rfl) (k_adv hq hr hc) ?_
  rintro v9 h1 ⟨e8, q1, f1, c1⟩
  rw [e8]
  clear e8 v9
  simp only [Option.toList, List.nil_append]
  replace hp := q1.1
  have hcu : cur h1 (tk j) (ta j) := c1.2 (by omega)
  have hk1 : kwok h1 := hk.fr f1 (fun _ => rfl)
  obtain ⟨k0, k2, k59, kn, kk, kv, kw⟩ := cur_k hcu hk1
  refine hs_aload_n ci_827_4 l0 ?_
  refine hs_gfi 7 ci_827_5 (by decide +kernel) hp ?_
  refine hs_bipush ci_827_8 ?_
  refine hs_ic (t := 21) ci_827_10 rfl (fun b10 => ?_) (fun b10 => ?_)
  · simp only [hs_cd, ab_not, kB_59] at b10
    refine hs_iconst ci_827_21 ?_
    refine hs_goto (t := 26) ci_827_22 rfl ?_
    exact hs_k ⟨3, some (.int (Int32.ofInt 1)), by decide +kernel, rv_b rt_827 (Or.inr (by decide)), q1, fr_sub (by decide +kernel) f1, c1, _, rfl, Or.inl ⟨by decide, k59.mp b10⟩⟩
  · simp only [hs_cd, ab_not, kB_59] at b10
    refine hs_aload_n ci_827_13 l0 ?_
    refine hs_iconst ci_827_14 ?_
    refine hs_cv 748 8 1 ci_827_15 (by decide +kernel) (by decide +kernel) hp rfl (by rw [ml_748]; rfl) (k_fail (Int32.ofInt 1) q1) ?_
    rintro v9 h2 ⟨r2, e8, hr2, q2, f2, g8, g9⟩
    rw [e8]
    clear e8 v9
    replace hp := q2.1
    simp only [Option.toList, List.cons_append, List.nil_append]
    refine hs_if (t := 25) ci_827_18 rfl (fun b18 => ?_) (fun b18 => ?_)
    · simp only [hs_cd, ab_not] at b18
      refine hs_iconst ci_827_25 ?_
      exact hs_k ⟨3, some (.int (Int32.ofInt 0)), by decide +kernel, rv_b rt_827 (Or.inl (by decide)), q2, (fr_sub (M := MTK) (by decide +kernel) f2).tr (fr_sub (by decide +kernel) f1), c1.fail f2, _, rfl, Or.inr ⟨by decide, fun g => b10 (k59.mpr g), g8.trans kI_1, by rw [g9]; exact hcu.1⟩⟩
    · simp only [hs_cd, ab_not] at b18
      refine hs_iconst ci_827_21 ?_
      refine hs_goto (t := 26) ci_827_22 rfl ?_
      exfalso; omega
theorem k_int {sc : List Value} {sp d : Nat} {h : eg_H} (hq : ab_hp h) : mc sc sp 758 8 d [.ref 3] h (fun vo h' => h' = h ∧ vo = some (.int (hl h 3 11).toInt32)) := by
  have l0 : eg_find 0 (eg_args 0 [.ref 3]) = some (.ref 3) := rfl
  have hp := hq.1
  unfold mc
  refine hs_aload_n ci_758_0 l0 ?_
  refine hs_gfl 11 ci_758_1 (by decide +kernel) hp ?_
  refine hs_l2i ci_758_4 ?_
  exact hs_k ⟨3, _, by decide +kernel, by rw [rt_758]; rfl, rfl, rfl⟩
theorem rt_774 : (eg_md 774).2.2.2 = some .long := by decide +kernel
theorem k_lng {sc : List Value} {sp d : Nat} {h : eg_H} (hq : ab_hp h) : mc sc sp 774 8 d [.ref 3] h (fun vo h' => h' = h ∧ vo = some (.long (hl h 3 11))) := by
  have l0 : eg_find 0 (eg_args 0 [.ref 3]) = some (.ref 3) := rfl
  have hp := hq.1
  unfold mc
  refine hs_aload_n ci_774_0 l0 ?_
  refine hs_gfl 11 ci_774_1 (by decide +kernel) hp ?_
  exact hs_k ⟨4, _, by decide +kernel, by rw [rt_774]; rfl, rfl, rfl⟩
