/-! BY HAND: feed, byte by byte -/
theorem ci_676_0 : ab_at 676 0 (.aload_n 0) 1 = true := by decide +kernel
theorem ci_676_1 : ab_at 676 1 (.getfield 18) 3 = true := by decide +kernel
theorem ci_676_4 : ab_at 676 4 (.getfield 110) 3 = true := by decide +kernel
theorem ci_676_7 : ab_at 676 7 (.bipush 20) 2 = true := by decide +kernel
theorem ci_676_9 : ab_at 676 9 (.iadd) 1 = true := by decide +kernel
theorem ci_676_10 : ab_at 676 10 (.sipush 940) 3 = true := by decide +kernel
theorem ci_676_13 : ab_at 676 13 (.if_icmp .le 5) 3 = true := by decide +kernel
theorem ci_676_16 : ab_at 676 16 (.iconst (-1)) 1 = true := by decide +kernel
theorem ci_676_18 : ab_at 676 18 (.aload_n 0) 1 = true := by decide +kernel
theorem ci_676_19 : ab_at 676 19 (.getfield 18) 3 = true := by decide +kernel
theorem ci_676_22 : ab_at 676 22 (.iload_n 1) 1 = true := by decide +kernel
theorem ci_676_23 : ab_at 676 23 (.invokevirtual 113) 3 = true := by decide +kernel
theorem ci_676_26 : ab_at 676 26 (.aload_n 0) 1 = true := by decide +kernel
theorem ci_676_27 : ab_at 676 27 (.getfield 18) 3 = true := by decide +kernel
theorem ci_676_30 : ab_at 676 30 (.iload_n 2) 1 = true := by decide +kernel
theorem ci_676_31 : ab_at 676 31 (.invokevirtual 113) 3 = true := by decide +kernel
theorem ci_676_34 : ab_at 676 34 (.aload_n 0) 1 = true := by decide +kernel
theorem ci_676_35 : ab_at 676 35 (.getfield 18) 3 = true := by decide +kernel
theorem ci_676_38 : ab_at 676 38 (.iload_n 3) 1 = true := by decide +kernel
theorem ci_676_39 : ab_at 676 39 (.invokevirtual 113) 3 = true := by decide +kernel
theorem ci_676_42 : ab_at 676 42 (.aload_n 0) 1 = true := by decide +kernel
theorem ci_676_43 : ab_at 676 43 (.getfield 18) 3 = true := by decide +kernel
theorem ci_676_46 : ab_at 676 46 (.iload 4) 2 = true := by decide +kernel
theorem ci_676_48 : ab_at 676 48 (.invokevirtual 113) 3 = true := by decide +kernel
theorem ci_676_51 : ab_at 676 51 (.aload_n 0) 1 = true := by decide +kernel
theorem ci_676_52 : ab_at 676 52 (.getfield 18) 3 = true := by decide +kernel
theorem ci_676_55 : ab_at 676 55 (.iload 5) 2 = true := by decide +kernel
theorem ci_676_57 : ab_at 676 57 (.invokevirtual 113) 3 = true := by decide +kernel
theorem ci_676_60 : ab_at 676 60 (.aload_n 0) 1 = true := by decide +kernel
theorem ci_676_61 : ab_at 676 61 (.getfield 18) 3 = true := by decide +kernel
theorem ci_676_64 : ab_at 676 64 (.getfield 110) 3 = true := by decide +kernel
theorem ci_680_0 : ab_at 680 0 (.bipush 24) 2 = true := by decide +kernel
theorem ci_680_2 : ab_at 680 2 (.istore_n 2) 1 = true := by decide +kernel
theorem ci_680_3 : ab_at 680 3 (.iload_n 2) 1 = true := by decide +kernel
theorem ci_680_4 : ab_at 680 4 (.ifCond .lt 42) 3 = true := by decide +kernel
theorem ci_680_7 : ab_at 680 7 (.aload_n 0) 1 = true := by decide +kernel
theorem ci_680_8 : ab_at 680 8 (.getfield 15) 3 = true := by decide +kernel
theorem ci_680_11 : ab_at 680 11 (.sipush 940) 3 = true := by decide +kernel
theorem ci_680_14 : ab_at 680 14 (.if_icmp .ge 26) 3 = true := by decide +kernel
theorem ci_680_17 : ab_at 680 17 (.aload_n 0) 1 = true := by decide +kernel
theorem ci_680_18 : ab_at 680 18 (.getfield 9) 3 = true := by decide +kernel
theorem ci_680_21 : ab_at 680 21 (.aload_n 0) 1 = true := by decide +kernel
theorem ci_680_22 : ab_at 680 22 (.getfield 15) 3 = true := by decide +kernel
theorem ci_680_25 : ab_at 680 25 (.iload_n 1) 1 = true := by decide +kernel
theorem ci_680_26 : ab_at 680 26 (.iload_n 2) 1 = true := by decide +kernel
theorem ci_680_27 : ab_at 680 27 (.iushr) 1 = true := by decide +kernel
theorem ci_680_28 : ab_at 680 28 (.i2b) 1 = true := by decide +kernel
theorem ci_680_29 : ab_at 680 29 (.bastore) 1 = true := by decide +kernel
theorem ci_680_30 : ab_at 680 30 (.aload_n 0) 1 = true := by decide +kernel
theorem ci_680_31 : ab_at 680 31 (.dup) 1 = true := by decide +kernel
theorem ci_680_32 : ab_at 680 32 (.getfield 15) 3 = true := by decide +kernel
theorem ci_680_35 : ab_at 680 35 (.iconst 1) 1 = true := by decide +kernel
theorem ci_680_36 : ab_at 680 36 (.iadd) 1 = true := by decide +kernel
theorem ci_680_37 : ab_at 680 37 (.putfield 15) 3 = true := by decide +kernel
theorem ci_680_40 : ab_at 680 40 (.iinc 2 (-8)) 3 = true := by decide +kernel
theorem ci_680_43 : ab_at 680 43 (.goto (-40)) 3 = true := by decide +kernel
theorem ci_1442_0 : ab_at 1442 0 (.aload_n 0) 1 = true := by decide +kernel
theorem ci_1442_1 : ab_at 1442 1 (.iconst 0) 1 = true := by decide +kernel
theorem ci_1442_2 : ab_at 1442 2 (.putfield 1) 3 = true := by decide +kernel
theorem ci_1442_5 : ab_at 1442 5 (.aload_n 0) 1 = true := by decide +kernel
theorem ci_1442_6 : ab_at 1442 6 (.getfield 7) 3 = true := by decide +kernel
theorem ci_1442_9 : ab_at 1442 9 (.bipush 20) 2 = true := by decide +kernel
theorem ci_1442_11 : ab_at 1442 11 (.iadd) 1 = true := by decide +kernel
theorem ci_1442_12 : ab_at 1442 12 (.sipush 940) 3 = true := by decide +kernel
theorem ci_1442_15 : ab_at 1442 15 (.if_icmp .le 5) 3 = true := by decide +kernel
theorem ci_1442_18 : ab_at 1442 18 (.iconst (-1)) 1 = true := by decide +kernel
theorem ci_1442_20 : ab_at 1442 20 (.aload_n 0) 1 = true := by decide +kernel
theorem ci_1442_21 : ab_at 1442 21 (.iload_n 1) 1 = true := by decide +kernel
theorem ci_1442_22 : ab_at 1442 22 (.invokevirtual 10) 3 = true := by decide +kernel
theorem ci_1442_25 : ab_at 1442 25 (.aload_n 0) 1 = true := by decide +kernel
theorem ci_1442_26 : ab_at 1442 26 (.iload_n 2) 1 = true := by decide +kernel
theorem ci_1442_27 : ab_at 1442 27 (.invokevirtual 10) 3 = true := by decide +kernel
theorem ci_1442_30 : ab_at 1442 30 (.aload_n 0) 1 = true := by decide +kernel
theorem ci_1442_31 : ab_at 1442 31 (.iload_n 3) 1 = true := by decide +kernel
theorem ci_1442_32 : ab_at 1442 32 (.invokevirtual 10) 3 = true := by decide +kernel
theorem ci_1442_35 : ab_at 1442 35 (.aload_n 0) 1 = true := by decide +kernel
theorem ci_1442_36 : ab_at 1442 36 (.iload 4) 2 = true := by decide +kernel
theorem ci_1442_38 : ab_at 1442 38 (.invokevirtual 10) 3 = true := by decide +kernel
theorem ci_1442_41 : ab_at 1442 41 (.aload_n 0) 1 = true := by decide +kernel
theorem ci_1442_42 : ab_at 1442 42 (.iload 5) 2 = true := by decide +kernel
theorem ci_1442_44 : ab_at 1442 44 (.invokevirtual 10) 3 = true := by decide +kernel
theorem ci_1442_47 : ab_at 1442 47 (.aload_n 0) 1 = true := by decide +kernel
theorem ci_1442_48 : ab_at 1442 48 (.getfield 7) 3 = true := by decide +kernel
theorem ci_1447_0 : ab_at 1447 0 (.bipush 24) 2 = true := by decide +kernel
theorem ci_1447_2 : ab_at 1447 2 (.istore_n 2) 1 = true := by decide +kernel
theorem ci_1447_3 : ab_at 1447 3 (.iload_n 2) 1 = true := by decide +kernel
theorem ci_1447_4 : ab_at 1447 4 (.ifCond .lt 32) 3 = true := by decide +kernel
theorem ci_1447_7 : ab_at 1447 7 (.aload_n 0) 1 = true := by decide +kernel
theorem ci_1447_8 : ab_at 1447 8 (.getfield 14) 3 = true := by decide +kernel
theorem ci_1447_11 : ab_at 1447 11 (.aload_n 0) 1 = true := by decide +kernel
theorem ci_1447_12 : ab_at 1447 12 (.getfield 7) 3 = true := by decide +kernel
theorem ci_1447_15 : ab_at 1447 15 (.iload_n 1) 1 = true := by decide +kernel
theorem ci_1447_16 : ab_at 1447 16 (.iload_n 2) 1 = true := by decide +kernel
theorem ci_1447_17 : ab_at 1447 17 (.ishr) 1 = true := by decide +kernel
theorem ci_1447_18 : ab_at 1447 18 (.i2b) 1 = true := by decide +kernel
theorem ci_1447_19 : ab_at 1447 19 (.bastore) 1 = true := by decide +kernel
theorem ci_1447_20 : ab_at 1447 20 (.aload_n 0) 1 = true := by decide +kernel
theorem ci_1447_21 : ab_at 1447 21 (.dup) 1 = true := by decide +kernel
theorem ci_1447_22 : ab_at 1447 22 (.getfield 7) 3 = true := by decide +kernel
theorem ci_1447_25 : ab_at 1447 25 (.iconst 1) 1 = true := by decide +kernel
theorem ci_1447_26 : ab_at 1447 26 (.iadd) 1 = true := by decide +kernel
theorem ci_1447_27 : ab_at 1447 27 (.putfield 7) 3 = true := by decide +kernel
theorem ci_1447_30 : ab_at 1447 30 (.iinc 2 (-8)) 3 = true := by decide +kernel
theorem ci_1447_33 : ab_at 1447 33 (.goto (-30)) 3 = true := by decide +kernel
theorem ml_680 : (eg_md 680).2.2.1 = 3 := by decide +kernel
theorem ml_1447 : (eg_md 1447).2.2.1 = 3 := by decide +kernel
theorem kB_20 : (Int8.ofInt (20)).toInt32.toInt = 20 := by decide +kernel
theorem kB_24 : (Int8.ofInt (24)).toInt32.toInt = 24 := by decide +kernel
theorem kI_m8 : (Int32.ofInt (-8)).toInt = -8 := by decide +kernel
theorem hs_i2b {sc : List Value} {sp u o dq pc : Nat} {K : Nat → eg_L → List Value → eg_H → Prop} {ls : eg_L} {st : List Value} {h : eg_H} {x : Int32} (c : ab_at u pc .i2b 1 = true) (n : hs sc sp u o dq K (pc + 1) ls (.int x.toInt8.toInt32 :: st) h) : hs sc sp u o dq K pc ls (.int x :: st) h := hs_s c rfl (by simp only [eg_b1, eg_ib, eg_ni_e]) n
theorem hs_iushr {sc : List Value} {sp u o dq pc : Nat} {K : Nat → eg_L → List Value → eg_H → Prop} {ls : eg_L} {st : List Value} {h : eg_H} {x y : Int32} (c : ab_at u pc .iushr 1 = true) (n : hs sc sp u o dq K (pc + 1) ls (.int (x.toUInt32 >>> (y.toUInt32 &&& Int32.toUInt32 31)).toInt32 :: st) h) : hs sc sp u o dq K pc ls (.int y :: .int x :: st) h := hs_s c rfl (by simp only [eg_b2, eg_it, eg_ni_e]) n
theorem b8_b (x : Int32) : -128 ≤ x.toInt8.toInt32.toInt ∧ x.toInt8.toInt32.toInt ≤ 127 := by
  rw [Int8.toInt_toInt32]
  exact ⟨Int8.le_toInt _, Int8.toInt_le _⟩
theorem b8_m (x : Int32) : x.toInt8.toInt32.toInt % 256 = x.toInt % 256 := by
  rw [Int8.toInt_toInt32, Int32.toInt_toInt8, Int.bmod_def]
  split <;> omega
theorem i32_n (x : Int32) : x.toInt = (x.toBitVec.toNat : Int) ∨ x.toInt = (x.toBitVec.toNat : Int) - 4294967296 := by
  have e : x.toInt = x.toBitVec.toInt := rfl
  rw [e, BitVec.toInt_eq_toNat_cond]
  split
  · exact Or.inl rfl
  · exact Or.inr rfl
/-- a byte of an int -/
def by4 (v : Int32) (S : Nat) : Int := (v.toInt / 2 ^ S) % 256
theorem ush8 {v s : Int32} {S : Nat} (hs : s.toInt = (S : Int)) (hS : S = 24 ∨ S = 16 ∨ S = 8 ∨ S = 0) : (v.toUInt32 >>> (s.toUInt32 &&& Int32.toUInt32 31)).toInt32.toInt8.toInt32.toInt % 256 = by4 v S := by
  obtain ⟨k, e1, e2⟩ := ab_ushr_v (x := v) (y := s)
  have ek : S = k := by
    have := e2 (by omega) (by omega)
    omega
  subst ek
  rw [b8_m]
  have h1 := i32_n (v.toUInt32 >>> (s.toUInt32 &&& Int32.toUInt32 31)).toInt32
  have h2 := i32_n v
  rw [e1] at h1
  unfold by4
  rcases hS with rfl | rfl | rfl | rfl
  · have e3 : (2 : Nat) ^ 24 = 16777216 := by decide
    have e4 : (2 : Int) ^ 24 = 16777216 := by decide
    rw [e3] at h1
    rw [e4]
    omega
  · have e3 : (2 : Nat) ^ 16 = 65536 := by decide
    have e4 : (2 : Int) ^ 16 = 65536 := by decide
    rw [e3] at h1
    rw [e4]
    omega
  · have e3 : (2 : Nat) ^ 8 = 256 := by decide
    have e4 : (2 : Int) ^ 8 = 256 := by decide
    rw [e3] at h1
    rw [e4]
    omega
  · have e3 : (2 : Nat) ^ 0 = 1 := by decide
    have e4 : (2 : Int) ^ 0 = 1 := by decide
    rw [e3] at h1
    rw [e4]
    omega
theorem ash8 {v s : Int32} {S : Nat} (hs : s.toInt = (S : Int)) (hS : S ≤ 31) : (v >>> (s &&& 31)).toInt8.toInt32.toInt % 256 = by4 v S := by
  have e : (v >>> (s &&& 31)).toInt = v.toInt / 2 ^ ((s &&& 31).toBitVec.smod 32).toNat := by
    show (v >>> (s &&& 31)).toBitVec.toInt = _
    rw [Int32.toBitVec_shiftRight, BitVec.sshiftRight_eq', BitVec.toInt_sshiftRight, Int.shiftRight_eq_div_pow]
    rfl
  obtain ⟨k, hk, rfl, hk2⟩ := ab_of (y := s) (by omega) (by omega)
  rw [ab_31 k hk] at e
  have ek : S = k := by omega
  subst ek
  rw [b8_m, e]
  rfl
abbrev MAX : ab_M := [(1, 1, 1), (2, 0, 939)]
theorem apX_step {sc : List Value} {sp d : Nat} {h : eg_H} {K : Nat → eg_L → List Value → eg_H → Prop} {v s : Int32} {S L : Nat} {ls : eg_L} (hs9 : s.toInt = (S : Int)) (hS : S = 24 ∨ S = 16 ∨ S = 8 ∨ S = 0) (hq : ab_hp h) (hL : (hv h 1 1).toInt = (L : Int)) (hb : L < 940) (l0 : eg_find 0 ls = some (.ref 1)) (l1 : eg_find 1 ls = some (.int v)) (l2 : eg_find 2 ls = some (.int s)) (n : ∀ (ls' : eg_L) (h' : eg_H) (s' : Int32), s'.toInt = (S : Int) - 8 → eg_find 0 ls' = some (.ref 1) → eg_find 1 ls' = some (.int v) → eg_find 2 ls' = some (.int s') → ab_hp h' → ab_fr MAX h' h → (hv h' 1 1).toInt = ((L + 1 : Nat) : Int) → (∀ k, (hv h' 2 k).toInt % 256 = if k = L then by4 v S else (hv h 2 k).toInt % 256) → hs sc sp 680 7 d K 3 ls' [] h') : hs sc sp 680 7 d K 3 ls [] h := by
  have hp := hq.1
  refine hs_iload_n ci_680_3 l2 ?_
  refine hs_if (t := 46) ci_680_4 rfl (fun b4 => ?_) (fun b4 => ?_)
  · simp only [hs_cd, ab_not] at b4
    omega
  · simp only [hs_cd, ab_not] at b4
    refine hs_aload_n ci_680_7 l0 ?_
    refine hs_gfi 1 ci_680_8 (by decide +kernel) hp ?_
    refine hs_sipush ci_680_11 ?_
    refine hs_ic (t := 40) ci_680_14 rfl (fun b14 => ?_) (fun b14 => ?_)
    · simp only [hs_cd, ab_not, kS_940] at b14
      refine hs_iinc2 ci_680_40 (by decide +kernel) l2 ?_
      intro ls9 q9
      replace l0 := q9.2 0 _ (by decide) (Or.inl rfl) l0
      replace l1 := q9.2 1 _ (by decide) (Or.inl rfl) l1
      have l2 := q9.1
      clear q9
      refine hs_goto (t := 3) ci_680_43 rfl ?_
      exfalso
      omega
    · simp only [hs_cd, ab_not, kS_940] at b14
      refine hs_aload_n ci_680_17 l0 ?_
      refine hs_gfr 0 2 ci_680_18 (by decide +kernel) hp ?_
      refine hs_aload_n ci_680_21 l0 ?_
      refine hs_gfi 1 ci_680_22 (by decide +kernel) hp ?_
      refine hs_iload_n ci_680_25 l1 ?_
      refine hs_iload_n ci_680_26 l2 ?_
      refine hs_iushr ci_680_27 ?_
      refine hs_i2b ci_680_28 ?_
      refine hs_bastore 2 0 939 (-128) (127) ci_680_29 ⟨rfl, by decide⟩ (by decide +kernel) hp (by omega) (by omega) (b8_b _).1 (b8_b _).2 ?_
      intro h29 w29
      replace hp := w29.1
      refine hs_aload_n ci_680_30 l0 ?_
      refine hs_dup ci_680_31 rfl ?_
      refine hs_gfi 1 ci_680_32 (by decide +kernel) hp ?_
      refine hs_iconst ci_680_35 ?_
      refine hs_iadd ci_680_36 ?_
      have n37 : hv h29 1 1 = hv h 1 1 := by rw [w29.v, if_neg (by omega)]
      refine hs_pfi 1 (0) (940) ci_680_37 (by decide +kernel) hp (by rw [n37, i32_inc hL (by omega) (by omega)]; omega) (by rw [n37, i32_inc hL (by omega) (by omega)]; omega) ?_
      intro h37 w37
      replace hp := w37.1
      refine hs_iinc2 ci_680_40 (by decide +kernel) l2 ?_
      intro ls9 q9
      replace l0 := q9.2 0 _ (by decide) (Or.inl rfl) l0
      replace l1 := q9.2 1 _ (by decide) (Or.inl rfl) l1
      have l2 := q9.1
      clear q9
      refine hs_goto (t := 3) ci_680_43 rfl ?_
      have e9 : (hv h 1 1).toInt.toNat = L := by omega
      rw [e9] at w29
      have fb9 : ab_fr MAX h29 h := w29.f9 (n := 939) rfl (by omega)
      have fp : ab_fr MAX h37 h := (w37.fr (M := MAX) rfl).tr fb9
      refine n _ h37 _ (i32_add hs9 kI_m8 (by omega) (by omega)) l0 l1 l2 ⟨hp, hq.2.fr (M := MAX) (by decide +kernel) fp⟩ fp ?_ (fun k => ?_)
      · rw [w37.v, if_pos ⟨rfl, rfl⟩, n37, i32_inc hL (by omega) (by omega)]
        omega
      · rw [w37.v, if_neg (by omega), w29.v]
        by_cases e : k = L
        · rw [if_pos ⟨rfl, e⟩, if_pos e]
          exact ush8 hs9 hS
        · rw [if_neg (fun g => e g.2), if_neg e]
def apX_P (h : eg_H) (v : Int32) (L : Nat) (vo : Option Value) (h' : eg_H) : Prop := vo = none ∧ ab_hp h' ∧ ab_fr MAX h' h ∧ (hv h' 1 1).toInt = ((L + 4 : Nat) : Int) ∧ ∀ k, (hv h' 2 k).toInt % 256 = if k = L then by4 v 24 else if k = L + 1 then by4 v 16 else if k = L + 2 then by4 v 8 else if k = L + 3 then by4 v 0 else (hv h 2 k).toInt % 256
theorem rt_680 : (eg_md 680).2.2.2 = none := by decide +kernel
theorem k_apX {sc : List Value} {sp d : Nat} {h : eg_H} (v : Int32) {L : Nat} (hq : ab_hp h) (hL : (hv h 1 1).toInt = (L : Int)) (hb : L ≤ 936) : mc sc sp 680 7 d [.ref 1, .int v] h (apX_P h v L) := by
  have l0 : eg_find 0 (eg_args 0 [.ref 1, .int v]) = some (.ref 1) := rfl
  have l1 : eg_find 1 (eg_args 0 [.ref 1, .int v]) = some (.int v) := rfl
  unfold mc
  refine hs_bipush ci_680_0 ?_
  refine hs_istore2_n ci_680_2 (by decide +kernel) ?_
  intro ls9 q9
  replace l0 := q9.2 0 _ (by decide) (Or.inl rfl) l0
  replace l1 := q9.2 1 _ (by decide) (Or.inl rfl) l1
  have l2 := q9.1
  clear q9
  refine apX_step (S := 24) kB_24 (by decide) hq hL (by omega) l0 l1 l2 ?_
  intro ls1 h1 s1 e1 a0 a1 a2 q1 f1 g1 b1
  refine apX_step (S := 16) (by omega) (by decide) q1 g1 (by omega) a0 a1 a2 ?_
  intro ls2 h2 s2 e2 a0 a1 a2 q2 f2 g2 b2
  refine apX_step (S := 8) (by omega) (by decide) q2 g2 (by omega) a0 a1 a2 ?_
  intro ls3 h3 s3 e3 a0 a1 a2 q3 f3 g3 b3
  refine apX_step (S := 0) (by omega) (by decide) q3 g3 (by omega) a0 a1 a2 ?_
  intro ls4 h4 s4 e4 a0 a1 a2 q4 f4 g4 b4
  refine hs_iload_n ci_680_3 a2 ?_
  refine hs_if (t := 46) ci_680_4 rfl (fun b => ?_) (fun b => ?_)
  · refine hs_k ⟨5, none, by decide +kernel, by rw [rt_680]; rfl, rfl, q4, f4.tr (f3.tr (f2.tr f1)), g4, fun k => ?_⟩
    rw [b4 k, b3 k, b2 k, b1 k]
    by_cases k0 : k = L
    · rw [if_neg (by omega), if_neg (by omega), if_neg (by omega), if_pos k0, if_pos k0]
    · by_cases k1 : k = L + 1
      · rw [if_neg (by omega), if_neg (by omega), if_pos k1, if_neg k0, if_pos k1]
      · by_cases k2 : k = L + 2
        · rw [if_neg (by omega), if_pos (by omega), if_neg k0, if_neg k1, if_pos k2]
        · by_cases k3 : k = L + 3
          · rw [if_pos (by omega), if_neg k0, if_neg k1, if_neg k2, if_pos k3]
          · rw [if_neg (by omega), if_neg (by omega), if_neg k1, if_neg k0, if_neg k0, if_neg k1, if_neg k2, if_neg k3]
  · simp only [hs_cd, ab_not] at b
    omega
abbrev MAM : ab_M := [(182, 2, 2), (183, 0, 939)]
theorem apM_step {sc : List Value} {sp d : Nat} {h : eg_H} {K : Nat → eg_L → List Value → eg_H → Prop} {v s : Int32} {S L : Nat} {ls : eg_L} (hs9 : s.toInt = (S : Int)) (hS : S = 24 ∨ S = 16 ∨ S = 8 ∨ S = 0) (hq : ab_hp h) (hL : (hv h 182 2).toInt = (L : Int)) (hb : L < 940) (l0 : eg_find 0 ls = some (.ref 182)) (l1 : eg_find 1 ls = some (.int v)) (l2 : eg_find 2 ls = some (.int s)) (n : ∀ (ls' : eg_L) (h' : eg_H) (s' : Int32), s'.toInt = (S : Int) - 8 → eg_find 0 ls' = some (.ref 182) → eg_find 1 ls' = some (.int v) → eg_find 2 ls' = some (.int s') → ab_hp h' → ab_fr MAM h' h → (hv h' 182 2).toInt = ((L + 1 : Nat) : Int) → (∀ k, (hv h' 183 k).toInt % 256 = if k = L then by4 v S else (hv h 183 k).toInt % 256) → hs sc sp 1447 11 d K 3 ls' [] h') : hs sc sp 1447 11 d K 3 ls [] h := by
  have hp := hq.1
  refine hs_iload_n ci_1447_3 l2 ?_
  refine hs_if (t := 36) ci_1447_4 rfl (fun b4 => ?_) (fun b4 => ?_)
  · simp only [hs_cd, ab_not] at b4
    omega
  · simp only [hs_cd, ab_not] at b4
    refine hs_aload_n ci_1447_7 l0 ?_
    refine hs_gfr 1 183 ci_1447_8 (by decide +kernel) hp ?_
    refine hs_aload_n ci_1447_11 l0 ?_
    refine hs_gfi 2 ci_1447_12 (by decide +kernel) hp ?_
    refine hs_iload_n ci_1447_15 l1 ?_
    refine hs_iload_n ci_1447_16 l2 ?_
    refine hs_ishr ci_1447_17 ?_
    refine hs_i2b ci_1447_18 ?_
    refine hs_bastore 2 0 939 (-128) (127) ci_1447_19 ⟨rfl, by decide⟩ (by decide +kernel) hp (by omega) (by omega) (b8_b _).1 (b8_b _).2 ?_
    intro h19 w19
    replace hp := w19.1
    refine hs_aload_n ci_1447_20 l0 ?_
    refine hs_dup ci_1447_21 rfl ?_
    refine hs_gfi 2 ci_1447_22 (by decide +kernel) hp ?_
    refine hs_iconst ci_1447_25 ?_
    refine hs_iadd ci_1447_26 ?_
    have n27 : hv h19 182 2 = hv h 182 2 := by rw [w19.v, if_neg (by omega)]
    refine hs_pfi 2 (0) (940) ci_1447_27 (by decide +kernel) hp (by rw [n27, i32_inc hL (by omega) (by omega)]; omega) (by rw [n27, i32_inc hL (by omega) (by omega)]; omega) ?_
    intro h27 w27
    replace hp := w27.1
    refine hs_iinc2 ci_1447_30 (by decide +kernel) l2 ?_
    intro ls9 q9
    replace l0 := q9.2 0 _ (by decide) (Or.inl rfl) l0
    replace l1 := q9.2 1 _ (by decide) (Or.inl rfl) l1
    have l2 := q9.1
    clear q9
    refine hs_goto (t := 3) ci_1447_33 rfl ?_
    have e9 : (hv h 182 2).toInt.toNat = L := by omega
    rw [e9] at w19
    have fb9 : ab_fr MAM h19 h := w19.f9 (n := 939) rfl (by omega)
    have fp : ab_fr MAM h27 h := (w27.fr (M := MAM) rfl).tr fb9
    refine n _ h27 _ (i32_add hs9 kI_m8 (by omega) (by omega)) l0 l1 l2 ⟨hp, hq.2.fr (M := MAM) (by decide +kernel) fp⟩ fp ?_ (fun k => ?_)
    · rw [w27.v, if_pos ⟨rfl, rfl⟩, n27, i32_inc hL (by omega) (by omega)]
      omega
    · rw [w27.v, if_neg (by omega), w19.v]
      by_cases e : k = L
      · rw [if_pos ⟨rfl, e⟩, if_pos e]
        exact ash8 hs9 (by omega)
      · rw [if_neg (fun g => e g.2), if_neg e]
def apM_P (h : eg_H) (v : Int32) (L : Nat) (vo : Option Value) (h' : eg_H) : Prop := vo = none ∧ ab_hp h' ∧ ab_fr MAM h' h ∧ (hv h' 182 2).toInt = ((L + 4 : Nat) : Int) ∧ ∀ k, (hv h' 183 k).toInt % 256 = if k = L then by4 v 24 else if k = L + 1 then by4 v 16 else if k = L + 2 then by4 v 8 else if k = L + 3 then by4 v 0 else (hv h 183 k).toInt % 256
theorem rt_1447 : (eg_md 1447).2.2.2 = none := by decide +kernel
theorem k_apM {sc : List Value} {sp d : Nat} {h : eg_H} (v : Int32) {L : Nat} (hq : ab_hp h) (hL : (hv h 182 2).toInt = (L : Int)) (hb : L ≤ 936) : mc sc sp 1447 11 d [.ref 182, .int v] h (apM_P h v L) := by
  have l0 : eg_find 0 (eg_args 0 [.ref 182, .int v]) = some (.ref 182) := rfl
  have l1 : eg_find 1 (eg_args 0 [.ref 182, .int v]) = some (.int v) := rfl
  unfold mc
  refine hs_bipush ci_1447_0 ?_
  refine hs_istore2_n ci_1447_2 (by decide +kernel) ?_
  intro ls9 q9
  replace l0 := q9.2 0 _ (by decide) (Or.inl rfl) l0
  replace l1 := q9.2 1 _ (by decide) (Or.inl rfl) l1
  have l2 := q9.1
  clear q9
  refine apM_step (S := 24) kB_24 (by decide) hq hL (by omega) l0 l1 l2 ?_
  intro ls1 h1 s1 e1 a0 a1 a2 q1 f1 g1 b1
  refine apM_step (S := 16) (by omega) (by decide) q1 g1 (by omega) a0 a1 a2 ?_
  intro ls2 h2 s2 e2 a0 a1 a2 q2 f2 g2 b2
  refine apM_step (S := 8) (by omega) (by decide) q2 g2 (by omega) a0 a1 a2 ?_
  intro ls3 h3 s3 e3 a0 a1 a2 q3 f3 g3 b3
  refine apM_step (S := 0) (by omega) (by decide) q3 g3 (by omega) a0 a1 a2 ?_
  intro ls4 h4 s4 e4 a0 a1 a2 q4 f4 g4 b4
  refine hs_iload_n ci_1447_3 a2 ?_
  refine hs_if (t := 36) ci_1447_4 rfl (fun b => ?_) (fun b => ?_)
  · refine hs_k ⟨5, none, by decide +kernel, by rw [rt_1447]; rfl, rfl, q4, f4.tr (f3.tr (f2.tr f1)), g4, fun k => ?_⟩
    rw [b4 k, b3 k, b2 k, b1 k]
    by_cases k0 : k = L
    · rw [if_neg (by omega), if_neg (by omega), if_neg (by omega), if_pos k0, if_pos k0]
    · by_cases k1 : k = L + 1
      · rw [if_neg (by omega), if_neg (by omega), if_pos k1, if_neg k0, if_pos k1]
      · by_cases k2 : k = L + 2
        · rw [if_neg (by omega), if_pos (by omega), if_neg k0, if_neg k1, if_pos k2]
        · by_cases k3 : k = L + 3
          · rw [if_pos (by omega), if_neg k0, if_neg k1, if_neg k2, if_pos k3]
          · rw [if_neg (by omega), if_neg (by omega), if_neg k1, if_neg k0, if_neg k0, if_neg k1, if_neg k2, if_neg k3]
  · simp only [hs_cd, ab_not] at b
    omega
def fed (B : Nat → Int) (L : Nat) (a b c d e : Int32) (k : Nat) : Int := if k = L + 0 then by4 a 24 else if k = L + 1 then by4 a 16 else if k = L + 2 then by4 a 8 else if k = L + 3 then by4 a 0 else if k = L + 4 then by4 b 24 else if k = L + 5 then by4 b 16 else if k = L + 6 then by4 b 8 else if k = L + 7 then by4 b 0 else if k = L + 8 then by4 c 24 else if k = L + 9 then by4 c 16 else if k = L + 10 then by4 c 8 else if k = L + 11 then by4 c 0 else if k = L + 12 then by4 d 24 else if k = L + 13 then by4 d 16 else if k = L + 14 then by4 d 8 else if k = L + 15 then by4 d 0 else if k = L + 16 then by4 e 24 else if k = L + 17 then by4 e 16 else if k = L + 18 then by4 e 8 else if k = L + 19 then by4 e 0 else B k
abbrev MFX : ab_M := [(1, 1, 1), (2, 0, 939)]
def feX_P (h : eg_H) (a b c d e : Int32) (vo : Option Value) (h' : eg_H) : Prop := ab_hp h' ∧ ab_fr MFX h' h ∧ (∃ r : Int32, vo = some (.int r)) ∧ ((920 < (hv h 1 1).toInt ∧ (hv h' 1 1).toInt = (hv h 1 1).toInt ∧ ∀ k, (hv h' 2 k).toInt % 256 = (hv h 2 k).toInt % 256) ∨ ((hv h 1 1).toInt ≤ 920 ∧ (hv h' 1 1).toInt = (hv h 1 1).toInt + 20 ∧ ∀ k, (hv h' 2 k).toInt % 256 = fed (fun k => (hv h 2 k).toInt % 256) (hv h 1 1).toInt.toNat a b c d e k))
theorem rt_676 : (eg_md 676).2.2.2 = some .int := by decide +kernel
theorem k_feX {sc : List Value} {sp d : Nat} {h : eg_H} (a b c d' e : Int32) (hq : ab_hp h) : mc sc sp 676 10 (d + 1) [.ref 0, .int a, .int b, .int c, .int d', .int e] h (feX_P h a b c d' e) := by
  have l0 : eg_find 0 (eg_args 0 [.ref 0, .int a, .int b, .int c, .int d', .int e]) = some (.ref 0) := rfl
  have l1 : eg_find 1 (eg_args 0 [.ref 0, .int a, .int b, .int c, .int d', .int e]) = some (.int a) := rfl
  have l2 : eg_find 2 (eg_args 0 [.ref 0, .int a, .int b, .int c, .int d', .int e]) = some (.int b) := rfl
  have l3 : eg_find 3 (eg_args 0 [.ref 0, .int a, .int b, .int c, .int d', .int e]) = some (.int c) := rfl
  have l4 : eg_find 4 (eg_args 0 [.ref 0, .int a, .int b, .int c, .int d', .int e]) = some (.int d') := rfl
  have l5 : eg_find 5 (eg_args 0 [.ref 0, .int a, .int b, .int c, .int d', .int e]) = some (.int e) := rfl
  have hp := hq.1
  obtain ⟨-, b1, b2⟩ := sb_v (a := 1) (k := 1) (lo := .ofNat 0) (hi := .ofNat 940) hq (by decide +kernel)
  have b1 : (0 : Int) ≤ (hv h 1 1).toInt := b1
  have b2 : (hv h 1 1).toInt ≤ (940 : Int) := b2
  obtain ⟨L, hL⟩ : ∃ L : Nat, (hv h 1 1).toInt = (L : Int) := ⟨(hv h 1 1).toInt.toNat, by omega⟩
  have e20 : (hv h 1 1 + (Int8.ofInt 20).toInt32).toInt = (L : Int) + 20 := i32_add hL kB_20 (by omega) (by omega)
  unfold mc
  refine hs_aload_n ci_676_0 l0 ?_
  refine hs_gfr 0 1 ci_676_1 (by decide +kernel) hp ?_
  refine hs_gfi 1 ci_676_4 (by decide +kernel) hp ?_
  refine hs_bipush ci_676_7 ?_
  refine hs_iadd ci_676_9 ?_
  refine hs_sipush ci_676_10 ?_
  refine hs_ic (t := 18) ci_676_13 rfl (fun b13 => ?_) (fun b13 => ?_)
  · simp only [hs_cd, ab_not, kS_940] at b13
    refine hs_aload_n ci_676_18 l0 ?_
    refine hs_gfr 0 1 ci_676_19 (by decide +kernel) hp ?_
    refine hs_iload_n ci_676_22 l1 ?_
    refine hs_cv 680 7 1 ci_676_23 (by decide +kernel) (by decide +kernel) hp rfl (by rw [ml_680]; rfl) (k_apX a hq hL (by omega)) ?_
    rintro v9 hA ⟨e8, qA, fA, gA, yA⟩
    rw [e8]
    clear e8 v9
    simp only [Option.toList, List.nil_append]
    replace hp := qA.1
    refine hs_aload_n ci_676_26 l0 ?_
    refine hs_gfr 0 1 ci_676_27 (by decide +kernel) hp ?_
    refine hs_iload_n ci_676_30 l2 ?_
    refine hs_cv 680 7 1 ci_676_31 (by decide +kernel) (by decide +kernel) hp rfl (by rw [ml_680]; rfl) (k_apX b qA gA (by omega)) ?_
    rintro v9 hB ⟨e8, qB, fB, gB, yB⟩
    rw [e8]
    clear e8 v9
    simp only [Option.toList, List.nil_append]
    replace hp := qB.1
    refine hs_aload_n ci_676_34 l0 ?_
    refine hs_gfr 0 1 ci_676_35 (by decide +kernel) hp ?_
    refine hs_iload_n ci_676_38 l3 ?_
    refine hs_cv 680 7 1 ci_676_39 (by decide +kernel) (by decide +kernel) hp rfl (by rw [ml_680]; rfl) (k_apX c qB gB (by omega)) ?_
    rintro v9 hC ⟨e8, qC, fC, gC, yC⟩
    rw [e8]
    clear e8 v9
    simp only [Option.toList, List.nil_append]
    replace hp := qC.1
    refine hs_aload_n ci_676_42 l0 ?_
    refine hs_gfr 0 1 ci_676_43 (by decide +kernel) hp ?_
    refine hs_iload ci_676_46 l4 ?_
    refine hs_cv 680 7 1 ci_676_48 (by decide +kernel) (by decide +kernel) hp rfl (by rw [ml_680]; rfl) (k_apX d' qC gC (by omega)) ?_
    rintro v9 hD ⟨e8, qD, fD, gD, yD⟩
    rw [e8]
    clear e8 v9
    simp only [Option.toList, List.nil_append]
    replace hp := qD.1
    refine hs_aload_n ci_676_51 l0 ?_
    refine hs_gfr 0 1 ci_676_52 (by decide +kernel) hp ?_
    refine hs_iload ci_676_55 l5 ?_
    refine hs_cv 680 7 1 ci_676_57 (by decide +kernel) (by decide +kernel) hp rfl (by rw [ml_680]; rfl) (k_apX e qD gD (by omega)) ?_
    rintro v9 hE ⟨e8, qE, fE, gE, yE⟩
    rw [e8]
    clear e8 v9
    simp only [Option.toList, List.nil_append]
    replace hp := qE.1
    refine hs_aload_n ci_676_60 l0 ?_
    refine hs_gfr 0 1 ci_676_61 (by decide +kernel) hp ?_
    refine hs_gfi 1 ci_676_64 (by decide +kernel) hp ?_
    refine hs_k ⟨3, some (.int (hv hE 1 1)), by decide +kernel, by rw [rt_676]; rfl, qE, (fr_sub (M := MFX) (by decide +kernel) fE).tr ((fr_sub (M := MFX) (by decide +kernel) fD).tr ((fr_sub (M := MFX) (by decide +kernel) fC).tr ((fr_sub (M := MFX) (by decide +kernel) fB).tr (fr_sub (M := MFX) (by decide +kernel) fA)))), ⟨_, rfl⟩, Or.inr ⟨by omega, by rw [gE, hL]; omega, fun k => ?_⟩⟩
    have eL : (hv h 1 1).toInt.toNat = L := by omega
    rw [eL, yE k, yD k, yC k, yB k, yA k]
    unfold fed
    have i4 : L + 4 + 1 = L + 5 ∧ L + 4 + 2 = L + 6 ∧ L + 4 + 3 = L + 7 ∧ L + 4 + 4 = L + 8 := by omega
    by_cases u0 : L ≤ k ∧ k < L + 20
    · obtain ⟨i, hi, rfl⟩ : ∃ i, i < 20 ∧ k = L + i := ⟨k - L, by omega, by omega⟩
      have u1 : i = 0 ∨ i = 1 ∨ i = 2 ∨ i = 3 ∨ i = 4 ∨ i = 5 ∨ i = 6 ∨ i = 7 ∨ i = 8 ∨ i = 9 ∨ i = 10 ∨ i = 11 ∨ i = 12 ∨ i = 13 ∨ i = 14 ∨ i = 15 ∨ i = 16 ∨ i = 17 ∨ i = 18 ∨ i = 19 := by omega
      rcases u1 with rfl | rfl | rfl | rfl | rfl | rfl | rfl | rfl | rfl | rfl | rfl | rfl | rfl | rfl | rfl | rfl | rfl | rfl | rfl | rfl
      · rw [if_neg (by omega), if_neg (by omega), if_neg (by omega), if_neg (by omega), if_neg (by omega), if_neg (by omega), if_neg (by omega), if_neg (by omega), if_neg (by omega), if_neg (by omega), if_neg (by omega), if_neg (by omega), if_neg (by omega), if_neg (by omega), if_neg (by omega), if_neg (by omega), if_pos (by omega), if_pos (by omega)]
      · rw [if_neg (by omega), if_neg (by omega), if_neg (by omega), if_neg (by omega), if_neg (by omega), if_neg (by omega), if_neg (by omega), if_neg (by omega), if_neg (by omega), if_neg (by omega), if_neg (by omega), if_neg (by omega), if_neg (by omega), if_neg (by omega), if_neg (by omega), if_neg (by omega), if_neg (by omega), if_pos (by omega), if_neg (by omega), if_pos (by omega)]
      · rw [if_neg (by omega), if_neg (by omega), if_neg (by omega), if_neg (by omega), if_neg (by omega), if_neg (by omega), if_neg (by omega), if_neg (by omega), if_neg (by omega), if_neg (by omega), if_neg (by omega), if_neg (by omega), if_neg (by omega), if_neg (by omega), if_neg (by omega), if_neg (by omega), if_neg (by omega), if_neg (by omega), if_pos (by omega), if_neg (by omega), if_neg (by omega), if_pos (by omega)]
      · rw [if_neg (by omega), if_neg (by omega), if_neg (by omega), if_neg (by omega), if_neg (by omega), if_neg (by omega), if_neg (by omega), if_neg (by omega), if_neg (by omega), if_neg (by omega), if_neg (by omega), if_neg (by omega), if_neg (by omega), if_neg (by omega), if_neg (by omega), if_neg (by omega), if_neg (by omega), if_neg (by omega), if_neg (by omega), if_pos (by omega), if_neg (by omega), if_neg (by omega), if_neg (by omega), if_pos (by omega)]
      · rw [if_neg (by omega), if_neg (by omega), if_neg (by omega), if_neg (by omega), if_neg (by omega), if_neg (by omega), if_neg (by omega), if_neg (by omega), if_neg (by omega), if_neg (by omega), if_neg (by omega), if_neg (by omega), if_pos (by omega), if_neg (by omega), if_neg (by omega), if_neg (by omega), if_neg (by omega), if_pos (by omega)]
      · rw [if_neg (by omega), if_neg (by omega), if_neg (by omega), if_neg (by omega), if_neg (by omega), if_neg (by omega), if_neg (by omega), if_neg (by omega), if_neg (by omega), if_neg (by omega), if_neg (by omega), if_neg (by omega), if_neg (by omega), if_pos (by omega), if_neg (by omega), if_neg (by omega), if_neg (by omega), if_neg (by omega), if_neg (by omega), if_pos (by omega)]
      · rw [if_neg (by omega), if_neg (by omega), if_neg (by omega), if_neg (by omega), if_neg (by omega), if_neg (by omega), if_neg (by omega), if_neg (by omega), if_neg (by omega), if_neg (by omega), if_neg (by omega), if_neg (by omega), if_neg (by omega), if_neg (by omega), if_pos (by omega), if_neg (by omega), if_neg (by omega), if_neg (by omega), if_neg (by omega), if_neg (by omega), if_neg (by omega), if_pos (by omega)]
      · rw [if_neg (by omega), if_neg (by omega), if_neg (by omega), if_neg (by omega), if_neg (by omega), if_neg (by omega), if_neg (by omega), if_neg (by omega), if_neg (by omega), if_neg (by omega), if_neg (by omega), if_neg (by omega), if_neg (by omega), if_neg (by omega), if_neg (by omega), if_pos (by omega), if_neg (by omega), if_neg (by omega), if_neg (by omega), if_neg (by omega), if_neg (by omega), if_neg (by omega), if_neg (by omega), if_pos (by omega)]
      · rw [if_neg (by omega), if_neg (by omega), if_neg (by omega), if_neg (by omega), if_neg (by omega), if_neg (by omega), if_neg (by omega), if_neg (by omega), if_pos (by omega), if_neg (by omega), if_neg (by omega), if_neg (by omega), if_neg (by omega), if_neg (by omega), if_neg (by omega), if_neg (by omega), if_neg (by omega), if_pos (by omega)]
      · rw [if_neg (by omega), if_neg (by omega), if_neg (by omega), if_neg (by omega), if_neg (by omega), if_neg (by omega), if_neg (by omega), if_neg (by omega), if_neg (by omega), if_pos (by omega), if_neg (by omega), if_neg (by omega), if_neg (by omega), if_neg (by omega), if_neg (by omega), if_neg (by omega), if_neg (by omega), if_neg (by omega), if_neg (by omega), if_pos (by omega)]
      · rw [if_neg (by omega), if_neg (by omega), if_neg (by omega), if_neg (by omega), if_neg (by omega), if_neg (by omega), if_neg (by omega), if_neg (by omega), if_neg (by omega), if_neg (by omega), if_pos (by omega), if_neg (by omega), if_neg (by omega), if_neg (by omega), if_neg (by omega), if_neg (by omega), if_neg (by omega), if_neg (by omega), if_neg (by omega), if_neg (by omega), if_neg (by omega), if_pos (by omega)]
      · rw [if_neg (by omega), if_neg (by omega), if_neg (by omega), if_neg (by omega), if_neg (by omega), if_neg (by omega), if_neg (by omega), if_neg (by omega), if_neg (by omega), if_neg (by omega), if_neg (by omega), if_pos (by omega), if_neg (by omega), if_neg (by omega), if_neg (by omega), if_neg (by omega), if_neg (by omega), if_neg (by omega), if_neg (by omega), if_neg (by omega), if_neg (by omega), if_neg (by omega), if_neg (by omega), if_pos (by omega)]
      · rw [if_neg (by omega), if_neg (by omega), if_neg (by omega), if_neg (by omega), if_pos (by omega), if_neg (by omega), if_neg (by omega), if_neg (by omega), if_neg (by omega), if_neg (by omega), if_neg (by omega), if_neg (by omega), if_neg (by omega), if_neg (by omega), if_neg (by omega), if_neg (by omega), if_neg (by omega), if_pos (by omega)]
      · rw [if_neg (by omega), if_neg (by omega), if_neg (by omega), if_neg (by omega), if_neg (by omega), if_pos (by omega), if_neg (by omega), if_neg (by omega), if_neg (by omega), if_neg (by omega), if_neg (by omega), if_neg (by omega), if_neg (by omega), if_neg (by omega), if_neg (by omega), if_neg (by omega), if_neg (by omega), if_neg (by omega), if_neg (by omega), if_pos (by omega)]
      · rw [if_neg (by omega), if_neg (by omega), if_neg (by omega), if_neg (by omega), if_neg (by omega), if_neg (by omega), if_pos (by omega), if_neg (by omega), if_neg (by omega), if_neg (by omega), if_neg (by omega), if_neg (by omega), if_neg (by omega), if_neg (by omega), if_neg (by omega), if_neg (by omega), if_neg (by omega), if_neg (by omega), if_neg (by omega), if_neg (by omega), if_neg (by omega), if_pos (by omega)]
      · rw [if_neg (by omega), if_neg (by omega), if_neg (by omega), if_neg (by omega), if_neg (by omega), if_neg (by omega), if_neg (by omega), if_pos (by omega), if_neg (by omega), if_neg (by omega), if_neg (by omega), if_neg (by omega), if_neg (by omega), if_neg (by omega), if_neg (by omega), if_neg (by omega), if_neg (by omega), if_neg (by omega), if_neg (by omega), if_neg (by omega), if_neg (by omega), if_neg (by omega), if_neg (by omega), if_pos (by omega)]
      · rw [if_pos (by omega), if_neg (by omega), if_neg (by omega), if_neg (by omega), if_neg (by omega), if_neg (by omega), if_neg (by omega), if_neg (by omega), if_neg (by omega), if_neg (by omega), if_neg (by omega), if_neg (by omega), if_neg (by omega), if_neg (by omega), if_neg (by omega), if_neg (by omega), if_neg (by omega), if_pos (by omega)]
      · rw [if_neg (by omega), if_pos (by omega), if_neg (by omega), if_neg (by omega), if_neg (by omega), if_neg (by omega), if_neg (by omega), if_neg (by omega), if_neg (by omega), if_neg (by omega), if_neg (by omega), if_neg (by omega), if_neg (by omega), if_neg (by omega), if_neg (by omega), if_neg (by omega), if_neg (by omega), if_neg (by omega), if_neg (by omega), if_pos (by omega)]
      · rw [if_neg (by omega), if_neg (by omega), if_pos (by omega), if_neg (by omega), if_neg (by omega), if_neg (by omega), if_neg (by omega), if_neg (by omega), if_neg (by omega), if_neg (by omega), if_neg (by omega), if_neg (by omega), if_neg (by omega), if_neg (by omega), if_neg (by omega), if_neg (by omega), if_neg (by omega), if_neg (by omega), if_neg (by omega), if_neg (by omega), if_neg (by omega), if_pos (by omega)]
      · rw [if_neg (by omega), if_neg (by omega), if_neg (by omega), if_pos (by omega), if_neg (by omega), if_neg (by omega), if_neg (by omega), if_neg (by omega), if_neg (by omega), if_neg (by omega), if_neg (by omega), if_neg (by omega), if_neg (by omega), if_neg (by omega), if_neg (by omega), if_neg (by omega), if_neg (by omega), if_neg (by omega), if_neg (by omega), if_neg (by omega), if_neg (by omega), if_neg (by omega), if_neg (by omega), if_pos (by omega)]
    · rw [if_neg (by omega), if_neg (by omega), if_neg (by omega), if_neg (by omega), if_neg (by omega), if_neg (by omega), if_neg (by omega), if_neg (by omega), if_neg (by omega), if_neg (by omega), if_neg (by omega), if_neg (by omega), if_neg (by omega), if_neg (by omega), if_neg (by omega), if_neg (by omega), if_neg (by omega), if_neg (by omega), if_neg (by omega), if_neg (by omega), if_neg (by omega), if_neg (by omega), if_neg (by omega), if_neg (by omega), if_neg (by omega), if_neg (by omega), if_neg (by omega), if_neg (by omega), if_neg (by omega), if_neg (by omega), if_neg (by omega), if_neg (by omega), if_neg (by omega), if_neg (by omega), if_neg (by omega), if_neg (by omega), if_neg (by omega), if_neg (by omega), if_neg (by omega), if_neg (by omega)]
  · simp only [hs_cd, ab_not, kS_940] at b13
    refine hs_iconst ci_676_16 ?_
    refine hs_k ⟨3, some (.int (Int32.ofInt (-1))), by decide +kernel, by rw [rt_676]; rfl, hq, ab_fr.rf, ⟨_, rfl⟩, Or.inl ⟨by omega, rfl, fun k => rfl⟩⟩
abbrev MFM : ab_M := [(182, 0, 0), (182, 2, 2), (183, 0, 939)]
def feM_P (h : eg_H) (a b c d e : Int32) (vo : Option Value) (h' : eg_H) : Prop := ab_hp h' ∧ ab_fr MFM h' h ∧ (∃ r : Int32, vo = some (.int r)) ∧ ((920 < (hv h 182 2).toInt ∧ (hv h' 182 2).toInt = (hv h 182 2).toInt ∧ ∀ k, (hv h' 183 k).toInt % 256 = (hv h 183 k).toInt % 256) ∨ ((hv h 182 2).toInt ≤ 920 ∧ (hv h' 182 2).toInt = (hv h 182 2).toInt + 20 ∧ ∀ k, (hv h' 183 k).toInt % 256 = fed (fun k => (hv h 183 k).toInt % 256) (hv h 182 2).toInt.toNat a b c d e k))
theorem rt_1442 : (eg_md 1442).2.2.2 = some .int := by decide +kernel
theorem k_feM {sc : List Value} {sp d : Nat} {h : eg_H} (a b c d' e : Int32) (hq : ab_hp h) : mc sc sp 1442 11 (d + 1) [.ref 182, .int a, .int b, .int c, .int d', .int e] h (feM_P h a b c d' e) := by
  have l0 : eg_find 0 (eg_args 0 [.ref 182, .int a, .int b, .int c, .int d', .int e]) = some (.ref 182) := rfl
  have l1 : eg_find 1 (eg_args 0 [.ref 182, .int a, .int b, .int c, .int d', .int e]) = some (.int a) := rfl
  have l2 : eg_find 2 (eg_args 0 [.ref 182, .int a, .int b, .int c, .int d', .int e]) = some (.int b) := rfl
  have l3 : eg_find 3 (eg_args 0 [.ref 182, .int a, .int b, .int c, .int d', .int e]) = some (.int c) := rfl
  have l4 : eg_find 4 (eg_args 0 [.ref 182, .int a, .int b, .int c, .int d', .int e]) = some (.int d') := rfl
  have l5 : eg_find 5 (eg_args 0 [.ref 182, .int a, .int b, .int c, .int d', .int e]) = some (.int e) := rfl
  have hp := hq.1
  obtain ⟨-, b1, b2⟩ := sb_v (a := 182) (k := 2) (lo := .ofNat 0) (hi := .ofNat 940) hq (by decide +kernel)
  have b1 : (0 : Int) ≤ (hv h 182 2).toInt := b1
  have b2 : (hv h 182 2).toInt ≤ (940 : Int) := b2
  obtain ⟨L, hL⟩ : ∃ L : Nat, (hv h 182 2).toInt = (L : Int) := ⟨(hv h 182 2).toInt.toNat, by omega⟩
  have e20 : (hv h 182 2 + (Int8.ofInt 20).toInt32).toInt = (L : Int) + 20 := i32_add hL kB_20 (by omega) (by omega)
  unfold mc
  refine hs_aload_n ci_1442_0 l0 ?_
  refine hs_iconst ci_1442_1 ?_
  refine hs_pfi 0 (0) (1) ci_1442_2 (by decide +kernel) hp (by decide) (by decide) ?_
  intro h2 w2
  replace hp := w2.1
  have f2 : ab_fr [(182, 0, 0)] h2 h := w2.fr rfl
  have q2 : ab_hp h2 := ⟨hp, hq.2.fr (M := [(182, 0, 0)]) (by decide +kernel) f2⟩
  have n2 : hv h2 182 2 = hv h 182 2 := hv_same (f2 182 2 rfl)
  have hL2 : (hv h2 182 2).toInt = (L : Int) := by rw [n2]; exact hL
  have e20' : (hv h2 182 2 + (Int8.ofInt 20).toInt32).toInt = (L : Int) + 20 := by rw [n2]; exact e20
  refine hs_aload_n ci_1442_5 l0 ?_
  refine hs_gfi 2 ci_1442_6 (by decide +kernel) hp ?_
  refine hs_bipush ci_1442_9 ?_
  refine hs_iadd ci_1442_11 ?_
  refine hs_sipush ci_1442_12 ?_
  refine hs_ic (t := 20) ci_1442_15 rfl (fun b15 => ?_) (fun b15 => ?_)
  · simp only [hs_cd, ab_not, kS_940] at b15
    refine hs_aload_n ci_1442_20 l0 ?_
    refine hs_iload_n ci_1442_21 l1 ?_
    refine hs_cv 1447 11 1 ci_1442_22 (by decide +kernel) (by decide +kernel) hp rfl (by rw [ml_1447]; rfl) (k_apM a q2 hL2 (by omega)) ?_
    rintro v9 hA ⟨e8, qA, fA, gA, yA⟩
    rw [e8]
    clear e8 v9
    simp only [Option.toList, List.nil_append]
    replace hp := qA.1
    refine hs_aload_n ci_1442_25 l0 ?_
    refine hs_iload_n ci_1442_26 l2 ?_
    refine hs_cv 1447 11 1 ci_1442_27 (by decide +kernel) (by decide +kernel) hp rfl (by rw [ml_1447]; rfl) (k_apM b qA gA (by omega)) ?_
    rintro v9 hB ⟨e8, qB, fB, gB, yB⟩
    rw [e8]
    clear e8 v9
    simp only [Option.toList, List.nil_append]
    replace hp := qB.1
    refine hs_aload_n ci_1442_30 l0 ?_
    refine hs_iload_n ci_1442_31 l3 ?_
    refine hs_cv 1447 11 1 ci_1442_32 (by decide +kernel) (by decide +kernel) hp rfl (by rw [ml_1447]; rfl) (k_apM c qB gB (by omega)) ?_
    rintro v9 hC ⟨e8, qC, fC, gC, yC⟩
    rw [e8]
    clear e8 v9
    simp only [Option.toList, List.nil_append]
    replace hp := qC.1
    refine hs_aload_n ci_1442_35 l0 ?_
    refine hs_iload ci_1442_36 l4 ?_
    refine hs_cv 1447 11 1 ci_1442_38 (by decide +kernel) (by decide +kernel) hp rfl (by rw [ml_1447]; rfl) (k_apM d' qC gC (by omega)) ?_
    rintro v9 hD ⟨e8, qD, fD, gD, yD⟩
    rw [e8]
    clear e8 v9
    simp only [Option.toList, List.nil_append]
    replace hp := qD.1
    refine hs_aload_n ci_1442_41 l0 ?_
    refine hs_iload ci_1442_42 l5 ?_
    refine hs_cv 1447 11 1 ci_1442_44 (by decide +kernel) (by decide +kernel) hp rfl (by rw [ml_1447]; rfl) (k_apM e qD gD (by omega)) ?_
    rintro v9 hE ⟨e8, qE, fE, gE, yE⟩
    rw [e8]
    clear e8 v9
    simp only [Option.toList, List.nil_append]
    replace hp := qE.1
    refine hs_aload_n ci_1442_47 l0 ?_
    refine hs_gfi 2 ci_1442_48 (by decide +kernel) hp ?_
    refine hs_k ⟨3, some (.int (hv hE 182 2)), by decide +kernel, by rw [rt_1442]; rfl, qE, (fr_sub (M := MFM) (by decide +kernel) fE).tr ((fr_sub (M := MFM) (by decide +kernel) fD).tr ((fr_sub (M := MFM) (by decide +kernel) fC).tr ((fr_sub (M := MFM) (by decide +kernel) fB).tr ((fr_sub (M := MFM) (by decide +kernel) fA).tr (fr_sub (M := MFM) (by decide +kernel) f2))))), ⟨_, rfl⟩, Or.inr ⟨by omega, by rw [gE, hL]; omega, fun k => ?_⟩⟩
    have eL : (hv h 182 2).toInt.toNat = L := by omega
    rw [eL, yE k, yD k, yC k, yB k, yA k, hv_same (f2 183 k rfl)]
    unfold fed
    have i4 : L + 4 + 1 = L + 5 ∧ L + 4 + 2 = L + 6 ∧ L + 4 + 3 = L + 7 ∧ L + 4 + 4 = L + 8 := by omega
    by_cases u0 : L ≤ k ∧ k < L + 20
    · obtain ⟨i, hi, rfl⟩ : ∃ i, i < 20 ∧ k = L + i := ⟨k - L, by omega, by omega⟩
      have u1 : i = 0 ∨ i = 1 ∨ i = 2 ∨ i = 3 ∨ i = 4 ∨ i = 5 ∨ i = 6 ∨ i = 7 ∨ i = 8 ∨ i = 9 ∨ i = 10 ∨ i = 11 ∨ i = 12 ∨ i = 13 ∨ i = 14 ∨ i = 15 ∨ i = 16 ∨ i = 17 ∨ i = 18 ∨ i = 19 := by omega
      rcases u1 with rfl | rfl | rfl | rfl | rfl | rfl | rfl | rfl | rfl | rfl | rfl | rfl | rfl | rfl | rfl | rfl | rfl | rfl | rfl | rfl
      · rw [if_neg (by omega), if_neg (by omega), if_neg (by omega), if_neg (by omega), if_neg (by omega), if_neg (by omega), if_neg (by omega), if_neg (by omega), if_neg (by omega), if_neg (by omega), if_neg (by omega), if_neg (by omega), if_neg (by omega), if_neg (by omega), if_neg (by omega), if_neg (by omega), if_pos (by omega), if_pos (by omega)]
      · rw [if_neg (by omega), if_neg (by omega), if_neg (by omega), if_neg (by omega), if_neg (by omega), if_neg (by omega), if_neg (by omega), if_neg (by omega), if_neg (by omega), if_neg (by omega), if_neg (by omega), if_neg (by omega), if_neg (by omega), if_neg (by omega), if_neg (by omega), if_neg (by omega), if_neg (by omega), if_pos (by omega), if_neg (by omega), if_pos (by omega)]
      · rw [if_neg (by omega), if_neg (by omega), if_neg (by omega), if_neg (by omega), if_neg (by omega), if_neg (by omega), if_neg (by omega), if_neg (by omega), if_neg (by omega), if_neg (by omega), if_neg (by omega), if_neg (by omega), if_neg (by omega), if_neg (by omega), if_neg (by omega), if_neg (by omega), if_neg (by omega), if_neg (by omega), if_pos (by omega), if_neg (by omega), if_neg (by omega), if_pos (by omega)]
      · rw [if_neg (by omega), if_neg (by omega), if_neg (by omega), if_neg (by omega), if_neg (by omega), if_neg (by omega), if_neg (by omega), if_neg (by omega), if_neg (by omega), if_neg (by omega), if_neg (by omega), if_neg (by omega), if_neg (by omega), if_neg (by omega), if_neg (by omega), if_neg (by omega), if_neg (by omega), if_neg (by omega), if_neg (by omega), if_pos (by omega), if_neg (by omega), if_neg (by omega), if_neg (by omega), if_pos (by omega)]
      · rw [if_neg (by omega), if_neg (by omega), if_neg (by omega), if_neg (by omega), if_neg (by omega), if_neg (by omega), if_neg (by omega), if_neg (by omega), if_neg (by omega), if_neg (by omega), if_neg (by omega), if_neg (by omega), if_pos (by omega), if_neg (by omega), if_neg (by omega), if_neg (by omega), if_neg (by omega), if_pos (by omega)]
      · rw [if_neg (by omega), if_neg (by omega), if_neg (by omega), if_neg (by omega), if_neg (by omega), if_neg (by omega), if_neg (by omega), if_neg (by omega), if_neg (by omega), if_neg (by omega), if_neg (by omega), if_neg (by omega), if_neg (by omega), if_pos (by omega), if_neg (by omega), if_neg (by omega), if_neg (by omega), if_neg (by omega), if_neg (by omega), if_pos (by omega)]
      · rw [if_neg (by omega), if_neg (by omega), if_neg (by omega), if_neg (by omega), if_neg (by omega), if_neg (by omega), if_neg (by omega), if_neg (by omega), if_neg (by omega), if_neg (by omega), if_neg (by omega), if_neg (by omega), if_neg (by omega), if_neg (by omega), if_pos (by omega), if_neg (by omega), if_neg (by omega), if_neg (by omega), if_neg (by omega), if_neg (by omega), if_neg (by omega), if_pos (by omega)]
      · rw [if_neg (by omega), if_neg (by omega), if_neg (by omega), if_neg (by omega), if_neg (by omega), if_neg (by omega), if_neg (by omega), if_neg (by omega), if_neg (by omega), if_neg (by omega), if_neg (by omega), if_neg (by omega), if_neg (by omega), if_neg (by omega), if_neg (by omega), if_pos (by omega), if_neg (by omega), if_neg (by omega), if_neg (by omega), if_neg (by omega), if_neg (by omega), if_neg (by omega), if_neg (by omega), if_pos (by omega)]
      · rw [if_neg (by omega), if_neg (by omega), if_neg (by omega), if_neg (by omega), if_neg (by omega), if_neg (by omega), if_neg (by omega), if_neg (by omega), if_pos (by omega), if_neg (by omega), if_neg (by omega), if_neg (by omega), if_neg (by omega), if_neg (by omega), if_neg (by omega), if_neg (by omega), if_neg (by omega), if_pos (by omega)]
      · rw [if_neg (by omega), if_neg (by omega), if_neg (by omega), if_neg (by omega), if_neg (by omega), if_neg (by omega), if_neg (by omega), if_neg (by omega), if_neg (by omega), if_pos (by omega), if_neg (by omega), if_neg (by omega), if_neg (by omega), if_neg (by omega), if_neg (by omega), if_neg (by omega), if_neg (by omega), if_neg (by omega), if_neg (by omega), if_pos (by omega)]
      · rw [if_neg (by omega), if_neg (by omega), if_neg (by omega), if_neg (by omega), if_neg (by omega), if_neg (by omega), if_neg (by omega), if_neg (by omega), if_neg (by omega), if_neg (by omega), if_pos (by omega), if_neg (by omega), if_neg (by omega), if_neg (by omega), if_neg (by omega), if_neg (by omega), if_neg (by omega), if_neg (by omega), if_neg (by omega), if_neg (by omega), if_neg (by omega), if_pos (by omega)]
      · rw [if_neg (by omega), if_neg (by omega), if_neg (by omega), if_neg (by omega), if_neg (by omega), if_neg (by omega), if_neg (by omega), if_neg (by omega), if_neg (by omega), if_neg (by omega), if_neg (by omega), if_pos (by omega), if_neg (by omega), if_neg (by omega), if_neg (by omega), if_neg (by omega), if_neg (by omega), if_neg (by omega), if_neg (by omega), if_neg (by omega), if_neg (by omega), if_neg (by omega), if_neg (by omega), if_pos (by omega)]
      · rw [if_neg (by omega), if_neg (by omega), if_neg (by omega), if_neg (by omega), if_pos (by omega), if_neg (by omega), if_neg (by omega), if_neg (by omega), if_neg (by omega), if_neg (by omega), if_neg (by omega), if_neg (by omega), if_neg (by omega), if_neg (by omega), if_neg (by omega), if_neg (by omega), if_neg (by omega), if_pos (by omega)]
      · rw [if_neg (by omega), if_neg (by omega), if_neg (by omega), if_neg (by omega), if_neg (by omega), if_pos (by omega), if_neg (by omega), if_neg (by omega), if_neg (by omega), if_neg (by omega), if_neg (by omega), if_neg (by omega), if_neg (by omega), if_neg (by omega), if_neg (by omega), if_neg (by omega), if_neg (by omega), if_neg (by omega), if_neg (by omega), if_pos (by omega)]
      · rw [if_neg (by omega), if_neg (by omega), if_neg (by omega), if_neg (by omega), if_neg (by omega), if_neg (by omega), if_pos (by omega), if_neg (by omega), if_neg (by omega), if_neg (by omega), if_neg (by omega), if_neg (by omega), if_neg (by omega), if_neg (by omega), if_neg (by omega), if_neg (by omega), if_neg (by omega), if_neg (by omega), if_neg (by omega), if_neg (by omega), if_neg (by omega), if_pos (by omega)]
      · rw [if_neg (by omega), if_neg (by omega), if_neg (by omega), if_neg (by omega), if_neg (by omega), if_neg (by omega), if_neg (by omega), if_pos (by omega), if_neg (by omega), if_neg (by omega), if_neg (by omega), if_neg (by omega), if_neg (by omega), if_neg (by omega), if_neg (by omega), if_neg (by omega), if_neg (by omega), if_neg (by omega), if_neg (by omega), if_neg (by omega), if_neg (by omega), if_neg (by omega), if_neg (by omega), if_pos (by omega)]
      · rw [if_pos (by omega), if_neg (by omega), if_neg (by omega), if_neg (by omega), if_neg (by omega), if_neg (by omega), if_neg (by omega), if_neg (by omega), if_neg (by omega), if_neg (by omega), if_neg (by omega), if_neg (by omega), if_neg (by omega), if_neg (by omega), if_neg (by omega), if_neg (by omega), if_neg (by omega), if_pos (by omega)]
      · rw [if_neg (by omega), if_pos (by omega), if_neg (by omega), if_neg (by omega), if_neg (by omega), if_neg (by omega), if_neg (by omega), if_neg (by omega), if_neg (by omega), if_neg (by omega), if_neg (by omega), if_neg (by omega), if_neg (by omega), if_neg (by omega), if_neg (by omega), if_neg (by omega), if_neg (by omega), if_neg (by omega), if_neg (by omega), if_pos (by omega)]
      · rw [if_neg (by omega), if_neg (by omega), if_pos (by omega), if_neg (by omega), if_neg (by omega), if_neg (by omega), if_neg (by omega), if_neg (by omega), if_neg (by omega), if_neg (by omega), if_neg (by omega), if_neg (by omega), if_neg (by omega), if_neg (by omega), if_neg (by omega), if_neg (by omega), if_neg (by omega), if_neg (by omega), if_neg (by omega), if_neg (by omega), if_neg (by omega), if_pos (by omega)]
      · rw [if_neg (by omega), if_neg (by omega), if_neg (by omega), if_pos (by omega), if_neg (by omega), if_neg (by omega), if_neg (by omega), if_neg (by omega), if_neg (by omega), if_neg (by omega), if_neg (by omega), if_neg (by omega), if_neg (by omega), if_neg (by omega), if_neg (by omega), if_neg (by omega), if_neg (by omega), if_neg (by omega), if_neg (by omega), if_neg (by omega), if_neg (by omega), if_neg (by omega), if_neg (by omega), if_pos (by omega)]
    · rw [if_neg (by omega), if_neg (by omega), if_neg (by omega), if_neg (by omega), if_neg (by omega), if_neg (by omega), if_neg (by omega), if_neg (by omega), if_neg (by omega), if_neg (by omega), if_neg (by omega), if_neg (by omega), if_neg (by omega), if_neg (by omega), if_neg (by omega), if_neg (by omega), if_neg (by omega), if_neg (by omega), if_neg (by omega), if_neg (by omega), if_neg (by omega), if_neg (by omega), if_neg (by omega), if_neg (by omega), if_neg (by omega), if_neg (by omega), if_neg (by omega), if_neg (by omega), if_neg (by omega), if_neg (by omega), if_neg (by omega), if_neg (by omega), if_neg (by omega), if_neg (by omega), if_neg (by omega), if_neg (by omega), if_neg (by omega), if_neg (by omega), if_neg (by omega), if_neg (by omega)]
  · simp only [hs_cd, ab_not, kS_940] at b15
    refine hs_iconst ci_1442_18 ?_
    refine hs_k ⟨3, some (.int (Int32.ofInt (-1))), by decide +kernel, by rw [rt_1442]; rfl, q2, fr_sub (by decide +kernel) f2, ⟨_, rfl⟩, Or.inl ⟨by omega, by rw [n2], fun k => by rw [hv_same (f2 183 k rfl)]⟩⟩
