/-! BY HAND: how many ways, how many bits, whose words -/
theorem ci_1066_0 : ab_at 1066 0 (.iload_n 0) 1 = true := by decide +kernel
theorem ci_1066_1 : ab_at 1066 1 (.iload_n 0) 1 = true := by decide +kernel
theorem ci_1066_2 : ab_at 1066 2 (.iconst 1) 1 = true := by decide +kernel
theorem ci_1066_3 : ab_at 1066 3 (.iushr) 1 = true := by decide +kernel
theorem ci_1066_4 : ab_at 1066 4 (.ldc_w 265) 3 = true := by decide +kernel
theorem ci_1066_7 : ab_at 1066 7 (.iand) 1 = true := by decide +kernel
theorem ci_1066_8 : ab_at 1066 8 (.isub) 1 = true := by decide +kernel
theorem ci_1066_9 : ab_at 1066 9 (.istore_n 0) 1 = true := by decide +kernel
theorem ci_1066_10 : ab_at 1066 10 (.iload_n 0) 1 = true := by decide +kernel
theorem ci_1066_11 : ab_at 1066 11 (.ldc_w 266) 3 = true := by decide +kernel
theorem ci_1066_14 : ab_at 1066 14 (.iand) 1 = true := by decide +kernel
theorem ci_1066_15 : ab_at 1066 15 (.iload_n 0) 1 = true := by decide +kernel
theorem ci_1066_16 : ab_at 1066 16 (.iconst 2) 1 = true := by decide +kernel
theorem ci_1066_17 : ab_at 1066 17 (.iushr) 1 = true := by decide +kernel
theorem ci_1066_18 : ab_at 1066 18 (.ldc_w 266) 3 = true := by decide +kernel
theorem ci_1066_21 : ab_at 1066 21 (.iand) 1 = true := by decide +kernel
theorem ci_1066_22 : ab_at 1066 22 (.iadd) 1 = true := by decide +kernel
theorem ci_1066_23 : ab_at 1066 23 (.istore_n 0) 1 = true := by decide +kernel
theorem ci_1066_24 : ab_at 1066 24 (.iload_n 0) 1 = true := by decide +kernel
theorem ci_1066_25 : ab_at 1066 25 (.iload_n 0) 1 = true := by decide +kernel
theorem ci_1066_26 : ab_at 1066 26 (.iconst 4) 1 = true := by decide +kernel
theorem ci_1066_27 : ab_at 1066 27 (.iushr) 1 = true := by decide +kernel
theorem ci_1066_28 : ab_at 1066 28 (.iadd) 1 = true := by decide +kernel
theorem ci_1066_29 : ab_at 1066 29 (.ldc_w 267) 3 = true := by decide +kernel
theorem ci_1066_32 : ab_at 1066 32 (.iand) 1 = true := by decide +kernel
theorem ci_1066_33 : ab_at 1066 33 (.istore_n 0) 1 = true := by decide +kernel
theorem ci_1066_34 : ab_at 1066 34 (.iload_n 0) 1 = true := by decide +kernel
theorem ci_1066_35 : ab_at 1066 35 (.iload_n 0) 1 = true := by decide +kernel
theorem ci_1066_36 : ab_at 1066 36 (.bipush 8) 2 = true := by decide +kernel
theorem ci_1066_38 : ab_at 1066 38 (.iushr) 1 = true := by decide +kernel
theorem ci_1066_39 : ab_at 1066 39 (.iadd) 1 = true := by decide +kernel
theorem ci_1066_40 : ab_at 1066 40 (.istore_n 0) 1 = true := by decide +kernel
theorem ci_1066_41 : ab_at 1066 41 (.iload_n 0) 1 = true := by decide +kernel
theorem ci_1066_42 : ab_at 1066 42 (.iload_n 0) 1 = true := by decide +kernel
theorem ci_1066_43 : ab_at 1066 43 (.bipush 16) 2 = true := by decide +kernel
theorem ci_1066_45 : ab_at 1066 45 (.iushr) 1 = true := by decide +kernel
theorem ci_1066_46 : ab_at 1066 46 (.iadd) 1 = true := by decide +kernel
theorem ci_1066_47 : ab_at 1066 47 (.istore_n 0) 1 = true := by decide +kernel
theorem ci_1066_48 : ab_at 1066 48 (.iload_n 0) 1 = true := by decide +kernel
theorem ci_1066_49 : ab_at 1066 49 (.bipush 63) 2 = true := by decide +kernel
theorem ci_1066_51 : ab_at 1066 51 (.iand) 1 = true := by decide +kernel
theorem ci_1109_0 : ab_at 1109 0 (.iconst 0) 1 = true := by decide +kernel
theorem ci_1109_1 : ab_at 1109 1 (.istore_n 2) 1 = true := by decide +kernel
theorem ci_1109_2 : ab_at 1109 2 (.iconst 0) 1 = true := by decide +kernel
theorem ci_1109_3 : ab_at 1109 3 (.istore_n 3) 1 = true := by decide +kernel
theorem ci_1109_4 : ab_at 1109 4 (.iload_n 3) 1 = true := by decide +kernel
theorem ci_1109_5 : ab_at 1109 5 (.aload_n 0) 1 = true := by decide +kernel
theorem ci_1109_6 : ab_at 1109 6 (.getfield 27) 3 = true := by decide +kernel
theorem ci_1109_9 : ab_at 1109 9 (.if_icmp .ge 25) 3 = true := by decide +kernel
theorem ci_1109_12 : ab_at 1109 12 (.aload_n 0) 1 = true := by decide +kernel
theorem ci_1109_13 : ab_at 1109 13 (.getfield 47) 3 = true := by decide +kernel
theorem ci_1109_16 : ab_at 1109 16 (.iload_n 3) 1 = true := by decide +kernel
theorem ci_1109_17 : ab_at 1109 17 (.iaload) 1 = true := by decide +kernel
theorem ci_1109_18 : ab_at 1109 18 (.iload_n 1) 1 = true := by decide +kernel
theorem ci_1109_19 : ab_at 1109 19 (.if_icmp .ne 9) 3 = true := by decide +kernel
theorem ci_1109_22 : ab_at 1109 22 (.iload_n 2) 1 = true := by decide +kernel
theorem ci_1109_23 : ab_at 1109 23 (.iconst 1) 1 = true := by decide +kernel
theorem ci_1109_24 : ab_at 1109 24 (.iload_n 3) 1 = true := by decide +kernel
theorem ci_1109_25 : ab_at 1109 25 (.ishl) 1 = true := by decide +kernel
theorem ci_1109_26 : ab_at 1109 26 (.ior) 1 = true := by decide +kernel
theorem ci_1109_27 : ab_at 1109 27 (.istore_n 2) 1 = true := by decide +kernel
theorem ci_1109_28 : ab_at 1109 28 (.iinc 3 1) 3 = true := by decide +kernel
theorem ci_1109_31 : ab_at 1109 31 (.goto (-27)) 3 = true := by decide +kernel
theorem ci_1109_34 : ab_at 1109 34 (.iload_n 2) 1 = true := by decide +kernel
theorem ci_1113_0 : ab_at 1113 0 (.iload_n 1) 1 = true := by decide +kernel
theorem ci_1113_1 : ab_at 1113 1 (.iload_n 0) 1 = true := by decide +kernel
theorem ci_1113_2 : ab_at 1113 2 (.if_icmp .le 5) 3 = true := by decide +kernel
theorem ci_1113_5 : ab_at 1113 5 (.iconst 0) 1 = true := by decide +kernel
theorem ci_1113_7 : ab_at 1113 7 (.iconst 1) 1 = true := by decide +kernel
theorem ci_1113_8 : ab_at 1113 8 (.istore_n 2) 1 = true := by decide +kernel
theorem ci_1113_9 : ab_at 1113 9 (.iconst 1) 1 = true := by decide +kernel
theorem ci_1113_10 : ab_at 1113 10 (.istore_n 3) 1 = true := by decide +kernel
theorem ci_1113_11 : ab_at 1113 11 (.iload_n 3) 1 = true := by decide +kernel
theorem ci_1113_12 : ab_at 1113 12 (.iload_n 1) 1 = true := by decide +kernel
theorem ci_1113_13 : ab_at 1113 13 (.if_icmp .gt 19) 3 = true := by decide +kernel
theorem ci_1113_16 : ab_at 1113 16 (.iload_n 2) 1 = true := by decide +kernel
theorem ci_1113_17 : ab_at 1113 17 (.iload_n 0) 1 = true := by decide +kernel
theorem ci_1113_18 : ab_at 1113 18 (.iload_n 1) 1 = true := by decide +kernel
theorem ci_1113_19 : ab_at 1113 19 (.isub) 1 = true := by decide +kernel
theorem ci_1113_20 : ab_at 1113 20 (.iload_n 3) 1 = true := by decide +kernel
theorem ci_1113_21 : ab_at 1113 21 (.iadd) 1 = true := by decide +kernel
theorem ci_1113_22 : ab_at 1113 22 (.imul) 1 = true := by decide +kernel
theorem ci_1113_23 : ab_at 1113 23 (.iload_n 3) 1 = true := by decide +kernel
theorem ci_1113_24 : ab_at 1113 24 (.idiv) 1 = true := by decide +kernel
theorem ci_1113_25 : ab_at 1113 25 (.istore_n 2) 1 = true := by decide +kernel
theorem ci_1113_26 : ab_at 1113 26 (.iinc 3 1) 3 = true := by decide +kernel
theorem ci_1113_29 : ab_at 1113 29 (.goto (-18)) 3 = true := by decide +kernel
theorem ci_1113_32 : ab_at 1113 32 (.iload_n 2) 1 = true := by decide +kernel
theorem ci_1990_0 : ab_at 1990 0 (.aload_n 0) 1 = true := by decide +kernel
theorem ci_1990_1 : ab_at 1990 1 (.getfield 14) 3 = true := by decide +kernel
theorem ci_1990_4 : ab_at 1990 4 (.iload_n 1) 1 = true := by decide +kernel
theorem ci_1990_5 : ab_at 1990 5 (.baload) 1 = true := by decide +kernel
theorem ci_1990_6 : ab_at 1990 6 (.sipush 255) 3 = true := by decide +kernel
theorem ci_1990_9 : ab_at 1990 9 (.iand) 1 = true := by decide +kernel
theorem ci_1993_0 : ab_at 1993 0 (.iload_n 1) 1 = true := by decide +kernel
theorem ci_1993_1 : ab_at 1993 1 (.iload_n 0) 1 = true := by decide +kernel
theorem ci_1993_2 : ab_at 1993 2 (.if_icmp .le 5) 3 = true := by decide +kernel
theorem ci_1993_5 : ab_at 1993 5 (.iconst 0) 1 = true := by decide +kernel
theorem ci_1993_7 : ab_at 1993 7 (.iconst 1) 1 = true := by decide +kernel
theorem ci_1993_8 : ab_at 1993 8 (.istore_n 2) 1 = true := by decide +kernel
theorem ci_1993_9 : ab_at 1993 9 (.iconst 0) 1 = true := by decide +kernel
theorem ci_1993_10 : ab_at 1993 10 (.istore_n 3) 1 = true := by decide +kernel
theorem ci_1993_11 : ab_at 1993 11 (.iload_n 3) 1 = true := by decide +kernel
theorem ci_1993_12 : ab_at 1993 12 (.iload_n 1) 1 = true := by decide +kernel
theorem ci_1993_13 : ab_at 1993 13 (.if_icmp .ge 19) 3 = true := by decide +kernel
theorem ci_1993_16 : ab_at 1993 16 (.iload_n 2) 1 = true := by decide +kernel
theorem ci_1993_17 : ab_at 1993 17 (.iload_n 0) 1 = true := by decide +kernel
theorem ci_1993_18 : ab_at 1993 18 (.iload_n 3) 1 = true := by decide +kernel
theorem ci_1993_19 : ab_at 1993 19 (.isub) 1 = true := by decide +kernel
theorem ci_1993_20 : ab_at 1993 20 (.imul) 1 = true := by decide +kernel
theorem ci_1993_21 : ab_at 1993 21 (.iload_n 3) 1 = true := by decide +kernel
theorem ci_1993_22 : ab_at 1993 22 (.iconst 1) 1 = true := by decide +kernel
theorem ci_1993_23 : ab_at 1993 23 (.iadd) 1 = true := by decide +kernel
theorem ci_1993_24 : ab_at 1993 24 (.idiv) 1 = true := by decide +kernel
theorem ci_1993_25 : ab_at 1993 25 (.istore_n 2) 1 = true := by decide +kernel
theorem ci_1993_26 : ab_at 1993 26 (.iinc 3 1) 3 = true := by decide +kernel
theorem ci_1993_29 : ab_at 1993 29 (.goto (-18)) 3 = true := by decide +kernel
theorem ci_1993_32 : ab_at 1993 32 (.iload_n 2) 1 = true := by decide +kernel
theorem kB_63 : (Int8.ofInt (63)).toInt32.toInt = 63 := by decide +kernel
section CK
variable {sc : List Value} {sp u o dq pc : Nat} {K : Nat → eg_L → List Value → eg_H → Prop} {ls : eg_L} {st : List Value} {h : eg_H}
def iu_n (x y : Int32) : Int32 := (x.toUInt32 >>> (y.toUInt32 &&& Int32.toUInt32 31)).toInt32
theorem hs_ius2 {x y : Int32} (c : ab_at u pc .iushr 1 = true) (n : hs sc sp u o dq K (pc + 1) ls (.int (iu_n x y) :: st) h) : hs sc sp u o dq K pc ls (.int y :: .int x :: st) h := hs_s c rfl (by simp only [eg_b2, eg_it, eg_ni_e, iu_n]) n
def ck_iv (o k : Nat) (v : Int32) : Bool := match eg_at o eg_kx k with
  | some (.int w, _) => decide (w = v)
  | _ => false
theorem hs_ldcw {k : Nat} (v : Int32) (c : ab_at u pc (.ldc_w k) 3 = true) (ck : ck_iv o k v = true) (n : hs sc sp u o dq K (pc + 3) ls (.int v :: st) h) : hs sc sp u o dq K pc ls st h := by
  unfold ck_iv at ck
  split at ck
  next w p hx =>
    obtain rfl := of_decide_eq_true ck
    exact hs_s (G := eg_cn (.int w)) c (by simp only [eg_hd, eg_lok, Nat.beq_refl, eg_hd0, hx]) rfl n
  next => cases ck
end CK
/-- small ints -/
theorem sm_n : ∀ n : Nat, n < 1024 → (Int32.ofNat n).toInt = (n : Int) := by decide +kernel
theorem i32_nat {x : Int32} {n : Nat} (hn : n < 1024) (hx : x.toInt = (n : Int)) : x = Int32.ofNat n := Int32.toInt_inj.mp (hx.trans (sm_n n hn).symm)
theorem or_z (x : Int32) : x ||| Int32.ofInt 0 = x := by
  show x ||| 0 = x
  exact Int32.or_zero
def in_1 (x : Int32) : Prop := 0 ≤ x.toInt ∧ x.toInt ≤ 1023
theorem or_b {x y : Int32} (hx : in_1 x) (hy : in_1 y) : in_1 (x ||| y) := ab_num_or (0, 1023) (0, 1023) (0, 1023) x y (by decide +kernel) hx hy
theorem sh_b : ∀ p : Nat, p < 10 → 0 ≤ (Int32.ofInt 1 <<< (Int32.ofNat p &&& 31)).toInt ∧ (Int32.ofInt 1 <<< (Int32.ofNat p &&& 31)).toInt ≤ 1023 := by decide +kernel
/-- how many bits: by the JDK's way, and by taking them off one by one -/
def bc_x (x : Int32) : Int32 :=
  let a := x - (iu_n x (Int32.ofInt 1) &&& Int32.ofInt (1431655765))
  let b := (a &&& Int32.ofInt (858993459)) + (iu_n a (Int32.ofInt 2) &&& Int32.ofInt (858993459))
  let c := (b + iu_n b (Int32.ofInt 4)) &&& Int32.ofInt (252645135)
  let d := c + iu_n c (Int8.ofInt 8).toInt32
  let e := d + iu_n d (Int8.ofInt 16).toInt32
  e &&& (Int8.ofInt 63).toInt32
def bs_n : Nat → Int32 → Nat
  | 0, _ => 0
  | f + 1, v => if v.toInt = 0 then 0 else 1 + bs_n f (v &&& (v - Int32.ofInt 1))
def bz_n : Nat → Int32 → Bool
  | 0, v => decide (v.toInt = 0)
  | f + 1, v => if v.toInt = 0 then true else bz_n f (v &&& (v - Int32.ofInt 1))
theorem bc_all : ∀ n : Nat, n < 1024 → (bc_x (Int32.ofNat n)).toInt = (bs_n 10 (Int32.ofNat n) : Int) ∧ bz_n 10 (Int32.ofNat n) = true ∧ bs_n 10 (Int32.ofNat n) ≤ 10 := by decide +kernel
theorem bc_v {x : Int32} (hx : in_1 x) : (bc_x x).toInt = (bs_n 10 x : Int) ∧ bz_n 10 x = true ∧ bs_n 10 x ≤ 10 := by
  obtain ⟨h1, h2⟩ := hx
  rw [i32_nat (x := x) (n := x.toInt.toNat) (by omega) (by omega)]
  exact bc_all _ (by omega)
theorem rt_1066 : (eg_md 1066).2.2.2 = some .int := by decide +kernel
theorem rt_1829 : (eg_md 1829).2.2.2 = some .int := by decide +kernel
theorem rt_1113 : (eg_md 1113).2.2.2 = some .int := by decide +kernel
theorem rt_1993 : (eg_md 1993).2.2.2 = some .int := by decide +kernel
theorem rt_1109 : (eg_md 1109).2.2.2 = some .int := by decide +kernel
theorem rt_1990 : (eg_md 1990).2.2.2 = some .int := by decide +kernel
/-- an int, the heap as it was -/
def pi_P (h : eg_H) (v : Int) (vo : Option Value) (h' : eg_H) : Prop := h' = h ∧ ∃ r : Int32, vo = some (.int r) ∧ r.toInt = v
def pe_P (h : eg_H) (v : Int32) (vo : Option Value) (h' : eg_H) : Prop := h' = h ∧ vo = some (.int v)
theorem k_bc {sc : List Value} {sp d : Nat} {h : eg_H} {x : Int32} (hx : in_1 x) : mc sc sp 1066 13 d [.int x] h (pi_P h (bs_n 10 x)) := by
  have l0 : eg_find 0 (eg_args 0 [.int x]) = some (.int x) := rfl
  unfold mc
  refine hs_iload_n ci_1066_0 l0 ?_
  refine hs_iload_n ci_1066_1 l0 ?_
  refine hs_iconst ci_1066_2 ?_
  refine hs_ius2 ci_1066_3 ?_
  refine hs_ldcw (Int32.ofInt (1431655765)) ci_1066_4 (by decide +kernel) ?_
  refine hs_iand ci_1066_7 ?_
  refine hs_isub ci_1066_8 ?_
  refine hs_istore2_n ci_1066_9 (by decide +kernel) ?_
  intro ls9 q9
  have l0 := q9.1
  clear q9
  refine hs_iload_n ci_1066_10 l0 ?_
  refine hs_ldcw (Int32.ofInt (858993459)) ci_1066_11 (by decide +kernel) ?_
  refine hs_iand ci_1066_14 ?_
  refine hs_iload_n ci_1066_15 l0 ?_
  refine hs_iconst ci_1066_16 ?_
  refine hs_ius2 ci_1066_17 ?_
  refine hs_ldcw (Int32.ofInt (858993459)) ci_1066_18 (by decide +kernel) ?_
  refine hs_iand ci_1066_21 ?_
  refine hs_iadd ci_1066_22 ?_
  refine hs_istore2_n ci_1066_23 (by decide +kernel) ?_
  intro ls9 q9
  have l0 := q9.1
  clear q9
  refine hs_iload_n ci_1066_24 l0 ?_
  refine hs_iload_n ci_1066_25 l0 ?_
  refine hs_iconst ci_1066_26 ?_
  refine hs_ius2 ci_1066_27 ?_
  refine hs_iadd ci_1066_28 ?_
  refine hs_ldcw (Int32.ofInt (252645135)) ci_1066_29 (by decide +kernel) ?_
  refine hs_iand ci_1066_32 ?_
  refine hs_istore2_n ci_1066_33 (by decide +kernel) ?_
  intro ls9 q9
  have l0 := q9.1
  clear q9
  refine hs_iload_n ci_1066_34 l0 ?_
  refine hs_iload_n ci_1066_35 l0 ?_
  refine hs_bipush ci_1066_36 ?_
  refine hs_ius2 ci_1066_38 ?_
  refine hs_iadd ci_1066_39 ?_
  refine hs_istore2_n ci_1066_40 (by decide +kernel) ?_
  intro ls9 q9
  have l0 := q9.1
  clear q9
  refine hs_iload_n ci_1066_41 l0 ?_
  refine hs_iload_n ci_1066_42 l0 ?_
  refine hs_bipush ci_1066_43 ?_
  refine hs_ius2 ci_1066_45 ?_
  refine hs_iadd ci_1066_46 ?_
  refine hs_istore2_n ci_1066_47 (by decide +kernel) ?_
  intro ls9 q9
  have l0 := q9.1
  clear q9
  refine hs_iload_n ci_1066_48 l0 ?_
  refine hs_bipush ci_1066_49 ?_
  refine hs_iand ci_1066_51 ?_
  exact hs_k ⟨3, some (.int (bc_x x)), by decide +kernel, by rw [rt_1066]; rfl, rfl, _, rfl, (bc_v hx).1⟩
theorem bn_loop {sc : List Value} {sp d : Nat} {h : eg_H} : ∀ (f k : Nat) (v c : Int32) (ls : eg_L), bz_n f v = true → c.toInt = (k : Int) → k + f ≤ 100 → eg_find 1 ls = some (.int c) → eg_find 2 ls = some (.int v) → hs sc sp 1829 11 d (fun pc' _ st' h' => ∃ ik vo, ab_ret 1829 pc' = some ik ∧ eg_rv (eg_md 1829).2.2.2 ik st' = some vo ∧ pi_P h ((k + bs_n f v : Nat) : Int) vo h') 4 ls [] h := by
  intro f
  induction f with
  | zero =>
    intro k v c ls hz hc hk l1 l2
    have hz : v.toInt = 0 := of_decide_eq_true hz
    refine hs_iload_n ci_1829_4 l2 ?_
    refine hs_if (t := 20) ci_1829_5 rfl (fun b5 => ?_) (fun b5 => ?_)
    · simp only [hs_cd, ab_not] at b5
      refine hs_iload_n ci_1829_20 l1 ?_
      exact hs_k ⟨3, some (.int c), by decide +kernel, by rw [rt_1829]; rfl, rfl, _, rfl, hc⟩
    · simp only [hs_cd, ab_not] at b5
      omega
  | succ f ih =>
    intro k v c ls hz hc hk l1 l2
    refine hs_iload_n ci_1829_4 l2 ?_
    refine hs_if (t := 20) ci_1829_5 rfl (fun b5 => ?_) (fun b5 => ?_)
    · simp only [hs_cd, ab_not] at b5
      refine hs_iload_n ci_1829_20 l1 ?_
      have eb : bs_n (f + 1) v = 0 := if_pos b5
      exact hs_k ⟨3, some (.int c), by decide +kernel, by rw [rt_1829]; rfl, rfl, _, rfl, by rw [eb]; exact hc⟩
    · simp only [hs_cd, ab_not] at b5
      refine hs_iinc2 ci_1829_8 (by decide +kernel) l1 ?_
      intro ls9 q9
      replace l2 := q9.2 2 _ (by decide) (Or.inl rfl) l2
      have l1 := q9.1
      clear q9
      refine hs_iload_n ci_1829_11 l2 ?_
      refine hs_iload_n ci_1829_12 l2 ?_
      refine hs_iconst ci_1829_13 ?_
      refine hs_isub ci_1829_14 ?_
      refine hs_iand ci_1829_15 ?_
      refine hs_istore2_n ci_1829_16 (by decide +kernel) ?_
      intro ls9 q9
      replace l1 := q9.2 1 _ (by decide) (Or.inl rfl) l1
      have l2 := q9.1
      clear q9
      refine hs_goto (t := 4) ci_1829_17 rfl ?_
      have ez : bz_n (f + 1) v = bz_n f (v &&& (v - Int32.ofInt 1)) := if_neg b5
      have eb : bs_n (f + 1) v = 1 + bs_n f (v &&& (v - Int32.ofInt 1)) := if_neg b5
      rw [ez] at hz
      have := ih (k + 1) _ _ _ hz (i32_inc hc (by omega) (by omega)) (by omega) l1 l2
      rw [eb]
      have ek : k + (1 + bs_n f (v &&& (v - Int32.ofInt 1))) = k + 1 + bs_n f (v &&& (v - Int32.ofInt 1)) := by omega
      rw [ek]
      exact this
theorem m_bt {sc : List Value} {sp d : Nat} {h : eg_H} {x : Int32} (hx : in_1 x) : mc sc sp 1829 11 d [.int x] h (pi_P h (bs_n 10 x)) := by
  have l0 : eg_find 0 (eg_args 0 [.int x]) = some (.int x) := rfl
  unfold mc
  refine hs_iconst ci_1829_0 ?_
  refine hs_istore2_n ci_1829_1 (by decide +kernel) ?_
  intro ls9 q9
  replace l0 := q9.2 0 _ (by decide) (Or.inl rfl) l0
  have l1 := q9.1
  clear q9
  refine hs_iload_n ci_1829_2 l0 ?_
  refine hs_istore2_n ci_1829_3 (by decide +kernel) ?_
  intro ls9 q9
  replace l0 := q9.2 0 _ (by decide) (Or.inl rfl) l0
  replace l1 := q9.2 1 _ (by decide) (Or.inl rfl) l1
  have l2 := q9.1
  clear q9
  have := bn_loop (sc := sc) (sp := sp) (d := d) (h := h) 10 0 _ _ _ (bc_v hx).2.1 kI_0 (by decide) l1 l2
  rw [Nat.zero_add] at this
  exact this
/-- how many ways to choose s of a -/
def cw_r (a s : Int32) : Nat → Int32 → Int32 → Int32
  | 0, w, _ => w
  | f + 1, w, k => cw_r a s f (w * (a - s + k) / k) (k + Int32.ofInt 1)
def ch_r (n : Int32) : Nat → Int32 → Int32 → Int32
  | 0, w, _ => w
  | f + 1, w, i => ch_r n f (w * (n - i) / (i + Int32.ofInt 1)) (i + Int32.ofInt 1)
def wy_n (a s : Int32) : Int32 := if a.toInt < s.toInt then Int32.ofInt 0 else cw_r a s s.toInt.toNat (Int32.ofInt 1) (Int32.ofInt 1)
theorem wy_all : ∀ n : Nat, n < 11 → ∀ k : Nat, k < 11 → k ≤ n → ch_r (Int32.ofNat n) k (Int32.ofInt 1) (Int32.ofInt 0) = cw_r (Int32.ofNat n) (Int32.ofNat k) k (Int32.ofInt 1) (Int32.ofInt 1) := by decide +kernel
theorem wy_c {a s : Int32} (a1 : 0 ≤ a.toInt) (a2 : a.toInt ≤ 10) (s1 : 0 ≤ s.toInt) : (if a.toInt < s.toInt then Int32.ofInt 0 else ch_r a s.toInt.toNat (Int32.ofInt 1) (Int32.ofInt 0)) = wy_n a s := by
  unfold wy_n
  by_cases g : a.toInt < s.toInt
  · rw [if_pos g, if_pos g]
  · rw [if_neg g, if_neg g]
    have e := wy_all a.toInt.toNat (by omega) s.toInt.toNat (by omega) (by omega)
    rw [← i32_nat (x := a) (n := a.toInt.toNat) (by omega) (by omega), ← i32_nat (x := s) (n := s.toInt.toNat) (by omega) (by omega)] at e
    exact e
theorem nz_1 {k : Int32} (h : 1 ≤ k.toInt) : ¬ k = 0 := fun e => by
  rw [e] at h
  exact absurd h (by decide)
theorem wx_loop {sc : List Value} {sp d : Nat} {h : eg_H} {a s : Int32} (s2 : s.toInt ≤ 300) : ∀ (f : Nat) (w k : Int32) (ls : eg_L), k.toInt + (f : Int) = s.toInt + 1 → 1 ≤ k.toInt → eg_find 0 ls = some (.int a) → eg_find 1 ls = some (.int s) → eg_find 2 ls = some (.int w) → eg_find 3 ls = some (.int k) → hs sc sp 1113 4 d (fun pc' _ st' h' => ∃ ik vo, ab_ret 1113 pc' = some ik ∧ eg_rv (eg_md 1113).2.2.2 ik st' = some vo ∧ pe_P h (cw_r a s f w k) vo h') 11 ls [] h := by
  intro f
  induction f with
  | zero =>
    intro w k ls hk k1 l0 l1 l2 l3
    refine hs_iload_n ci_1113_11 l3 ?_
    refine hs_iload_n ci_1113_12 l1 ?_
    refine hs_ic (t := 32) ci_1113_13 rfl (fun b13 => ?_) (fun b13 => ?_)
    · simp only [hs_cd, ab_not] at b13
      refine hs_iload_n ci_1113_32 l2 ?_
      exact hs_k ⟨3, some (.int w), by decide +kernel, by rw [rt_1113]; rfl, rfl, rfl⟩
    · simp only [hs_cd, ab_not] at b13
      omega
  | succ f ih =>
    intro w k ls hk k1 l0 l1 l2 l3
    refine hs_iload_n ci_1113_11 l3 ?_
    refine hs_iload_n ci_1113_12 l1 ?_
    refine hs_ic (t := 32) ci_1113_13 rfl (fun b13 => ?_) (fun b13 => ?_)
    · simp only [hs_cd, ab_not] at b13
      refine hs_iload_n ci_1113_32 l2 ?_
      omega
    · simp only [hs_cd, ab_not] at b13
      refine hs_iload_n ci_1113_16 l2 ?_
      refine hs_iload_n ci_1113_17 l0 ?_
      refine hs_iload_n ci_1113_18 l1 ?_
      refine hs_isub ci_1113_19 ?_
      refine hs_iload_n ci_1113_20 l3 ?_
      refine hs_iadd ci_1113_21 ?_
      refine hs_imul ci_1113_22 ?_
      refine hs_iload_n ci_1113_23 l3 ?_
      refine hs_idiv ci_1113_24 (nz_1 k1) ?_
      refine hs_istore2_n ci_1113_25 (by decide +kernel) ?_
      intro ls9 q9
      replace l0 := q9.2 0 _ (by decide) (Or.inl rfl) l0
      replace l1 := q9.2 1 _ (by decide) (Or.inl rfl) l1
      replace l3 := q9.2 3 _ (by decide) (Or.inl rfl) l3
      have l2 := q9.1
      clear q9
      refine hs_iinc2 ci_1113_26 (by decide +kernel) l3 ?_
      intro ls9 q9
      replace l0 := q9.2 0 _ (by decide) (Or.inl rfl) l0
      replace l1 := q9.2 1 _ (by decide) (Or.inl rfl) l1
      replace l2 := q9.2 2 _ (by decide) (Or.inl rfl) l2
      have l3 := q9.1
      clear q9
      refine hs_goto (t := 11) ci_1113_29 rfl ?_
      have ek : (k + Int32.ofInt 1).toInt = k.toInt + 1 := i32_inc rfl (by omega) (by omega)
      exact ih _ _ _ (by rw [ek]; omega) (by rw [ek]; omega) l0 l1 l2 l3
theorem k_wy {sc : List Value} {sp d : Nat} {h : eg_H} {a s : Int32} (s1 : 0 ≤ s.toInt) (s2 : s.toInt ≤ 300) : mc sc sp 1113 4 d [.int a, .int s] h (pe_P h (wy_n a s)) := by
  have l0 : eg_find 0 (eg_args 0 [.int a, .int s]) = some (.int a) := rfl
  have l1 : eg_find 1 (eg_args 0 [.int a, .int s]) = some (.int s) := rfl
  unfold mc
  refine hs_iload_n ci_1113_0 l1 ?_
  refine hs_iload_n ci_1113_1 l0 ?_
  refine hs_ic (t := 7) ci_1113_2 rfl (fun b2 => ?_) (fun b2 => ?_)
  · simp only [hs_cd, ab_not] at b2
    refine hs_iconst ci_1113_7 ?_
    refine hs_istore2_n ci_1113_8 (by decide +kernel) ?_
    intro ls9 q9
    replace l0 := q9.2 0 _ (by decide) (Or.inl rfl) l0
    replace l1 := q9.2 1 _ (by decide) (Or.inl rfl) l1
    have l2 := q9.1
    clear q9
    refine hs_iconst ci_1113_9 ?_
    refine hs_istore2_n ci_1113_10 (by decide +kernel) ?_
    intro ls9 q9
    replace l0 := q9.2 0 _ (by decide) (Or.inl rfl) l0
    replace l1 := q9.2 1 _ (by decide) (Or.inl rfl) l1
    replace l2 := q9.2 2 _ (by decide) (Or.inl rfl) l2
    have l3 := q9.1
    clear q9
    have ew : wy_n a s = cw_r a s s.toInt.toNat (Int32.ofInt 1) (Int32.ofInt 1) := if_neg (by omega)
    rw [ew]
    exact wx_loop s2 s.toInt.toNat _ _ _ (by rw [kI_1]; omega) (by decide) l0 l1 l2 l3
  · simp only [hs_cd, ab_not] at b2
    refine hs_iconst ci_1113_5 ?_
    have ew : wy_n a s = Int32.ofInt 0 := if_pos (by omega)
    rw [ew]
    exact hs_k ⟨3, some (.int (Int32.ofInt 0)), by decide +kernel, by rw [rt_1113]; rfl, rfl, rfl⟩
theorem wm_loop {sc : List Value} {sp d : Nat} {h : eg_H} {a s : Int32} (s2 : s.toInt ≤ 300) : ∀ (f : Nat) (w k : Int32) (ls : eg_L), k.toInt + (f : Int) = s.toInt → 0 ≤ k.toInt → eg_find 0 ls = some (.int a) → eg_find 1 ls = some (.int s) → eg_find 2 ls = some (.int w) → eg_find 3 ls = some (.int k) → hs sc sp 1993 11 d (fun pc' _ st' h' => ∃ ik vo, ab_ret 1993 pc' = some ik ∧ eg_rv (eg_md 1993).2.2.2 ik st' = some vo ∧ pe_P h (ch_r a f w k) vo h') 11 ls [] h := by
  intro f
  induction f with
  | zero =>
    intro w k ls hk k1 l0 l1 l2 l3
    refine hs_iload_n ci_1993_11 l3 ?_
    refine hs_iload_n ci_1993_12 l1 ?_
    refine hs_ic (t := 32) ci_1993_13 rfl (fun b13 => ?_) (fun b13 => ?_)
    · simp only [hs_cd, ab_not] at b13
      refine hs_iload_n ci_1993_32 l2 ?_
      exact hs_k ⟨3, some (.int w), by decide +kernel, by rw [rt_1993]; rfl, rfl, rfl⟩
    · simp only [hs_cd, ab_not] at b13
      omega
  | succ f ih =>
    intro w k ls hk k1 l0 l1 l2 l3
    refine hs_iload_n ci_1993_11 l3 ?_
    refine hs_iload_n ci_1993_12 l1 ?_
    refine hs_ic (t := 32) ci_1993_13 rfl (fun b13 => ?_) (fun b13 => ?_)
    · simp only [hs_cd, ab_not] at b13
      refine hs_iload_n ci_1993_32 l2 ?_
      omega
    · simp only [hs_cd, ab_not] at b13
      refine hs_iload_n ci_1993_16 l2 ?_
      refine hs_iload_n ci_1993_17 l0 ?_
      refine hs_iload_n ci_1993_18 l3 ?_
      refine hs_isub ci_1993_19 ?_
      refine hs_imul ci_1993_20 ?_
      refine hs_iload_n ci_1993_21 l3 ?_
      refine hs_iconst ci_1993_22 ?_
      refine hs_iadd ci_1993_23 ?_
      refine hs_idiv ci_1993_24 (nz_1 (by rw [i32_inc rfl (by omega) (by omega)]; omega)) ?_
      refine hs_istore2_n ci_1993_25 (by decide +kernel) ?_
      intro ls9 q9
      replace l0 := q9.2 0 _ (by decide) (Or.inl rfl) l0
      replace l1 := q9.2 1 _ (by decide) (Or.inl rfl) l1
      replace l3 := q9.2 3 _ (by decide) (Or.inl rfl) l3
      have l2 := q9.1
      clear q9
      refine hs_iinc2 ci_1993_26 (by decide +kernel) l3 ?_
      intro ls9 q9
      replace l0 := q9.2 0 _ (by decide) (Or.inl rfl) l0
      replace l1 := q9.2 1 _ (by decide) (Or.inl rfl) l1
      replace l2 := q9.2 2 _ (by decide) (Or.inl rfl) l2
      have l3 := q9.1
      clear q9
      refine hs_goto (t := 11) ci_1993_29 rfl ?_
      have ek : (k + Int32.ofInt 1).toInt = k.toInt + 1 := i32_inc rfl (by omega) (by omega)
      exact ih _ _ _ (by rw [ek]; omega) (by rw [ek]; omega) l0 l1 l2 l3
theorem m_wy {sc : List Value} {sp d : Nat} {h : eg_H} {a s : Int32} (a1 : 0 ≤ a.toInt) (a2 : a.toInt ≤ 10) (s1 : 0 ≤ s.toInt) (s2 : s.toInt ≤ 300) : mc sc sp 1993 11 d [.int a, .int s] h (pe_P h (wy_n a s)) := by
  have l0 : eg_find 0 (eg_args 0 [.int a, .int s]) = some (.int a) := rfl
  have l1 : eg_find 1 (eg_args 0 [.int a, .int s]) = some (.int s) := rfl
  rw [← wy_c a1 a2 s1]
  unfold mc
  refine hs_iload_n ci_1993_0 l1 ?_
  refine hs_iload_n ci_1993_1 l0 ?_
  refine hs_ic (t := 7) ci_1993_2 rfl (fun b2 => ?_) (fun b2 => ?_)
  · simp only [hs_cd, ab_not] at b2
    refine hs_iconst ci_1993_7 ?_
    refine hs_istore2_n ci_1993_8 (by decide +kernel) ?_
    intro ls9 q9
    replace l0 := q9.2 0 _ (by decide) (Or.inl rfl) l0
    replace l1 := q9.2 1 _ (by decide) (Or.inl rfl) l1
    have l2 := q9.1
    clear q9
    refine hs_iconst ci_1993_9 ?_
    refine hs_istore2_n ci_1993_10 (by decide +kernel) ?_
    intro ls9 q9
    replace l0 := q9.2 0 _ (by decide) (Or.inl rfl) l0
    replace l1 := q9.2 1 _ (by decide) (Or.inl rfl) l1
    replace l2 := q9.2 2 _ (by decide) (Or.inl rfl) l2
    have l3 := q9.1
    clear q9
    rw [if_neg (by omega)]
    exact wm_loop s2 s.toInt.toNat _ _ _ (by rw [kI_0]; omega) (by decide) l0 l1 l2 l3
  · simp only [hs_cd, ab_not] at b2
    refine hs_iconst ci_1993_5 ?_
    rw [if_pos (by omega)]
    exact hs_k ⟨3, some (.int (Int32.ofInt 0)), by decide +kernel, by rw [rt_1993]; rfl, rfl, rfl⟩
/-- the words of one man, by their givers -/
def gv_n (g : Nat → Int32) (m : Int32) : Nat → Int32
  | 0 => Int32.ofInt 0
  | p + 1 => if (g p).toInt = m.toInt then gv_n g m p ||| (Int32.ofInt 1 <<< (Int32.ofNat p &&& 31)) else gv_n g m p
theorem gv_same {g g' : Nat → Int32} {m : Int32} : ∀ p, (∀ q, q < p → g q = g' q) → gv_n g m p = gv_n g' m p
  | 0, _ => rfl
  | p + 1, h => by
    unfold gv_n
    rw [gv_same p (fun q hq => h q (by omega)), h p (by omega)]
theorem gv_b {g : Nat → Int32} {m : Int32} : ∀ p, p ≤ 10 → in_1 (gv_n g m p)
  | 0, _ => by
    show in_1 (Int32.ofInt 0)
    unfold in_1
    decide
  | p + 1, h => by
    unfold gv_n
    split
    · exact or_b (gv_b p (by omega)) (sh_b p (by omega))
    · exact gv_b p (by omega)
theorem gx_loop {sc : List Value} {sp d : Nat} {h : eg_H} (hq : ab_hp h) {y : Int32} {n : Nat} (hn : (hv h 8 5).toInt = (n : Int)) (hn2 : n ≤ 10) : ∀ (f p : Nat) (w x : Int32) (ls : eg_L), p + f = n → x.toInt = (p : Int) → w = gv_n (fun q => hv h 13 q) y p → eg_find 0 ls = some (.ref 8) → eg_find 1 ls = some (.int y) → eg_find 2 ls = some (.int w) → eg_find 3 ls = some (.int x) → hs sc sp 1109 1 d (fun pc' _ st' h' => ∃ ik vo, ab_ret 1109 pc' = some ik ∧ eg_rv (eg_md 1109).2.2.2 ik st' = some vo ∧ pe_P h (gv_n (fun q => hv h 13 q) y n) vo h') 4 ls [] h := by
  have hp := hq.1
  intro f
  induction f with
  | zero =>
    intro p w x ls hf hx hw l0 l1 l2 l3
    refine hs_iload_n ci_1109_4 l3 ?_
    refine hs_aload_n ci_1109_5 l0 ?_
    refine hs_gfi 5 ci_1109_6 (by decide +kernel) hp ?_
    refine hs_ic (t := 34) ci_1109_9 rfl (fun b9 => ?_) (fun b9 => ?_)
    · simp only [hs_cd, ab_not] at b9
      refine hs_iload_n ci_1109_34 l2 ?_
      obtain rfl : p = n := by omega
      exact hs_k ⟨3, some (.int w), by decide +kernel, by rw [rt_1109]; rfl, rfl, by rw [hw]⟩
    · simp only [hs_cd, ab_not] at b9
      omega
  | succ f ih =>
    intro p w x ls hf hx hw l0 l1 l2 l3
    have ep : x.toInt.toNat = p := by omega
    have ex := i32_nat (x := x) (n := p) (by omega) hx
    refine hs_iload_n ci_1109_4 l3 ?_
    refine hs_aload_n ci_1109_5 l0 ?_
    refine hs_gfi 5 ci_1109_6 (by decide +kernel) hp ?_
    refine hs_ic (t := 34) ci_1109_9 rfl (fun b9 => ?_) (fun b9 => ?_)
    · simp only [hs_cd, ab_not] at b9
      refine hs_iload_n ci_1109_34 l2 ?_
      omega
    · simp only [hs_cd, ab_not] at b9
      refine hs_aload_n ci_1109_12 l0 ?_
      refine hs_gfr 11 13 ci_1109_13 (by decide +kernel) hp ?_
      refine hs_iload_n ci_1109_16 l3 ?_
      refine hs_iaload 0 9 (0) (5) ci_1109_17 (by decide +kernel) hp (by omega) (by omega) (fun r17_1 r17_2 => ?_)
      refine hs_iload_n ci_1109_18 l1 ?_
      refine hs_ic (t := 28) ci_1109_19 rfl (fun b19 => ?_) (fun b19 => ?_)
      · simp only [hs_cd, ab_not] at b19
        refine hs_iinc2 ci_1109_28 (by decide +kernel) l3 ?_
        intro ls9 q9
        replace l0 := q9.2 0 _ (by decide) (Or.inl rfl) l0
        replace l1 := q9.2 1 _ (by decide) (Or.inl rfl) l1
        replace l2 := q9.2 2 _ (by decide) (Or.inl rfl) l2
        have l3 := q9.1
        clear q9
        refine hs_goto (t := 4) ci_1109_31 rfl ?_
        rw [ep] at b19
        exact ih (p + 1) _ _ _ (by omega) (i32_inc hx (by omega) (by omega)) (hw.trans (if_neg b19).symm) l0 l1 l2 l3
      · simp only [hs_cd, ab_not] at b19
        refine hs_iload_n ci_1109_22 l2 ?_
        refine hs_iconst ci_1109_23 ?_
        refine hs_iload_n ci_1109_24 l3 ?_
        refine hs_ishl ci_1109_25 ?_
        refine hs_ior ci_1109_26 ?_
        refine hs_istore2_n ci_1109_27 (by decide +kernel) ?_
        intro ls9 q9
        replace l0 := q9.2 0 _ (by decide) (Or.inl rfl) l0
        replace l1 := q9.2 1 _ (by decide) (Or.inl rfl) l1
        replace l3 := q9.2 3 _ (by decide) (Or.inl rfl) l3
        have l2 := q9.1
        clear q9
        refine hs_iinc2 ci_1109_28 (by decide +kernel) l3 ?_
        intro ls9 q9
        replace l0 := q9.2 0 _ (by decide) (Or.inl rfl) l0
        replace l1 := q9.2 1 _ (by decide) (Or.inl rfl) l1
        replace l2 := q9.2 2 _ (by decide) (Or.inl rfl) l2
        have l3 := q9.1
        clear q9
        refine hs_goto (t := 4) ci_1109_31 rfl ?_
        rw [ep] at b19
        exact ih (p + 1) _ _ _ (by omega) (i32_inc hx (by omega) (by omega)) (by rw [hw, ex]; exact (if_pos b19).symm) l0 l1 l2 l3
theorem k_gv {sc : List Value} {sp d : Nat} {h : eg_H} (hq : ab_hp h) {y : Int32} {n : Nat} (hn : (hv h 8 5).toInt = (n : Int)) (hn2 : n ≤ 10) : mc sc sp 1109 1 d [.ref 8, .int y] h (pe_P h (gv_n (fun q => hv h 13 q) y n)) := by
  have l0 : eg_find 0 (eg_args 0 [.ref 8, .int y]) = some (.ref 8) := rfl
  have l1 : eg_find 1 (eg_args 0 [.ref 8, .int y]) = some (.int y) := rfl
  unfold mc
  refine hs_iconst ci_1109_0 ?_
  refine hs_istore2_n ci_1109_1 (by decide +kernel) ?_
  intro ls9 q9
  replace l0 := q9.2 0 _ (by decide) (Or.inl rfl) l0
  replace l1 := q9.2 1 _ (by decide) (Or.inl rfl) l1
  have l2 := q9.1
  clear q9
  refine hs_iconst ci_1109_2 ?_
  refine hs_istore2_n ci_1109_3 (by decide +kernel) ?_
  intro ls9 q9
  replace l0 := q9.2 0 _ (by decide) (Or.inl rfl) l0
  replace l1 := q9.2 1 _ (by decide) (Or.inl rfl) l1
  replace l2 := q9.2 2 _ (by decide) (Or.inl rfl) l2
  have l3 := q9.1
  clear q9
  exact gx_loop hq hn hn2 n 0 _ _ _ (by omega) kI_0 rfl l0 l1 l2 l3
theorem m_oct {sc : List Value} {sp d : Nat} {h : eg_H} (x : Int32) (x1 : 0 ≤ x.toInt) (x2 : x.toInt < 940) (hq : ab_hp h) : mc sc sp 1990 11 d [.ref 182, .int x] h (pi_P h (bM h x.toInt.toNat)) := by
  have l0 : eg_find 0 (eg_args 0 [.ref 182, .int x]) = some (.ref 182) := rfl
  have l1 : eg_find 1 (eg_args 0 [.ref 182, .int x]) = some (.int x) := rfl
  have hp := hq.1
  unfold mc
  refine hs_aload_n ci_1990_0 l0 ?_
  refine hs_gfr 1 183 ci_1990_1 (by decide +kernel) hp ?_
  refine hs_iload_n ci_1990_4 l1 ?_
  refine hs_baload 2 0 939 (-128) (127) ci_1990_5 ⟨rfl, by decide⟩ (by decide +kernel) hp (by omega) (by omega) (fun r5_1 r5_2 => ?_)
  refine hs_sipush ci_1990_6 ?_
  refine hs_iand ci_1990_9 ?_
  exact hs_k ⟨3, some (.int (hv h 183 x.toInt.toNat &&& (Int16.ofInt 255).toInt32)), by decide +kernel, by rw [rt_1990]; rfl, rfl, _, rfl, i32_255 _⟩
