/-! BY HAND: which way a tree lies -/
def ckq (a k : Nat) (lo hi : Int) : Bool := match gsl a k with
  | some (l, h) => decide (l = lo) && decide (h = hi)
  | none => false
theorem ckq_v {n a off : Nat} {lo hi : Int} (c : ckn n (fun i => ckq a (off + i) lo hi) = true) (i : Nat) (hi' : i < n) : gsl a (off + i) = some (lo, hi) := by
  have := ckn_v c hi'
  unfold ckq at this
  split at this
  next l h2 g =>
    have c1 := Bool.and_eq_true_iff.mp this
    have e1 := of_decide_eq_true c1.1
    have e2 := of_decide_eq_true c1.2
    subst e1; subst e2
    exact g
  next => cases this
theorem gq_his : ckn 10 (fun i => ckq 184 (29 + i) 0 5) = true := by decide +kernel
theorem gq_giv : ckn 10 (fun i => ckq 184 (19 + i) 0 5) = true := by decide +kernel
theorem gq_tx : ckn 10 (fun i => ckq 184 (39 + i) 0 7) = true := by decide +kernel
theorem gq_ty : ckn 10 (fun i => ckq 184 (49 + i) 0 7) = true := by decide +kernel
theorem gq_dx : ckn 6 (fun i => ckq 184 (7 + i) 0 7) = true := by decide +kernel
theorem gq_dy : ckn 6 (fun i => ckq 184 (13 + i) 0 7) = true := by decide +kernel
theorem gq_tl : ckn 10 (fun i => ckq 184 (90 + i) (-2147483648) 2147483647) = true := by decide +kernel
theorem gq_mo : ckn 10 (fun i => ckq 184 (100 + i) (-2147483648) 2147483647) = true := by decide +kernel
theorem gq_br : ckn 6 (fun i => ckq 184 (118 + i) (-2147483648) 2147483647) = true := by decide +kernel
theorem gq_sh : ckn 2 (fun i => ckq 184 (124 + i) (-2147483648) 2147483647) = true := by decide +kernel
def fx_i (h : eg_H) (k : Nat) : Nat := (hv h 184 (29 + k)).toInt.toNat
def fx_dx (h : eg_H) (k : Nat) : Int := (hv h 184 (7 + fx_i h k)).toInt - (hv h 184 (39 + k)).toInt
def fx_dy (h : eg_H) (k : Nat) : Int := (hv h 184 (13 + fx_i h k)).toInt - (hv h 184 (49 + k)).toInt
def fx_ab (x : Int) : Int := if 0 ≤ x then x else -x
def fx_sg (x : Int) : Int := if x < 0 then -1 else if 0 < x then 1 else 0
def fx_sx (h : eg_H) (k : Nat) : Int := if fx_ab (fx_dy h k) ≤ fx_ab (fx_dx h k) then fx_sg (fx_dx h k) else 0
def fx_sy (h : eg_H) (k : Nat) : Int := if fx_ab (fx_dy h k) ≤ fx_ab (fx_dx h k) then 0 else fx_sg (fx_dy h k)
theorem fx_sg_b (x : Int) : -1 ≤ fx_sg x ∧ fx_sg x ≤ 1 := by
  unfold fx_sg
  split
  · omega
  · split <;> omega
theorem fx_sx_b (h : eg_H) (k : Nat) : -1 ≤ fx_sx h k ∧ fx_sx h k ≤ 1 := by
  unfold fx_sx
  split
  · exact fx_sg_b _
  · omega
theorem fx_sy_b (h : eg_H) (k : Nat) : -1 ≤ fx_sy h k ∧ fx_sy h k ≤ 1 := by
  unfold fx_sy
  split
  · omega
  · exact fx_sg_b _
/-- they are of the land alone -/
theorem fx_same {h h' : eg_H} (e : ∀ j, j < 89 → hv h' 184 j = hv h 184 j) (hp : ab_hp0 h) {k : Nat} (hk : k < 10) : fx_sx h' k = fx_sx h k ∧ fx_sy h' k = fx_sy h k := by
  have b := gsl_b hp (ckq_v gq_his k hk)
  simp only at b
  have e1 : fx_i h' k = fx_i h k := by unfold fx_i; rw [e _ (by omega)]
  have hb : fx_i h k ≤ 5 := by unfold fx_i; omega
  have e2 : fx_dx h' k = fx_dx h k := by unfold fx_dx; rw [e1, e _ (by omega), e _ (by omega)]
  have e3 : fx_dy h' k = fx_dy h k := by unfold fx_dy; rw [e1, e _ (by omega), e _ (by omega)]
  unfold fx_sx fx_sy
  rw [e2, e3]
  exact ⟨rfl, rfl⟩
theorem hs_ineg {sc : List Value} {sp u o dq pc : Nat} {K : Nat → eg_L → List Value → eg_H → Prop} {ls : eg_L} {st : List Value} {h : eg_H} {x : Int32} (c : ab_at u pc .ineg 1 = true) (n : hs sc sp u o dq K (pc + 1) ls (.int (-x) :: st) h) : hs sc sp u o dq K pc ls (.int x :: st) h := hs_s (G := eg_b1 (eg_i1 (fun x => -x))) c rfl (by simp only [eg_b1, eg_i1, eg_ni_e]) n
theorem i32_neg {x : Int32} {a : Int} (hx : x.toInt = a) (h1 : -2147483647 ≤ a) : (-x).toInt = -a := by
  rw [Int32.toInt_neg, hx]
  have h2 := ab_ile x
  exact ab_bm (by unfold ab_min; omega) (by unfold ab_max; omega)

theorem ml_1683 : (eg_md 1683).2.2.1 = 2 := by decide +kernel
theorem rt_1683 : (eg_md 1683).2.2.2 = some .boolean := by decide +kernel
theorem ml_1869 : (eg_md 1869).2.2.1 = 2 := by decide +kernel
theorem rt_1869 : (eg_md 1869).2.2.2 = some .int := by decide +kernel
theorem ml_1873 : (eg_md 1873).2.2.1 = 2 := by decide +kernel
theorem rt_1873 : (eg_md 1873).2.2.2 = some .boolean := by decide +kernel
theorem ml_1876 : (eg_md 1876).2.2.1 = 1 := by decide +kernel
theorem rt_1876 : (eg_md 1876).2.2.2 = some .int := by decide +kernel
theorem ml_1879 : (eg_md 1879).2.2.1 = 1 := by decide +kernel
theorem rt_1879 : (eg_md 1879).2.2.2 = some .int := by decide +kernel
theorem ml_1883 : (eg_md 1883).2.2.1 = 2 := by decide +kernel
theorem rt_1883 : (eg_md 1883).2.2.2 = some .int := by decide +kernel
theorem ci_1683_0 : ab_at 1683 0 (.iload_n 0) 1 = true := by decide +kernel
theorem ci_1683_1 : ab_at 1683 1 (.iload_n 1) 1 = true := by decide +kernel
theorem ci_1683_2 : ab_at 1683 2 (.ishr) 1 = true := by decide +kernel
theorem ci_1683_3 : ab_at 1683 3 (.iconst 1) 1 = true := by decide +kernel
theorem ci_1683_4 : ab_at 1683 4 (.iand) 1 = true := by decide +kernel
theorem ci_1683_5 : ab_at 1683 5 (.iconst 1) 1 = true := by decide +kernel
theorem ci_1683_6 : ab_at 1683 6 (.if_icmp .ne 7) 3 = true := by decide +kernel
theorem ci_1683_9 : ab_at 1683 9 (.iconst 1) 1 = true := by decide +kernel
theorem ci_1683_10 : ab_at 1683 10 (.goto 4) 3 = true := by decide +kernel
theorem ci_1683_13 : ab_at 1683 13 (.iconst 0) 1 = true := by decide +kernel
theorem ci_1869_0 : ab_at 1869 0 (.aload_n 0) 1 = true := by decide +kernel
theorem ci_1869_1 : ab_at 1869 1 (.iload_n 1) 1 = true := by decide +kernel
theorem ci_1869_2 : ab_at 1869 2 (.invokevirtual 333) 3 = true := by decide +kernel
theorem ci_1869_5 : ab_at 1869 5 (.ifCond .eq 36) 3 = true := by decide +kernel
theorem ci_1869_8 : ab_at 1869 8 (.aload_n 0) 1 = true := by decide +kernel
theorem ci_1869_9 : ab_at 1869 9 (.getfield 33) 3 = true := by decide +kernel
theorem ci_1869_12 : ab_at 1869 12 (.bipush 7) 2 = true := by decide +kernel
theorem ci_1869_14 : ab_at 1869 14 (.aload_n 0) 1 = true := by decide +kernel
theorem ci_1869_15 : ab_at 1869 15 (.getfield 33) 3 = true := by decide +kernel
theorem ci_1869_18 : ab_at 1869 18 (.bipush 29) 2 = true := by decide +kernel
theorem ci_1869_20 : ab_at 1869 20 (.iload_n 1) 1 = true := by decide +kernel
theorem ci_1869_21 : ab_at 1869 21 (.iadd) 1 = true := by decide +kernel
theorem ci_1869_22 : ab_at 1869 22 (.iaload) 1 = true := by decide +kernel
theorem ci_1869_23 : ab_at 1869 23 (.iadd) 1 = true := by decide +kernel
theorem ci_1869_24 : ab_at 1869 24 (.iaload) 1 = true := by decide +kernel
theorem ci_1869_25 : ab_at 1869 25 (.aload_n 0) 1 = true := by decide +kernel
theorem ci_1869_26 : ab_at 1869 26 (.getfield 33) 3 = true := by decide +kernel
theorem ci_1869_29 : ab_at 1869 29 (.bipush 39) 2 = true := by decide +kernel
theorem ci_1869_31 : ab_at 1869 31 (.iload_n 1) 1 = true := by decide +kernel
theorem ci_1869_32 : ab_at 1869 32 (.iadd) 1 = true := by decide +kernel
theorem ci_1869_33 : ab_at 1869 33 (.iaload) 1 = true := by decide +kernel
theorem ci_1869_34 : ab_at 1869 34 (.isub) 1 = true := by decide +kernel
theorem ci_1869_35 : ab_at 1869 35 (.invokestatic 336) 3 = true := by decide +kernel
theorem ci_1869_38 : ab_at 1869 38 (.goto 4) 3 = true := by decide +kernel
theorem ci_1869_41 : ab_at 1869 41 (.iconst 0) 1 = true := by decide +kernel
theorem ci_1873_0 : ab_at 1873 0 (.aload_n 0) 1 = true := by decide +kernel
theorem ci_1873_1 : ab_at 1873 1 (.getfield 33) 3 = true := by decide +kernel
theorem ci_1873_4 : ab_at 1873 4 (.bipush 7) 2 = true := by decide +kernel
theorem ci_1873_6 : ab_at 1873 6 (.aload_n 0) 1 = true := by decide +kernel
theorem ci_1873_7 : ab_at 1873 7 (.getfield 33) 3 = true := by decide +kernel
theorem ci_1873_10 : ab_at 1873 10 (.bipush 29) 2 = true := by decide +kernel
theorem ci_1873_12 : ab_at 1873 12 (.iload_n 1) 1 = true := by decide +kernel
theorem ci_1873_13 : ab_at 1873 13 (.iadd) 1 = true := by decide +kernel
theorem ci_1873_14 : ab_at 1873 14 (.iaload) 1 = true := by decide +kernel
theorem ci_1873_15 : ab_at 1873 15 (.iadd) 1 = true := by decide +kernel
theorem ci_1873_16 : ab_at 1873 16 (.iaload) 1 = true := by decide +kernel
theorem ci_1873_17 : ab_at 1873 17 (.aload_n 0) 1 = true := by decide +kernel
theorem ci_1873_18 : ab_at 1873 18 (.getfield 33) 3 = true := by decide +kernel
theorem ci_1873_21 : ab_at 1873 21 (.bipush 39) 2 = true := by decide +kernel
theorem ci_1873_23 : ab_at 1873 23 (.iload_n 1) 1 = true := by decide +kernel
theorem ci_1873_24 : ab_at 1873 24 (.iadd) 1 = true := by decide +kernel
theorem ci_1873_25 : ab_at 1873 25 (.iaload) 1 = true := by decide +kernel
theorem ci_1873_26 : ab_at 1873 26 (.isub) 1 = true := by decide +kernel
theorem ci_1873_27 : ab_at 1873 27 (.invokestatic 330) 3 = true := by decide +kernel
theorem ci_1873_30 : ab_at 1873 30 (.aload_n 0) 1 = true := by decide +kernel
theorem ci_1873_31 : ab_at 1873 31 (.getfield 33) 3 = true := by decide +kernel
theorem ci_1873_34 : ab_at 1873 34 (.bipush 13) 2 = true := by decide +kernel
theorem ci_1873_36 : ab_at 1873 36 (.aload_n 0) 1 = true := by decide +kernel
theorem ci_1873_37 : ab_at 1873 37 (.getfield 33) 3 = true := by decide +kernel
theorem ci_1873_40 : ab_at 1873 40 (.bipush 29) 2 = true := by decide +kernel
theorem ci_1873_42 : ab_at 1873 42 (.iload_n 1) 1 = true := by decide +kernel
theorem ci_1873_43 : ab_at 1873 43 (.iadd) 1 = true := by decide +kernel
theorem ci_1873_44 : ab_at 1873 44 (.iaload) 1 = true := by decide +kernel
theorem ci_1873_45 : ab_at 1873 45 (.iadd) 1 = true := by decide +kernel
theorem ci_1873_46 : ab_at 1873 46 (.iaload) 1 = true := by decide +kernel
theorem ci_1873_47 : ab_at 1873 47 (.aload_n 0) 1 = true := by decide +kernel
theorem ci_1873_48 : ab_at 1873 48 (.getfield 33) 3 = true := by decide +kernel
theorem ci_1873_51 : ab_at 1873 51 (.bipush 49) 2 = true := by decide +kernel
theorem ci_1873_53 : ab_at 1873 53 (.iload_n 1) 1 = true := by decide +kernel
theorem ci_1873_54 : ab_at 1873 54 (.iadd) 1 = true := by decide +kernel
theorem ci_1873_55 : ab_at 1873 55 (.iaload) 1 = true := by decide +kernel
theorem ci_1873_56 : ab_at 1873 56 (.isub) 1 = true := by decide +kernel
theorem ci_1873_57 : ab_at 1873 57 (.invokestatic 330) 3 = true := by decide +kernel
theorem ci_1873_60 : ab_at 1873 60 (.if_icmp .lt 7) 3 = true := by decide +kernel
theorem ci_1873_63 : ab_at 1873 63 (.iconst 1) 1 = true := by decide +kernel
theorem ci_1873_64 : ab_at 1873 64 (.goto 4) 3 = true := by decide +kernel
theorem ci_1873_67 : ab_at 1873 67 (.iconst 0) 1 = true := by decide +kernel
theorem ci_1876_0 : ab_at 1876 0 (.iload_n 0) 1 = true := by decide +kernel
theorem ci_1876_1 : ab_at 1876 1 (.ifCond .ge 8) 3 = true := by decide +kernel
theorem ci_1876_4 : ab_at 1876 4 (.iload_n 0) 1 = true := by decide +kernel
theorem ci_1876_5 : ab_at 1876 5 (.ineg) 1 = true := by decide +kernel
theorem ci_1876_6 : ab_at 1876 6 (.goto 4) 3 = true := by decide +kernel
theorem ci_1876_9 : ab_at 1876 9 (.iload_n 0) 1 = true := by decide +kernel
theorem ci_1879_0 : ab_at 1879 0 (.iload_n 0) 1 = true := by decide +kernel
theorem ci_1879_1 : ab_at 1879 1 (.ifCond .ge 7) 3 = true := by decide +kernel
theorem ci_1879_4 : ab_at 1879 4 (.iconst (-1)) 1 = true := by decide +kernel
theorem ci_1879_5 : ab_at 1879 5 (.goto 12) 3 = true := by decide +kernel
theorem ci_1879_8 : ab_at 1879 8 (.iload_n 0) 1 = true := by decide +kernel
theorem ci_1879_9 : ab_at 1879 9 (.ifCond .le 7) 3 = true := by decide +kernel
theorem ci_1879_12 : ab_at 1879 12 (.iconst 1) 1 = true := by decide +kernel
theorem ci_1879_13 : ab_at 1879 13 (.goto 4) 3 = true := by decide +kernel
theorem ci_1879_16 : ab_at 1879 16 (.iconst 0) 1 = true := by decide +kernel
theorem ci_1883_0 : ab_at 1883 0 (.aload_n 0) 1 = true := by decide +kernel
theorem ci_1883_1 : ab_at 1883 1 (.iload_n 1) 1 = true := by decide +kernel
theorem ci_1883_2 : ab_at 1883 2 (.invokevirtual 333) 3 = true := by decide +kernel
theorem ci_1883_5 : ab_at 1883 5 (.ifCond .eq 7) 3 = true := by decide +kernel
theorem ci_1883_8 : ab_at 1883 8 (.iconst 0) 1 = true := by decide +kernel
theorem ci_1883_9 : ab_at 1883 9 (.goto 33) 3 = true := by decide +kernel
theorem ci_1883_12 : ab_at 1883 12 (.aload_n 0) 1 = true := by decide +kernel
theorem ci_1883_13 : ab_at 1883 13 (.getfield 33) 3 = true := by decide +kernel
theorem ci_1883_16 : ab_at 1883 16 (.bipush 13) 2 = true := by decide +kernel
theorem ci_1883_18 : ab_at 1883 18 (.aload_n 0) 1 = true := by decide +kernel
theorem ci_1883_19 : ab_at 1883 19 (.getfield 33) 3 = true := by decide +kernel
theorem ci_1883_22 : ab_at 1883 22 (.bipush 29) 2 = true := by decide +kernel
theorem ci_1883_24 : ab_at 1883 24 (.iload_n 1) 1 = true := by decide +kernel
theorem ci_1883_25 : ab_at 1883 25 (.iadd) 1 = true := by decide +kernel
theorem ci_1883_26 : ab_at 1883 26 (.iaload) 1 = true := by decide +kernel
theorem ci_1883_27 : ab_at 1883 27 (.iadd) 1 = true := by decide +kernel
theorem ci_1883_28 : ab_at 1883 28 (.iaload) 1 = true := by decide +kernel
theorem ci_1883_29 : ab_at 1883 29 (.aload_n 0) 1 = true := by decide +kernel
theorem ci_1883_30 : ab_at 1883 30 (.getfield 33) 3 = true := by decide +kernel
theorem ci_1883_33 : ab_at 1883 33 (.bipush 49) 2 = true := by decide +kernel
theorem ci_1883_35 : ab_at 1883 35 (.iload_n 1) 1 = true := by decide +kernel
theorem ci_1883_36 : ab_at 1883 36 (.iadd) 1 = true := by decide +kernel
theorem ci_1883_37 : ab_at 1883 37 (.iaload) 1 = true := by decide +kernel
theorem ci_1883_38 : ab_at 1883 38 (.isub) 1 = true := by decide +kernel
theorem ci_1883_39 : ab_at 1883 39 (.invokestatic 336) 3 = true := by decide +kernel
def ft_bit (a b : Int32) : Int := ((a >>> (b &&& 31)) &&& Int32.ofInt 1).toInt
theorem c_bitOf {sc : List Value} {sp d : Nat} {h : eg_H} (a b : Int32) : mc sc sp 1683 11 d [.int a, .int b] h (fun vo h' => h' = h ∧ ∃ r : Int32, vo = some (.int r) ∧ ((r.toInt = 1 ∧ ft_bit a b = (Int32.ofInt 1).toInt) ∨ (r.toInt = 0 ∧ ft_bit a b ≠ (Int32.ofInt 1).toInt))) := by
  have l0 : eg_find 0 (eg_args 0 [.int a, .int b]) = some (.int a) := rfl
  have l1 : eg_find 1 (eg_args 0 [.int a, .int b]) = some (.int b) := rfl
  unfold mc ft_bit
  refine hs_iload_n ci_1683_0 l0 ?_
  refine hs_iload_n ci_1683_1 l1 ?_
  refine hs_ishr ci_1683_2 ?_
  refine hs_iconst ci_1683_3 ?_
  refine hs_iand ci_1683_4 ?_
  refine hs_iconst ci_1683_5 ?_
  refine hs_ic (t := 13) ci_1683_6 rfl (fun b6 => ?_) (fun b6 => ?_)
  · simp only [hs_cd, ab_not] at b6
    refine hs_iconst ci_1683_13 ?_
    exact hs_k ⟨3, some (.int _), by decide +kernel, by rw [rt_1683]; rfl, rfl, _, rfl, Or.inr ⟨rfl, b6⟩⟩
  · simp only [hs_cd, ab_not] at b6
    refine hs_iconst ci_1683_9 ?_
    refine hs_goto (t := 14) ci_1683_10 rfl ?_
    exact hs_k ⟨3, some (.int _), by decide +kernel, by rw [rt_1683]; rfl, rfl, _, rfl, Or.inl ⟨rfl, b6⟩⟩
theorem c_absolute {sc : List Value} {sp d : Nat} {h : eg_H} (a : Int32) (ha : -2147483647 ≤ a.toInt) : mc sc sp 1876 11 d [.int a] h (fun vo h' => h' = h ∧ ∃ r : Int32, vo = some (.int r) ∧ r.toInt = fx_ab a.toInt) := by
  have l0 : eg_find 0 (eg_args 0 [.int a]) = some (.int a) := rfl
  unfold mc
  refine hs_iload_n ci_1876_0 l0 ?_
  refine hs_if (t := 9) ci_1876_1 rfl (fun b1 => ?_) (fun b1 => ?_)
  · simp only [hs_cd, ab_not] at b1
    refine hs_iload_n ci_1876_9 l0 ?_
    exact hs_k ⟨3, some (.int _), by decide +kernel, by rw [rt_1876]; rfl, rfl, _, rfl, by unfold fx_ab; rw [if_pos (show 0 ≤ a.toInt from b1)]⟩
  · simp only [hs_cd, ab_not] at b1
    refine hs_iload_n ci_1876_4 l0 ?_
    refine hs_ineg ci_1876_5 ?_
    refine hs_goto (t := 10) ci_1876_6 rfl ?_
    exact hs_k ⟨3, some (.int _), by decide +kernel, by rw [rt_1876]; rfl, rfl, _, rfl, by unfold fx_ab; rw [if_neg (show ¬ 0 ≤ a.toInt by omega)]; exact i32_neg rfl ha⟩
theorem c_signOf {sc : List Value} {sp d : Nat} {h : eg_H} (a : Int32) : mc sc sp 1879 11 d [.int a] h (fun vo h' => h' = h ∧ ∃ r : Int32, vo = some (.int r) ∧ r.toInt = fx_sg a.toInt) := by
  have l0 : eg_find 0 (eg_args 0 [.int a]) = some (.int a) := rfl
  unfold mc
  refine hs_iload_n ci_1879_0 l0 ?_
  refine hs_if (t := 8) ci_1879_1 rfl (fun b1 => ?_) (fun b1 => ?_)
  · simp only [hs_cd, ab_not] at b1
    refine hs_iload_n ci_1879_8 l0 ?_
    refine hs_if (t := 16) ci_1879_9 rfl (fun b9 => ?_) (fun b9 => ?_)
    · simp only [hs_cd, ab_not] at b9
      refine hs_iconst ci_1879_16 ?_
      exact hs_k ⟨3, some (.int _), by decide +kernel, by rw [rt_1879]; rfl, rfl, _, rfl, by unfold fx_sg; rw [if_neg (by omega), if_neg (by omega)]; rfl⟩
    · simp only [hs_cd, ab_not] at b9
      refine hs_iconst ci_1879_12 ?_
      refine hs_goto (t := 17) ci_1879_13 rfl ?_
      exact hs_k ⟨3, some (.int _), by decide +kernel, by rw [rt_1879]; rfl, rfl, _, rfl, by unfold fx_sg; rw [if_neg (by omega), if_pos (by omega)]; rfl⟩
  · simp only [hs_cd, ab_not] at b1
    refine hs_iconst ci_1879_4 ?_
    refine hs_goto (t := 17) ci_1879_5 rfl ?_
    exact hs_k ⟨3, some (.int _), by decide +kernel, by rw [rt_1879]; rfl, rfl, _, rfl, by unfold fx_sg; rw [if_pos (by omega)]; rfl⟩
theorem c_isAlongX {sc : List Value} {sp d : Nat} {h : eg_H} {x : Int32} {k : Nat} (hx : x.toInt = (k : Int)) (hk : k < 10) (hp : ab_hp0 h) : mc sc sp 1873 11 (d + 1) [.ref 182, .int x] h (fun vo h' => h' = h ∧ ∃ r : Int32, vo = some (.int r) ∧ ((r.toInt = 1 ∧ fx_ab (fx_dy h k) ≤ fx_ab (fx_dx h k)) ∨ (r.toInt = 0 ∧ ¬ fx_ab (fx_dy h k) ≤ fx_ab (fx_dx h k)))) := by
  have l0 : eg_find 0 (eg_args 0 [.ref 182, .int x]) = some (.ref 182) := rfl
  have l1 : eg_find 1 (eg_args 0 [.ref 182, .int x]) = some (.int x) := rfl
  have bi := gsl_b hp (ckq_v gq_his k hk)
  simp only at bi
  have hi : (hv h 184 (29 + k)).toInt = (fx_i h k : Int) := by unfold fx_i; omega
  have hi5 : fx_i h k < 6 := by unfold fx_i; omega
  have bx := gsl_b hp (ckq_v gq_dx _ hi5)
  have by' := gsl_b hp (ckq_v gq_dy _ hi5)
  have btx := gsl_b hp (ckq_v gq_tx k hk)
  have bty := gsl_b hp (ckq_v gq_ty k hk)
  simp only at bx by' btx bty
  have edx : (hv h 184 (7 + fx_i h k) - hv h 184 (39 + k)).toInt = fx_dx h k := i32_sub rfl rfl (by omega) (by omega)
  have edy : (hv h 184 (13 + fx_i h k) - hv h 184 (49 + k)).toInt = fx_dy h k := i32_sub rfl rfl (by omega) (by omega)
  unfold mc
  refine hs_aload_n ci_1873_0 l0 ?_
  refine hs_gfr 6 184 ci_1873_1 (by decide +kernel) hp ?_
  refine hs_bipush ci_1873_4 ?_
  refine hs_aload_n ci_1873_6 l0 ?_
  refine hs_gfr 6 184 ci_1873_7 (by decide +kernel) hp ?_
  refine hs_bipush ci_1873_10 ?_
  refine hs_iload_n ci_1873_12 l1 ?_
  refine hs_iadd ci_1873_13 ?_
  refine hs_ial1 (29 + k) ci_1873_14 ((i32_add (a := 29) rfl hx (by omega) (by omega)).trans (by omega)) (ckq_v gq_his k hk) hp ?_
  refine hs_iadd ci_1873_15 ?_
  refine hs_ial1 (7 + fx_i h k) ci_1873_16 ((i32_add (a := 7) rfl hi (by omega) (by omega)).trans (by omega)) (ckq_v gq_dx _ hi5) hp ?_
  refine hs_aload_n ci_1873_17 l0 ?_
  refine hs_gfr 6 184 ci_1873_18 (by decide +kernel) hp ?_
  refine hs_bipush ci_1873_21 ?_
  refine hs_iload_n ci_1873_23 l1 ?_
  refine hs_iadd ci_1873_24 ?_
  refine hs_ial1 (39 + k) ci_1873_25 ((i32_add (a := 39) rfl hx (by omega) (by omega)).trans (by omega)) (ckq_v gq_tx k hk) hp ?_
  refine hs_isub ci_1873_26 ?_
  refine hs_cs 1876 11 1 ci_1873_27 (by decide +kernel) rfl (by rw [ml_1876]; rfl) (c_absolute _ (by rw [edx]; unfold fx_dx; omega)) ?_
  rintro v9 h9 ⟨e9, r1, e8, hr1⟩
  rw [e8, e9]
  clear e8 e9 v9 h9
  rw [edx] at hr1
  simp only [Option.toList, List.cons_append, List.nil_append]
  refine hs_aload_n ci_1873_30 l0 ?_
  refine hs_gfr 6 184 ci_1873_31 (by decide +kernel) hp ?_
  refine hs_bipush ci_1873_34 ?_
  refine hs_aload_n ci_1873_36 l0 ?_
  refine hs_gfr 6 184 ci_1873_37 (by decide +kernel) hp ?_
  refine hs_bipush ci_1873_40 ?_
  refine hs_iload_n ci_1873_42 l1 ?_
  refine hs_iadd ci_1873_43 ?_
  refine hs_ial1 (29 + k) ci_1873_44 ((i32_add (a := 29) rfl hx (by omega) (by omega)).trans (by omega)) (ckq_v gq_his k hk) hp ?_
  refine hs_iadd ci_1873_45 ?_
  refine hs_ial1 (13 + fx_i h k) ci_1873_46 ((i32_add (a := 13) rfl hi (by omega) (by omega)).trans (by omega)) (ckq_v gq_dy _ hi5) hp ?_
  refine hs_aload_n ci_1873_47 l0 ?_
  refine hs_gfr 6 184 ci_1873_48 (by decide +kernel) hp ?_
  refine hs_bipush ci_1873_51 ?_
  refine hs_iload_n ci_1873_53 l1 ?_
  refine hs_iadd ci_1873_54 ?_
  refine hs_ial1 (49 + k) ci_1873_55 ((i32_add (a := 49) rfl hx (by omega) (by omega)).trans (by omega)) (ckq_v gq_ty k hk) hp ?_
  refine hs_isub ci_1873_56 ?_
  refine hs_cs 1876 11 1 ci_1873_57 (by decide +kernel) rfl (by rw [ml_1876]; rfl) (c_absolute _ (by rw [edy]; unfold fx_dy; omega)) ?_
  rintro v9 h9 ⟨e9, r2, e8, hr2⟩
  rw [e8, e9]
  clear e8 e9 v9 h9
  rw [edy] at hr2
  simp only [Option.toList, List.cons_append, List.nil_append]
  refine hs_ic (t := 67) ci_1873_60 rfl (fun b60 => ?_) (fun b60 => ?_)
  · simp only [hs_cd, ab_not] at b60
    refine hs_iconst ci_1873_67 ?_
    exact hs_k ⟨3, some (.int _), by decide +kernel, by rw [rt_1873]; rfl, rfl, _, rfl, Or.inr ⟨rfl, by omega⟩⟩
  · simp only [hs_cd, ab_not] at b60
    refine hs_iconst ci_1873_63 ?_
    refine hs_goto (t := 68) ci_1873_64 rfl ?_
    exact hs_k ⟨3, some (.int _), by decide +kernel, by rw [rt_1873]; rfl, rfl, _, rfl, Or.inl ⟨rfl, by omega⟩⟩
theorem c_stepX {sc : List Value} {sp d : Nat} {h : eg_H} {x : Int32} {k : Nat} (hx : x.toInt = (k : Int)) (hk : k < 10) (hp : ab_hp0 h) : mc sc sp 1869 11 (d + 2) [.ref 182, .int x] h (fun vo h' => h' = h ∧ ∃ r : Int32, vo = some (.int r) ∧ r.toInt = fx_sx h k) := by
  have l0 : eg_find 0 (eg_args 0 [.ref 182, .int x]) = some (.ref 182) := rfl
  have l1 : eg_find 1 (eg_args 0 [.ref 182, .int x]) = some (.int x) := rfl
  have bi := gsl_b hp (ckq_v gq_his k hk)
  simp only at bi
  have hi : (hv h 184 (29 + k)).toInt = (fx_i h k : Int) := by unfold fx_i; omega
  have hi5 : fx_i h k < 6 := by unfold fx_i; omega
  have bx := gsl_b hp (ckq_v gq_dx _ hi5)
  have by' := gsl_b hp (ckq_v gq_dy _ hi5)
  have btx := gsl_b hp (ckq_v gq_tx k hk)
  have bty := gsl_b hp (ckq_v gq_ty k hk)
  simp only at bx by' btx bty
  have edx : (hv h 184 (7 + fx_i h k) - hv h 184 (39 + k)).toInt = fx_dx h k := i32_sub rfl rfl (by omega) (by omega)
  have edy : (hv h 184 (13 + fx_i h k) - hv h 184 (49 + k)).toInt = fx_dy h k := i32_sub rfl rfl (by omega) (by omega)
  unfold mc
  refine hs_aload_n ci_1869_0 l0 ?_
  refine hs_iload_n ci_1869_1 l1 ?_
  refine hs_cv 1873 11 1 ci_1869_2 (by decide +kernel) (by decide +kernel) hp rfl (by rw [ml_1873]; rfl) (c_isAlongX hx hk hp) ?_
  rintro v9 h9 ⟨e9, r1, e8, hr1⟩
  rw [e8, e9]
  clear e8 e9 v9 h9
  simp only [Option.toList, List.cons_append, List.nil_append]
  refine hs_if (t := 41) ci_1869_5 rfl (fun b5 => ?_) (fun b5 => ?_)
  · simp only [hs_cd, ab_not] at b5
    refine hs_iconst ci_1869_41 ?_
    exact hs_k ⟨3, some (.int _), by decide +kernel, by rw [rt_1869]; rfl, rfl, _, rfl, by unfold fx_sx; rw [if_neg (by omega)]; rfl⟩
  · simp only [hs_cd, ab_not] at b5
    refine hs_aload_n ci_1869_8 l0 ?_
    refine hs_gfr 6 184 ci_1869_9 (by decide +kernel) hp ?_
    refine hs_bipush ci_1869_12 ?_
    refine hs_aload_n ci_1869_14 l0 ?_
    refine hs_gfr 6 184 ci_1869_15 (by decide +kernel) hp ?_
    refine hs_bipush ci_1869_18 ?_
    refine hs_iload_n ci_1869_20 l1 ?_
    refine hs_iadd ci_1869_21 ?_
    refine hs_ial1 (29 + k) ci_1869_22 ((i32_add (a := 29) rfl hx (by omega) (by omega)).trans (by omega)) (ckq_v gq_his k hk) hp ?_
    refine hs_iadd ci_1869_23 ?_
    refine hs_ial1 (7 + fx_i h k) ci_1869_24 ((i32_add (a := 7) rfl hi (by omega) (by omega)).trans (by omega)) (ckq_v gq_dx _ hi5) hp ?_
    refine hs_aload_n ci_1869_25 l0 ?_
    refine hs_gfr 6 184 ci_1869_26 (by decide +kernel) hp ?_
    refine hs_bipush ci_1869_29 ?_
    refine hs_iload_n ci_1869_31 l1 ?_
    refine hs_iadd ci_1869_32 ?_
    refine hs_ial1 (39 + k) ci_1869_33 ((i32_add (a := 39) rfl hx (by omega) (by omega)).trans (by omega)) (ckq_v gq_tx k hk) hp ?_
    refine hs_isub ci_1869_34 ?_
    refine hs_cs 1879 11 1 ci_1869_35 (by decide +kernel) rfl (by rw [ml_1879]; rfl) (c_signOf _) ?_
    rintro v9 h9 ⟨e9, r2, e8, hr2⟩
    rw [e8, e9]
    clear e8 e9 v9 h9
    rw [edx] at hr2
    simp only [Option.toList, List.cons_append, List.nil_append]
    refine hs_goto (t := 42) ci_1869_38 rfl ?_
    exact hs_k ⟨3, some (.int _), by decide +kernel, by rw [rt_1869]; rfl, rfl, _, rfl, by unfold fx_sx; rw [if_pos (by omega)]; exact hr2⟩
theorem c_stepY {sc : List Value} {sp d : Nat} {h : eg_H} {x : Int32} {k : Nat} (hx : x.toInt = (k : Int)) (hk : k < 10) (hp : ab_hp0 h) : mc sc sp 1883 11 (d + 2) [.ref 182, .int x] h (fun vo h' => h' = h ∧ ∃ r : Int32, vo = some (.int r) ∧ r.toInt = fx_sy h k) := by
  have l0 : eg_find 0 (eg_args 0 [.ref 182, .int x]) = some (.ref 182) := rfl
  have l1 : eg_find 1 (eg_args 0 [.ref 182, .int x]) = some (.int x) := rfl
  have bi := gsl_b hp (ckq_v gq_his k hk)
  simp only at bi
  have hi : (hv h 184 (29 + k)).toInt = (fx_i h k : Int) := by unfold fx_i; omega
  have hi5 : fx_i h k < 6 := by unfold fx_i; omega
  have bx := gsl_b hp (ckq_v gq_dx _ hi5)
  have by' := gsl_b hp (ckq_v gq_dy _ hi5)
  have btx := gsl_b hp (ckq_v gq_tx k hk)
  have bty := gsl_b hp (ckq_v gq_ty k hk)
  simp only at bx by' btx bty
  have edx : (hv h 184 (7 + fx_i h k) - hv h 184 (39 + k)).toInt = fx_dx h k := i32_sub rfl rfl (by omega) (by omega)
  have edy : (hv h 184 (13 + fx_i h k) - hv h 184 (49 + k)).toInt = fx_dy h k := i32_sub rfl rfl (by omega) (by omega)
  unfold mc
  refine hs_aload_n ci_1883_0 l0 ?_
  refine hs_iload_n ci_1883_1 l1 ?_
  refine hs_cv 1873 11 1 ci_1883_2 (by decide +kernel) (by decide +kernel) hp rfl (by rw [ml_1873]; rfl) (c_isAlongX hx hk hp) ?_
  rintro v9 h9 ⟨e9, r1, e8, hr1⟩
  rw [e8, e9]
  clear e8 e9 v9 h9
  simp only [Option.toList, List.cons_append, List.nil_append]
  refine hs_if (t := 12) ci_1883_5 rfl (fun b5 => ?_) (fun b5 => ?_)
  · simp only [hs_cd, ab_not] at b5
    refine hs_aload_n ci_1883_12 l0 ?_
    refine hs_gfr 6 184 ci_1883_13 (by decide +kernel) hp ?_
    refine hs_bipush ci_1883_16 ?_
    refine hs_aload_n ci_1883_18 l0 ?_
    refine hs_gfr 6 184 ci_1883_19 (by decide +kernel) hp ?_
    refine hs_bipush ci_1883_22 ?_
    refine hs_iload_n ci_1883_24 l1 ?_
    refine hs_iadd ci_1883_25 ?_
    refine hs_ial1 (29 + k) ci_1883_26 ((i32_add (a := 29) rfl hx (by omega) (by omega)).trans (by omega)) (ckq_v gq_his k hk) hp ?_
    refine hs_iadd ci_1883_27 ?_
    refine hs_ial1 (13 + fx_i h k) ci_1883_28 ((i32_add (a := 13) rfl hi (by omega) (by omega)).trans (by omega)) (ckq_v gq_dy _ hi5) hp ?_
    refine hs_aload_n ci_1883_29 l0 ?_
    refine hs_gfr 6 184 ci_1883_30 (by decide +kernel) hp ?_
    refine hs_bipush ci_1883_33 ?_
    refine hs_iload_n ci_1883_35 l1 ?_
    refine hs_iadd ci_1883_36 ?_
    refine hs_ial1 (49 + k) ci_1883_37 ((i32_add (a := 49) rfl hx (by omega) (by omega)).trans (by omega)) (ckq_v gq_ty k hk) hp ?_
    refine hs_isub ci_1883_38 ?_
    refine hs_cs 1879 11 1 ci_1883_39 (by decide +kernel) rfl (by rw [ml_1879]; rfl) (c_signOf _) ?_
    rintro v9 h9 ⟨e9, r2, e8, hr2⟩
    rw [e8, e9]
    clear e8 e9 v9 h9
    rw [edy] at hr2
    simp only [Option.toList, List.cons_append, List.nil_append]
    exact hs_k ⟨3, some (.int _), by decide +kernel, by rw [rt_1883]; rfl, rfl, _, rfl, by unfold fx_sy; rw [if_neg (by omega)]; exact hr2⟩
  · simp only [hs_cd, ab_not] at b5
    refine hs_iconst ci_1883_8 ?_
    refine hs_goto (t := 42) ci_1883_9 rfl ?_
    exact hs_k ⟨3, some (.int _), by decide +kernel, by rw [rt_1883]; rfl, rfl, _, rfl, by unfold fx_sy; rw [if_pos (by omega)]; rfl⟩
