/-! numbers within bounds -/
def ab_inn (q : Int × Int) (x : Int32) : Prop := q.1 ≤ x.toInt ∧ x.toInt ≤ q.2
theorem ab_ile (x : Int32) : x.toInt ≤ 2147483647 := Int32.toInt_le x
theorem ab_ige (x : Int32) : -2147483648 ≤ x.toInt := Int32.le_toInt x
theorem ab_inn_full (x : Int32) : ab_inn ab_full x := ⟨ab_ige x, ab_ile x⟩
theorem ab_bm {z : Int} (h1 : ab_min ≤ z) (h2 : z ≤ ab_max) : z.bmod (2 ^ 32) = z := by
  unfold ab_min at h1
  unfold ab_max at h2
  rw [Int.bmod_def]
  split <;> omega
theorem ab_fit_v {q : Int × Int} {x : Int32} {z : Int} (hz : x.toInt = z.bmod (2 ^ 32)) (h1 : q.1 ≤ z) (h2 : z ≤ q.2) : ab_inn (ab_fit q) x := by
  unfold ab_fit
  split
  next h =>
    rw [ab_bm (Int.le_trans h.1 h1) (Int.le_trans h2 h.2)] at hz
    exact ⟨by rw [hz]; exact h1, by rw [hz]; exact h2⟩
  next => exact ab_inn_full x
/-- a reckoning of intervals and one of ints -/
def ab_num (f : Int32 → Int32 → Int32) (g : ab_P) : Prop := ∀ (a b r : Int × Int) (x y : Int32), g a b = some r → ab_inn a x → ab_inn b y → ab_inn r (f x y)
theorem ab_num_any (f : Int32 → Int32 → Int32) : ab_num f ab_any := fun a b r x y h _ _ => by
  cases h
  exact ab_inn_full _
theorem ab_num_add : ab_num (fun x y => x + y) ab_add := fun a b r x y h h1 h2 => by
  cases h
  refine ab_fit_v (z := x.toInt + y.toInt) (Int32.toInt_add x y) ?_ ?_
  · show a.1 + b.1 ≤ _
    have := h1.1; have := h2.1; omega
  · show _ ≤ a.2 + b.2
    have := h1.2; have := h2.2; omega
theorem ab_num_sub : ab_num (fun x y => x - y) ab_sub := fun a b r x y h h1 h2 => by
  cases h
  refine ab_fit_v (z := x.toInt - y.toInt) (Int32.toInt_sub x y) ?_ ?_
  · show a.1 - b.2 ≤ _
    have := h1.1; have := h2.2; omega
  · show _ ≤ a.2 - b.1
    have := h1.2; have := h2.1; omega
theorem ab_lmax_v (a b : Int) : a ≤ ab_lmax a b ∧ b ≤ ab_lmax a b := by
  unfold ab_lmax
  split <;> omega
theorem ab_lmin_v (a b : Int) : ab_lmin a b ≤ a ∧ ab_lmin a b ≤ b := by
  unfold ab_lmin
  split <;> omega
theorem ab_lmin_u (a b : Int) : ab_lmin a b = a ∨ ab_lmin a b = b := by
  unfold ab_lmin
  split
  · exact Or.inl rfl
  · exact Or.inr rfl
theorem ab_lmax_u (a b : Int) : ab_lmax a b = a ∨ ab_lmax a b = b := by
  unfold ab_lmax
  split
  · exact Or.inr rfl
  · exact Or.inl rfl
theorem ab_num_mul : ab_num (fun x y => x * y) ab_mul := fun a b r x y h h1 h2 => by
  obtain ⟨a1, a2⟩ := h1
  obtain ⟨b1, b2⟩ := h2
  unfold ab_mul at h
  split at h
  next hc =>
    cases h
    refine ab_fit_v (z := x.toInt * y.toInt) (Int32.toInt_mul x y) ?_ ?_
    · exact Int.mul_le_mul a1 b1 hc.2 (Int.le_trans hc.1 a1)
    · exact Int.mul_le_mul a2 b2 (Int.le_trans hc.2 b1) (Int.le_trans (Int.le_trans hc.1 a1) a2)
  next =>
    split at h
    next hc =>
      cases h
      have hx : 0 ≤ x.toInt := Int.le_trans hc a1
      have hA : 0 ≤ a.2 := Int.le_trans hx a2
      refine ab_fit_v (z := x.toInt * y.toInt) (Int32.toInt_mul x y) ?_ ?_
      · show a.2 * b.1 ≤ _
        by_cases hb : 0 ≤ b.1
        · omega
        · have e1 : a.2 * b.1 ≤ x.toInt * b.1 := by
            have := Int.mul_le_mul_of_nonpos_right a2 (show b.1 ≤ 0 by omega)
            exact this
          exact Int.le_trans e1 (Int.mul_le_mul_of_nonneg_left b1 hx)
      · show _ ≤ ab_lmax 0 (a.2 * b.2)
        by_cases hb : 0 ≤ y.toInt
        · exact Int.le_trans (Int.mul_le_mul a2 b2 hb hA) (ab_lmax_v _ _).2
        · have e1 : x.toInt * y.toInt ≤ 0 := Int.mul_nonpos_of_nonneg_of_nonpos hx (by omega)
          exact Int.le_trans e1 (ab_lmax_v _ _).1
    next =>
      split at h
      next hc =>
        cases h
        have hy : 0 ≤ y.toInt := Int.le_trans hc b1
        have hB : 0 ≤ b.2 := Int.le_trans hy b2
        refine ab_fit_v (z := x.toInt * y.toInt) (Int32.toInt_mul x y) ?_ ?_
        · show a.1 * b.2 ≤ _
          have e1 : a.1 * b.2 ≤ a.1 * y.toInt := by
            have := Int.mul_le_mul_of_nonpos_left (show a.1 ≤ 0 by omega) b2
            exact this
          exact Int.le_trans e1 (Int.mul_le_mul_of_nonneg_right a1 hy)
        · show _ ≤ ab_lmax 0 (a.2 * b.2)
          by_cases hb : 0 ≤ x.toInt
          · exact Int.le_trans (Int.mul_le_mul a2 b2 hy (Int.le_trans hb a2)) (ab_lmax_v _ _).2
          · have e1 : x.toInt * y.toInt ≤ 0 := Int.mul_nonpos_of_nonpos_of_nonneg (by omega) hy
            exact Int.le_trans e1 (ab_lmax_v _ _).1
      next =>
        cases h
        exact ab_inn_full _
/-- an int that is not negative, as a natural number -/
theorem ab_nn {x : Int32} (h : 0 ≤ x.toInt) : x.toInt = (x.toBitVec.toNat : Int) := by
  have h1 : x.toInt = x.toBitVec.toInt := rfl
  rw [h1] at h ⊢
  rw [BitVec.toInt_eq_toNat_cond] at h ⊢
  split at h
  next hc => rw [if_pos hc]
  next hc =>
    have := x.toBitVec.isLt
    omega
theorem ab_nn_of {x : Int32} {m : Nat} (h : x.toBitVec.toNat ≤ m) (hm : m < 2 ^ 31) : 0 ≤ x.toInt ∧ x.toInt ≤ m := by
  have h1 : x.toInt = x.toBitVec.toInt := rfl
  rw [h1, BitVec.toInt_eq_toNat_cond]
  rw [if_pos (by omega)]
  omega
theorem ab_and_r {x y : Int32} (h : 0 ≤ y.toInt) : 0 ≤ (x &&& y).toInt ∧ (x &&& y).toInt ≤ y.toInt := by
  have hy := ab_nn h
  have hle : (x &&& y).toBitVec.toNat ≤ y.toBitVec.toNat := by
    rw [Int32.toBitVec_and, BitVec.toNat_and]
    exact Nat.and_le_right
  have hy2 := ab_ile y
  have := ab_nn_of hle (by omega)
  omega
theorem ab_and_l {x y : Int32} (h : 0 ≤ x.toInt) : 0 ≤ (x &&& y).toInt ∧ (x &&& y).toInt ≤ x.toInt := by
  have hy := ab_nn h
  have hle : (x &&& y).toBitVec.toNat ≤ x.toBitVec.toNat := by
    rw [Int32.toBitVec_and, BitVec.toNat_and]
    exact Nat.and_le_left
  have hy2 := ab_ile x
  have := ab_nn_of hle (by omega)
  omega
theorem ab_num_and : ab_num (fun x y => x &&& y) ab_and := fun a b r x y h h1 h2 => by
  obtain ⟨a1, a2⟩ := h1
  obtain ⟨b1, b2⟩ := h2
  unfold ab_and at h
  split at h
  next hc =>
    have hl := ab_and_l (x := x) (y := y) (Int.le_trans hc a1)
    split at h
    next hd =>
      cases h
      have hr := ab_and_r (x := x) (y := y) (Int.le_trans hd b1)
      refine ⟨hl.1, ?_⟩
      show (x &&& y).toInt ≤ ab_lmin a.2 b.2
      rcases ab_lmin_u a.2 b.2 with e | e <;> rw [e] <;> omega
    next =>
      cases h
      exact ⟨hl.1, by show (x &&& y).toInt ≤ a.2; omega⟩
  next =>
    split at h
    next hd =>
      cases h
      have hr := ab_and_r (x := x) (y := y) (Int.le_trans hd b1)
      exact ⟨hr.1, by show (x &&& y).toInt ≤ b.2; omega⟩
    next =>
      cases h
      exact ab_inn_full _
theorem ab_num_or : ab_num (fun x y => x ||| y) ab_or := fun a b r x y h h1 h2 => by
  obtain ⟨a1, a2⟩ := h1
  obtain ⟨b1, b2⟩ := h2
  unfold ab_or at h
  split at h
  next hc =>
    cases h
    have hx := ab_nn (Int.le_trans hc.1 a1)
    have hy := ab_nn (Int.le_trans hc.2 b1)
    have hx2 := ab_ile x
    have hy2 := ab_ile y
    obtain ⟨N, hN⟩ : ∃ N, N = Nat.max a.2.toNat b.2.toNat := ⟨_, rfl⟩
    have hNa : a.2.toNat ≤ N := by rw [hN]; exact Nat.le_max_left _ _
    have hNb : b.2.toNat ≤ N := by rw [hN]; exact Nat.le_max_right _ _
    have hp : N < 2 ^ (Nat.log2 N + 1) := Nat.lt_log2_self
    have l1 : x.toBitVec.toNat < 2 ^ (Nat.log2 N + 1) := by omega
    have l2 : y.toBitVec.toNat < 2 ^ (Nat.log2 N + 1) := by omega
    have l3 : (x ||| y).toBitVec.toNat < 2 ^ (Nat.log2 N + 1) := by
      rw [Int32.toBitVec_or, BitVec.toNat_or]
      exact Nat.or_lt_two_pow l1 l2
    have l4 : (x ||| y).toBitVec.toNat < 2 ^ 31 := by
      rw [Int32.toBitVec_or, BitVec.toNat_or]
      exact Nat.or_lt_two_pow (by omega) (by omega)
    have := ab_nn_of (Nat.le_refl (x ||| y).toBitVec.toNat) l4
    refine ⟨this.1, ?_⟩
    show (x ||| y).toInt ≤ ab_top (Nat.max a.2.toNat b.2.toNat)
    rw [← hN]
    unfold ab_top
    omega
  next =>
    cases h
    exact ab_inn_full _
theorem ab_31 : ∀ k, k < 32 → ((Int32.ofNat k &&& 31).toBitVec.smod 32).toNat = k := by decide +kernel
theorem ab_32 : ∀ k, k < 32 → (((Int32.ofNat k).toUInt32 &&& Int32.toUInt32 31).toBitVec % 32).toNat = k := by decide +kernel
theorem ab_of {y : Int32} (h1 : 0 ≤ y.toInt) (h2 : y.toInt ≤ 31) : ∃ k, k < 32 ∧ y = Int32.ofNat k ∧ y.toInt = k := by
  have h := ab_nn h1
  refine ⟨y.toBitVec.toNat, by omega, ?_, h⟩
  apply Int32.toBitVec_inj.mp
  simp
theorem ab_num_shl : ab_num (fun x y => x <<< (y &&& 31)) ab_shl := fun a b r x y h h1 h2 => by
  obtain ⟨a1, a2⟩ := h1
  obtain ⟨b1, b2⟩ := h2
  unfold ab_shl at h
  split at h
  next hc =>
    cases h
    obtain ⟨c1, c2, c3, c4⟩ := hc
    obtain ⟨k, hk, rfl, hk2⟩ := ab_of (y := y) (by omega) (by omega)
    have hx := ab_nn (x := x) (by omega)
    have hA : (a.2.toNat : Int) = a.2 := Int.toNat_of_nonneg (by omega)
    have hn : x.toBitVec.toNat = a.2.toNat := by omega
    have hkb : k ≤ b.2.toNat := by omega
    have e1 : (x <<< (Int32.ofNat k &&& 31)).toBitVec.toNat = x.toBitVec.toNat * 2 ^ k % 2 ^ 32 := by
      rw [Int32.toBitVec_shiftLeft, BitVec.shiftLeft_eq', ab_31 k hk, BitVec.toNat_shiftLeft, Nat.shiftLeft_eq]
    show ab_inn (ab_fit (0, a.2 * 2 ^ b.2.toNat)) (x <<< (Int32.ofNat k &&& 31))
    unfold ab_fit
    split
    next hf =>
      have hf2 : a.2 * 2 ^ b.2.toNat ≤ ab_max := hf.2
      have e2 : x.toBitVec.toNat * 2 ^ k ≤ a.2.toNat * 2 ^ b.2.toNat := by
        rw [hn]
        exact Nat.mul_le_mul_left _ (Nat.pow_le_pow_right (by decide) hkb)
      have e3 : ((a.2.toNat * 2 ^ b.2.toNat : Nat) : Int) = a.2 * 2 ^ b.2.toNat := by
        rw [Int.natCast_mul, hA, Int.natCast_pow]
        rfl
      have e4 : a.2.toNat * 2 ^ b.2.toNat < 2 ^ 31 := by
        unfold ab_max at hf2
        omega
      have e5 : (x <<< (Int32.ofNat k &&& 31)).toBitVec.toNat ≤ a.2.toNat * 2 ^ b.2.toNat := by
        rw [e1]
        exact Nat.le_trans (Nat.mod_le _ _) e2
      have := ab_nn_of e5 e4
      exact ⟨this.1, by show _ ≤ a.2 * 2 ^ b.2.toNat; rw [← e3]; exact this.2⟩
    next => exact ab_inn_full _
  next =>
    cases h
    exact ab_inn_full _
theorem ab_dvp {x m : Int} (h : 0 ≤ x) (k : Nat) : 0 ≤ x / 2 ^ k ∧ x / 2 ^ k ≤ x := by
  have hp : (0 : Int) < 2 ^ k := Int.pow_pos (by decide)
  exact ⟨Int.ediv_nonneg h (Int.le_of_lt hp), Int.ediv_le_self _ h⟩
/-- to the right, with the sign: not more than it was -/
theorem ab_shr_v {x y : Int32} (h : 0 ≤ x.toInt) : ∃ k : Nat, (x >>> (y &&& 31)).toInt = x.toInt / 2 ^ k ∧ (0 ≤ y.toInt → y.toInt ≤ 31 → y.toInt = k) := by
  have e : (x >>> (y &&& 31)).toInt = x.toInt / 2 ^ ((y &&& 31).toBitVec.smod 32).toNat := by
    show (x >>> (y &&& 31)).toBitVec.toInt = _
    rw [Int32.toBitVec_shiftRight, BitVec.sshiftRight_eq', BitVec.toInt_sshiftRight, Int.shiftRight_eq_div_pow]
    rfl
  refine ⟨_, e, fun h1 h2 => ?_⟩
  obtain ⟨k, hk, rfl, hk2⟩ := ab_of (y := y) h1 h2
  rw [ab_31 k hk]
  exact hk2
theorem ab_num_shr : ab_num (fun x y => x >>> (y &&& 31)) ab_shr := fun a b r x y h h1 h2 => by
  obtain ⟨a1, a2⟩ := h1
  obtain ⟨b1, b2⟩ := h2
  unfold ab_shr at h
  split at h
  next hc =>
    obtain ⟨k, e1, e2⟩ := ab_shr_v (x := x) (y := y) (by omega)
    have hp : (0 : Int) < 2 ^ k := Int.pow_pos (by decide)
    split at h
    next hd =>
      cases h
      have hk := e2 (by omega) (by omega)
      have hk3 : b.1.toNat = k := by omega
      rw [hk3]
      refine ⟨?_, ?_⟩
      · show a.1 / 2 ^ k ≤ (x >>> (y &&& 31)).toInt
        rw [e1]
        exact Int.ediv_le_ediv hp a1
      · show (x >>> (y &&& 31)).toInt ≤ a.2 / 2 ^ k
        rw [e1]
        exact Int.ediv_le_ediv hp a2
    next =>
      cases h
      have := ab_dvp (x := x.toInt) (m := 0) (by omega) k
      refine ⟨?_, ?_⟩
      · show 0 ≤ (x >>> (y &&& 31)).toInt
        rw [e1]; exact this.1
      · show (x >>> (y &&& 31)).toInt ≤ a.2
        rw [e1]; omega
  next =>
    cases h
    exact ab_inn_full _
theorem ab_ushr_v {x y : Int32} : ∃ k : Nat, (x.toUInt32 >>> (y.toUInt32 &&& Int32.toUInt32 31)).toInt32.toBitVec.toNat = x.toBitVec.toNat / 2 ^ k ∧ (0 ≤ y.toInt → y.toInt ≤ 31 → y.toInt = k) := by
  have e : (x.toUInt32 >>> (y.toUInt32 &&& Int32.toUInt32 31)).toInt32.toBitVec.toNat = x.toBitVec.toNat / 2 ^ ((y.toUInt32 &&& Int32.toUInt32 31).toBitVec % 32).toNat := by
    show (x.toUInt32 >>> (y.toUInt32 &&& Int32.toUInt32 31)).toBitVec.toNat = _
    rw [UInt32.toBitVec_shiftRight, BitVec.ushiftRight_eq', BitVec.toNat_ushiftRight, Nat.shiftRight_eq_div_pow]
    rfl
  refine ⟨_, e, fun h1 h2 => ?_⟩
  obtain ⟨k, hk, rfl, hk2⟩ := ab_of (y := y) h1 h2
  rw [ab_32 k hk]
  exact hk2
theorem ab_num_ushr : ab_num (fun x y => (x.toUInt32 >>> (y.toUInt32 &&& Int32.toUInt32 31)).toInt32) ab_ushr := fun a b r x y h h1 h2 => by
  obtain ⟨a1, a2⟩ := h1
  obtain ⟨b1, b2⟩ := h2
  obtain ⟨k, e1, e2⟩ := ab_ushr_v (x := x) (y := y)
  unfold ab_ushr at h
  split at h
  next hd =>
    cases h
    have hk := e2 (by omega) (by omega)
    have hk3 : b.1.toNat = k := by omega
    rw [hk3]
    have hx := x.toBitVec.isLt
    have hk1 : 1 ≤ k := by omega
    have hk31 : k ≤ 31 := by omega
    have e3 : x.toBitVec.toNat / 2 ^ k < 2 ^ (32 - k) := by
      rw [Nat.div_lt_iff_lt_mul (Nat.two_pow_pos k), ← Nat.pow_add]
      rw [show 32 - k + k = 32 by omega]
      exact hx
    have e4 : 2 ^ (32 - k) ≤ 2 ^ 31 := Nat.pow_le_pow_right (by decide) (by omega)
    have := ab_nn_of (x := (x.toUInt32 >>> (y.toUInt32 &&& Int32.toUInt32 31)).toInt32) (m := 2 ^ (32 - k) - 1) (by rw [e1]; omega) (by omega)
    refine ⟨this.1, ?_⟩
    show _ ≤ (2 : Int) ^ (32 - k) - 1
    have e5 : ((2 ^ (32 - k) - 1 : Nat) : Int) = 2 ^ (32 - k) - 1 := by
      have : 0 < 2 ^ (32 - k) := Nat.two_pow_pos _
      rw [Int.natCast_sub this, Int.natCast_pow]
      rfl
    rw [← e5]
    exact this.2
  next =>
    split at h
    next hc =>
      cases h
      have hx := ab_nn (x := x) (by omega)
      have hx2 := ab_ile x
      have := ab_nn_of (x := (x.toUInt32 >>> (y.toUInt32 &&& Int32.toUInt32 31)).toInt32) (m := x.toBitVec.toNat) (by rw [e1]; exact Nat.div_le_self _ _) (by omega)
      exact ⟨this.1, by show (x.toUInt32 >>> (y.toUInt32 &&& Int32.toUInt32 31)).toInt32.toInt ≤ a.2; omega⟩
    next =>
      cases h
      exact ab_inn_full _
/-- a whole part -/
theorem ab_div_v {x y : Int32} (hy : 1 ≤ y.toInt) : (x / y).toInt = x.toInt.tdiv y.toInt := by
  rw [Int32.toInt_div]
  refine ab_bm ?_ ?_
  · have h1 := ab_ige x
    have h2 := ab_ile x
    unfold ab_min
    rcases Int.le_total 0 x.toInt with h | h
    · have := Int.tdiv_nonneg h (show 0 ≤ y.toInt by omega)
      omega
    · have h3 := Int.tdiv_nonneg (show 0 ≤ -x.toInt by omega) (show 0 ≤ y.toInt by omega)
      have h4 := Int.tdiv_le_self (a := -x.toInt) (b := y.toInt) (by omega)
      rw [Int.neg_tdiv] at h3 h4
      omega
  · have h2 := ab_ile x
    have h1 := ab_ige x
    unfold ab_max
    rcases Int.le_total 0 x.toInt with h | h
    · have := Int.tdiv_le_self (a := x.toInt) (b := y.toInt) h
      omega
    · have h3 := Int.tdiv_nonneg (show 0 ≤ -x.toInt by omega) (show 0 ≤ y.toInt by omega)
      rw [Int.neg_tdiv] at h3
      omega
theorem ab_num_div : ab_num (fun x y => x / y) ab_div := fun a b r x y h h1 h2 => by
  obtain ⟨a1, a2⟩ := h1
  obtain ⟨b1, b2⟩ := h2
  unfold ab_div at h
  split at h
  next hc =>
    cases h
    have e := ab_div_v (x := x) (y := y) (by omega)
    have hx : 0 ≤ x.toInt := by omega
    rw [Int.tdiv_eq_ediv_of_nonneg hx] at e
    split
    next hd =>
      have hy : y.toInt = b.1 := by omega
      have hp : (0 : Int) < b.1 := by omega
      rw [hy] at e
      refine ⟨?_, ?_⟩
      · show a.1 / b.1 ≤ (x / y).toInt
        rw [e]
        exact Int.ediv_le_ediv hp a1
      · show (x / y).toInt ≤ a.2 / b.1
        rw [e]
        exact Int.ediv_le_ediv hp a2
    next =>
      have h3 : 0 ≤ x.toInt / y.toInt := Int.ediv_nonneg hx (by omega)
      have h4 : x.toInt / y.toInt ≤ x.toInt := Int.ediv_le_self _ hx
      refine ⟨?_, ?_⟩
      · show 0 ≤ (x / y).toInt
        omega
      · show (x / y).toInt ≤ a.2
        omega
  next =>
    cases h
    exact ab_inn_full _
theorem ab_rem_v {x y : Int32} (hy : 1 ≤ y.toInt) : (x - x / y * y).toInt = x.toInt.tmod y.toInt := by
  have h1 := ab_ige x
  have h2 := ab_ile x
  have e : x.toInt.tmod y.toInt = x.toInt - y.toInt * x.toInt.tdiv y.toInt := by
    have := Int.mul_tdiv_add_tmod x.toInt y.toInt
    omega
  have hb : -(2147483648) ≤ x.toInt.tdiv y.toInt * y.toInt ∧ x.toInt.tdiv y.toInt * y.toInt ≤ 2147483647 := by
    rw [Int.mul_comm]
    have h3 := Int.mul_tdiv_add_tmod x.toInt y.toInt
    rcases Int.le_total 0 x.toInt with h | h
    · have h4 := Int.tmod_nonneg y.toInt h
      have h5 : 0 ≤ y.toInt * x.toInt.tdiv y.toInt := Int.mul_nonneg (by omega) (Int.tdiv_nonneg h (by omega))
      omega
    · have h4 : 0 ≤ (-x.toInt).tmod y.toInt := Int.tmod_nonneg y.toInt (by omega)
      rw [Int.neg_tmod] at h4
      have h5 : 0 ≤ y.toInt * (-x.toInt).tdiv y.toInt := Int.mul_nonneg (by omega) (Int.tdiv_nonneg (by omega) (by omega))
      rw [Int.neg_tdiv, Int.mul_neg] at h5
      omega
  have e2 : (x / y * y).toInt = x.toInt.tdiv y.toInt * y.toInt := by
    rw [Int32.toInt_mul, ab_div_v hy]
    exact ab_bm (by unfold ab_min; omega) (by unfold ab_max; omega)
  rw [Int32.toInt_sub, e2, e, Int.mul_comm]
  have h3 := Int.mul_tdiv_add_tmod x.toInt y.toInt
  have h6 : -2147483648 ≤ x.toInt.tmod y.toInt ∧ x.toInt.tmod y.toInt ≤ 2147483647 := by
    have h7 := Int.tmod_lt_of_pos x.toInt (show 0 < y.toInt by omega)
    have h8 := ab_ile y
    rcases Int.le_total 0 x.toInt with h | h
    · have h4 := Int.tmod_nonneg y.toInt h
      omega
    · have h4 : 0 ≤ (-x.toInt).tdiv y.toInt := Int.tdiv_nonneg (by omega) (by omega)
      have h5 : 0 ≤ y.toInt * (-x.toInt).tdiv y.toInt := Int.mul_nonneg (by omega) h4
      rw [Int.neg_tdiv, Int.mul_neg] at h5
      omega
  exact ab_bm (by unfold ab_min; omega) (by unfold ab_max; omega)
theorem ab_num_rem : ab_num (fun x y => x - x / y * y) ab_rem := fun a b r x y h h1 h2 => by
  obtain ⟨a1, a2⟩ := h1
  obtain ⟨b1, b2⟩ := h2
  unfold ab_rem at h
  split at h
  next hc =>
    have e := ab_rem_v (x := x) (y := y) (by omega)
    have h3 := Int.tmod_lt_of_pos x.toInt (show 0 < y.toInt by omega)
    split at h
    next hd =>
      cases h
      have hx : 0 ≤ x.toInt := by omega
      have h4 := Int.tmod_nonneg y.toInt hx
      have h5 : x.toInt.tmod y.toInt ≤ x.toInt := by
        have h6 := Int.mul_tdiv_add_tmod x.toInt y.toInt
        have h7 : 0 ≤ y.toInt * x.toInt.tdiv y.toInt := Int.mul_nonneg (by omega) (Int.tdiv_nonneg hx (by omega))
        omega
      refine ⟨?_, ?_⟩
      · show 0 ≤ (x - x / y * y).toInt
        omega
      · show (x - x / y * y).toInt ≤ ab_lmin a.2 (b.2 - 1)
        rcases ab_lmin_u a.2 (b.2 - 1) with q | q <;> rw [q] <;> omega
    next =>
      cases h
      have h4 : -(y.toInt) < x.toInt.tmod y.toInt := by
        rcases Int.le_total 0 x.toInt with h | h
        · have := Int.tmod_nonneg y.toInt h
          omega
        · have h5 := Int.tmod_lt_of_pos (-x.toInt) (show 0 < y.toInt by omega)
          rw [Int.neg_tmod] at h5
          omega
      refine ⟨?_, ?_⟩
      · show 1 - b.2 ≤ (x - x / y * y).toInt
        omega
      · show (x - x / y * y).toInt ≤ b.2 - 1
        omega
  next =>
    cases h
    exact ab_inn_full _
