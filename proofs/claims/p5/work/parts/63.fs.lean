/-! BY HAND: what falls: no more than ten are struck -/
def cn (f : Nat → Bool) : Nat → Nat
  | 0 => 0
  | n + 1 => cn f n + (bif f n then 1 else 0)
theorem cn_le (f : Nat → Bool) (n : Nat) : cn f n ≤ n := by
  induction n with
  | zero => exact Nat.le_refl _
  | succ n ih =>
    unfold cn
    cases f n <;> simp only [cond_true, cond_false] <;> omega
theorem cn_same {f g : Nat → Bool} {n : Nat} (h : ∀ j, j < n → g j = f j) : cn g n = cn f n := by
  induction n with
  | zero => rfl
  | succ n ih =>
    unfold cn
    rw [ih (fun j hj => h j (by omega)), h n (by omega)]
theorem cn_put {f g : Nat → Bool} {r n : Nat} (h : ∀ j, j < n → j ≠ r → g j = f j) (hr : r < n) (h0 : f r = false) (h1 : g r = true) : cn g n = cn f n + 1 := by
  induction n with
  | zero => omega
  | succ n ih =>
    unfold cn
    by_cases e : r = n
    · subst e
      rw [h0, h1, cn_same (fun j hj => h j (by omega) (by omega))]
      rfl
    · rw [ih (fun j hj => h j (by omega)) (by omega), h n (by omega) (by omega)]
      omega
theorem cn_mono {f g : Nat → Bool} {n : Nat} (h : ∀ j, j < n → f j = true → g j = true) : cn f n ≤ cn g n := by
  induction n with
  | zero => exact Nat.le_refl _
  | succ n ih =>
    unfold cn
    have := ih (fun j hj => h j (by omega))
    cases hf : f n with
    | false => simp only [cond_false]; omega
    | true => rw [h n (by omega) hf]; simp only [cond_true]; omega
theorem cn_pos {f : Nat → Bool} {r n : Nat} (hr : r < n) (h1 : f r = true) : 1 ≤ cn f n := by
  have := cn_put (f := fun j => bif Nat.beq j r then false else f j) (g := f) (r := r) (n := n) (fun j hj hn => by
    have : Nat.beq j r = false := by
      cases hb : Nat.beq j r with
      | false => rfl
      | true => exact absurd (Nat.eq_of_beq_eq_true hb) hn
    rw [this]; rfl) hr (by rw [Nat.beq_refl]; rfl) h1
  omega
/-- a bit of an int -/
def fb (a : Int32) (k : Nat) : Bool := a.toBitVec.getLsbD k
theorem i32_of {x : Int32} {k : Nat} (hx : x.toInt = (k : Int)) (hk : k < 32) : x = Int32.ofNat k := by
  obtain ⟨j, h1, h2, h3⟩ := ab_of (y := x) (by omega) (by omega)
  rw [h2]
  have : j = k := by omega
  rw [this]
theorem fb_bit {a x : Int32} {k : Nat} (hx : x.toInt = (k : Int)) (hk : k < 32) : ft_bit a x = (Int32.ofInt 1).toInt ↔ fb a k = true := by
  have e : x = Int32.ofNat k := i32_of hx hk
  subst e
  unfold ft_bit fb
  have e1 : (a >>> (Int32.ofNat k &&& 31)).toBitVec = a.toBitVec.sshiftRight k := by
    rw [Int32.toBitVec_shiftRight, BitVec.sshiftRight_eq', ab_31 k hk]
  have e2 : (a.toBitVec.sshiftRight k).getLsbD 0 = a.toBitVec.getLsbD k := by
    rw [BitVec.getLsbD_sshiftRight]
    simp [hk]
  have e3 : ((a >>> (Int32.ofNat k &&& 31)) &&& Int32.ofInt 1).toBitVec.toNat = (a.toBitVec.sshiftRight k).toNat % 2 := by
    rw [Int32.toBitVec_and, BitVec.toNat_and, e1]
    exact Nat.and_one_is_mod _
  have e4 : (a.toBitVec.sshiftRight k).getLsbD 0 = decide ((a.toBitVec.sshiftRight k).toNat % 2 = 1) := by
    show (a.toBitVec.sshiftRight k).toNat.testBit 0 = _
    rw [Nat.testBit_zero]
  rw [← e2, e4, decide_eq_true_eq, ← e3]
  constructor
  · intro h
    have := Int32.toInt_inj.mp h
    rw [this]; rfl
  · intro h
    have : ((a >>> (Int32.ofNat k &&& 31)) &&& Int32.ofInt 1) = Int32.ofInt 1 := by
      apply Int32.toBitVec_inj.mp
      apply BitVec.eq_of_toNat_eq
      rw [h]; rfl
    rw [this]
theorem fb_or {a x : Int32} {k : Nat} (hx : x.toInt = (k : Int)) (hk : k < 32) (j : Nat) : fb (a ||| (Int32.ofInt 1 <<< (x &&& 31))) j = (fb a j || (decide (j < 32) && decide (j = k))) := by
  have e : x = Int32.ofNat k := i32_of hx hk
  subst e
  unfold fb
  have e1 : (Int32.ofInt 1 <<< (Int32.ofNat k &&& 31)).toBitVec = (1#32) <<< k := by
    rw [Int32.toBitVec_shiftLeft, BitVec.shiftLeft_eq', ab_31 k hk]
    rfl
  rw [Int32.toBitVec_or, BitVec.getLsbD_or, e1, BitVec.getLsbD_shiftLeft]
  congr 1
  by_cases h1 : j < 32
  · by_cases h2 : j = k
    · subst h2
      simp [h1]
    · by_cases h3 : j < k
      · simp [h1, h2, h3]
      · have h4 : j - k ≠ 0 := by omega
        simp [h1, h2, h3, h4]
  · simp [h1]
theorem fb_1 {x : Int32} {k : Nat} (hx : x.toInt = (k : Int)) (hk : k < 32) : fb (Int32.ofInt 1 <<< (x &&& 31)) k = true := by
  have := fb_or (a := 0) hx hk k
  have e0 : (0 : Int32) ||| (Int32.ofInt 1 <<< (x &&& 31)) = Int32.ofInt 1 <<< (x &&& 31) := by
    apply Int32.toBitVec_inj.mp
    rw [Int32.toBitVec_or]
    exact BitVec.zero_or
  rw [e0] at this
  rw [this]
  simp [hk]
/-- struck ones are in the set -/
def FS (set : Int32) (c : Int) : Prop := c ≤ (cn (fb set) 10 : Int)
theorem c_treeAt {sc : List Value} {sp d : Nat} (hsc : ab_osc sc) {h : eg_H} (x y : Int32) (hp : ab_hp h) : mc sc sp 1802 11 (d + 2) [.ref 182, .int x, .int y] h (mc_P [] h (some (-1, 9))) := mc_q tr_treeAt (iv := some (-1, 9)) (by decide +kernel) hsc (show 2 ≤ d + 2 by omega) (ar_2 hp (ab_ige x) (ab_ile x) (ab_ige y) (ab_ile y))
theorem fr_nil {h h' : eg_H} (f : ab_fr [] h' h) : ∀ a k, hv h' a k = hv h a k := fun a k => hv_same (f a k rfl)
theorem gq_row : ckn 10 (fun i => ckq 189 (0 + i) 0 9) = true := by decide +kernel
theorem fr_up {M : ab_M} {h h1 h0 : eg_H} (f : ab_fr [] h1 h) (g : ab_fr M h h0) : ab_fr M h1 h0 := fun a k hk => (f a k rfl).trans (g a k hk)
abbrev MF : ab_M := [(182, 22, 22), (189, 0, 9)]

theorem ml_1802 : (eg_md 1802).2.2.1 = 4 := by decide +kernel
theorem rt_1802 : (eg_md 1802).2.2.2 = some .int := by decide +kernel
theorem ci_1861_37 : ab_at 1861 37 (.iload 5) 2 = true := by decide +kernel
theorem ci_1861_39 : ab_at 1861 39 (.aload_n 0) 1 = true := by decide +kernel
theorem ci_1861_40 : ab_at 1861 40 (.iload 4) 2 = true := by decide +kernel
theorem ci_1861_42 : ab_at 1861 42 (.invokevirtual 321) 3 = true := by decide +kernel
theorem ci_1861_45 : ab_at 1861 45 (.if_icmp .gt 123) 3 = true := by decide +kernel
theorem ci_1861_48 : ab_at 1861 48 (.aload_n 0) 1 = true := by decide +kernel
theorem ci_1861_49 : ab_at 1861 49 (.aload_n 0) 1 = true := by decide +kernel
theorem ci_1861_50 : ab_at 1861 50 (.getfield 33) 3 = true := by decide +kernel
theorem ci_1861_53 : ab_at 1861 53 (.bipush 39) 2 = true := by decide +kernel
theorem ci_1861_55 : ab_at 1861 55 (.iload 4) 2 = true := by decide +kernel
theorem ci_1861_57 : ab_at 1861 57 (.iadd) 1 = true := by decide +kernel
theorem ci_1861_58 : ab_at 1861 58 (.iaload) 1 = true := by decide +kernel
theorem ci_1861_59 : ab_at 1861 59 (.iload 5) 2 = true := by decide +kernel
theorem ci_1861_61 : ab_at 1861 61 (.aload_n 0) 1 = true := by decide +kernel
theorem ci_1861_62 : ab_at 1861 62 (.iload 4) 2 = true := by decide +kernel
theorem ci_1861_64 : ab_at 1861 64 (.invokevirtual 324) 3 = true := by decide +kernel
theorem ci_1861_67 : ab_at 1861 67 (.imul) 1 = true := by decide +kernel
theorem ci_1861_68 : ab_at 1861 68 (.iadd) 1 = true := by decide +kernel
theorem ci_1861_69 : ab_at 1861 69 (.aload_n 0) 1 = true := by decide +kernel
theorem ci_1861_70 : ab_at 1861 70 (.getfield 33) 3 = true := by decide +kernel
theorem ci_1861_73 : ab_at 1861 73 (.bipush 49) 2 = true := by decide +kernel
theorem ci_1861_75 : ab_at 1861 75 (.iload 4) 2 = true := by decide +kernel
theorem ci_1861_77 : ab_at 1861 77 (.iadd) 1 = true := by decide +kernel
theorem ci_1861_78 : ab_at 1861 78 (.iaload) 1 = true := by decide +kernel
theorem ci_1861_79 : ab_at 1861 79 (.iload 5) 2 = true := by decide +kernel
theorem ci_1861_81 : ab_at 1861 81 (.aload_n 0) 1 = true := by decide +kernel
theorem ci_1861_82 : ab_at 1861 82 (.iload 4) 2 = true := by decide +kernel
theorem ci_1861_84 : ab_at 1861 84 (.invokevirtual 327) 3 = true := by decide +kernel
theorem ci_1861_87 : ab_at 1861 87 (.imul) 1 = true := by decide +kernel
theorem ci_1861_88 : ab_at 1861 88 (.iadd) 1 = true := by decide +kernel
theorem ci_1861_89 : ab_at 1861 89 (.invokevirtual 288) 3 = true := by decide +kernel
theorem ci_1861_92 : ab_at 1861 92 (.istore 6) 2 = true := by decide +kernel
theorem ci_1861_94 : ab_at 1861 94 (.iload 6) 2 = true := by decide +kernel
theorem ci_1861_96 : ab_at 1861 96 (.ifCond .lt 66) 3 = true := by decide +kernel
theorem ci_1861_99 : ab_at 1861 99 (.iload_n 2) 1 = true := by decide +kernel
theorem ci_1861_100 : ab_at 1861 100 (.iload 6) 2 = true := by decide +kernel
theorem ci_1861_102 : ab_at 1861 102 (.invokestatic 215) 3 = true := by decide +kernel
theorem ci_1861_105 : ab_at 1861 105 (.ifCond .ne 57) 3 = true := by decide +kernel
theorem ci_1861_108 : ab_at 1861 108 (.aload_n 0) 1 = true := by decide +kernel
theorem ci_1861_109 : ab_at 1861 109 (.getfield 33) 3 = true := by decide +kernel
theorem ci_1861_112 : ab_at 1861 112 (.bipush 90) 2 = true := by decide +kernel
theorem ci_1861_114 : ab_at 1861 114 (.iload 6) 2 = true := by decide +kernel
theorem ci_1861_116 : ab_at 1861 116 (.iadd) 1 = true := by decide +kernel
theorem ci_1861_117 : ab_at 1861 117 (.iaload) 1 = true := by decide +kernel
theorem ci_1861_118 : ab_at 1861 118 (.aload_n 0) 1 = true := by decide +kernel
theorem ci_1861_119 : ab_at 1861 119 (.getfield 33) 3 = true := by decide +kernel
theorem ci_1861_122 : ab_at 1861 122 (.bipush 90) 2 = true := by decide +kernel
theorem ci_1861_124 : ab_at 1861 124 (.iload 4) 2 = true := by decide +kernel
theorem ci_1861_126 : ab_at 1861 126 (.iadd) 1 = true := by decide +kernel
theorem ci_1861_127 : ab_at 1861 127 (.iaload) 1 = true := by decide +kernel
theorem ci_1861_128 : ab_at 1861 128 (.if_icmp .lt 6) 3 = true := by decide +kernel
theorem ci_1861_131 : ab_at 1861 131 (.goto 31) 3 = true := by decide +kernel
theorem ci_1861_134 : ab_at 1861 134 (.iload_n 2) 1 = true := by decide +kernel
theorem ci_1861_135 : ab_at 1861 135 (.iconst 1) 1 = true := by decide +kernel
theorem ci_1861_136 : ab_at 1861 136 (.iload 6) 2 = true := by decide +kernel
theorem ci_1861_138 : ab_at 1861 138 (.ishl) 1 = true := by decide +kernel
theorem ci_1861_139 : ab_at 1861 139 (.ior) 1 = true := by decide +kernel
theorem ci_1861_140 : ab_at 1861 140 (.istore_n 2) 1 = true := by decide +kernel
theorem ci_1861_141 : ab_at 1861 141 (.aload_n 0) 1 = true := by decide +kernel
theorem ci_1861_142 : ab_at 1861 142 (.getfield 50) 3 = true := by decide +kernel
theorem ci_1861_145 : ab_at 1861 145 (.aload_n 0) 1 = true := by decide +kernel
theorem ci_1861_146 : ab_at 1861 146 (.getfield 318) 3 = true := by decide +kernel
theorem ci_1861_149 : ab_at 1861 149 (.iload 6) 2 = true := by decide +kernel
theorem ci_1861_151 : ab_at 1861 151 (.iastore) 1 = true := by decide +kernel
theorem ci_1861_152 : ab_at 1861 152 (.aload_n 0) 1 = true := by decide +kernel
theorem ci_1861_153 : ab_at 1861 153 (.dup) 1 = true := by decide +kernel
theorem ci_1861_154 : ab_at 1861 154 (.getfield 318) 3 = true := by decide +kernel
theorem ci_1861_157 : ab_at 1861 157 (.iconst 1) 1 = true := by decide +kernel
theorem ci_1861_158 : ab_at 1861 158 (.iadd) 1 = true := by decide +kernel
theorem ci_1861_159 : ab_at 1861 159 (.putfield 318) 3 = true := by decide +kernel
theorem ci_1861_162 : ab_at 1861 162 (.iinc 5 1) 3 = true := by decide +kernel
theorem ci_1861_165 : ab_at 1861 165 (.goto (-128)) 3 = true := by decide +kernel
theorem gb_struck {h : eg_H} (hp : ab_hp0 h) : 0 ≤ (hv h 182 22).toInt := by
  obtain ⟨rg, g1, g2⟩ : ∃ rg, ab_get 182 = some (111, rg) ∧ ab_sl rg 22 = some (.inl (0, 10)) := ⟨_, rfl, by decide +kernel⟩
  exact (hv_slot hp g1 g2).2.1
theorem fs_in {sc : List Value} {sp d : Nat} (hsc : ab_osc sc) {h0 : eg_H} {x i : Int32} {k : Nat} (hx : x.toInt = (k : Int)) (hk : k < 10) (r : Nat) : ∀ (n set : Int32) (ls : eg_L) (h : eg_H), 214748367 - n.toInt ≤ (r : Int) → 1 ≤ n.toInt → n.toInt ≤ 214748366 → ab_hp h → ab_fr MF h h0 → FS set (hv h 182 22).toInt → eg_find 0 ls = some (.ref 182) → eg_find 2 ls = some (.int set) → eg_find 3 ls = some (.int i) → eg_find 4 ls = some (.int x) → eg_find 5 ls = some (.int n) → hs sc sp 1861 11 (d + 4) (fun pc' ls' st' h' => pc' = 168 ∧ st' = [] ∧ ab_hp h' ∧ ab_fr MF h' h0 ∧ eg_find 0 ls' = some (.ref 182) ∧ (∃ set', eg_find 2 ls' = some (.int set') ∧ FS set' (hv h' 182 22).toInt) ∧ eg_find 3 ls' = some (.int i)) 37 ls [] h := by
  induction r with
  | zero =>
    intro n set ls h hr h1 h2
    omega
  | succ r ih =>
    intro n set ls h hr hn1 hn2 hp hf hFS l0 l2 l3 l4 l5
    have e1 : n.toInt ≤ 214748365 → (n + Int32.ofInt 1).toInt = n.toInt + 1 := fun h => i32_add rfl rfl (by omega) (by omega)
    refine hs_iload ci_1861_37 l5 ?_
    refine hs_aload_n ci_1861_39 l0 ?_
    refine hs_iload ci_1861_40 l4 ?_
    refine hs_cv 1865 11 1 ci_1861_42 (by decide +kernel) (by decide +kernel) hp.1 rfl (by rw [ml_1865]; rfl) (c_trunkOf hx hk hp.1) ?_
    rintro v9 h9 ⟨e9, t, e8, ⟨ht, hon⟩⟩
    rw [e8, e9]
    clear e8 e9 v9 h9
    simp only [Option.toList, List.cons_append, List.nil_append]
    refine hs_ic (t := 168) ci_1861_45 rfl (fun b45 => ?_) (fun b45 => ?_)
    · simp only [hs_cd, ab_not] at b45
      exact hs_k ⟨rfl, rfl, hp, hf, l0, ⟨set, l2, hFS⟩, l3⟩
    · simp only [hs_cd, ab_not] at b45
      refine hs_aload_n ci_1861_48 l0 ?_
      refine hs_aload_n ci_1861_49 l0 ?_
      refine hs_gfr 6 184 ci_1861_50 (by decide +kernel) hp.1 ?_
      refine hs_bipush ci_1861_53 ?_
      refine hs_iload ci_1861_55 l4 ?_
      refine hs_iadd ci_1861_57 ?_
      refine hs_ial1 (39 + k) ci_1861_58 ((i32_add (a := 39) rfl hx (by omega) (by omega)).trans (by omega)) (ckq_v gq_tx k hk) hp.1 ?_
      refine hs_iload ci_1861_59 l5 ?_
      refine hs_aload_n ci_1861_61 l0 ?_
      refine hs_iload ci_1861_62 l4 ?_
      refine hs_cv 1869 11 1 ci_1861_64 (by decide +kernel) (by decide +kernel) hp.1 rfl (by rw [ml_1869]; rfl) (c_stepX hx hk hp.1) ?_
      rintro v9 h9 ⟨e9, r1, e8, hr1⟩
      rw [e8, e9]
      clear e8 e9 v9 h9
      simp only [Option.toList, List.cons_append, List.nil_append]
      refine hs_imul ci_1861_67 ?_
      refine hs_iadd ci_1861_68 ?_
      refine hs_aload_n ci_1861_69 l0 ?_
      refine hs_gfr 6 184 ci_1861_70 (by decide +kernel) hp.1 ?_
      refine hs_bipush ci_1861_73 ?_
      refine hs_iload ci_1861_75 l4 ?_
      refine hs_iadd ci_1861_77 ?_
      refine hs_ial1 (49 + k) ci_1861_78 ((i32_add (a := 49) rfl hx (by omega) (by omega)).trans (by omega)) (ckq_v gq_ty k hk) hp.1 ?_
      refine hs_iload ci_1861_79 l5 ?_
      refine hs_aload_n ci_1861_81 l0 ?_
      refine hs_iload ci_1861_82 l4 ?_
      refine hs_cv 1883 11 1 ci_1861_84 (by decide +kernel) (by decide +kernel) hp.1 rfl (by rw [ml_1883]; rfl) (c_stepY hx hk hp.1) ?_
      rintro v9 h9 ⟨e9, r2, e8, hr2⟩
      rw [e8, e9]
      clear e8 e9 v9 h9
      simp only [Option.toList, List.cons_append, List.nil_append]
      refine hs_imul ci_1861_87 ?_
      refine hs_iadd ci_1861_88 ?_
      refine hs_cv 1802 11 2 ci_1861_89 (by decide +kernel) (by decide +kernel) hp.1 rfl (by rw [ml_1802]; rfl) (c_treeAt hsc _ _ hp) ?_
      rintro v9 h2 ⟨hp2, f2, r, e8, hr1, hr2⟩
      rw [e8]
      clear e8 v9
      simp only [Option.toList, List.cons_append, List.nil_append]
      have hv2 := fr_nil f2
      replace hf := fr_up f2 hf
      replace hFS : FS set (hv h2 182 22).toInt := by rw [hv2]; exact hFS
      replace hp := hp2
      refine hs_istore ci_1861_92 (by decide +kernel) ?_
      intro ls9 q9
      replace l0 := q9.2 0 _ (by decide) rfl l0
      replace l2 := q9.2 2 _ (by decide) rfl l2
      replace l3 := q9.2 3 _ (by decide) rfl l3
      replace l4 := q9.2 4 _ (by decide) rfl l4
      replace l5 := q9.2 5 _ (by decide) rfl l5
      have l6 := q9.1
      clear q9
      refine hs_iload ci_1861_94 l6 ?_
      refine hs_if (t := 162) ci_1861_96 rfl (fun b96 => ?_) (fun b96 => ?_)
      · simp only [hs_cd, ab_not] at b96
        refine hs_iinc ci_1861_162 (by decide +kernel) l5 ?_
        intro ls9 q9
        replace l0 := q9.2 0 _ (by decide) rfl l0
        replace l2 := q9.2 2 _ (by decide) rfl l2
        replace l3 := q9.2 3 _ (by decide) rfl l3
        replace l4 := q9.2 4 _ (by decide) rfl l4
        replace l6 := q9.2 6 _ (by decide) rfl l6
        have l5 := q9.1
        clear q9
        refine hs_goto (t := 37) ci_1861_165 rfl ?_
        exact ih _ _ _ _ (by rw [e1 (by omega)]; omega) (by rw [e1 (by omega)]; omega) (by rw [e1 (by omega)]; omega) hp hf hFS l0 l2 l3 l4 l5
      · simp only [hs_cd, ab_not] at b96
        refine hs_iload_n ci_1861_99 l2 ?_
        refine hs_iload ci_1861_100 l6 ?_
        refine hs_cs 1683 11 2 ci_1861_102 (by decide +kernel) rfl (by rw [ml_1683]; rfl) (c_bitOf _ _) ?_
        rintro v9 h9 ⟨e9, b1, e8, hb1⟩
        rw [e8, e9]
        clear e8 e9 v9 h9
        simp only [Option.toList, List.cons_append, List.nil_append]
        refine hs_if (t := 162) ci_1861_105 rfl (fun b105 => ?_) (fun b105 => ?_)
        · simp only [hs_cd, ab_not] at b105
          refine hs_iinc ci_1861_162 (by decide +kernel) l5 ?_
          intro ls9 q9
          replace l0 := q9.2 0 _ (by decide) rfl l0
          replace l2 := q9.2 2 _ (by decide) rfl l2
          replace l3 := q9.2 3 _ (by decide) rfl l3
          replace l4 := q9.2 4 _ (by decide) rfl l4
          replace l6 := q9.2 6 _ (by decide) rfl l6
          have l5 := q9.1
          clear q9
          refine hs_goto (t := 37) ci_1861_165 rfl ?_
          exact ih _ _ _ _ (by rw [e1 (by omega)]; omega) (by rw [e1 (by omega)]; omega) (by rw [e1 (by omega)]; omega) hp hf hFS l0 l2 l3 l4 l5
        · simp only [hs_cd, ab_not] at b105
          refine hs_aload_n ci_1861_108 l0 ?_
          refine hs_gfr 6 184 ci_1861_109 (by decide +kernel) hp.1 ?_
          refine hs_bipush ci_1861_112 ?_
          refine hs_iload ci_1861_114 l6 ?_
          refine hs_iadd ci_1861_116 ?_
          obtain ⟨rk, hrk⟩ : ∃ rk : Nat, r.toInt = (rk : Int) := ⟨r.toInt.toNat, by omega⟩
          have hrk10 : rk < 10 := by omega
          refine hs_ial1 (90 + rk) ci_1861_117 ((i32_add (a := 90) rfl hrk (by omega) (by omega)).trans (by omega)) (ckq_v gq_tl rk hrk10) hp.1 ?_
          refine hs_aload_n ci_1861_118 l0 ?_
          refine hs_gfr 6 184 ci_1861_119 (by decide +kernel) hp.1 ?_
          refine hs_bipush ci_1861_122 ?_
          refine hs_iload ci_1861_124 l4 ?_
          refine hs_iadd ci_1861_126 ?_
          refine hs_ial1 (90 + k) ci_1861_127 ((i32_add (a := 90) rfl hx (by omega) (by omega)).trans (by omega)) (ckq_v gq_tl k hk) hp.1 ?_
          refine hs_ic (t := 134) ci_1861_128 rfl (fun b128 => ?_) (fun b128 => ?_)
          · simp only [hs_cd, ab_not] at b128
            refine hs_iload_n ci_1861_134 l2 ?_
            refine hs_iconst ci_1861_135 ?_
            refine hs_iload ci_1861_136 l6 ?_
            refine hs_ishl ci_1861_138 ?_
            refine hs_ior ci_1861_139 ?_
            refine hs_istore_n ci_1861_140 (by decide +kernel) ?_
            intro ls9 q9
            replace l0 := q9.2 0 _ (by decide) rfl l0
            replace l3 := q9.2 3 _ (by decide) rfl l3
            replace l4 := q9.2 4 _ (by decide) rfl l4
            replace l5 := q9.2 5 _ (by decide) rfl l5
            replace l6 := q9.2 6 _ (by decide) rfl l6
            have l2 := q9.1
            clear q9
            refine hs_aload_n ci_1861_141 l0 ?_
            refine hs_gfr 21 189 ci_1861_142 (by decide +kernel) hp.1 ?_
            refine hs_aload_n ci_1861_145 l0 ?_
            refine hs_gfi 22 ci_1861_146 (by decide +kernel) hp.1 ?_
            refine hs_iload ci_1861_149 l6 ?_
            have hbit : fb set rk = false := by
              cases hq : fb set rk with
              | false => rfl
              | true =>
                have := (fb_bit (a := set) hrk (by omega)).mpr hq
                rcases hb1 with ⟨h5, h6⟩ | ⟨h5, h6⟩
                · omega
                · exact absurd this h6
            have hcn : cn (fb (set ||| (Int32.ofInt 1 <<< (r &&& 31)))) 10 = cn (fb set) 10 + 1 := cn_put (r := rk) (fun j hj hn => by
              rw [fb_or hrk (by omega)]
              simp [hn]) hrk10 hbit (by
              rw [fb_or hrk (by omega)]
              simp [show rk < 32 by omega])
            have hcl := cn_le (fb (set ||| (Int32.ofInt 1 <<< (r &&& 31)))) 10
            have hc9 : (hv h2 182 22).toInt ≤ 9 := by unfold FS at hFS; omega
            have hc0 : 0 ≤ (hv h2 182 22).toInt := gb_struck hp.1
            obtain ⟨ck, hck⟩ : ∃ ck : Nat, (hv h2 182 22).toInt = (ck : Int) := ⟨(hv h2 182 22).toInt.toNat, by omega⟩
            refine hs_ias1 (0 + ck) ci_1861_151 (hck.trans (by omega)) (ckq_v gq_row ck (by omega)) hp.1 (by show 0 ≤ r.toInt; omega) (by show r.toInt ≤ 9; omega) ?_
            intro h3 w3
            replace hf := (w3.fr (M := MF) (by unfold ab_inr; rw [in1 (by omega) (by omega)]; rfl)).tr hf
            replace hp : ab_hp h3 := ⟨w3.1, hp.2.set (by unfold ab_pr; rfl) w3.2⟩
            have es : hv h3 182 22 = hv h2 182 22 := by rw [w3.v, if_neg (fun e => absurd e.1 (by decide))]
            refine hs_aload_n ci_1861_152 l0 ?_
            refine hs_dup ci_1861_153 rfl ?_
            refine hs_gfi 22 ci_1861_154 (by decide +kernel) hp.1 ?_
            refine hs_iconst ci_1861_157 ?_
            refine hs_iadd ci_1861_158 ?_
            have e5 : (hv h3 182 22 + Int32.ofInt 1).toInt = (hv h2 182 22).toInt + 1 := by rw [es]; exact i32_add rfl rfl (by omega) (by omega)
            refine hs_pfi 22 0 10 ci_1861_159 (by decide +kernel) hp.1 (by rw [e5]; omega) (by rw [e5]; omega) ?_
            intro h4 w4
            replace hf := (w4.fr (M := MF) rfl).tr hf
            replace hp : ab_hp h4 := ⟨w4.1, hp.2.set (by unfold ab_pr; rfl) w4.2⟩
            replace hFS : FS (set ||| (Int32.ofInt 1 <<< (r &&& 31))) (hv h4 182 22).toInt := by
              unfold FS
              rw [w4.v, if_pos ⟨rfl, rfl⟩, e5, hcn]
              unfold FS at hFS
              omega
            refine hs_iinc ci_1861_162 (by decide +kernel) l5 ?_
            intro ls9 q9
            replace l0 := q9.2 0 _ (by decide) rfl l0
            replace l2 := q9.2 2 _ (by decide) rfl l2
            replace l3 := q9.2 3 _ (by decide) rfl l3
            replace l4 := q9.2 4 _ (by decide) rfl l4
            replace l6 := q9.2 6 _ (by decide) rfl l6
            have l5 := q9.1
            clear q9
            refine hs_goto (t := 37) ci_1861_165 rfl ?_
            exact ih _ _ _ _ (by rw [e1 (by omega)]; omega) (by rw [e1 (by omega)]; omega) (by rw [e1 (by omega)]; omega) hp hf hFS l0 l2 l3 l4 l5
          · simp only [hs_cd, ab_not] at b128
            refine hs_goto (t := 162) ci_1861_131 rfl ?_
            refine hs_iinc ci_1861_162 (by decide +kernel) l5 ?_
            intro ls9 q9
            replace l0 := q9.2 0 _ (by decide) rfl l0
            replace l2 := q9.2 2 _ (by decide) rfl l2
            replace l3 := q9.2 3 _ (by decide) rfl l3
            replace l4 := q9.2 4 _ (by decide) rfl l4
            replace l6 := q9.2 6 _ (by decide) rfl l6
            have l5 := q9.1
            clear q9
            refine hs_goto (t := 37) ci_1861_165 rfl ?_
            exact ih _ _ _ _ (by rw [e1 (by omega)]; omega) (by rw [e1 (by omega)]; omega) (by rw [e1 (by omega)]; omega) hp hf hFS l0 l2 l3 l4 l5
theorem ci_1861_0 : ab_at 1861 0 (.iconst 1) 1 = true := by decide +kernel
theorem ci_1861_1 : ab_at 1861 1 (.iload_n 1) 1 = true := by decide +kernel
theorem ci_1861_2 : ab_at 1861 2 (.ishl) 1 = true := by decide +kernel
theorem ci_1861_3 : ab_at 1861 3 (.istore_n 2) 1 = true := by decide +kernel
theorem ci_1861_4 : ab_at 1861 4 (.aload_n 0) 1 = true := by decide +kernel
theorem ci_1861_5 : ab_at 1861 5 (.getfield 50) 3 = true := by decide +kernel
theorem ci_1861_8 : ab_at 1861 8 (.iconst 0) 1 = true := by decide +kernel
theorem ci_1861_9 : ab_at 1861 9 (.iload_n 1) 1 = true := by decide +kernel
theorem ci_1861_10 : ab_at 1861 10 (.iastore) 1 = true := by decide +kernel
theorem ci_1861_11 : ab_at 1861 11 (.aload_n 0) 1 = true := by decide +kernel
theorem ci_1861_12 : ab_at 1861 12 (.iconst 1) 1 = true := by decide +kernel
theorem ci_1861_13 : ab_at 1861 13 (.putfield 318) 3 = true := by decide +kernel
theorem ci_1861_16 : ab_at 1861 16 (.iconst 0) 1 = true := by decide +kernel
theorem ci_1861_17 : ab_at 1861 17 (.istore_n 3) 1 = true := by decide +kernel
theorem ci_1861_18 : ab_at 1861 18 (.iload_n 3) 1 = true := by decide +kernel
theorem ci_1861_19 : ab_at 1861 19 (.aload_n 0) 1 = true := by decide +kernel
theorem ci_1861_20 : ab_at 1861 20 (.getfield 318) 3 = true := by decide +kernel
theorem ci_1861_23 : ab_at 1861 23 (.if_icmp .ge 151) 3 = true := by decide +kernel
theorem ci_1861_26 : ab_at 1861 26 (.aload_n 0) 1 = true := by decide +kernel
theorem ci_1861_27 : ab_at 1861 27 (.getfield 50) 3 = true := by decide +kernel
theorem ci_1861_30 : ab_at 1861 30 (.iload_n 3) 1 = true := by decide +kernel
theorem ci_1861_31 : ab_at 1861 31 (.iaload) 1 = true := by decide +kernel
theorem ci_1861_32 : ab_at 1861 32 (.istore 4) 2 = true := by decide +kernel
theorem ci_1861_34 : ab_at 1861 34 (.iconst 1) 1 = true := by decide +kernel
theorem ci_1861_35 : ab_at 1861 35 (.istore 5) 2 = true := by decide +kernel
theorem ci_1861_168 : ab_at 1861 168 (.iinc 3 1) 3 = true := by decide +kernel
theorem ci_1861_171 : ab_at 1861 171 (.goto (-153)) 3 = true := by decide +kernel
theorem ci_1861_174 : ab_at 1861 174 (.iload_n 2) 1 = true := by decide +kernel
theorem gb_struck10 {h : eg_H} (hp : ab_hp0 h) : (hv h 182 22).toInt ≤ 10 := by
  obtain ⟨rg, g1, g2⟩ : ∃ rg, ab_get 182 = some (111, rg) ∧ ab_sl rg 22 = some (.inl (0, 10)) := ⟨_, rfl, by decide +kernel⟩
  exact (hv_slot hp g1 g2).2.2
theorem fs_out {sc : List Value} {sp d : Nat} (hsc : ab_osc sc) {h0 : eg_H} (r : Nat) : ∀ (i : Nat) (xi set : Int32) (ls : eg_L) (h : eg_H), xi.toInt = (i : Int) → i + r = 11 → ab_hp h → ab_fr MF h h0 → FS set (hv h 182 22).toInt → eg_find 0 ls = some (.ref 182) → eg_find 2 ls = some (.int set) → eg_find 3 ls = some (.int xi) → hs sc sp 1861 11 (d + 4) (fun pc' _ st' h' => pc' = 175 ∧ (∃ t : Int32, st' = [.int t]) ∧ ab_hp h' ∧ ab_fr MF h' h0) 18 ls [] h := by
  induction r with
  | zero =>
    intro i xi set ls h hi hr hp hf hFS l0 l2 l3
    have hc10 := gb_struck10 hp.1
    refine hs_iload_n ci_1861_18 l3 ?_
    refine hs_aload_n ci_1861_19 l0 ?_
    refine hs_gfi 22 ci_1861_20 (by decide +kernel) hp.1 ?_
    refine hs_ic (t := 174) ci_1861_23 rfl (fun b23 => ?_) (fun b23 => ?_)
    · simp only [hs_cd, ab_not] at b23
      refine hs_iload_n ci_1861_174 l2 ?_
      exact hs_k ⟨rfl, ⟨_, rfl⟩, hp, hf⟩
    · simp only [hs_cd, ab_not] at b23
      omega
  | succ r ih =>
    intro i xi set ls h hi hr hp hf hFS l0 l2 l3
    refine hs_iload_n ci_1861_18 l3 ?_
    refine hs_aload_n ci_1861_19 l0 ?_
    refine hs_gfi 22 ci_1861_20 (by decide +kernel) hp.1 ?_
    refine hs_ic (t := 174) ci_1861_23 rfl (fun b23 => ?_) (fun b23 => ?_)
    · simp only [hs_cd, ab_not] at b23
      refine hs_iload_n ci_1861_174 l2 ?_
      exact hs_k ⟨rfl, ⟨_, rfl⟩, hp, hf⟩
    · simp only [hs_cd, ab_not] at b23
      refine hs_aload_n ci_1861_26 l0 ?_
      refine hs_gfr 21 189 ci_1861_27 (by decide +kernel) hp.1 ?_
      refine hs_iload_n ci_1861_30 l3 ?_
      have hc10 := (gb_struck10 hp.1)
      refine hs_ial1 (0 + i) ci_1861_31 (hi.trans (by omega)) (ckq_v gq_row i (by omega)) hp.1 ?_
      have hrb := gsl_b hp.1 (ckq_v gq_row i (by omega))
      simp only at hrb
      obtain ⟨k, hx⟩ : ∃ k : Nat, (hv h 189 (0 + i)).toInt = (k : Int) := ⟨(hv h 189 (0 + i)).toInt.toNat, by omega⟩
      refine hs_istore ci_1861_32 (by decide +kernel) ?_
      intro ls9 q9
      replace l0 := q9.2 0 _ (by decide) rfl l0
      replace l2 := q9.2 2 _ (by decide) rfl l2
      replace l3 := q9.2 3 _ (by decide) rfl l3
      have l4 := q9.1
      clear q9
      refine hs_iconst ci_1861_34 ?_
      refine hs_istore ci_1861_35 (by decide +kernel) ?_
      intro ls9 q9
      replace l0 := q9.2 0 _ (by decide) rfl l0
      replace l2 := q9.2 2 _ (by decide) rfl l2
      replace l3 := q9.2 3 _ (by decide) rfl l3
      replace l4 := q9.2 4 _ (by decide) rfl l4
      have l5 := q9.1
      clear q9
      refine (fs_in hsc hx (by omega) 214748366 _ _ _ _ (by decide) (by decide) (by decide) hp hf hFS l0 l2 l3 l4 l5).bind ?_
      rintro pc' ls' st' h' ⟨rfl, rfl, hp, hf, l0, ⟨set', l2, hFS⟩, l3⟩
      refine hs_iinc ci_1861_168 (by decide +kernel) l3 ?_
      intro ls9 q9
      replace l0 := q9.2 0 _ (by decide) rfl l0
      replace l2 := q9.2 2 _ (by decide) rfl l2
      have l3 := q9.1
      clear q9
      refine hs_goto (t := 18) ci_1861_171 rfl ?_
      exact ih (i + 1) _ _ _ _ (by have := i32_add hi (y := Int32.ofInt 1) (b := 1) rfl (by omega) (by omega); rw [this]; omega) (by omega) hp hf hFS l0 l2 l3
def sm_fallSet : ab_Q := (1861, 11, 0, 8, (3, [(2, .ofNat 0, .ofNat 9, false, none)], [(0, .inr 184), (1, .inl (2, .ofNat 0))], [], []), [(182, 22, 22), (189, 0, 9)], [(175, (4, [(3, .negSucc 2147483647, .ofNat 2147483647, false, none)], [], [.inl (3, .ofNat 0)], []))], none)
theorem tr_fallSet : ab_Tr sm_fallSet := tr_hand (by decide +kernel) (fun sc sp hsc dq hdq ν ls st h hr => by
  have l0 := hr.ref 0 182 (by rfl)
  obtain ⟨x, l1, hx0⟩ := hr.int 1 (by rfl)
  have hx0 : x.toInt = ν 2 + 0 := hx0
  have hb : 0 ≤ ν 2 ∧ ν 2 ≤ 9 := hr.bnd 2 (by rfl)
  obtain rfl : st = [] := hr.2.2.2.1
  have hp : ab_hp h := hr.2.2.2.2.2
  have hdq : 8 ≤ dq := hdq
  obtain ⟨d, rfl⟩ : ∃ d, dq = d + 4 := ⟨dq - 4, by omega⟩
  obtain ⟨k, hx⟩ : ∃ k : Nat, x.toInt = (k : Int) := ⟨x.toInt.toNat, by omega⟩
  have hk : k < 10 := by omega
  show hs sc sp 1861 11 (d + 4) _ 0 ls [] h
  refine hs_iconst ci_1861_0 ?_
  refine hs_iload_n ci_1861_1 l1 ?_
  refine hs_ishl ci_1861_2 ?_
  refine hs_istore_n ci_1861_3 (by decide +kernel) ?_
  intro ls9 q9
  replace l0 := q9.2 0 _ (by decide) rfl l0
  replace l1 := q9.2 1 _ (by decide) rfl l1
  have l2 := q9.1
  clear q9
  refine hs_aload_n ci_1861_4 l0 ?_
  refine hs_gfr 21 189 ci_1861_5 (by decide +kernel) hp.1 ?_
  refine hs_iconst ci_1861_8 ?_
  refine hs_iload_n ci_1861_9 l1 ?_
  refine hs_ias1 (0 + 0) ci_1861_10 rfl (ckq_v gq_row 0 (by omega)) hp.1 (by show 0 ≤ x.toInt; omega) (by show x.toInt ≤ 9; omega) ?_
  intro h3 w3
  have hf : ab_fr MF h3 h := w3.fr (M := MF) rfl
  replace hp : ab_hp h3 := ⟨w3.1, hp.2.set (by unfold ab_pr; rfl) w3.2⟩
  refine hs_aload_n ci_1861_11 l0 ?_
  refine hs_iconst ci_1861_12 ?_
  refine hs_pfi 22 0 10 ci_1861_13 (by decide +kernel) hp.1 (by decide) (by decide) ?_
  intro h4 w4
  replace hf := (w4.fr (M := MF) rfl).tr hf
  replace hp : ab_hp h4 := ⟨w4.1, hp.2.set (by unfold ab_pr; rfl) w4.2⟩
  have hFS : FS (Int32.ofInt 1 <<< (x &&& 31)) (hv h4 182 22).toInt := by
    unfold FS
    rw [w4.v, if_pos ⟨rfl, rfl⟩]
    have := cn_pos (n := 10) hk (fb_1 hx (by omega))
    show (1 : Int) ≤ _
    omega
  refine hs_iconst ci_1861_16 ?_
  refine hs_istore_n ci_1861_17 (by decide +kernel) ?_
  intro ls9 q9
  replace l0 := q9.2 0 _ (by decide) rfl l0
  replace l1 := q9.2 1 _ (by decide) rfl l1
  replace l2 := q9.2 2 _ (by decide) rfl l2
  have l3 := q9.1
  clear q9
  refine hs.mono (fs_out hsc 11 0 _ _ _ _ rfl rfl hp hf hFS l0 l2 l3) ?_
  rintro pc' ls' st' h' ⟨rfl, ⟨t, rfl⟩, hp', hf'⟩
  exact ⟨_, List.mem_cons_self, rfl, _, en_int hr.1 (ab_ige t) (ab_ile t) hp', ab_upd_ext, hf'⟩)
