/-! BY HAND: the reference's names copied -/
theorem ci_1650_115 : ab_at 1650 115 (.iconst 0) 1 = true := by decide +kernel
theorem ci_1650_116 : ab_at 1650 116 (.istore_n 1) 1 = true := by decide +kernel
theorem ci_1650_117 : ab_at 1650 117 (.iload_n 1) 1 = true := by decide +kernel
theorem ci_1650_118 : ab_at 1650 118 (.bipush 16) 2 = true := by decide +kernel
theorem ci_1650_120 : ab_at 1650 120 (.if_icmp .ge 24) 3 = true := by decide +kernel
theorem ci_1650_123 : ab_at 1650 123 (.aload_n 0) 1 = true := by decide +kernel
theorem ci_1650_124 : ab_at 1650 124 (.getfield 43) 3 = true := by decide +kernel
theorem ci_1650_127 : ab_at 1650 127 (.iload_n 1) 1 = true := by decide +kernel
theorem ci_1650_128 : ab_at 1650 128 (.aload_n 0) 1 = true := by decide +kernel
theorem ci_1650_129 : ab_at 1650 129 (.getfield 43) 3 = true := by decide +kernel
theorem ci_1650_132 : ab_at 1650 132 (.bipush 16) 2 = true := by decide +kernel
theorem ci_1650_134 : ab_at 1650 134 (.iload_n 1) 1 = true := by decide +kernel
theorem ci_1650_135 : ab_at 1650 135 (.iadd) 1 = true := by decide +kernel
theorem ci_1650_136 : ab_at 1650 136 (.laload) 1 = true := by decide +kernel
theorem ci_1650_137 : ab_at 1650 137 (.lastore) 1 = true := by decide +kernel
theorem ci_1650_138 : ab_at 1650 138 (.iinc 1 1) 3 = true := by decide +kernel
theorem ci_1650_141 : ab_at 1650 141 (.goto (-24)) 3 = true := by decide +kernel
theorem ci_2113_49 : ab_at 2113 49 (.iconst 0) 1 = true := by decide +kernel
theorem ci_2113_50 : ab_at 2113 50 (.istore_n 2) 1 = true := by decide +kernel
theorem ci_2113_51 : ab_at 2113 51 (.iload_n 2) 1 = true := by decide +kernel
theorem ci_2113_52 : ab_at 2113 52 (.bipush 16) 2 = true := by decide +kernel
theorem ci_2113_54 : ab_at 2113 54 (.if_icmp .ge 26) 3 = true := by decide +kernel
theorem ci_2113_57 : ab_at 2113 57 (.aload_n 0) 1 = true := by decide +kernel
theorem ci_2113_58 : ab_at 2113 58 (.getfield 93) 3 = true := by decide +kernel
theorem ci_2113_61 : ab_at 2113 61 (.bipush 16) 2 = true := by decide +kernel
theorem ci_2113_63 : ab_at 2113 63 (.iload_n 1) 1 = true := by decide +kernel
theorem ci_2113_64 : ab_at 2113 64 (.imul) 1 = true := by decide +kernel
theorem ci_2113_65 : ab_at 2113 65 (.iload_n 2) 1 = true := by decide +kernel
theorem ci_2113_66 : ab_at 2113 66 (.iadd) 1 = true := by decide +kernel
theorem ci_2113_67 : ab_at 2113 67 (.aload_n 0) 1 = true := by decide +kernel
theorem ci_2113_68 : ab_at 2113 68 (.getfield 43) 3 = true := by decide +kernel
theorem ci_2113_71 : ab_at 2113 71 (.iload_n 2) 1 = true := by decide +kernel
theorem ci_2113_72 : ab_at 2113 72 (.laload) 1 = true := by decide +kernel
theorem ci_2113_73 : ab_at 2113 73 (.lastore) 1 = true := by decide +kernel
theorem ci_2113_74 : ab_at 2113 74 (.iinc 2 1) 3 = true := by decide +kernel
theorem ci_2113_77 : ab_at 2113 77 (.goto (-26)) 3 = true := by decide +kernel
theorem ci_2117_58 : ab_at 2117 58 (.iconst 0) 1 = true := by decide +kernel
theorem ci_2117_59 : ab_at 2117 59 (.istore_n 2) 1 = true := by decide +kernel
theorem ci_2117_60 : ab_at 2117 60 (.iload_n 2) 1 = true := by decide +kernel
theorem ci_2117_61 : ab_at 2117 61 (.bipush 16) 2 = true := by decide +kernel
theorem ci_2117_63 : ab_at 2117 63 (.if_icmp .ge 26) 3 = true := by decide +kernel
theorem ci_2117_66 : ab_at 2117 66 (.aload_n 0) 1 = true := by decide +kernel
theorem ci_2117_67 : ab_at 2117 67 (.getfield 43) 3 = true := by decide +kernel
theorem ci_2117_70 : ab_at 2117 70 (.iload_n 2) 1 = true := by decide +kernel
theorem ci_2117_71 : ab_at 2117 71 (.aload_n 0) 1 = true := by decide +kernel
theorem ci_2117_72 : ab_at 2117 72 (.getfield 93) 3 = true := by decide +kernel
theorem ci_2117_75 : ab_at 2117 75 (.bipush 16) 2 = true := by decide +kernel
theorem ci_2117_77 : ab_at 2117 77 (.iload_n 1) 1 = true := by decide +kernel
theorem ci_2117_78 : ab_at 2117 78 (.imul) 1 = true := by decide +kernel
theorem ci_2117_79 : ab_at 2117 79 (.iload_n 2) 1 = true := by decide +kernel
theorem ci_2117_80 : ab_at 2117 80 (.iadd) 1 = true := by decide +kernel
theorem ci_2117_81 : ab_at 2117 81 (.laload) 1 = true := by decide +kernel
theorem ci_2117_82 : ab_at 2117 82 (.lastore) 1 = true := by decide +kernel
theorem ci_2117_83 : ab_at 2117 83 (.iinc 2 1) 3 = true := by decide +kernel
theorem ci_2117_86 : ab_at 2117 86 (.goto (-26)) 3 = true := by decide +kernel
theorem inr_off {a lo hi q : Nat} (h : q < lo ∨ hi < q) : ab_inr [(a, lo, hi)] a q q = false := by
  unfold ab_inr
  cases hb : (Nat.beq a a && Nat.ble lo q && Nat.ble q hi) with
  | false => rfl
  | true =>
    have d1 := Bool.and_eq_true_iff.mp hb
    have d2 := Bool.and_eq_true_iff.mp d1.1
    have := Nat.le_of_ble_eq_true d2.2
    have := Nat.le_of_ble_eq_true d1.2
    omega
theorem inr_on {a lo hi q : Nat} (h1 : lo ≤ q) (h2 : q ≤ hi) : ab_inr [(a, lo, hi)] a q q = true := by
  unfold ab_inr
  rw [show (Nat.beq a a && Nat.ble lo q && Nat.ble q hi) = true from Bool.and_eq_true_iff.mpr ⟨Bool.and_eq_true_iff.mpr ⟨Nat.beq_refl a, Nat.ble_eq_true_of_le h1⟩, Nat.ble_eq_true_of_le h2⟩]
  rfl
theorem cn_hd {sc : List Value} {sp d : Nat} {h : eg_H} : ∀ (r i : Nat) (x : Int32) (ls : eg_L) (h1 : eg_H), r + i = 16 → x.toInt = (i : Int) → ab_hp0 h1 → ab_fr [(187, 0, 15)] h1 h → (∀ q, q < i → hl h1 187 q = hl h 187 (16 + q)) → eg_find 0 ls = some (.ref 182) → eg_find 1 ls = some (.int x) → hs sc sp 1650 11 d (fun pc' ls' st' h' => pc' = 144 ∧ st' = [] ∧ ab_hp0 h' ∧ ab_fr [(187, 0, 15)] h' h ∧ (∀ q, q < 16 → hl h' 187 q = hl h 187 (16 + q)) ∧ eg_find 0 ls' = some (.ref 182)) 117 ls [] h1 := by
  intro r
  induction r with
  | zero =>
    intro i x ls h1 hr hx hp f1 hc l0 l1
    refine hs_iload_n ci_1650_117 l1 ?_
    refine hs_bipush ci_1650_118 ?_
    refine hs_ic (t := 144) ci_1650_120 rfl (fun b120 => ?_) (fun b120 => ?_)
    · simp only [hs_cd, ab_not, kB_16] at b120
      exact hs_k ⟨rfl, rfl, hp, f1, fun q hq => hc q (by omega), l0⟩
    · simp only [hs_cd, ab_not, kB_16] at b120
      omega
  | succ r ih =>
    intro i x ls h1 hr hx hp f1 hc l0 l1
    have e16 : ((Int8.ofInt 16).toInt32 + x).toInt = ((16 + i : Nat) : Int) := (i32_add kB_16 hx (by omega) (by omega)).trans (by omega)
    refine hs_iload_n ci_1650_117 l1 ?_
    refine hs_bipush ci_1650_118 ?_
    refine hs_ic (t := 144) ci_1650_120 rfl (fun b120 => ?_) (fun b120 => ?_)
    · simp only [hs_cd, ab_not, kB_16] at b120
      omega
    · simp only [hs_cd, ab_not, kB_16] at b120
      refine hs_aload_n ci_1650_123 l0 ?_
      refine hs_gfr 9 187 ci_1650_124 (by decide +kernel) hp ?_
      refine hs_iload_n ci_1650_127 l1 ?_
      refine hs_aload_n ci_1650_128 l0 ?_
      refine hs_gfr 9 187 ci_1650_129 (by decide +kernel) hp ?_
      refine hs_bipush ci_1650_132 ?_
      refine hs_iload_n ci_1650_134 l1 ?_
      refine hs_iadd ci_1650_135 ?_
      refine hs_laload 32 ci_1650_136 (by decide +kernel) hp (by rw [e16]; omega) (by rw [e16]; omega) ?_
      refine hs_lastore 32 ci_1650_137 (by decide +kernel) hp (by omega) (by omega) ?_
      intro h137 w137
      replace hp := w137.1
      refine hs_iinc2 ci_1650_138 (by decide +kernel) l1 ?_
      intro ls9 q9
      replace l0 := q9.2 0 _ (by decide) (Or.inl rfl) l0
      have l1 := q9.1
      clear q9
      refine hs_goto (t := 117) ci_1650_141 rfl ?_
      have ei : x.toInt.toNat = i := by omega
      have ej : ((Int8.ofInt 16).toInt32 + x).toInt.toNat = 16 + i := by rw [e16]; omega
      rw [ei, ej] at w137
      have fw : ab_fr [(187, 0, 15)] h137 h1 := w137.fr (inr_on (by omega) (by omega))
      refine ih (i + 1) _ _ _ (by omega) (i32_inc hx (by omega) (by omega)) hp (fw.tr f1) (fun q hq => ?_) l0 l1
      by_cases e : q = i
      · subst e
        rw [w137.v, if_pos ⟨rfl, rfl⟩, hl_same (f1 187 (16 + q) (inr_off (by omega)))]
      · rw [w137.v, if_neg (by omega)]
        exact hc q (by omega)
theorem cn_im {sc : List Value} {sp d : Nat} {h : eg_H} {v : Nat} (hv2 : v < 2) {y : Int32} (hy : y.toInt = (v : Int)) : ∀ (r i : Nat) (x : Int32) (ls : eg_L) (h1 : eg_H), r + i = 16 → x.toInt = (i : Int) → ab_hp0 h1 → ab_fr [(202, 16 * v, 16 * v + 15)] h1 h → (∀ q, q < i → hl h1 202 (16 * v + q) = hl h 187 q) → eg_find 0 ls = some (.ref 182) → eg_find 1 ls = some (.int y) → eg_find 2 ls = some (.int x) → hs sc sp 2113 11 d (fun pc' ls' st' h' => pc' = 80 ∧ st' = [] ∧ ab_hp0 h' ∧ ab_fr [(202, 16 * v, 16 * v + 15)] h' h ∧ (∀ q, q < 16 → hl h' 202 (16 * v + q) = hl h 187 q) ∧ eg_find 0 ls' = some (.ref 182) ∧ eg_find 1 ls' = some (.int y)) 51 ls [] h1 := by
  intro r
  induction r with
  | zero =>
    intro i x ls h1 hr hx hp f1 hc l0 l1 l2
    refine hs_iload_n ci_2113_51 l2 ?_
    refine hs_bipush ci_2113_52 ?_
    refine hs_ic (t := 80) ci_2113_54 rfl (fun b54 => ?_) (fun b54 => ?_)
    · simp only [hs_cd, ab_not, kB_16] at b54
      exact hs_k ⟨rfl, rfl, hp, f1, fun q hq => hc q (by omega), l0, l1⟩
    · simp only [hs_cd, ab_not, kB_16] at b54
      omega
  | succ r ih =>
    intro i x ls h1 hr hx hp f1 hc l0 l1 l2
    have e16 : ((Int8.ofInt 16).toInt32 * y + x).toInt = ((16 * v + i : Nat) : Int) := (i32_add (i32_mul kB_16 hy (by omega) (by omega)) hx (by omega) (by omega)).trans (by omega)
    refine hs_iload_n ci_2113_51 l2 ?_
    refine hs_bipush ci_2113_52 ?_
    refine hs_ic (t := 80) ci_2113_54 rfl (fun b54 => ?_) (fun b54 => ?_)
    · simp only [hs_cd, ab_not, kB_16] at b54
      omega
    · simp only [hs_cd, ab_not, kB_16] at b54
      refine hs_aload_n ci_2113_57 l0 ?_
      refine hs_gfr 52 202 ci_2113_58 (by decide +kernel) hp ?_
      refine hs_bipush ci_2113_61 ?_
      refine hs_iload_n ci_2113_63 l1 ?_
      refine hs_imul ci_2113_64 ?_
      refine hs_iload_n ci_2113_65 l2 ?_
      refine hs_iadd ci_2113_66 ?_
      refine hs_aload_n ci_2113_67 l0 ?_
      refine hs_gfr 9 187 ci_2113_68 (by decide +kernel) hp ?_
      refine hs_iload_n ci_2113_71 l2 ?_
      refine hs_laload 32 ci_2113_72 (by decide +kernel) hp (by omega) (by omega) ?_
      refine hs_lastore 32 ci_2113_73 (by decide +kernel) hp (by rw [e16]; omega) (by rw [e16]; omega) ?_
      intro h73 w73
      replace hp := w73.1
      refine hs_iinc2 ci_2113_74 (by decide +kernel) l2 ?_
      intro ls9 q9
      replace l0 := q9.2 0 _ (by decide) (Or.inl rfl) l0
      replace l1 := q9.2 1 _ (by decide) (Or.inl rfl) l1
      have l2 := q9.1
      clear q9
      refine hs_goto (t := 51) ci_2113_77 rfl ?_
      have ei : x.toInt.toNat = i := by omega
      have ej : ((Int8.ofInt 16).toInt32 * y + x).toInt.toNat = 16 * v + i := by rw [e16]; omega
      rw [ei, ej] at w73
      have fw : ab_fr [(202, 16 * v, 16 * v + 15)] h73 h1 := w73.fr (inr_on (by omega) (by omega))
      refine ih (i + 1) _ _ _ (by omega) (i32_inc hx (by omega) (by omega)) hp (fw.tr f1) (fun q hq => ?_) l0 l1 l2
      by_cases e : q = i
      · subst e
        rw [w73.v, if_pos ⟨rfl, rfl⟩, hl_same (f1 187 q rfl)]
      · rw [w73.v, if_neg (by omega)]
        exact hc q (by omega)
theorem cn_re {sc : List Value} {sp d : Nat} {h : eg_H} {v : Nat} (hv2 : v < 2) {y : Int32} (hy : y.toInt = (v : Int)) : ∀ (r i : Nat) (x : Int32) (ls : eg_L) (h1 : eg_H), r + i = 16 → x.toInt = (i : Int) → ab_hp0 h1 → ab_fr [(187, 0, 15)] h1 h → (∀ q, q < i → hl h1 187 q = hl h 202 (16 * v + q)) → eg_find 0 ls = some (.ref 182) → eg_find 1 ls = some (.int y) → eg_find 2 ls = some (.int x) → hs sc sp 2117 11 d (fun pc' ls' st' h' => pc' = 89 ∧ st' = [] ∧ ab_hp0 h' ∧ ab_fr [(187, 0, 15)] h' h ∧ (∀ q, q < 16 → hl h' 187 q = hl h 202 (16 * v + q)) ∧ eg_find 0 ls' = some (.ref 182) ∧ eg_find 1 ls' = some (.int y)) 60 ls [] h1 := by
  intro r
  induction r with
  | zero =>
    intro i x ls h1 hr hx hp f1 hc l0 l1 l2
    refine hs_iload_n ci_2117_60 l2 ?_
    refine hs_bipush ci_2117_61 ?_
    refine hs_ic (t := 89) ci_2117_63 rfl (fun b63 => ?_) (fun b63 => ?_)
    · simp only [hs_cd, ab_not, kB_16] at b63
      exact hs_k ⟨rfl, rfl, hp, f1, fun q hq => hc q (by omega), l0, l1⟩
    · simp only [hs_cd, ab_not, kB_16] at b63
      omega
  | succ r ih =>
    intro i x ls h1 hr hx hp f1 hc l0 l1 l2
    have e16 : ((Int8.ofInt 16).toInt32 * y + x).toInt = ((16 * v + i : Nat) : Int) := (i32_add (i32_mul kB_16 hy (by omega) (by omega)) hx (by omega) (by omega)).trans (by omega)
    refine hs_iload_n ci_2117_60 l2 ?_
    refine hs_bipush ci_2117_61 ?_
    refine hs_ic (t := 89) ci_2117_63 rfl (fun b63 => ?_) (fun b63 => ?_)
    · simp only [hs_cd, ab_not, kB_16] at b63
      omega
    · simp only [hs_cd, ab_not, kB_16] at b63
      refine hs_aload_n ci_2117_66 l0 ?_
      refine hs_gfr 9 187 ci_2117_67 (by decide +kernel) hp ?_
      refine hs_iload_n ci_2117_70 l2 ?_
      refine hs_aload_n ci_2117_71 l0 ?_
      refine hs_gfr 52 202 ci_2117_72 (by decide +kernel) hp ?_
      refine hs_bipush ci_2117_75 ?_
      refine hs_iload_n ci_2117_77 l1 ?_
      refine hs_imul ci_2117_78 ?_
      refine hs_iload_n ci_2117_79 l2 ?_
      refine hs_iadd ci_2117_80 ?_
      refine hs_laload 32 ci_2117_81 (by decide +kernel) hp (by rw [e16]; omega) (by rw [e16]; omega) ?_
      refine hs_lastore 32 ci_2117_82 (by decide +kernel) hp (by omega) (by omega) ?_
      intro h82 w82
      replace hp := w82.1
      refine hs_iinc2 ci_2117_83 (by decide +kernel) l2 ?_
      intro ls9 q9
      replace l0 := q9.2 0 _ (by decide) (Or.inl rfl) l0
      replace l1 := q9.2 1 _ (by decide) (Or.inl rfl) l1
      have l2 := q9.1
      clear q9
      refine hs_goto (t := 60) ci_2117_86 rfl ?_
      have ei : x.toInt.toNat = i := by omega
      have ej : ((Int8.ofInt 16).toInt32 * y + x).toInt.toNat = 16 * v + i := by rw [e16]; omega
      rw [ei, ej] at w82
      have fw : ab_fr [(187, 0, 15)] h82 h1 := w82.fr (inr_on (by omega) (by omega))
      refine ih (i + 1) _ _ _ (by omega) (i32_inc hx (by omega) (by omega)) hp (fw.tr f1) (fun q hq => ?_) l0 l1 l2
      by_cases e : q = i
      · subst e
        rw [w82.v, if_pos ⟨rfl, rfl⟩, hl_same (f1 202 (16 * v + q) rfl)]
      · rw [w82.v, if_neg (by omega)]
        exact hc q (by omega)
