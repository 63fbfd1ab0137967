/-! BY HAND: the class reads a run of letters and digits -/
theorem ci_709_0 : ab_at 709 0 (.iconst 0) 1 = true := by decide +kernel
theorem ci_709_1 : ab_at 709 1 (.istore_n 2) 1 = true := by decide +kernel
theorem ci_709_2 : ab_at 709 2 (.iconst 0) 1 = true := by decide +kernel
theorem ci_709_3 : ab_at 709 3 (.istore_n 3) 1 = true := by decide +kernel
theorem ci_709_4 : ab_at 709 4 (.lconst 0) 1 = true := by decide +kernel
theorem ci_709_5 : ab_at 709 5 (.lstore 4) 2 = true := by decide +kernel
theorem ci_709_7 : ab_at 709 7 (.lconst 0) 1 = true := by decide +kernel
theorem ci_709_8 : ab_at 709 8 (.lstore 6) 2 = true := by decide +kernel
theorem ci_709_10 : ab_at 709 10 (.iload_n 1) 1 = true := by decide +kernel
theorem ci_709_11 : ab_at 709 11 (.istore 8) 2 = true := by decide +kernel
theorem ci_709_13 : ab_at 709 13 (.iload 8) 2 = true := by decide +kernel
theorem ci_709_15 : ab_at 709 15 (.aload_n 0) 1 = true := by decide +kernel
theorem ci_709_16 : ab_at 709 16 (.getfield 48) 3 = true := by decide +kernel
theorem ci_709_19 : ab_at 709 19 (.getfield 68) 3 = true := by decide +kernel
theorem ci_709_22 : ab_at 709 22 (.if_icmp .ge 69) 3 = true := by decide +kernel
theorem ci_709_25 : ab_at 709 25 (.aload_n 0) 1 = true := by decide +kernel
theorem ci_709_26 : ab_at 709 26 (.getfield 48) 3 = true := by decide +kernel
theorem ci_709_29 : ab_at 709 29 (.iload 8) 2 = true := by decide +kernel
theorem ci_709_31 : ab_at 709 31 (.invokevirtual 78) 3 = true := by decide +kernel
theorem ci_709_34 : ab_at 709 34 (.istore 9) 2 = true := by decide +kernel
theorem ci_709_36 : ab_at 709 36 (.iload 9) 2 = true := by decide +kernel
theorem ci_709_38 : ab_at 709 38 (.invokestatic 82) 3 = true := by decide +kernel
theorem ci_709_41 : ab_at 709 41 (.ifCond .eq 18) 3 = true := by decide +kernel
theorem ci_709_44 : ab_at 709 44 (.iinc 2 1) 3 = true := by decide +kernel
theorem ci_709_47 : ab_at 709 47 (.lload 4) 2 = true := by decide +kernel
theorem ci_709_49 : ab_at 709 49 (.iload 9) 2 = true := by decide +kernel
theorem ci_709_51 : ab_at 709 51 (.invokestatic 64) 3 = true := by decide +kernel
theorem ci_709_54 : ab_at 709 54 (.lstore 4) 2 = true := by decide +kernel
theorem ci_709_56 : ab_at 709 56 (.goto 29) 3 = true := by decide +kernel
theorem ci_709_59 : ab_at 709 59 (.iload 9) 2 = true := by decide +kernel
theorem ci_709_61 : ab_at 709 61 (.invokestatic 86) 3 = true := by decide +kernel
theorem ci_709_64 : ab_at 709 64 (.ifCond .eq 27) 3 = true := by decide +kernel
theorem ci_709_67 : ab_at 709 67 (.iinc 3 1) 3 = true := by decide +kernel
theorem ci_709_70 : ab_at 709 70 (.lload 6) 2 = true := by decide +kernel
theorem ci_709_72 : ab_at 709 72 (.ldc2_w 102) 3 = true := by decide +kernel
theorem ci_709_75 : ab_at 709 75 (.lmul) 1 = true := by decide +kernel
theorem ci_709_76 : ab_at 709 76 (.iload 9) 2 = true := by decide +kernel
theorem ci_709_78 : ab_at 709 78 (.bipush 48) 2 = true := by decide +kernel
theorem ci_709_80 : ab_at 709 80 (.isub) 1 = true := by decide +kernel
theorem ci_709_81 : ab_at 709 81 (.i2l) 1 = true := by decide +kernel
theorem ci_709_82 : ab_at 709 82 (.ladd) 1 = true := by decide +kernel
theorem ci_709_83 : ab_at 709 83 (.lstore 6) 2 = true := by decide +kernel
theorem ci_709_85 : ab_at 709 85 (.iinc 8 1) 3 = true := by decide +kernel
theorem ci_709_88 : ab_at 709 88 (.goto (-75)) 3 = true := by decide +kernel
theorem ci_709_91 : ab_at 709 91 (.iload_n 3) 1 = true := by decide +kernel
theorem ci_709_92 : ab_at 709 92 (.ifCond .ne 25) 3 = true := by decide +kernel
theorem ci_709_95 : ab_at 709 95 (.iload_n 2) 1 = true := by decide +kernel
theorem ci_709_96 : ab_at 709 96 (.bipush 7) 2 = true := by decide +kernel
theorem ci_709_98 : ab_at 709 98 (.if_icmp .gt 19) 3 = true := by decide +kernel
theorem ci_709_101 : ab_at 709 101 (.aload_n 0) 1 = true := by decide +kernel
theorem ci_709_102 : ab_at 709 102 (.aload_n 0) 1 = true := by decide +kernel
theorem ci_709_103 : ab_at 709 103 (.lload 4) 2 = true := by decide +kernel
theorem ci_709_105 : ab_at 709 105 (.invokevirtual 104) 3 = true := by decide +kernel
theorem ci_709_108 : ab_at 709 108 (.iload_n 1) 1 = true := by decide +kernel
theorem ci_709_109 : ab_at 709 109 (.lload 4) 2 = true := by decide +kernel
theorem ci_709_111 : ab_at 709 111 (.invokevirtual 98) 3 = true := by decide +kernel
theorem ci_709_114 : ab_at 709 114 (.goto 30) 3 = true := by decide +kernel
theorem ci_709_117 : ab_at 709 117 (.iload_n 2) 1 = true := by decide +kernel
theorem ci_709_118 : ab_at 709 118 (.ifCond .ne 19) 3 = true := by decide +kernel
theorem ci_709_121 : ab_at 709 121 (.iload_n 3) 1 = true := by decide +kernel
theorem ci_709_122 : ab_at 709 122 (.iconst 3) 1 = true := by decide +kernel
theorem ci_709_123 : ab_at 709 123 (.if_icmp .gt 14) 3 = true := by decide +kernel
theorem ci_709_126 : ab_at 709 126 (.aload_n 0) 1 = true := by decide +kernel
theorem ci_709_127 : ab_at 709 127 (.iconst 2) 1 = true := by decide +kernel
theorem ci_709_128 : ab_at 709 128 (.iload_n 1) 1 = true := by decide +kernel
theorem ci_709_129 : ab_at 709 129 (.lload 6) 2 = true := by decide +kernel
theorem ci_709_131 : ab_at 709 131 (.invokevirtual 98) 3 = true := by decide +kernel
theorem ci_709_134 : ab_at 709 134 (.goto 10) 3 = true := by decide +kernel
theorem ci_709_137 : ab_at 709 137 (.aload_n 0) 1 = true := by decide +kernel
theorem ci_709_138 : ab_at 709 138 (.iconst 3) 1 = true := by decide +kernel
theorem ci_709_139 : ab_at 709 139 (.iload_n 1) 1 = true := by decide +kernel
theorem ci_709_140 : ab_at 709 140 (.lconst 0) 1 = true := by decide +kernel
theorem ci_709_141 : ab_at 709 141 (.invokevirtual 98) 3 = true := by decide +kernel
theorem ci_709_144 : ab_at 709 144 (.iload 8) 2 = true := by decide +kernel
theorem ml_225 : (eg_md 225).2.2.1 = 3 := by decide +kernel
theorem ml_699 : (eg_md 699).2.2.1 = 2 := by decide +kernel
theorem ml_702 : (eg_md 702).2.2.1 = 1 := by decide +kernel
theorem ml_705 : (eg_md 705).2.2.1 = 1 := by decide +kernel
theorem ml_714 : (eg_md 714).2.2.1 = 4 := by decide +kernel
theorem ml_718 : (eg_md 718).2.2.1 = 5 := by decide +kernel
theorem kB_7 : (Int8.ofInt (7)).toInt32.toInt = 7 := by decide +kernel
theorem kI_2 : (Int32.ofInt (2)).toInt = 2 := by decide +kernel
theorem kI_3 : (Int32.ofInt (3)).toInt = 3 := by decide +kernel
/-- an entry of the class's row of tokens -/
def en_K (h : eg_H) (v : Int64) (k : Int) : Prop := (∃ j : Nat, j < 23 ∧ k = 200 + (j : Int) ∧ hl h 4 j = v) ∨ (k = 1 ∧ ∀ j, j < 23 → hl h 4 j ≠ v)
def en_C (h : eg_H) (j : Nat) (t : tx_K) (a : Nat) : Prop := (hv h 6 j).toInt = (a : Int) ∧ (match t with
  | (0, _) => (hv h 5 j).toInt = 0
  | (1, _) => (hv h 5 j).toInt = 3
  | (2, c, _) => (hv h 5 j).toInt = c ∧ tx_s c
  | (3, v, _) => (hv h 5 j).toInt = 2 ∧ (hl h 7 j).toInt = v
  | (_, a, b) => (hl h 7 j).toInt = a ∧ tx_co a b ∧ en_K h (hl h 7 j) (hv h 5 j).toInt)
/-- what is known ahead of the byte i of a run that began at q -/
def rr_I (h : eg_H) (q i : Nat) (L D : Int) (w nm : Int64) : Prop := L + D = (i : Int) - (q : Int) ∧ 0 ≤ L ∧ 0 ≤ D ∧ (∀ r, q ≤ r → r < i → tx_r (bA h r)) ∧ (D = 0 → tx_lt (bA h) q i) ∧ (0 < D → ¬ tx_lt (bA h) q i) ∧ (L = 0 → tx_dg (bA h) q i) ∧ (0 < L → ¬ tx_dg (bA h) q i) ∧ (D = 0 → L ≤ 7 → w.toInt = tx_27 (bA h) q (i - q)) ∧ (L = 0 → D ≤ 3 → nm.toInt = tx_10 (bA h) q (i - q))
theorem pw_27 {k : Nat} (h : k ≤ 6) : (27 : Int) ^ k ≤ 387420489 := by
  have : k = 0 ∨ k = 1 ∨ k = 2 ∨ k = 3 ∨ k = 4 ∨ k = 5 ∨ k = 6 := by omega
  rcases this with rfl | rfl | rfl | rfl | rfl | rfl | rfl <;> decide
theorem tx_10_b {B : Nat → Int} {q : Nat} : ∀ k, (∀ j, j < k → tx_d (B (q + j))) → 0 ≤ tx_10 B q k ∧ tx_10 B q k < 10 ^ k
  | 0, _ => ⟨Int.le_refl _, show (0 : Int) < 1 by decide⟩
  | k + 1, h => by
    obtain ⟨ih1, ih2⟩ := tx_10_b k (fun j hj => h j (by omega))
    obtain ⟨h1, h2⟩ := h k (by omega)
    unfold tx_10
    rw [Int.pow_succ]
    exact ⟨by omega, by omega⟩
theorem pw_10 {k : Nat} (h : k ≤ 2) : (10 : Int) ^ k ≤ 100 := by
  have : k = 0 ∨ k = 1 ∨ k = 2 := by omega
  rcases this with rfl | rfl | rfl <;> decide
theorem rr_0 {h : eg_H} {q : Nat} : rr_I h q q 0 0 0 0 := by
  have e : q - q = 0 := by omega
  refine ⟨by omega, by omega, by omega, fun r h1 h2 => by omega, fun _ r h1 h2 => by omega, fun h => by omega, fun _ r h1 h2 => by omega, fun h => by omega, fun _ _ => ?_, fun _ _ => ?_⟩
  · rw [e]; rfl
  · rw [e]; rfl
/-- a letter more -/
theorem rr_l {h : eg_H} {q i : Nat} {L D : Int} {w nm : Int64} {x : Int32} (s : rr_I h q i L D w nm) (hi : q ≤ i) (hx : x.toInt = bA h i) (hl : tx_l x.toInt) : rr_I h q (i + 1) (L + 1) D (wl_v w x) nm := by
  obtain ⟨s1, s2, s3, s4, s5, s6, s7, s8, s9, s10⟩ := s
  have hb : tx_l (bA h i) := by rw [← hx]; exact hl
  refine ⟨by omega, by omega, s3, fun r h1 h2 => ?_, fun hD r h1 h2 => ?_, fun hD hlt => s6 hD (fun r h1 h2 => hlt r h1 (by omega)), fun h0 => by omega, fun _ hdg => ?_, fun hD h7 => ?_, fun h0 => by omega⟩
  · by_cases e : r = i
    · subst e; exact Or.inl hb
    · exact s4 r h1 (by omega)
  · by_cases e : r = i
    · subst e; exact hb
    · exact s5 hD r h1 (by omega)
  · obtain ⟨a1, a2⟩ := hdg i hi (by omega)
    obtain ⟨a3, a4⟩ := hb
    omega
  · have e1 : i + 1 - q = (i - q) + 1 := by omega
    have e2 : q + (i - q) = i := by omega
    have hlt := s5 hD
    have hb6 : tx_27 (bA h) q (i - q) < 27 ^ (i - q) := tx_27_lt (i - q) (fun j hj => hlt (q + j) (by omega) (by omega))
    have hp6 := pw_27 (k := i - q) (by omega)
    have hp0 := (tx_27_pos (B := bA h) (q := q) (i - q) (fun j hj => hlt (q + j) (by omega) (by omega))).1
    rw [e1]
    unfold tx_27
    rw [e2, wl_i (s9 hD (by omega)) hp0 (by omega) hl, hx]
/-- a digit more -/
theorem rr_d {h : eg_H} {q i : Nat} {L D : Int} {w nm : Int64} {x : Int32} (s : rr_I h q i L D w nm) (hi : q ≤ i) (hx : x.toInt = bA h i) (hd : tx_d x.toInt) : rr_I h q (i + 1) L (D + 1) w (nm * 10 + (x - (Int8.ofInt 48).toInt32).toInt64) := by
  obtain ⟨s1, s2, s3, s4, s5, s6, s7, s8, s9, s10⟩ := s
  have hb : tx_d (bA h i) := by rw [← hx]; exact hd
  refine ⟨by omega, s2, by omega, fun r h1 h2 => ?_, fun h0 => by omega, fun _ hlt => ?_, fun hL r h1 h2 => ?_, fun hL hdg => s8 hL (fun r h1 h2 => hdg r h1 (by omega)), fun h0 => by omega, fun hL h3 => ?_⟩
  · by_cases e : r = i
    · subst e; exact Or.inr hb
    · exact s4 r h1 (by omega)
  · obtain ⟨a1, a2⟩ := hlt i hi (by omega)
    obtain ⟨a3, a4⟩ := hb
    omega
  · by_cases e : r = i
    · subst e; exact hb
    · exact s7 hL r h1 (by omega)
  · have e1 : i + 1 - q = (i - q) + 1 := by omega
    have e2 : q + (i - q) = i := by omega
    have hdg := s7 hL
    obtain ⟨hp0, hb6⟩ := tx_10_b (B := bA h) (q := q) (i - q) (fun j hj => hdg (q + j) (by omega) (by omega))
    have hp6 := pw_10 (k := i - q) (by omega)
    obtain ⟨d1, d2⟩ := hd
    have g1 : (x - (Int8.ofInt 48).toInt32).toInt = x.toInt - 48 := i32_sub rfl rfl (by omega) (by omega)
    have g2 : (nm * 10).toInt = tx_10 (bA h) q (i - q) * 10 := i64_mul (s10 hL (by omega)) (by decide) (by omega) (by omega)
    have g3 : (nm * 10 + (x - (Int8.ofInt 48).toInt32).toInt64).toInt = tx_10 (bA h) q (i - q) * 10 + (x.toInt - 48) := i64_add g2 ((i64_of32 _).trans g1) (by omega) (by omega)
    rw [e1]
    unfold tx_10
    rw [e2, g3, hx]
/-- the loop comes to its end -/
def rr_E (h : eg_H) (q : Nat) (xq : Int32) (pc' : Nat) (ls' : eg_L) (st' : List Value) (h' : eg_H) : Prop := pc' = 91 ∧ st' = [] ∧ h' = h ∧ ∃ (i : Nat) (xi L D : Int32) (w nm : Int64), eg_find 0 ls' = some (.ref 3) ∧ eg_find 1 ls' = some (.int xq) ∧ eg_find 2 ls' = some (.int L) ∧ eg_find 3 ls' = some (.int D) ∧ eg_find 4 ls' = some (.long w) ∧ eg_find 6 ls' = some (.long nm) ∧ eg_find 8 ls' = some (.int xi) ∧ xi.toInt = (i : Int) ∧ q ≤ i ∧ (i : Int) ≤ (hv h 1 1).toInt ∧ rr_I h q i L.toInt D.toInt w nm ∧ ((i : Int) < (hv h 1 1).toInt → ¬ tx_r (bA h i))
theorem rr_loop {sc : List Value} {sp d : Nat} {h : eg_H} {q : Nat} {xq : Int32} (hq : ab_hp h) : ∀ (m i : Nat) (xi L D : Int32) (w nm : Int64) (ls : eg_L), (i : Int) + (m : Int) = (hv h 1 1).toInt → q ≤ i → xi.toInt = (i : Int) → rr_I h q i L.toInt D.toInt w nm → eg_find 0 ls = some (.ref 3) → eg_find 1 ls = some (.int xq) → eg_find 2 ls = some (.int L) → eg_find 3 ls = some (.int D) → eg_find 4 ls = some (.long w) → eg_find 6 ls = some (.long nm) → eg_find 8 ls = some (.int xi) → hs sc sp 709 8 (d + 1) (rr_E h q xq) 13 ls [] h := by
  have hp := hq.1
  obtain ⟨-, n2, n3⟩ := sb_v (a := 1) (k := 1) (lo := .ofNat 0) (hi := .ofNat 940) hq (by decide +kernel)
  have n2 : (0 : Int) ≤ (hv h 1 1).toInt := n2
  have n3 : (hv h 1 1).toInt ≤ (940 : Int) := n3
  intro m
  induction m with
  | zero =>
    intro i xi L D w nm ls hm hqi hxi s l0 l1 l2 l3 l4 l6 l8
    refine hs_iload ci_709_13 l8 ?_
    refine hs_aload_n ci_709_15 l0 ?_
    refine hs_gfr 0 1 ci_709_16 (by decide +kernel) hp ?_
    refine hs_gfi 1 ci_709_19 (by decide +kernel) hp ?_
    refine hs_ic (t := 91) ci_709_22 rfl (fun b22 => ?_) (fun b22 => ?_)
    · simp only [hs_cd, ab_not] at b22
      exact hs_k ⟨rfl, rfl, rfl, i, xi, L, D, w, nm, l0, l1, l2, l3, l4, l6, l8, hxi, hqi, by omega, s, fun q9 => by omega⟩
    · simp only [hs_cd, ab_not] at b22
      omega
  | succ m ih =>
    intro i xi L D w nm ls hm hqi hxi s l0 l1 l2 l3 l4 l6 l8
    refine hs_iload ci_709_13 l8 ?_
    refine hs_aload_n ci_709_15 l0 ?_
    refine hs_gfr 0 1 ci_709_16 (by decide +kernel) hp ?_
    refine hs_gfi 1 ci_709_19 (by decide +kernel) hp ?_
    refine hs_ic (t := 91) ci_709_22 rfl (fun b22 => ?_) (fun b22 => ?_)
    · simp only [hs_cd, ab_not] at b22
      exact hs_k ⟨rfl, rfl, rfl, i, xi, L, D, w, nm, l0, l1, l2, l3, l4, l6, l8, hxi, hqi, by omega, s, fun q9 => by omega⟩
    · simp only [hs_cd, ab_not] at b22
      refine hs_aload_n ci_709_25 l0 ?_
      refine hs_gfr 0 1 ci_709_26 (by decide +kernel) hp ?_
      refine hs_iload ci_709_29 l8 ?_
      refine hs_cv 699 7 1 ci_709_31 (by decide +kernel) (by decide +kernel) hp rfl (by rw [ml_699]; rfl) (k_byte xi hq) ?_
      rintro v9 h9 ⟨e9, xc, e8, hb⟩
      rw [e8, e9]
      clear e8 e9 v9 h9
      have hxc : xc.toInt = bA h i := by
        rcases hb with ⟨-, -, g⟩ | ⟨g, -⟩
        · have e7 : xi.toInt.toNat = i := by omega
          rw [g, e7]
        · omega
      simp only [Option.toList, List.cons_append, List.nil_append]
      refine hs_istore2 ci_709_34 (by decide +kernel) ?_
      intro ls9 q9
      replace l0 := q9.2 0 _ (by decide) (Or.inl rfl) l0
      replace l1 := q9.2 1 _ (by decide) (Or.inl rfl) l1
      replace l2 := q9.2 2 _ (by decide) (Or.inl rfl) l2
      replace l3 := q9.2 3 _ (by decide) (Or.inl rfl) l3
      replace l4 := q9.2 4 _ (by decide) (Or.inr (by decide)) l4
      replace l6 := q9.2 6 _ (by decide) (Or.inr (by decide)) l6
      replace l8 := q9.2 8 _ (by decide) (Or.inl rfl) l8
      have l9 := q9.1
      clear q9
      refine hs_iload ci_709_36 l9 ?_
      refine hs_cs 702 8 1 ci_709_38 (by decide +kernel) rfl (by rw [ml_702]; rfl) (k_isL xc) ?_
      rintro v9 h9 ⟨e9, r1, e8, hr1⟩
      rw [e8, e9]
      clear e8 e9 v9 h9
      simp only [Option.toList, List.cons_append, List.nil_append]
      refine hs_if (t := 59) ci_709_41 rfl (fun b41 => ?_) (fun b41 => ?_)
      · simp only [hs_cd, ab_not] at b41
        refine hs_iload ci_709_59 l9 ?_
        refine hs_cs 705 8 1 ci_709_61 (by decide +kernel) rfl (by rw [ml_705]; rfl) (k_isD xc) ?_
        rintro v9 h9 ⟨e9, r2, e8, hr2⟩
        rw [e8, e9]
        clear e8 e9 v9 h9
        simp only [Option.toList, List.cons_append, List.nil_append]
        refine hs_if (t := 91) ci_709_64 rfl (fun b64 => ?_) (fun b64 => ?_)
        · simp only [hs_cd, ab_not] at b64
          refine hs_k ⟨rfl, rfl, rfl, i, xi, L, D, w, nm, l0, l1, l2, l3, l4, l6, l8, hxi, hqi, by omega, s, fun _ g => ?_⟩
          rcases g with g | g
          · rcases hr1 with ⟨q1, -⟩ | ⟨-, q2⟩
            · omega
            · exact q2 (by rw [hxc]; exact g)
          · rcases hr2 with ⟨q1, -⟩ | ⟨-, q2⟩
            · omega
            · exact q2 (by rw [hxc]; exact g)
        · simp only [hs_cd, ab_not] at b64
          refine hs_iinc2 ci_709_67 (by decide +kernel) l3 ?_
          intro ls9 q9
          replace l0 := q9.2 0 _ (by decide) (Or.inl rfl) l0
          replace l1 := q9.2 1 _ (by decide) (Or.inl rfl) l1
          replace l2 := q9.2 2 _ (by decide) (Or.inl rfl) l2
          replace l4 := q9.2 4 _ (by decide) (Or.inr (by decide)) l4
          replace l6 := q9.2 6 _ (by decide) (Or.inr (by decide)) l6
          replace l8 := q9.2 8 _ (by decide) (Or.inl rfl) l8
          replace l9 := q9.2 9 _ (by decide) (Or.inl rfl) l9
          have l3 := q9.1
          clear q9
          refine hs_lload ci_709_70 l6 ?_
          refine hs_ldc2v (10) ci_709_72 (by decide +kernel) ?_
          refine hs_lmul ci_709_75 ?_
          refine hs_iload ci_709_76 l9 ?_
          refine hs_bipush ci_709_78 ?_
          refine hs_isub ci_709_80 ?_
          refine hs_i2l ci_709_81 ?_
          refine hs_ladd ci_709_82 ?_
          refine hs_lstore ci_709_83 (by decide +kernel) ?_
          intro ls9 q9
          replace l0 := q9.2 0 _ (by decide) (by decide) (Or.inl rfl) l0
          replace l1 := q9.2 1 _ (by decide) (by decide) (Or.inl rfl) l1
          replace l2 := q9.2 2 _ (by decide) (by decide) (Or.inl rfl) l2
          replace l3 := q9.2 3 _ (by decide) (by decide) (Or.inl rfl) l3
          replace l4 := q9.2 4 _ (by decide) (by decide) (Or.inr (by decide)) l4
          replace l8 := q9.2 8 _ (by decide) (by decide) (Or.inl rfl) l8
          replace l9 := q9.2 9 _ (by decide) (by decide) (Or.inl rfl) l9
          have l6 := q9.1
          clear q9
          refine hs_iinc2 ci_709_85 (by decide +kernel) l8 ?_
          intro ls9 q9
          replace l0 := q9.2 0 _ (by decide) (Or.inl rfl) l0
          replace l1 := q9.2 1 _ (by decide) (Or.inl rfl) l1
          replace l2 := q9.2 2 _ (by decide) (Or.inl rfl) l2
          replace l3 := q9.2 3 _ (by decide) (Or.inl rfl) l3
          replace l4 := q9.2 4 _ (by decide) (Or.inr (by decide)) l4
          replace l6 := q9.2 6 _ (by decide) (Or.inr (by decide)) l6
          replace l9 := q9.2 9 _ (by decide) (Or.inl rfl) l9
          have l8 := q9.1
          clear q9
          refine hs_goto (t := 13) ci_709_88 rfl ?_
          have sb := s
          obtain ⟨s1, s2, s3, -⟩ := sb
          have eD : (D + Int32.ofInt 1).toInt = D.toInt + 1 := i32_add rfl rfl (by omega) (by omega)
          have hd : tx_d xc.toInt := by
            rcases hr2 with ⟨-, q2⟩ | ⟨q1, -⟩
            · exact q2
            · omega
          exact ih (i + 1) _ _ _ _ _ _ (by omega) (by omega) (i32_add hxi (b := 1) rfl (by omega) (by omega)) (by rw [eD]; exact rr_d s hqi hxc hd) l0 l1 l2 l3 l4 l6 l8
      · simp only [hs_cd, ab_not] at b41
        refine hs_iinc2 ci_709_44 (by decide +kernel) l2 ?_
        intro ls9 q9
        replace l0 := q9.2 0 _ (by decide) (Or.inl rfl) l0
        replace l1 := q9.2 1 _ (by decide) (Or.inl rfl) l1
        replace l3 := q9.2 3 _ (by decide) (Or.inl rfl) l3
        replace l4 := q9.2 4 _ (by decide) (Or.inr (by decide)) l4
        replace l6 := q9.2 6 _ (by decide) (Or.inr (by decide)) l6
        replace l8 := q9.2 8 _ (by decide) (Or.inl rfl) l8
        replace l9 := q9.2 9 _ (by decide) (Or.inl rfl) l9
        have l2 := q9.1
        clear q9
        refine hs_lload ci_709_47 l4 ?_
        refine hs_iload ci_709_49 l9 ?_
        refine hs_cs 225 8 2 ci_709_51 (by decide +kernel) rfl (by rw [ml_225]; rfl) (k_with w xc) ?_
        rintro v9 h9 ⟨e9, e8⟩
        rw [e8, e9]
        clear e8 e9 v9 h9
        simp only [Option.toList, List.cons_append, List.nil_append]
        refine hs_lstore ci_709_54 (by decide +kernel) ?_
        intro ls9 q9
        replace l0 := q9.2 0 _ (by decide) (by decide) (Or.inl rfl) l0
        replace l1 := q9.2 1 _ (by decide) (by decide) (Or.inl rfl) l1
        replace l2 := q9.2 2 _ (by decide) (by decide) (Or.inl rfl) l2
        replace l3 := q9.2 3 _ (by decide) (by decide) (Or.inl rfl) l3
        replace l6 := q9.2 6 _ (by decide) (by decide) (Or.inr (by decide)) l6
        replace l8 := q9.2 8 _ (by decide) (by decide) (Or.inl rfl) l8
        replace l9 := q9.2 9 _ (by decide) (by decide) (Or.inl rfl) l9
        have l4 := q9.1
        clear q9
        refine hs_goto (t := 85) ci_709_56 rfl ?_
        refine hs_iinc2 ci_709_85 (by decide +kernel) l8 ?_
        intro ls9 q9
        replace l0 := q9.2 0 _ (by decide) (Or.inl rfl) l0
        replace l1 := q9.2 1 _ (by decide) (Or.inl rfl) l1
        replace l2 := q9.2 2 _ (by decide) (Or.inl rfl) l2
        replace l3 := q9.2 3 _ (by decide) (Or.inl rfl) l3
        replace l4 := q9.2 4 _ (by decide) (Or.inr (by decide)) l4
        replace l6 := q9.2 6 _ (by decide) (Or.inr (by decide)) l6
        replace l9 := q9.2 9 _ (by decide) (Or.inl rfl) l9
        have l8 := q9.1
        clear q9
        refine hs_goto (t := 13) ci_709_88 rfl ?_
        have sb := s
        obtain ⟨s1, s2, s3, -⟩ := sb
        have eL : (L + Int32.ofInt 1).toInt = L.toInt + 1 := i32_add rfl rfl (by omega) (by omega)
        have hl : tx_l xc.toInt := by
          rcases hr1 with ⟨-, q2⟩ | ⟨q1, -⟩
          · exact q2
          · omega
        exact ih (i + 1) _ _ _ _ _ _ (by omega) (by omega) (i32_add hxi (b := 1) rfl (by omega) (by omega)) (by rw [eL]; exact rr_l s hqi hxc hl) l0 l1 l2 l3 l4 l6 l8
def rr_P (h : eg_H) (q : Nat) (vo : Option Value) (h' : eg_H) : Prop := ∃ (e : Nat) (r : Int32) (t : tx_K), vo = some (.int r) ∧ r.toInt = (e : Int) ∧ tx_ru (bA h) (hv h 1 1).toInt.toNat q e ∧ tx_rt (bA h) q e t ∧ ab_hp h' ∧ ab_fr MAT h' h ∧ (∀ b j, b = 5 ∨ b = 6 ∨ b = 7 → j ≠ (hv h 3 5).toInt.toNat → ab_slot h' b j = ab_slot h b j) ∧ en_C h' (hv h 3 5).toInt.toNat t q ∧ (hv h' 3 5).toInt = (hv h 3 5).toInt + 1
theorem rt_709 : (eg_md 709).2.2.2 = some .int := by decide +kernel
theorem k_run {sc : List Value} {sp d : Nat} {h : eg_H} {q : Nat} {xq : Int32} (hq : ab_hp h) (hxq : xq.toInt = (q : Int)) (hqn : (q : Int) < (hv h 1 1).toInt) (hrq : tx_r (bA h q)) (hm : (hv h 3 5).toInt < 941) : mc sc sp 709 8 (d + 1) [.ref 3, .int xq] h (rr_P h q) := by
  have l0 : eg_find 0 (eg_args 0 [.ref 3, .int xq]) = some (.ref 3) := rfl
  have l1 : eg_find 1 (eg_args 0 [.ref 3, .int xq]) = some (.int xq) := rfl
  have hp := hq.1
  obtain ⟨-, n2, n3⟩ := sb_v (a := 1) (k := 1) (lo := .ofNat 0) (hi := .ofNat 940) hq (by decide +kernel)
  have n2 : (0 : Int) ≤ (hv h 1 1).toInt := n2
  have n3 : (hv h 1 1).toInt ≤ (940 : Int) := n3
  unfold mc
  refine hs_iconst ci_709_0 ?_
  refine hs_istore2_n ci_709_1 (by decide +kernel) ?_
  intro ls9 q9
  replace l0 := q9.2 0 _ (by decide) (Or.inl rfl) l0
  replace l1 := q9.2 1 _ (by decide) (Or.inl rfl) l1
  have l2 := q9.1
  clear q9
  refine hs_iconst ci_709_2 ?_
  refine hs_istore2_n ci_709_3 (by decide +kernel) ?_
  intro ls9 q9
  replace l0 := q9.2 0 _ (by decide) (Or.inl rfl) l0
  replace l1 := q9.2 1 _ (by decide) (Or.inl rfl) l1
  replace l2 := q9.2 2 _ (by decide) (Or.inl rfl) l2
  have l3 := q9.1
  clear q9
  refine hs_lconst ci_709_4 ?_
  refine hs_lstore ci_709_5 (by decide +kernel) ?_
  intro ls9 q9
  replace l0 := q9.2 0 _ (by decide) (by decide) (Or.inl rfl) l0
  replace l1 := q9.2 1 _ (by decide) (by decide) (Or.inl rfl) l1
  replace l2 := q9.2 2 _ (by decide) (by decide) (Or.inl rfl) l2
  replace l3 := q9.2 3 _ (by decide) (by decide) (Or.inl rfl) l3
  have l4 := q9.1
  clear q9
  refine hs_lconst ci_709_7 ?_
  refine hs_lstore ci_709_8 (by decide +kernel) ?_
  intro ls9 q9
  replace l0 := q9.2 0 _ (by decide) (by decide) (Or.inl rfl) l0
  replace l1 := q9.2 1 _ (by decide) (by decide) (Or.inl rfl) l1
  replace l2 := q9.2 2 _ (by decide) (by decide) (Or.inl rfl) l2
  replace l3 := q9.2 3 _ (by decide) (by decide) (Or.inl rfl) l3
  replace l4 := q9.2 4 _ (by decide) (by decide) (Or.inr (by decide)) l4
  have l6 := q9.1
  clear q9
  refine hs_iload_n ci_709_10 l1 ?_
  refine hs_istore2 ci_709_11 (by decide +kernel) ?_
  intro ls9 q9
  replace l0 := q9.2 0 _ (by decide) (Or.inl rfl) l0
  replace l1 := q9.2 1 _ (by decide) (Or.inl rfl) l1
  replace l2 := q9.2 2 _ (by decide) (Or.inl rfl) l2
  replace l3 := q9.2 3 _ (by decide) (Or.inl rfl) l3
  replace l4 := q9.2 4 _ (by decide) (Or.inr (by decide)) l4
  replace l6 := q9.2 6 _ (by decide) (Or.inr (by decide)) l6
  have l8 := q9.1
  clear q9
  refine hs.bind (rr_loop (q := q) (xq := xq) hq ((hv h 1 1).toInt.toNat - q) q _ _ _ _ _ _ (by omega) (Nat.le_refl _) hxq rr_0 l0 l1 l2 l3 l4 l6 l8) ?_
  clear l0 l1 l2 l3 l4 l6 l8
  rintro pc9 ls9 st9 h9 ⟨rfl, rfl, e9, i, xi, L, D, w, nm, l0, l1, l2, l3, l4, l6, l8, hxi, hqi, hin, s, hend⟩
  rw [e9]
  clear e9 h9
  obtain ⟨s1, s2, s3, s4, s5, s6, s7, s8, s9, s10⟩ := s
  have hqi2 : q < i := by
    rcases Nat.lt_or_eq_of_le hqi with g | g
    · exact g
    · subst g
      exact absurd hrq (hend hqn)
  have hrun : tx_ru (bA h) (hv h 1 1).toInt.toNat q i := ⟨hqi2, by omega, s4, fun g => hend (by omega)⟩
  refine hs_iload_n ci_709_91 l3 ?_
  refine hs_if (t := 117) ci_709_92 rfl (fun b92 => ?_) (fun b92 => ?_)
  · simp only [hs_cd, ab_not] at b92
    refine hs_iload_n ci_709_117 l2 ?_
    refine hs_if (t := 137) ci_709_118 rfl (fun b118 => ?_) (fun b118 => ?_)
    · simp only [hs_cd, ab_not] at b118
      refine hs_aload_n ci_709_137 l0 ?_
      refine hs_iconst ci_709_138 ?_
      refine hs_iload_n ci_709_139 l1 ?_
      refine hs_lconst ci_709_140 ?_
      refine hs_cv 718 8 3 ci_709_141 (by decide +kernel) (by decide +kernel) hp rfl (by rw [ml_718]; rfl) (k_add (Int32.ofInt 3) xq (Int64.ofNat 0) hq hm) ?_
      rintro v9 h5 ⟨e8, a1, a2, a3, a4, a5, a6, a7⟩
      rw [e8]
      clear e8 v9
      simp only [Option.toList, List.cons_append, List.nil_append]
      refine hs_iload ci_709_144 l8 ?_
      refine hs_k ⟨3, _, by decide +kernel, by rw [rt_709]; rfl, i, xi, tx_no, rfl, hxi, hrun, Or.inr (Or.inr ⟨fun g => s6 (by omega) g.1, fun g => s8 (by omega) g.1, rfl⟩), a1, a2, a3, ⟨by rw [a5]; exact hxq, by show (hv h5 5 _).toInt = 3; rw [a4]; decide⟩, a7⟩
    · simp only [hs_cd, ab_not] at b118
      refine hs_iload_n ci_709_121 l3 ?_
      refine hs_iconst ci_709_122 ?_
      refine hs_ic (t := 137) ci_709_123 rfl (fun b123 => ?_) (fun b123 => ?_)
      · simp only [hs_cd, ab_not, kI_3] at b123
        refine hs_aload_n ci_709_137 l0 ?_
        refine hs_iconst ci_709_138 ?_
        refine hs_iload_n ci_709_139 l1 ?_
        refine hs_lconst ci_709_140 ?_
        refine hs_cv 718 8 3 ci_709_141 (by decide +kernel) (by decide +kernel) hp rfl (by rw [ml_718]; rfl) (k_add (Int32.ofInt 3) xq (Int64.ofNat 0) hq hm) ?_
        rintro v9 h5 ⟨e8, a1, a2, a3, a4, a5, a6, a7⟩
        rw [e8]
        clear e8 v9
        simp only [Option.toList, List.cons_append, List.nil_append]
        refine hs_iload ci_709_144 l8 ?_
        refine hs_k ⟨3, _, by decide +kernel, by rw [rt_709]; rfl, i, xi, tx_no, rfl, hxi, hrun, Or.inr (Or.inr ⟨fun g => s6 (by omega) g.1, fun g => by have := g.2; omega, rfl⟩), a1, a2, a3, ⟨by rw [a5]; exact hxq, by show (hv h5 5 _).toInt = 3; rw [a4]; decide⟩, a7⟩
      · simp only [hs_cd, ab_not, kI_3] at b123
        refine hs_aload_n ci_709_126 l0 ?_
        refine hs_iconst ci_709_127 ?_
        refine hs_iload_n ci_709_128 l1 ?_
        refine hs_lload ci_709_129 l6 ?_
        refine hs_cv 718 8 3 ci_709_131 (by decide +kernel) (by decide +kernel) hp rfl (by rw [ml_718]; rfl) (k_add (Int32.ofInt 2) xq nm hq hm) ?_
        rintro v9 h5 ⟨e8, a1, a2, a3, a4, a5, a6, a7⟩
        rw [e8]
        clear e8 v9
        simp only [Option.toList, List.cons_append, List.nil_append]
        refine hs_goto (t := 144) ci_709_134 rfl ?_
        refine hs_iload ci_709_144 l8 ?_
        refine hs_k ⟨3, _, by decide +kernel, by rw [rt_709]; rfl, i, xi, (tx_nb (tx_10 (bA h) q (i - q))), rfl, hxi, hrun, Or.inr (Or.inl ⟨s7 (by omega), by omega, rfl⟩), a1, a2, a3, ⟨by rw [a5]; exact hxq, by rw [a4]; decide, by rw [a6]; exact s10 (by omega) (by omega)⟩, a7⟩
  · simp only [hs_cd, ab_not] at b92
    refine hs_iload_n ci_709_95 l2 ?_
    refine hs_bipush ci_709_96 ?_
    refine hs_ic (t := 117) ci_709_98 rfl (fun b98 => ?_) (fun b98 => ?_)
    · simp only [hs_cd, ab_not, kB_7] at b98
      refine hs_iload_n ci_709_117 l2 ?_
      refine hs_if (t := 137) ci_709_118 rfl (fun b118 => ?_) (fun b118 => ?_)
      · simp only [hs_cd, ab_not] at b118
        refine hs_aload_n ci_709_137 l0 ?_
        refine hs_iconst ci_709_138 ?_
        refine hs_iload_n ci_709_139 l1 ?_
        refine hs_lconst ci_709_140 ?_
        refine hs_cv 718 8 3 ci_709_141 (by decide +kernel) (by decide +kernel) hp rfl (by rw [ml_718]; rfl) (k_add (Int32.ofInt 3) xq (Int64.ofNat 0) hq hm) ?_
        rintro v9 h5 ⟨e8, a1, a2, a3, a4, a5, a6, a7⟩
        rw [e8]
        clear e8 v9
        simp only [Option.toList, List.cons_append, List.nil_append]
        refine hs_iload ci_709_144 l8 ?_
        refine hs_k ⟨3, _, by decide +kernel, by rw [rt_709]; rfl, i, xi, tx_no, rfl, hxi, hrun, Or.inr (Or.inr ⟨fun g => by have := g.2; omega, fun g => s8 (by omega) g.1, rfl⟩), a1, a2, a3, ⟨by rw [a5]; exact hxq, by show (hv h5 5 _).toInt = 3; rw [a4]; decide⟩, a7⟩
      · simp only [hs_cd, ab_not] at b118
        refine hs_iload_n ci_709_121 l3 ?_
        refine hs_iconst ci_709_122 ?_
        refine hs_ic (t := 137) ci_709_123 rfl (fun b123 => ?_) (fun b123 => ?_)
        · simp only [hs_cd, ab_not, kI_3] at b123
          refine hs_aload_n ci_709_137 l0 ?_
          refine hs_iconst ci_709_138 ?_
          refine hs_iload_n ci_709_139 l1 ?_
          refine hs_lconst ci_709_140 ?_
          refine hs_cv 718 8 3 ci_709_141 (by decide +kernel) (by decide +kernel) hp rfl (by rw [ml_718]; rfl) (k_add (Int32.ofInt 3) xq (Int64.ofNat 0) hq hm) ?_
          rintro v9 h5 ⟨e8, a1, a2, a3, a4, a5, a6, a7⟩
          rw [e8]
          clear e8 v9
          simp only [Option.toList, List.cons_append, List.nil_append]
          refine hs_iload ci_709_144 l8 ?_
          exfalso; omega
        · simp only [hs_cd, ab_not, kI_3] at b123
          refine hs_aload_n ci_709_126 l0 ?_
          refine hs_iconst ci_709_127 ?_
          refine hs_iload_n ci_709_128 l1 ?_
          refine hs_lload ci_709_129 l6 ?_
          refine hs_cv 718 8 3 ci_709_131 (by decide +kernel) (by decide +kernel) hp rfl (by rw [ml_718]; rfl) (k_add (Int32.ofInt 2) xq nm hq hm) ?_
          rintro v9 h5 ⟨e8, a1, a2, a3, a4, a5, a6, a7⟩
          rw [e8]
          clear e8 v9
          simp only [Option.toList, List.cons_append, List.nil_append]
          refine hs_goto (t := 144) ci_709_134 rfl ?_
          refine hs_iload ci_709_144 l8 ?_
          exfalso; omega
    · simp only [hs_cd, ab_not, kB_7] at b98
      refine hs_aload_n ci_709_101 l0 ?_
      refine hs_aload_n ci_709_102 l0 ?_
      refine hs_lload ci_709_103 l4 ?_
      refine hs_cv 714 8 1 ci_709_105 (by decide +kernel) (by decide +kernel) hp rfl (by rw [ml_714]; rfl) (k_kind w hq) ?_
      rintro v9 h9 ⟨e9, r1, e8, hr1⟩
      rw [e8, e9]
      clear e8 e9 v9 h9
      simp only [Option.toList, List.cons_append, List.nil_append]
      refine hs_iload_n ci_709_108 l1 ?_
      refine hs_lload ci_709_109 l4 ?_
      refine hs_cv 718 8 3 ci_709_111 (by decide +kernel) (by decide +kernel) hp rfl (by rw [ml_718]; rfl) (k_add r1 xq w hq hm) ?_
      rintro v9 h5 ⟨e8, a1, a2, a3, a4, a5, a6, a7⟩
      rw [e8]
      clear e8 v9
      simp only [Option.toList, List.cons_append, List.nil_append]
      refine hs_goto (t := 144) ci_709_114 rfl ?_
      refine hs_iload ci_709_144 l8 ?_
      have hK : en_K h5 w r1.toInt := by
        rcases hr1 with ⟨k, k1, k2, k3⟩ | ⟨k1, k2⟩
        · exact Or.inl ⟨k, k1, k2, (hl_same (a2 4 k rfl)).trans k3⟩
        · exact Or.inr ⟨k1, fun j hj => by rw [hl_same (a2 4 j rfl)]; exact k2 j hj⟩
      refine hs_k ⟨3, _, by decide +kernel, by rw [rt_709]; rfl, i, xi, (tx_wd (tx_27 (bA h) q (i - q)) (tx_256 (bA h) q (i - q))), rfl, hxi, hrun, Or.inl ⟨s5 (by omega), by omega, rfl⟩, a1, a2, a3, ⟨by rw [a5]; exact hxq, by rw [a6]; exact s9 (by omega) (by omega), ⟨bA h, q, i - q, by omega, by omega, fun j hj => s5 (by omega) (q + j) (by omega) (by omega), rfl, rfl⟩, by rw [a6, a4]; exact hK⟩, a7⟩
