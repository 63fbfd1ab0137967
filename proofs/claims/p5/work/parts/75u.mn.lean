/-! BY HAND: the class's reader: a man -/
theorem ci_762_0 : ab_at 762 0 (.aload_n 0) 1 = true := by decide +kernel
theorem ci_762_1 : ab_at 762 1 (.getfield 12) 3 = true := by decide +kernel
theorem ci_762_4 : ab_at 762 4 (.getfield 94) 3 = true := by decide +kernel
theorem ci_762_7 : ab_at 762 7 (.istore_n 1) 1 = true := by decide +kernel
theorem ci_762_8 : ab_at 762 8 (.iload_n 1) 1 = true := by decide +kernel
theorem ci_762_9 : ab_at 762 9 (.bipush 6) 2 = true := by decide +kernel
theorem ci_762_11 : ab_at 762 11 (.if_icmp .lt 12) 3 = true := by decide +kernel
theorem ci_762_14 : ab_at 762 14 (.aload_n 0) 1 = true := by decide +kernel
theorem ci_762_15 : ab_at 762 15 (.getfield 18) 3 = true := by decide +kernel
theorem ci_762_18 : ab_at 762 18 (.iconst 4) 1 = true := by decide +kernel
theorem ci_762_19 : ab_at 762 19 (.invokevirtual 58) 3 = true := by decide +kernel
theorem ci_762_23 : ab_at 762 23 (.aload_n 0) 1 = true := by decide +kernel
theorem ci_762_24 : ab_at 762 24 (.invokevirtual 97) 3 = true := by decide +kernel
theorem ci_762_27 : ab_at 762 27 (.ifCond .ne 5) 3 = true := by decide +kernel
theorem ci_762_30 : ab_at 762 30 (.iconst 0) 1 = true := by decide +kernel
theorem ci_762_32 : ab_at 762 32 (.aload_n 0) 1 = true := by decide +kernel
theorem ci_762_33 : ab_at 762 33 (.getfield 12) 3 = true := by decide +kernel
theorem ci_762_36 : ab_at 762 36 (.getfield 100) 3 = true := by decide +kernel
theorem ci_762_39 : ab_at 762 39 (.iload_n 1) 1 = true := by decide +kernel
theorem ci_762_40 : ab_at 762 40 (.aload_n 0) 1 = true := by decide +kernel
theorem ci_762_41 : ab_at 762 41 (.getfield 18) 3 = true := by decide +kernel
theorem ci_762_44 : ab_at 762 44 (.invokevirtual 104) 3 = true := by decide +kernel
theorem ci_762_47 : ab_at 762 47 (.lastore) 1 = true := by decide +kernel
theorem ci_762_48 : ab_at 762 48 (.aload_n 0) 1 = true := by decide +kernel
theorem ci_762_49 : ab_at 762 49 (.invokevirtual 108) 3 = true := by decide +kernel
theorem ci_762_52 : ab_at 762 52 (.ifCond .ne 5) 3 = true := by decide +kernel
theorem ci_762_55 : ab_at 762 55 (.iconst 0) 1 = true := by decide +kernel
theorem ci_762_57 : ab_at 762 57 (.aload_n 0) 1 = true := by decide +kernel
theorem ci_762_58 : ab_at 762 58 (.getfield 12) 3 = true := by decide +kernel
theorem ci_762_61 : ab_at 762 61 (.getfield 111) 3 = true := by decide +kernel
theorem ci_762_64 : ab_at 762 64 (.iload_n 1) 1 = true := by decide +kernel
theorem ci_762_65 : ab_at 762 65 (.aload_n 0) 1 = true := by decide +kernel
theorem ci_762_66 : ab_at 762 66 (.getfield 115) 3 = true := by decide +kernel
theorem ci_762_69 : ab_at 762 69 (.iastore) 1 = true := by decide +kernel
theorem ci_762_70 : ab_at 762 70 (.aload_n 0) 1 = true := by decide +kernel
theorem ci_762_71 : ab_at 762 71 (.getfield 12) 3 = true := by decide +kernel
theorem ci_762_74 : ab_at 762 74 (.getfield 118) 3 = true := by decide +kernel
theorem ci_762_77 : ab_at 762 77 (.iload_n 1) 1 = true := by decide +kernel
theorem ci_762_78 : ab_at 762 78 (.aload_n 0) 1 = true := by decide +kernel
theorem ci_762_79 : ab_at 762 79 (.getfield 121) 3 = true := by decide +kernel
theorem ci_762_82 : ab_at 762 82 (.iastore) 1 = true := by decide +kernel
theorem ci_762_83 : ab_at 762 83 (.aload_n 0) 1 = true := by decide +kernel
theorem ci_762_84 : ab_at 762 84 (.getfield 12) 3 = true := by decide +kernel
theorem ci_762_87 : ab_at 762 87 (.iload_n 1) 1 = true := by decide +kernel
theorem ci_762_88 : ab_at 762 88 (.iconst 1) 1 = true := by decide +kernel
theorem ci_762_89 : ab_at 762 89 (.iadd) 1 = true := by decide +kernel
theorem ci_762_90 : ab_at 762 90 (.putfield 94) 3 = true := by decide +kernel
theorem ci_762_93 : ab_at 762 93 (.iconst 1) 1 = true := by decide +kernel
theorem ml_766 : (eg_md 766).2.2.1 = 2 := by decide +kernel
theorem ml_786 : (eg_md 786).2.2.1 = 3 := by decide +kernel
theorem kB_6 : (Int8.ofInt (6)).toInt32.toInt = 6 := by decide +kernel
/-- a name put down behind those that are told -/
theorem CP.w24 {h h' : eg_H} {ps : PS} {k : Nat} {x : Int64} (c : CP h ps) (w : hwl h h' 24 k x) (hk : ps.1 4 ≤ (k : Int)) : CP h' ps := by
  obtain ⟨c1, ⟨c2, c3, c4⟩, c5, c6, c7, c8, c9⟩ := c
  refine ⟨fun q hq => by rw [w.i _ _ (by omega)]; exact c1 q hq, ⟨by rw [w.i _ _ (by omega)]; exact c2, by rw [w.i _ _ (by omega)]; exact c3, by rw [w.i _ _ (by omega)]; exact c4⟩, fun q hq => ?_, fun q hq => ?_, fun q hq => by rw [w.i _ _ (by omega)]; exact c7 q hq, fun x y hx hy => by rw [w.v, if_neg (by omega)]; exact c8 x y hx hy, c9⟩
  · rw [w.v, if_neg (by omega), w.i _ _ (by omega), w.i _ _ (by omega)]
    exact c5 q hq
  · rw [w.v, if_neg (by omega), w.i _ _ (by omega), w.i _ _ (by omega), w.i _ _ (by omega)]
    exact c6 q hq
theorem CP.w27 {h h' : eg_H} {ps : PS} {k : Nat} {x : Int64} (c : CP h ps) (w : hwl h h' 27 k x) (hk : ps.1 5 ≤ (k : Int)) : CP h' ps := by
  obtain ⟨c1, ⟨c2, c3, c4⟩, c5, c6, c7, c8, c9⟩ := c
  refine ⟨fun q hq => by rw [w.i _ _ (by omega)]; exact c1 q hq, ⟨by rw [w.i _ _ (by omega)]; exact c2, by rw [w.i _ _ (by omega)]; exact c3, by rw [w.i _ _ (by omega)]; exact c4⟩, fun q hq => ?_, fun q hq => ?_, fun q hq => by rw [w.i _ _ (by omega)]; exact c7 q hq, fun x y hx hy => by rw [w.v, if_neg (by omega)]; exact c8 x y hx hy, c9⟩
  · rw [w.v, if_neg (by omega), w.i _ _ (by omega), w.i _ _ (by omega)]
    exact c5 q hq
  · rw [w.v, if_neg (by omega), w.i _ _ (by omega), w.i _ _ (by omega), w.i _ _ (by omega)]
    exact c6 q hq
/-- a man more -/
theorem CP.man {h h' : eg_H} {ps : PS} {c x y : Int} (hc : CP h ps) (hm : ps.1 4 < 6) (s : ∀ k, k < 7 → (hv h' 23 k).toInt = if k = 4 then ps.1 4 + 1 else ps.1 k) (s3 : ∀ k, k = 3 ∨ k = 4 ∨ k = 5 → hv h' 22 k = hv h 22 k) (n : ∀ q : Nat, (hl h' 24 q).toInt = if q = (ps.1 4).toNat then c else (hl h 24 q).toInt) (dx : ∀ q : Nat, (hv h' 25 q).toInt = if q = (ps.1 4).toNat then x else (hv h 25 q).toInt) (dy : ∀ q : Nat, (hv h' 26 q).toInt = if q = (ps.1 4).toNat then y else (hv h 26 q).toInt) (o : ∀ b q : Nat, b = 27 ∨ b = 28 ∨ b = 30 ∨ b = 31 ∨ b = 34 → ab_slot h' b q = ab_slot h b q) (t : ∀ q : Nat, tb (hl h' 22 6) q = true ↔ (tb (hl h 22 6) q = true ∨ (q : Int) = 8 * y + x)) (bx : 0 ≤ x ∧ x ≤ 7 ∧ 0 ≤ y ∧ y ≤ 7) : CP h' (uf ps.1 4 (ps.1 4 + 1), ug (ug (ug ps.2 0 (ps.1 4).toNat c) 1 (ps.1 4).toNat x) 2 (ps.1 4).toNat y) := by
  obtain ⟨c1, ⟨c2, c3, c4⟩, c5, c6, c7, c8, c9⟩ := hc
  obtain ⟨k, hk⟩ : ∃ k : Nat, ps.1 4 = (k : Int) := ⟨(ps.1 4).toNat, by omega⟩
  have ek : (ps.1 4).toNat = k := by omega
  rw [ek] at n dx dy ⊢
  refine ⟨fun q hq => ?_, ⟨?_, ?_, ?_⟩, fun q hq => ?_, fun q hq => ?_, fun q hq => ?_, fun a b ha hb => ?_, ?_⟩
  · rw [s q hq]; rfl
  · rw [s3 3 (Or.inl rfl)]; exact c2
  · rw [s3 4 (Or.inr (Or.inl rfl))]; exact c3
  · rw [s3 5 (Or.inr (Or.inr rfl))]; exact c4
  · have hq : (q : Int) < ps.1 4 + 1 := hq
    rw [n, dx, dy]
    show (if q = k then c else (hl h 24 q).toInt) = (if 0 = 2 ∧ q = k then y else if 0 = 1 ∧ q = k then x else if 0 = 0 ∧ q = k then c else ps.2 0 q) ∧ (if q = k then x else (hv h 25 q).toInt) = (if 1 = 2 ∧ q = k then y else if 1 = 1 ∧ q = k then x else if 1 = 0 ∧ q = k then c else ps.2 1 q) ∧ (if q = k then y else (hv h 26 q).toInt) = (if 2 = 2 ∧ q = k then y else if 2 = 1 ∧ q = k then x else if 2 = 0 ∧ q = k then c else ps.2 2 q) ∧ 0 ≤ (if 1 = 2 ∧ q = k then y else if 1 = 1 ∧ q = k then x else if 1 = 0 ∧ q = k then c else ps.2 1 q) ∧ (if 1 = 2 ∧ q = k then y else if 1 = 1 ∧ q = k then x else if 1 = 0 ∧ q = k then c else ps.2 1 q) ≤ 7 ∧ 0 ≤ (if 2 = 2 ∧ q = k then y else if 2 = 1 ∧ q = k then x else if 2 = 0 ∧ q = k then c else ps.2 2 q) ∧ (if 2 = 2 ∧ q = k then y else if 2 = 1 ∧ q = k then x else if 2 = 0 ∧ q = k then c else ps.2 2 q) ≤ 7
    by_cases e : q = k
    · simp only [e]
      simp
      exact bx
    · obtain ⟨d1, d2, d3, d4, d5, d6, d7⟩ := c5 q (by omega)
      simp only [e, and_false, if_false]
      exact ⟨d1, d2, d3, d4, d5, d6, d7⟩
  · have hq : (q : Int) < ps.1 5 := hq
    rw [hl_same (o 27 q (by omega)), hv_same (o 28 q (by omega)), hv_same (o 30 q (by omega)), hv_same (o 31 q (by omega))]
    obtain ⟨d1, d2, d3, d4, d5, d6, d7, d8⟩ := c6 q hq
    exact ⟨d1, d2, d3, d4, d5, d6, d7, d8⟩
  · intro r
    show _ ↔ ug (ug (ug ps.2 0 k c) 1 k x) 2 k y (10 + q) r ≠ 0
    rw [hv_same (o 34 q (by omega)), ug_n (by omega), ug_n (by omega), ug_n (by omega)]
    exact c7 q hq r
  · refine (t (8 * b + a)).trans ?_
    have g := c8 a b ha hb
    unfold occ at g ⊢
    rw [g]
    show _ ↔ ((∃ q : Nat, (q : Int) < ps.1 4 + 1 ∧ (if 1 = 2 ∧ q = k then y else if 1 = 1 ∧ q = k then x else if 1 = 0 ∧ q = k then c else ps.2 1 q) = (a : Int) ∧ (if 2 = 2 ∧ q = k then y else if 2 = 1 ∧ q = k then x else if 2 = 0 ∧ q = k then c else ps.2 2 q) = (b : Int)) ∨ (∃ q : Nat, (q : Int) < ps.1 5 ∧ ps.2 6 q = (a : Int) ∧ ps.2 7 q = (b : Int)))
    constructor
    · rintro ((⟨q, q1, q2, q3⟩ | g) | g)
      · refine Or.inl ⟨q, by omega, ?_, ?_⟩
        · have e : ¬ q = k := by omega
          simp only [e, and_false, if_false]
          exact q2
        · have e : ¬ q = k := by omega
          simp only [e, and_false, if_false]
          exact q3
      · exact Or.inr g
      · refine Or.inl ⟨k, by omega, ?_, ?_⟩
        · simp
          omega
        · simp
          omega
    · rintro (⟨q, q1, q2, q3⟩ | g)
      · by_cases e : q = k
        · subst e
          simp at q2 q3
          exact Or.inr (by omega)
        · simp only [e, and_false, if_false] at q2 q3
          exact Or.inl (Or.inl ⟨q, by omega, q2, q3⟩)
      · exact Or.inl (Or.inr g)
  · show 2 ≤ ps.1 0 ∧ ps.1 0 ≤ 8 ∧ 2 ≤ ps.1 1 ∧ ps.1 1 ≤ 8 ∧ 0 ≤ ps.1 4 + 1 ∧ ps.1 4 + 1 ≤ 6 ∧ 0 ≤ ps.1 5 ∧ ps.1 5 ≤ 10
    omega
theorem rt_762 : (eg_md 762).2.2.2 = some .boolean := by decide +kernel
theorem k_man {sc : List Value} {sp d : Nat} {h : eg_H} {tk : Nat → tx_K} {ta : Nat → Nat} {m j : Nat} {ps : PS} (hq : ab_hp h) (hk : kwok h) (hr : ro h tk ta m) (hc : cu h tk ta m j) (hj : 1 ≤ j) (hP : CP h ps) : mc sc sp 762 2 (d + 1 + 1 + 1) [.ref 22] h (ln_P h tk ta m (sp_man tk ta ps j)) := by
  have l0 : eg_find 0 (eg_args 0 [.ref 22]) = some (.ref 22) := rfl
  have hp := hq.1
  have hcj := hc.2 hj
  have e4 : (hv h 23 4).toInt = ps.1 4 := hP.1 4 (by omega)
  have hb9 := hP.2.2.2.2.2.2
  unfold mc
  refine hs_aload_n ci_762_0 l0 ?_
  refine hs_gfr 1 23 ci_762_1 (by decide +kernel) hp ?_
  refine hs_gfi 4 ci_762_4 (by decide +kernel) hp ?_
  refine hs_istore2_n ci_762_7 (by decide +kernel) ?_
  intro ls9 q9
  replace l0 := q9.2 0 _ (by decide) (Or.inl rfl) l0
  have l1 := q9.1
  clear q9
  refine hs_iload_n ci_762_8 l1 ?_
  refine hs_bipush ci_762_9 ?_
  refine hs_ic (t := 23) ci_762_11 rfl (fun b11 => ?_) (fun b11 => ?_)
  · simp only [hs_cd, ab_not, kB_6] at b11
    refine hs_aload_n ci_762_23 l0 ?_
    refine hs_cv 766 2 0 ci_762_24 (by decide +kernel) (by decide +kernel) hp rfl (by rw [ml_766]; rfl) (k_new hq hk hr hc hP) ?_
    rintro v9 hA ⟨qA, fA, rA, e8, hrA⟩
    rw [e8]
    clear e8 v9
    replace hp := qA.1
    simp only [Option.toList, List.cons_append, List.nil_append]
    refine hs_if (t := 32) ci_762_27 rfl (fun b27 => ?_) (fun b27 => ?_)
    · simp only [hs_cd, ab_not] at b27
      refine hs_aload_n ci_762_32 l0 ?_
      refine hs_gfr 1 23 ci_762_33 (by decide +kernel) hp ?_
      refine hs_gfr 7 24 ci_762_36 (by decide +kernel) hp ?_
      refine hs_iload_n ci_762_39 l1 ?_
      refine hs_aload_n ci_762_40 l0 ?_
      refine hs_gfr 0 3 ci_762_41 (by decide +kernel) hp ?_
      refine hs_cv 774 8 0 ci_762_44 (by decide +kernel) (by decide +kernel) hp rfl (by rw [ml_774]; rfl) (k_lng qA) ?_
      rintro v9 h9 ⟨e9, e8⟩
      rw [e8, e9]
      clear e8 e9 v9 h9
      obtain ⟨c, hc1, hcA, hc2⟩ : ∃ c, sp_new ps (tk j) (ta j) = .inr c ∧ cu hA tk ta m (j + 1) ∧ (hl hA 3 11).toInt = c := by
        rcases hrA with ⟨c, y1, -, y3, y4⟩ | ⟨k, a, -, y2, -⟩
        · exact ⟨c, y1, y3, y4⟩
        · omega
      have e34 : (hv h 23 4).toInt.toNat = (ps.1 4).toNat := by rw [e4]
      simp only [Option.toList, List.cons_append, List.nil_append]
      refine hs_lastore 6 ci_762_47 (by decide +kernel) hp (by omega) (by omega) ?_
      intro h47 w47
      replace hp := w47.1
      refine hs_aload_n ci_762_48 l0 ?_
      have f47 : ab_fr [(24, 0, 5)] h47 hA := w47.fr (by
        have a2 : Nat.ble (hv h 23 4).toInt.toNat 5 = true := Nat.ble_eq.mpr (by omega)
        simp only [ab_inr, a2]
        rfl)
      have q47 : ab_hp h47 := ⟨hp, qA.2.fr (M := [(24, 0, 5)]) (by decide +kernel) f47⟩
      have c47 : cu h47 tk ta m (j + 1) := hcA.fr f47 rfl rfl rfl rfl (fun _ => rfl)
      have k47 : kwok h47 := (hk.fr fA (fun _ => rfl)).fr f47 (fun _ => rfl)
      have r47 : ro h47 tk ta m := (hr.fr (fr_sub (by decide +kernel) fA)).fr (fr_sub (by decide +kernel) f47)
      have P47 : CP h47 ps := (hP.fr fA).w24 w47 (by omega)
      refine hs_cv 786 2 0 ci_762_49 (by decide +kernel) (by decide +kernel) hp rfl (by rw [ml_786]; rfl) (k_cell q47 k47 r47 c47 P47) ?_
      rintro v9 hB ⟨qB, fB, rB, e8, hrB⟩
      rw [e8]
      clear e8 v9
      replace hp := qB.1
      simp only [Option.toList, List.cons_append, List.nil_append]
      refine hs_if (t := 57) ci_762_52 rfl (fun b52 => ?_) (fun b52 => ?_)
      · simp only [hs_cd, ab_not] at b52
        obtain ⟨x, y, hx1, hcB, hx2, hy2, bx1, bx2, by1, by2, hbit⟩ : ∃ x y, sp_cell ps (tk (j + 1)) (ta (j + 1)) (tk (j + 1 + 1)) (ta (j + 1 + 1)) = .inr (x, y) ∧ cu hB tk ta m (j + 1 + 2) ∧ (hv hB 22 7).toInt = x ∧ (hv hB 22 8).toInt = y ∧ 0 ≤ x ∧ x ≤ 7 ∧ 0 ≤ y ∧ y ≤ 7 ∧ ∀ q, tb (hl hB 22 6) q = true ↔ (tb (hl h47 22 6) q = true ∨ (q : Int) = 8 * y + x) := by
          rcases hrB with ⟨x, y, y1, -, y3⟩ | ⟨k, a, -, y2, -⟩
          · exact ⟨x, y, y1, y3⟩
          · omega
        refine hs_aload_n ci_762_57 l0 ?_
        refine hs_gfr 1 23 ci_762_58 (by decide +kernel) hp ?_
        refine hs_gfr 8 25 ci_762_61 (by decide +kernel) hp ?_
        refine hs_iload_n ci_762_64 l1 ?_
        refine hs_aload_n ci_762_65 l0 ?_
        refine hs_gfi 7 ci_762_66 (by decide +kernel) hp ?_
        refine hs_iastore 0 5 (-2147483648) (2147483647) ci_762_69 (by decide +kernel) hp (by omega) (by omega) (ab_ige _) (ab_ile _) ?_
        intro h69 w69
        replace hp := w69.1
        refine hs_aload_n ci_762_70 l0 ?_
        refine hs_gfr 1 23 ci_762_71 (by decide +kernel) hp ?_
        refine hs_gfr 9 26 ci_762_74 (by decide +kernel) hp ?_
        refine hs_iload_n ci_762_77 l1 ?_
        refine hs_aload_n ci_762_78 l0 ?_
        refine hs_gfi 8 ci_762_79 (by decide +kernel) hp ?_
        refine hs_iastore 0 5 (-2147483648) (2147483647) ci_762_82 (by decide +kernel) hp (by omega) (by omega) (ab_ige _) (ab_ile _) ?_
        intro h82 w82
        replace hp := w82.1
        refine hs_aload_n ci_762_83 l0 ?_
        refine hs_gfr 1 23 ci_762_84 (by decide +kernel) hp ?_
        refine hs_iload_n ci_762_87 l1 ?_
        refine hs_iconst ci_762_88 ?_
        refine hs_iadd ci_762_89 ?_
        refine hs_pfi 4 (0) (6) ci_762_90 (by decide +kernel) hp (by rw [i32_inc e4 (by omega) (by omega)]; omega) (by rw [i32_inc e4 (by omega) (by omega)]; omega) ?_
        intro h90 w90
        replace hp := w90.1
        refine hs_iconst ci_762_93 ?_
        have g1 : ∀ b q : Nat, b ≠ 23 → b ≠ 25 → b ≠ 26 → ab_slot h90 b q = ab_slot hB b q := fun b q b1 b2 b3 => by rw [w90.2, if_neg (by omega), w82.2, if_neg (by omega), w69.2, if_neg (by omega)]
        have ek : (hv h 23 4).toInt.toNat = (ps.1 4).toNat := e34
        have nb5 : Nat.ble (hv h 23 4).toInt.toNat 5 = true := Nat.ble_eq.mpr (by omega)
        have fE : ab_fr MRD h90 hB := (w90.fr (M := MRD) rfl).tr ((w82.fr (M := MRD) (by simp only [ab_inr, nb5]; rfl)).tr (w69.fr (M := MRD) (by simp only [ab_inr, nb5]; rfl)))
        have fT : ab_fr MRD h90 h := fE.tr ((fr_sub (M := MRD) (by decide +kernel) fB).tr ((fr_sub (M := MRD) (by decide +kernel) f47).tr (fr_sub (by decide +kernel) fA)))
        refine hs_k ⟨3, some (.int (Int32.ofInt 1)), by decide +kernel, rv_b rt_762 (Or.inr (by decide)), ⟨hp, hq.2.fr (M := MRD) (by decide +kernel) fT⟩, fT, _, rfl, Or.inl ⟨_, j + 3, ?_, by decide, by omega, ?_, hP.man (c := c) (x := x) (y := y) (by omega) (fun k hk => ?_) (fun k hk => ?_) (fun q => ?_) (fun q => ?_) (fun q => ?_) (fun b q hb => ?_) (fun q => ?_) ⟨bx1, bx2, by1, by2⟩⟩⟩
        · unfold sp_man
          rw [if_neg (by omega), sbn_r hc1, sbn_r hx1]
        · have c9 : cu h90 tk ta m (j + 1 + 2) := ⟨by rw [hv_same (g1 3 6 (by omega) (by omega) (by omega))]; exact hcB.1, fun g => (hcB.2 g).same (hv_same (g1 3 10 (by omega) (by omega) (by omega))) (hv_same (g1 3 7 (by omega) (by omega) (by omega))) (hl_same (g1 3 11 (by omega) (by omega) (by omega))) (fun k => hl_same (g1 4 k (by omega) (by omega) (by omega)))⟩
          exact c9
        · rw [w90.v]
          by_cases e : k = 4
          · rw [if_pos ⟨rfl, e⟩, if_pos e, i32_inc e4 (by omega) (by omega)]
          · rw [if_neg (fun g => e g.2), if_neg e, w82.v, if_neg (by omega), w69.v, if_neg (by omega), hv_same (fB 23 k rfl), hv_same (f47 23 k rfl), hv_same (fA 23 k rfl)]
            exact hP.1 k hk
        · rw [hv_same (g1 22 k (by omega) (by omega) (by omega))]
          rcases hk with rfl | rfl | rfl
          · rw [hv_same (fB 22 3 rfl), hv_same (f47 22 3 rfl), hv_same (fA 22 3 rfl)]
          · rw [hv_same (fB 22 4 rfl), hv_same (f47 22 4 rfl), hv_same (fA 22 4 rfl)]
          · rw [hv_same (fB 22 5 rfl), hv_same (f47 22 5 rfl), hv_same (fA 22 5 rfl)]
        · rw [hl_same (g1 24 q (by omega) (by omega) (by omega)), hl_same (fB 24 q rfl), w47.v]
          by_cases e : q = (ps.1 4).toNat
          · rw [if_pos ⟨rfl, by omega⟩, if_pos e]
            exact hc2
          · rw [if_neg (by omega), if_neg e, hl_same (fA 24 q rfl)]
        · rw [w90.v, if_neg (by omega), w82.v, if_neg (by omega), w69.v]
          by_cases e : q = (ps.1 4).toNat
          · rw [if_pos ⟨rfl, by omega⟩, if_pos e]
            exact hx2
          · rw [if_neg (by omega), if_neg e, hv_same (fB 25 q rfl), hv_same (f47 25 q rfl), hv_same (fA 25 q rfl)]
        · rw [w90.v, if_neg (by omega), w82.v]
          by_cases e : q = (ps.1 4).toNat
          · rw [if_pos ⟨rfl, by omega⟩, if_pos e, w69.v, if_neg (by omega)]
            exact hy2
          · rw [if_neg (by omega), if_neg e, w69.v, if_neg (by omega), hv_same (fB 26 q rfl), hv_same (f47 26 q rfl), hv_same (fA 26 q rfl)]
        · rw [g1 b q (by omega) (by omega) (by omega)]
          rcases hb with rfl | rfl | rfl | rfl | rfl
          · rw [fB 27 q rfl, f47 27 q rfl, fA 27 q rfl]
          · rw [fB 28 q rfl, f47 28 q rfl, fA 28 q rfl]
          · rw [fB 30 q rfl, f47 30 q rfl, fA 30 q rfl]
          · rw [fB 31 q rfl, f47 31 q rfl, fA 31 q rfl]
          · rw [fB 34 q rfl, f47 34 q rfl, fA 34 q rfl]
        · rw [hl_same (g1 22 6 (by omega) (by omega) (by omega))]
          refine (hbit q).trans ?_
          rw [hl_same (f47 22 6 rfl), hl_same (fA 22 6 rfl)]
      · simp only [hs_cd, ab_not] at b52
        refine hs_iconst ci_762_55 ?_
        rcases hrB with ⟨x, y, -, y2, -⟩ | ⟨k, a, y1, y2, y3⟩
        · omega
        · refine hs_k ⟨3, some (.int (Int32.ofInt 0)), by decide +kernel, rv_b rt_762 (Or.inl (by decide)), qB, (fr_sub (M := MRD) (by decide +kernel) fB).tr ((fr_sub (M := MRD) (by decide +kernel) f47).tr (fr_sub (by decide +kernel) fA)), _, rfl, Or.inr ⟨k, a, ?_, by decide, y3⟩⟩
          unfold sp_man
          rw [if_neg (by omega), sbn_r hc1, sbn_l y1]
    · simp only [hs_cd, ab_not] at b27
      refine hs_iconst ci_762_30 ?_
      rcases hrA with ⟨c, -, y2, -⟩ | ⟨k, a, y1, y2, y3⟩
      · omega
      · refine hs_k ⟨3, some (.int (Int32.ofInt 0)), by decide +kernel, rv_b rt_762 (Or.inl (by decide)), qA, fr_sub (by decide +kernel) fA, _, rfl, Or.inr ⟨k, a, ?_, by decide, y3⟩⟩
        unfold sp_man
        rw [if_neg (by omega), sbn_l y1]
  · simp only [hs_cd, ab_not, kB_6] at b11
    refine hs_aload_n ci_762_14 l0 ?_
    refine hs_gfr 0 3 ci_762_15 (by decide +kernel) hp ?_
    refine hs_iconst ci_762_18 ?_
    refine hs_cv 748 8 1 ci_762_19 (by decide +kernel) (by decide +kernel) hp rfl (by rw [ml_748]; rfl) (k_fail (Int32.ofInt 4) hq) ?_
    rintro v9 h2 ⟨r2, e8, hr2, q2, f2, g8, g9⟩
    rw [e8]
    clear e8 v9
    replace hp := q2.1
    simp only [Option.toList, List.cons_append, List.nil_append]
    refine hs_k ⟨3, some (.int r2), by decide +kernel, rv_b rt_762 (Or.inl hr2), q2, fr_sub (by decide +kernel) f2, _, rfl, Or.inr ⟨4, ta (j - 1), ?_, hr2, g8.trans kI_4, by rw [g9]; exact hcj.1⟩⟩
    unfold sp_man
    rw [if_pos (by omega)]
