/-! BY HAND: the reference's next, as a whole -/
theorem ci_1658_275 : ab_at 1658 275 (.aload_n 0) 1 = true := by decide +kernel
theorem ci_1658_276 : ab_at 1658 276 (.dup) 1 = true := by decide +kernel
theorem ci_1658_277 : ab_at 1658 277 (.getfield 155) 3 = true := by decide +kernel
theorem ci_1658_280 : ab_at 1658 280 (.iconst 1) 1 = true := by decide +kernel
theorem ci_1658_281 : ab_at 1658 281 (.iadd) 1 = true := by decide +kernel
theorem ci_1658_282 : ab_at 1658 282 (.putfield 155) 3 = true := by decide +kernel
theorem ci_1658_285 : ab_at 1658 285 (.aload_n 0) 1 = true := by decide +kernel
theorem ci_1658_286 : ab_at 1658 286 (.dup) 1 = true := by decide +kernel
theorem ci_1658_287 : ab_at 1658 287 (.getfield 21) 3 = true := by decide +kernel
theorem ci_1658_290 : ab_at 1658 290 (.iconst 1) 1 = true := by decide +kernel
theorem ci_1658_291 : ab_at 1658 291 (.iadd) 1 = true := by decide +kernel
theorem ci_1658_292 : ab_at 1658 292 (.putfield 21) 3 = true := by decide +kernel
theorem ci_1658_295 : ab_at 1658 295 (.goto (-114)) 3 = true := by decide +kernel
theorem ci_1658_299 : ab_at 1658 299 (.iload_n 3) 1 = true := by decide +kernel
theorem ci_1658_300 : ab_at 1658 300 (.ifCond .eq 20) 3 = true := by decide +kernel
theorem ci_1658_303 : ab_at 1658 303 (.aload_n 0) 1 = true := by decide +kernel
theorem ci_1658_304 : ab_at 1658 304 (.getfield 155) 3 = true := by decide +kernel
theorem ci_1658_307 : ab_at 1658 307 (.iload_n 2) 1 = true := by decide +kernel
theorem ci_1658_308 : ab_at 1658 308 (.ifCond .eq 8) 3 = true := by decide +kernel
theorem ci_1658_311 : ab_at 1658 311 (.bipush 7) 2 = true := by decide +kernel
theorem ci_1658_313 : ab_at 1658 313 (.goto 4) 3 = true := by decide +kernel
theorem ci_1658_316 : ab_at 1658 316 (.iconst 3) 1 = true := by decide +kernel
theorem ci_1658_317 : ab_at 1658 317 (.if_icmp .le 7) 3 = true := by decide +kernel
theorem ci_1658_320 : ab_at 1658 320 (.iconst 4) 1 = true := by decide +kernel
theorem ci_1658_321 : ab_at 1658 321 (.goto 12) 3 = true := by decide +kernel
theorem ci_1658_324 : ab_at 1658 324 (.iload_n 2) 1 = true := by decide +kernel
theorem ci_1658_325 : ab_at 1658 325 (.ifCond .eq 7) 3 = true := by decide +kernel
theorem ci_1658_328 : ab_at 1658 328 (.iconst 1) 1 = true := by decide +kernel
theorem ci_1658_329 : ab_at 1658 329 (.goto 4) 3 = true := by decide +kernel
theorem ci_1658_332 : ab_at 1658 332 (.iconst 2) 1 = true := by decide +kernel
theorem ci_1658_333 : ab_at 1658 333 (.putfield 158) 3 = true := by decide +kernel
theorem kI_4 : (Int32.ofInt (4)).toInt = 4 := by decide +kernel
def nr_Z (h h1 : eg_H) (q i : Nat) : Prop := nr_B h h1 q i ∧ nr_S h1 (i - q) ∧ nr_W h h1 q (i - q) ∧ nr_N h h1 q (i - q)
theorem nr_e {sc : List Value} {sp d : Nat} {h : eg_H} {h1 : eg_H} {q i : Nat} {ls : eg_L} (hn : nN h ≤ 940) (b : nr_B h h1 q i) (hi : i < nN h) (hr : tx_r (bM h i)) (hS : nr_S h1 (i - q)) (hW : nr_W h h1 q (i - q + 1)) (hM : nr_N h h1 q (i - q + 1)) (l0 : eg_find 0 ls = some (.ref 182)) : hs sc sp 1658 11 (d + 1) (fun pc' ls' st' h' => pc' = 181 ∧ st' = [] ∧ ls' = ls ∧ nr_Z h h' q (i + 1)) 275 ls [] h1 := by
  have hp := b.1.1
  have bb := b
  obtain ⟨b1, b2, b3, b4, hqi, b6, b7⟩ := bb
  have hS' : (hv h1 182 13).toInt = ((i - q : Nat) : Int) := hS
  have e13 : (hv h1 182 13 + Int32.ofInt 1).toInt = ((i - q : Nat) : Int) + 1 := i32_inc hS' (by omega) (by omega)
  have e4 : (hv h1 182 4 + Int32.ofInt 1).toInt = (i : Int) + 1 := i32_inc b3 (by omega) (by omega)
  refine hs_aload_n ci_1658_275 l0 ?_
  refine hs_dup ci_1658_276 rfl ?_
  refine hs_gfi 13 ci_1658_277 (by decide +kernel) hp ?_
  refine hs_iconst ci_1658_280 ?_
  refine hs_iadd ci_1658_281 ?_
  refine hs_pfi 13 (-2147483648) (2147483647) ci_1658_282 (by decide +kernel) hp (ab_ige _) (ab_ile _) ?_
  intro h282 w282
  replace hp := w282.1
  refine hs_aload_n ci_1658_285 l0 ?_
  refine hs_dup ci_1658_286 rfl ?_
  refine hs_gfi 4 ci_1658_287 (by decide +kernel) hp ?_
  refine hs_iconst ci_1658_290 ?_
  refine hs_iadd ci_1658_291 ?_
  have n292 : hv h282 182 4 = hv h1 182 4 := by rw [w282.v, if_neg (by omega)]
  refine hs_pfi 4 (0) (940) ci_1658_292 (by decide +kernel) hp (by rw [n292, e4]; omega) (by rw [n292, e4]; omega) ?_
  intro h292 w292
  replace hp := w292.1
  refine hs_goto (t := 181) ci_1658_295 rfl ?_
  have f282 : ab_fr MNX h282 h1 := w282.fr (M := MNX) rfl
  have f292 : ab_fr MNX h292 h1 := (w292.fr (M := MNX) rfl).tr f282
  have ek : i + 1 - q = i - q + 1 := by omega
  refine hs_k ⟨rfl, rfl, rfl, ⟨⟨hp, b1.2.fr (M := MNX) (by decide +kernel) f292⟩, f292.tr b2, ?_, ?_, by omega, by omega, fun r g1 g2 => ?_⟩, ?_, ?_, ?_⟩
  · rw [w292.v, if_pos ⟨rfl, rfl⟩, n292, e4]; rfl
  · rw [w292.v, if_neg (by omega), w282.v, if_neg (by omega)]; exact b4
  · by_cases e : r = i
    · rw [e]; exact hr
    · exact b7 r g1 (by omega)
  · unfold nr_S
    rw [ek, w292.v, if_neg (by omega), w282.v, if_pos ⟨rfl, rfl⟩, e13]; rfl
  · unfold nr_W
    rw [ek, w292.l _ _ (by omega), w282.l _ _ (by omega)]; exact hW
  · unfold nr_N
    rw [ek, w292.v, if_neg (by omega), w282.v, if_neg (by omega)]; exact hM
def nr_E (h : eg_H) (q : Nat) (xc s : Int32) (pc' : Nat) (ls' : eg_L) (st' : List Value) (h' : eg_H) : Prop := pc' = 298 ∧ st' = [] ∧ ∃ (i : Nat) (a : Int32), nr_Z h h' q i ∧ nr_A h q i s a ∧ (i < nN h → ¬ tx_r (bM h i)) ∧ eg_find 0 ls' = some (.ref 182) ∧ eg_find 2 ls' = some (.int s) ∧ eg_find 3 ls' = some (.int a)
theorem nr_loop {sc : List Value} {sp d : Nat} {h : eg_H} {q : Nat} {xc s : Int32} (hN : 0 ≤ (hv h 182 3).toInt) (hn : nN h ≤ 940) : ∀ (m i : Nat) (a : Int32) (ls : eg_L) (h1 : eg_H), i + m = nN h → nr_Z h h1 q i → nr_A h q i s a → eg_find 0 ls = some (.ref 182) → eg_find 1 ls = some (.int xc) → eg_find 2 ls = some (.int s) → eg_find 3 ls = some (.int a) → hs sc sp 1658 11 (d + 1) (nr_E h q xc s) 181 ls [] h1 := by
  intro m
  induction m with
  | zero =>
    intro i a ls h1 hm z A l0 l1 l2 l3
    refine hs.bind (nr_a hN z.1 l0) ?_
    rintro pc9 ls9 st9 h9 ⟨e1, rfl, e3, ⟨rfl, g1, g2⟩ | ⟨rfl, g1⟩⟩
    · omega
    · rw [e1, e3]
      exact hs_k ⟨rfl, rfl, i, a, z, A, g1, l0, l2, l3⟩
  | succ m ih =>
    intro i a ls h1 hm z A l0 l1 l2 l3
    refine hs.bind (nr_a hN z.1 l0) ?_
    rintro pc9 ls9 st9 h9 ⟨e1, rfl, e3, ⟨rfl, g1, g2⟩ | ⟨rfl, g1⟩⟩
    · rw [e1, e3]
      refine hs.bind (nr_b (xc := xc) hN z.1 g1 A l0 l1 l2 l3) ?_
      rintro pc9 ls8 st9 h8 ⟨rfl, rfl, e4, a', A', k0, k1, k2, k3⟩
      rw [e4]
      refine hs.bind (nr_c hN z.1 g1 z.2.1 z.2.2.1 z.2.2.2 k0) ?_
      rintro pc9 ls7 st9 h7 ⟨rfl, rfl, e5, c1, c2, c3, c4⟩
      rw [e5]
      refine hs.bind (nr_d hN c1 g1 c2 c3 c4 k0) ?_
      rintro pc9 ls6 st9 h6 ⟨rfl, rfl, e6, d1, d2, d3, d4⟩
      rw [e6]
      refine hs.bind (nr_e hn d1 g1 g2 d2 d3 d4 k0) ?_
      rintro pc9 ls5 st9 h5 ⟨rfl, rfl, e7, z'⟩
      rw [e7]
      exact ih (i + 1) a' _ _ (by omega) z' A' k0 k1 k2 k3
    · rw [e1, e3]
      exact hs_k ⟨rfl, rfl, i, a, z, A, g1, l0, l2, l3⟩
/-- what a run is told as -/
theorem nr_T {h h1 h2 : eg_H} {q i : Nat} {s a x : Int32} (z : nr_Z h h1 q i) (hqi : q < i) (A : nr_A h q i s a) (w : hw h1 h2 182 11 x) (hx : (a.toInt = 1 ∧ s.toInt = 1 ∧ i - q ≤ 7 ∧ x.toInt = 1) ∨ (a.toInt = 1 ∧ s.toInt = 0 ∧ i - q ≤ 3 ∧ x.toInt = 2) ∨ ((a.toInt = 0 ∨ (s.toInt = 1 ∧ 7 < i - q) ∨ (s.toInt = 0 ∧ 3 < i - q)) ∧ x.toInt = 4)) : ∃ t, tx_rt (bM h) q i t ∧ rs_M h2 t q i := by
  obtain ⟨⟨b1, b2, b3, b4, b5, b6, b7⟩, zS, zW, zN⟩ := z
  have hr : ∀ r, q ≤ r → r < i → tx_r (bM h r) := b7
  have e11 : (hv h2 182 11).toInt = x.toInt := by rw [w.v, if_pos ⟨rfl, rfl⟩]
  have e12 : (hv h2 182 12).toInt = (q : Int) := by rw [w.v, if_neg (by omega)]; exact b4
  have e4 : (hv h2 182 4).toInt = (i : Int) := by rw [w.v, if_neg (by omega)]; exact b3
  have e14 : hv h2 182 14 = hv h1 182 14 := by rw [w.v, if_neg (by omega)]
  have e17 : hl h2 182 17 = hl h1 182 17 := w.l _ _ (by omega)
  have hlt : a.toInt = 1 → s.toInt = 1 → tx_lt (bM h) q i := fun ha hs r g1 g2 => by
    rcases A.2 with ⟨-, g3⟩ | ⟨g3, -⟩
    · rcases A.1 with ⟨-, g4⟩ | ⟨g4, -⟩
      · exact (g3 r g1 g2).mpr g4
      · omega
    · omega
  have hdg : a.toInt = 1 → s.toInt = 0 → tx_dg (bM h) q i := fun ha hs r g1 g2 => by
    rcases A.2 with ⟨-, g3⟩ | ⟨g3, -⟩
    · rcases A.1 with ⟨g4, -⟩ | ⟨-, g4⟩
      · omega
      · rcases hr r g1 g2 with g5 | g5
        · exact absurd ((g3 r g1 g2).mp g5) g4
        · exact g5
    · omega
  rcases hx with ⟨x1, x2, x3, x4⟩ | ⟨x1, x2, x3, x4⟩ | ⟨x1, x2⟩
  · have hl := hlt x1 x2
    refine ⟨tx_wd (tx_27 (bM h) q (i - q)) (tx_256 (bM h) q (i - q)), Or.inl ⟨hl, x3, rfl⟩, e12, e4, ?_⟩
    refine ⟨by rw [e11]; exact x4, ?_, bM h, q, i - q, by omega, x3, fun j hj => hl (q + j) (by omega) (by omega), rfl, rfl⟩
    unfold nr_W at zW
    have e : min (i - q) 7 = i - q := by omega
    rw [e17, zW, e]
  · have hd := hdg x1 x2
    refine ⟨tx_nb (tx_10 (bM h) q (i - q)), Or.inr (Or.inl ⟨hd, x3, rfl⟩), e12, e4, ?_⟩
    refine ⟨by rw [e11]; exact x4, ?_⟩
    unfold nr_N at zN
    have e : min (i - q) 3 = i - q := by omega
    rw [e14, zN, e]
  · refine ⟨tx_no, Or.inr (Or.inr ⟨?_, ?_, rfl⟩), e12, e4, by show (hv h2 182 11).toInt = 4; rw [e11]; exact x2⟩
    · rintro ⟨g1, g2⟩
      have hs1 : s.toInt = 1 := by
        rcases A.1 with ⟨g3, -⟩ | ⟨-, g3⟩
        · exact g3
        · exact absurd (g1 q (Nat.le_refl _) hqi) g3
      rcases x1 with x1 | ⟨-, x1⟩ | ⟨x1, -⟩
      · rcases A.2 with ⟨g4, -⟩ | ⟨-, g4⟩
        · omega
        · refine g4 (fun r k1 k2 => ⟨fun _ => g1 q (Nat.le_refl _) hqi, fun _ => g1 r k1 k2⟩)
      · omega
      · omega
    · rintro ⟨g1, g2⟩
      have nl : ∀ r, q ≤ r → r < i → ¬ tx_l (bM h r) := fun r k1 k2 k3 => by
        obtain ⟨m1, m2⟩ := g1 r k1 k2
        obtain ⟨m3, m4⟩ := k3
        omega
      have hs0 : s.toInt = 0 := by
        rcases A.1 with ⟨-, g3⟩ | ⟨g3, -⟩
        · exact absurd g3 (nl q (Nat.le_refl _) hqi)
        · exact g3
      rcases x1 with x1 | ⟨x1, -⟩ | ⟨-, x1⟩
      · rcases A.2 with ⟨g4, -⟩ | ⟨-, g4⟩
        · omega
        · exact g4 (fun r k1 k2 => ⟨fun k3 => absurd k3 (nl r k1 k2), fun k3 => absurd k3 (nl q (Nat.le_refl _) hqi)⟩)
      · omega
      · omega
abbrev nx_K (h : eg_H) : Nat → eg_L → List Value → eg_H → Prop := fun pc' _ st' h' => ∃ ik vo, ab_ret 1658 pc' = some ik ∧ eg_rv (eg_md 1658).2.2.2 ik st' = some vo ∧ nx_P h vo h'
theorem nr_f {sc : List Value} {sp d : Nat} {h : eg_H} {h1 : eg_H} {p q i : Nat} {ls : eg_L} {s a : Int32} (hp0 : (hv h 182 4).toInt.toNat = p) (hsk : tx_sk (bM h) (nN h) p q) (hlim : ¬ (nL h < nN h ∧ nL h ≤ q)) (hqn : q < nN h) (hrq : tx_r (bM h q)) (z : nr_Z h h1 q i) (A : nr_A h q i s a) (hend : i < nN h → ¬ tx_r (bM h i)) (l0 : eg_find 0 ls = some (.ref 182)) (l2 : eg_find 2 ls = some (.int s)) (l3 : eg_find 3 ls = some (.int a)) : hs sc sp 1658 11 (d + 1) (nx_K h) 298 ls [] h1 := by
  have hp := z.1.1.1
  have hS' : (hv h1 182 13).toInt = ((i - q : Nat) : Int) := z.2.1
  have zz := z
  obtain ⟨⟨b1, b2, b3, b4, b5, b6, b7⟩, -, -, -⟩ := zz
  have hqi : q < i := by
    rcases Nat.lt_or_eq_of_le b5 with g | g
    · exact g
    · subst g
      exact absurd hrq (hend hqn)
  have hru : tx_ru (bM h) (nN h) q i := ⟨hqi, b6, b7, hend⟩
  have fin : ∀ (h2 : eg_H) (x : Int32), hw h1 h2 182 11 x → ((a.toInt = 1 ∧ s.toInt = 1 ∧ i - q ≤ 7 ∧ x.toInt = 1) ∨ (a.toInt = 1 ∧ s.toInt = 0 ∧ i - q ≤ 3 ∧ x.toInt = 2) ∨ ((a.toInt = 0 ∨ (s.toInt = 1 ∧ 7 < i - q) ∨ (s.toInt = 0 ∧ 3 < i - q)) ∧ x.toInt = 4)) → nx_P h none h2 := fun h2 x w hx => by
    obtain ⟨t, t1, t2⟩ := nr_T z hqi A w hx
    have f := w.fr (M := MNX) rfl
    refine ⟨rfl, ⟨w.1, b1.2.fr (M := MNX) (by decide +kernel) f⟩, f.tr b2, t, q, i, ?_, b6, t2⟩
    rw [hp0]
    exact ⟨q, hsk, Or.inr (Or.inr (Or.inr ⟨hlim, hqn, hrq, hru, t1, rfl⟩))⟩
  have hs01 : s.toInt = 0 ∨ s.toInt = 1 := by
    rcases A.1 with ⟨g, -⟩ | ⟨g, -⟩
    · exact Or.inr g
    · exact Or.inl g
  have ha01 : a.toInt = 0 ∨ a.toInt = 1 := by
    rcases A.2 with ⟨g, -⟩ | ⟨g, -⟩
    · exact Or.inr g
    · exact Or.inl g
  refine hs_aload_n ci_1658_298 l0 ?_
  refine hs_iload_n ci_1658_299 l3 ?_
  refine hs_if (t := 320) ci_1658_300 rfl (fun b300 => ?_) (fun b300 => ?_)
  · simp only [hs_cd, ab_not] at b300
    refine hs_iconst ci_1658_320 ?_
    refine hs_goto (t := 333) ci_1658_321 rfl ?_
    refine hs_pfi 11 (0) (4) ci_1658_333 (by decide +kernel) hp (by decide) (by decide) ?_
    intro h333 w333
    replace hp := w333.1
    exact hs_k ⟨5, none, by decide +kernel, by rw [rt_1658]; rfl, fin _ _ w333 (by have e1 := kI_1; have e2 := kI_2; have e4 := kI_4; omega)⟩
  · simp only [hs_cd, ab_not] at b300
    refine hs_aload_n ci_1658_303 l0 ?_
    refine hs_gfi 13 ci_1658_304 (by decide +kernel) hp ?_
    refine hs_iload_n ci_1658_307 l2 ?_
    refine hs_if (t := 316) ci_1658_308 rfl (fun b308 => ?_) (fun b308 => ?_)
    · simp only [hs_cd, ab_not] at b308
      refine hs_iconst ci_1658_316 ?_
      refine hs_ic (t := 324) ci_1658_317 rfl (fun b317 => ?_) (fun b317 => ?_)
      · simp only [hs_cd, ab_not, kI_3] at b317
        refine hs_iload_n ci_1658_324 l2 ?_
        refine hs_if (t := 332) ci_1658_325 rfl (fun b325 => ?_) (fun b325 => ?_)
        · simp only [hs_cd, ab_not] at b325
          refine hs_iconst ci_1658_332 ?_
          refine hs_pfi 11 (0) (4) ci_1658_333 (by decide +kernel) hp (by decide) (by decide) ?_
          intro h333 w333
          replace hp := w333.1
          exact hs_k ⟨5, none, by decide +kernel, by rw [rt_1658]; rfl, fin _ _ w333 (by have e1 := kI_1; have e2 := kI_2; have e4 := kI_4; omega)⟩
        · simp only [hs_cd, ab_not] at b325
          refine hs_iconst ci_1658_328 ?_
          refine hs_goto (t := 333) ci_1658_329 rfl ?_
          refine hs_pfi 11 (0) (4) ci_1658_333 (by decide +kernel) hp (by decide) (by decide) ?_
          intro h333 w333
          replace hp := w333.1
          exact hs_k ⟨5, none, by decide +kernel, by rw [rt_1658]; rfl, fin _ _ w333 (by have e1 := kI_1; have e2 := kI_2; have e4 := kI_4; omega)⟩
      · simp only [hs_cd, ab_not, kI_3] at b317
        refine hs_iconst ci_1658_320 ?_
        refine hs_goto (t := 333) ci_1658_321 rfl ?_
        refine hs_pfi 11 (0) (4) ci_1658_333 (by decide +kernel) hp (by decide) (by decide) ?_
        intro h333 w333
        replace hp := w333.1
        exact hs_k ⟨5, none, by decide +kernel, by rw [rt_1658]; rfl, fin _ _ w333 (by have e1 := kI_1; have e2 := kI_2; have e4 := kI_4; omega)⟩
    · simp only [hs_cd, ab_not] at b308
      refine hs_bipush ci_1658_311 ?_
      refine hs_goto (t := 317) ci_1658_313 rfl ?_
      refine hs_ic (t := 324) ci_1658_317 rfl (fun b317 => ?_) (fun b317 => ?_)
      · simp only [hs_cd, ab_not, kB_7] at b317
        refine hs_iload_n ci_1658_324 l2 ?_
        refine hs_if (t := 332) ci_1658_325 rfl (fun b325 => ?_) (fun b325 => ?_)
        · simp only [hs_cd, ab_not] at b325
          refine hs_iconst ci_1658_332 ?_
          refine hs_pfi 11 (0) (4) ci_1658_333 (by decide +kernel) hp (by decide) (by decide) ?_
          intro h333 w333
          replace hp := w333.1
          exact hs_k ⟨5, none, by decide +kernel, by rw [rt_1658]; rfl, fin _ _ w333 (by have e1 := kI_1; have e2 := kI_2; have e4 := kI_4; omega)⟩
        · simp only [hs_cd, ab_not] at b325
          refine hs_iconst ci_1658_328 ?_
          refine hs_goto (t := 333) ci_1658_329 rfl ?_
          refine hs_pfi 11 (0) (4) ci_1658_333 (by decide +kernel) hp (by decide) (by decide) ?_
          intro h333 w333
          replace hp := w333.1
          exact hs_k ⟨5, none, by decide +kernel, by rw [rt_1658]; rfl, fin _ _ w333 (by have e1 := kI_1; have e2 := kI_2; have e4 := kI_4; omega)⟩
      · simp only [hs_cd, ab_not, kB_7] at b317
        refine hs_iconst ci_1658_320 ?_
        refine hs_goto (t := 333) ci_1658_321 rfl ?_
        refine hs_pfi 11 (0) (4) ci_1658_333 (by decide +kernel) hp (by decide) (by decide) ?_
        intro h333 w333
        replace hp := w333.1
        exact hs_k ⟨5, none, by decide +kernel, by rw [rt_1658]; rfl, fin _ _ w333 (by have e1 := kI_1; have e2 := kI_2; have e4 := kI_4; omega)⟩
