/-! BY HAND: nots and joins, with what stands open (after part 70) -/
theorem nu_loop {sc : List Value} {sp d : Nat} {h0 : eg_H} {n k : Nat} {e0 : Int} (g1 : -100 ≤ e0) (g2 : e0 ≤ 100) (hk : k ≤ 44) (r : Nat) : ∀ (c t : Nat) (ls : eg_L) (h : eg_H), t + 1 ≤ r → c + t = k → S5 h c t n 1 1 → ab_hp h → ab_fr [(182, 45, 48), (186, 0, 134)] h h0 → (hv h 182 48).toInt = e0 + (t : Int) → eg_find 0 ls = some (.ref 182) → hs sc sp 2077 11 (d + 1) (fun pc' _ st' h' => pc' = 54 ∧ st' = [] ∧ ab_hp h' ∧ ab_fr [(182, 45, 48), (186, 0, 134)] h' h0 ∧ ∃ c' t', c' + t' = k ∧ t' ≤ t ∧ S5 h' c' t' n 1 1 ∧ (hv h' 182 48).toInt = e0 + (t' : Int) ∧ (∀ i, t' ≤ i → i < t → SK h i = 20) ∧ (∀ i, i + 1 = t' → SK h i ≠ 20) ∧ ∀ i, SK h' i = SK h i) 0 ls [] h := by
  induction r with
  | zero =>
    intro c t ls h hr
    omega
  | succ r ih =>
    intro c t ls h hr hk2 s5 hp hf hd l0
    refine hs_aload_n ci_2077_0 l0 ?_
    refine hs_gfi 47 ci_2077_1 (by decide +kernel) hp.1 ?_
    refine hs_if (t := 54) ci_2077_4 rfl (fun b4 => ?_) (fun b4 => ?_)
    · simp only [hs_cd, ab_not] at b4
      exact hs_k ⟨rfl, rfl, hp, hf, c, _, hk2, Nat.le_refl _, s5, hd, fun i z1 z2 => by omega, fun i z => by have := s5.2.1; omega, fun _ => rfl⟩
    · simp only [hs_cd, ab_not] at b4
      obtain ⟨t, rfl⟩ : ∃ t1, t = t1 + 1 := ⟨t - 1, by have := s5.2.1; omega⟩
      refine hs_aload_n ci_2077_7 l0 ?_
      refine hs_gfr 44 199 ci_2077_8 (by decide +kernel) hp.1 ?_
      refine hs_aload_n ci_2077_11 l0 ?_
      refine hs_gfi 47 ci_2077_12 (by decide +kernel) hp.1 ?_
      refine hs_iconst ci_2077_15 ?_
      refine hs_isub ci_2077_16 ?_
      refine hs_ial1 (0 + t) ci_2077_17 ((i32_sub s5.2.1 (b := 1) rfl (by omega) (by omega)).trans (by omega)) (ckq_v gq_sk t (by omega)) hp.1 ?_
      refine hs_bipush ci_2077_18 ?_
      refine hs_ic (t := 54) ci_2077_20 rfl (fun b20 => ?_) (fun b20 => ?_)
      · simp only [hs_cd, ab_not] at b20
        refine hs_k ⟨rfl, rfl, hp, hf, c, _, hk2, Nat.le_refl _, s5, hd, fun i z1 z2 => by omega, fun i z => ?_, fun _ => rfl⟩
        obtain rfl : i = t := by omega
        have e20 : (Int8.ofInt 20).toInt32.toInt = 20 := rfl
        unfold SK
        rw [show i = 0 + i by omega]
        omega
      · simp only [hs_cd, ab_not] at b20
        refine hs_aload_n ci_2077_23 l0 ?_
        refine hs_dup ci_2077_24 rfl ?_
        refine hs_gfi 47 ci_2077_25 (by decide +kernel) hp.1 ?_
        refine hs_iconst ci_2077_28 ?_
        refine hs_isub ci_2077_29 ?_
        have e5 : (hv h 182 47 - Int32.ofInt 1).toInt = (t : Int) := (i32_sub s5.2.1 (b := 1) rfl (by omega) (by omega)).trans (by omega)
        refine hs_pfi 47 0 45 ci_2077_30 (by decide +kernel) hp.1 (by rw [e5]; omega) (by rw [e5]; omega) ?_
        intro j1 w9
        replace hf := (w9.fr (M := [(182, 45, 48), (186, 0, 134)]) rfl).tr hf
        replace hp : ab_hp j1 := ⟨w9.1, hp.2.set (by unfold ab_pr; rfl) w9.2⟩
        have s6 := s5.pop (h' := j1) (by rw [w9.v, if_neg (fun e => absurd e.2 (by decide))]) (by rw [w9.v, if_pos ⟨rfl, rfl⟩]; exact e5) (by rw [w9.v, if_neg (fun e => absurd e.2 (by decide))]) (by rw [w9.v, if_neg (fun e => absurd e.2 (by decide))]) (fun j => by rw [w9.v, if_neg (fun e => absurd e.1 (by decide))]) (fun j => by rw [w9.v, if_neg (fun e => absurd e.1 (by decide))])
        have d1 : hv j1 182 48 = hv h 182 48 := by rw [w9.v, if_neg (fun e => absurd e.2 (by decide))]
        have m1 : ∀ i, hv j1 199 i = hv h 199 i := fun i => by rw [w9.v, if_neg (fun e => absurd e.1 (by decide))]
        clear w9
        refine hs_aload_n ci_2077_33 l0 ?_
        refine hs_dup ci_2077_34 rfl ?_
        refine hs_gfi 48 ci_2077_35 (by decide +kernel) hp.1 ?_
        refine hs_iconst ci_2077_38 ?_
        refine hs_isub ci_2077_39 ?_
        refine hs_pfi 48 (-2147483648) (2147483647) ci_2077_40 (by decide +kernel) hp.1 (ab_ige _) (ab_ile _) ?_
        intro j2 w9
        replace hf := (w9.fr (M := [(182, 45, 48), (186, 0, 134)]) rfl).tr hf
        replace hp : ab_hp j2 := ⟨w9.1, hp.2.set (by unfold ab_pr; rfl) w9.2⟩
        have hsk : SK h t = 20 := by have e20 : (Int8.ofInt 20).toInt32.toInt = 20 := rfl; unfold SK; rw [show t = 0 + t by omega]; omega
        rw [if_neg (by rw [hsk]; decide)] at s6
        replace s6 := s6.same (h' := j2) (by rw [w9.v, if_neg (fun e => absurd e.2 (by decide))]) (by rw [w9.v, if_neg (fun e => absurd e.2 (by decide))]) (by rw [w9.v, if_neg (fun e => absurd e.2 (by decide))]) (by rw [w9.v, if_neg (fun e => absurd e.2 (by decide))]) (fun j => by rw [w9.v, if_neg (fun e => absurd e.1 (by decide))]) (fun j => by rw [w9.v, if_neg (fun e => absurd e.1 (by decide))])
        have d2 : (hv j2 182 48).toInt = e0 + (t : Int) := by
          rw [w9.v, if_pos ⟨rfl, rfl⟩, d1, i32_sub hd (b := 1) rfl (by omega) (by omega)]
          omega
        have m2 : ∀ i, hv j2 199 i = hv h 199 i := fun i => by rw [w9.v, if_neg (fun e => absurd e.1 (by decide))]; exact m1 i
        clear w9
        refine hs_aload_n ci_2077_43 l0 ?_
        refine hs_bipush ci_2077_44 ?_
        refine hs_iconst ci_2077_46 ?_
        refine hs_iconst ci_2077_47 ?_
        refine hs_cv 2081 11 3 ci_2077_48 (by decide +kernel) (by decide +kernel) hp.1 rfl (by rw [ml_2081]; rfl) (c_code (d := d) _ _ _ s6 (by omega) (fun _ => by omega) (fun q => by have e20 : (Int8.ofInt 20).toInt32.toInt = 20 := rfl; omega) hp) ?_
        rintro v9 k1 ⟨hp2, f2, s7, e8⟩
        have d3 : (hv k1 182 48).toInt = e0 + (t : Int) := by rw [hv_fr f2 (by rfl)]; exact d2
        have m3 : ∀ i, SK k1 i = SK h i := fun i => by unfold SK; rw [hv_fr f2 (by rfl), m2 i]
        rw [e8]
        clear e8 v9
        simp only [Option.toList, List.cons_append, List.nil_append]
        have e20 : wf_d (Int8.ofInt 20).toInt32.toInt = 0 := rfl
        rw [e20] at s7
        replace hf := (fr_sub (M := [(182, 45, 48), (186, 0, 134)]) (by decide +kernel) f2).tr hf
        replace hp := hp2
        clear hp2
        refine hs_goto (t := 0) ci_2077_51 rfl ?_
        refine hs.mono (ih (c + 1) t _ _ (by omega) (by omega) s7 hp hf d3 l0) ?_
        rintro pc' ls' st' h' ⟨z1, z2, z3, z4, c', t', z5, z6, z7, z8, z9, z10, z11⟩
        refine ⟨z1, z2, z3, z4, c', t', z5, by omega, z7, z8, fun i y1 y2 => ?_, fun i y => ?_, fun i => (z11 i).trans (m3 i)⟩
        · by_cases e : i = t
          · rw [e]
            exact hsk
          · rw [← m3 i]
            exact z9 i y1 (by omega)
        · rw [← m3 i]
          exact z10 i y
theorem c_nots2 {sc : List Value} {sp d : Nat} {h : eg_H} {c t n : Nat} {e0 : Int} (g1 : -100 ≤ e0) (g2 : e0 ≤ 100) (hk : c + t ≤ 44) (s5 : S5 h c t n 1 1) (hd : (hv h 182 48).toInt = e0 + (t : Int)) (hp : ab_hp h) : mc sc sp 2077 11 (d + 1) [.ref 182] h (fun vo h' => vo = none ∧ ab_hp h' ∧ ab_fr [(182, 45, 48), (186, 0, 134)] h' h ∧ ∃ c' t', c' + t' = c + t ∧ t' ≤ t ∧ S5 h' c' t' n 1 1 ∧ (hv h' 182 48).toInt = e0 + (t' : Int) ∧ (∀ i, t' ≤ i → i < t → SK h i = 20) ∧ (∀ i, i + 1 = t' → SK h i ≠ 20) ∧ ∀ i, SK h' i = SK h i) := by
  have l0 : eg_find 0 (eg_args 0 [.ref 182]) = some (.ref 182) := rfl
  unfold mc
  refine hs.mono (nu_loop g1 g2 hk (t + 1) c t _ h (Nat.le_refl _) rfl s5 hp ab_fr.rf hd l0) ?_
  rintro pc' ls' st' h' ⟨rfl, rfl, g3, g4, g5⟩
  exact ⟨5, none, by decide +kernel, by rw [rt_2077]; rfl, rfl, g3, g4, g5⟩
theorem ju_loop {sc : List Value} {sp d : Nat} {h0 : eg_H} {n k : Nat} {x1 : Int32} (hk : k ≤ 44) (r : Nat) : ∀ (c t : Nat) (ls : eg_L) (h : eg_H), t + 1 ≤ r → c + t = k → S5 h c t n 1 1 → ab_hp h → ab_fr [(182, 45, 48), (186, 0, 134)] h h0 → eg_find 0 ls = some (.ref 182) → eg_find 1 ls = some (.int x1) → hs sc sp 2085 11 (d + 1) (fun pc' _ st' h' => pc' = 73 ∧ st' = [] ∧ ab_hp h' ∧ ab_fr [(182, 45, 48), (186, 0, 134)] h' h0 ∧ ∃ c' t', c' + t' = k ∧ t' ≤ t ∧ S5 h' c' t' n 1 1 ∧ (x1.toInt = 22 → t' = 0 ∨ ∃ t1, t' = t1 + 1 ∧ ¬ (SK h' t1 = 21 ∨ SK h' t1 = 22)) ∧ hv h' 182 48 = hv h 182 48 ∧ (∀ i, t' ≤ i → i < t → SK h i = 21 ∨ SK h i = 22) ∧ ∀ i, SK h' i = SK h i) 0 ls [] h := by
  induction r with
  | zero =>
    intro c t ls h hr
    omega
  | succ r ih =>
    intro c t ls h hr hk2 s5 hp hf l0 l1
    refine hs_aload_n ci_2085_0 l0 ?_
    refine hs_gfi 47 ci_2085_1 (by decide +kernel) hp.1 ?_
    refine hs_if (t := 73) ci_2085_4 rfl (fun b4 => ?_) (fun b4 => ?_)
    · simp only [hs_cd, ab_not] at b4
      exact hs_k ⟨rfl, rfl, hp, hf, c, _, hk2, Nat.le_refl _, s5, fun _ => Or.inl (by have := s5.2.1; omega), rfl, fun i z1 z2 => by omega, fun _ => rfl⟩
    · simp only [hs_cd, ab_not] at b4
      obtain ⟨t, rfl⟩ : ∃ t1, t = t1 + 1 := ⟨t - 1, by have := s5.2.1; omega⟩
      have e21 : (Int8.ofInt 21).toInt32.toInt = 21 := rfl
      have e22 : (Int8.ofInt 22).toInt32.toInt = 22 := rfl
      refine hs_aload_n ci_2085_7 l0 ?_
      refine hs_gfr 44 199 ci_2085_8 (by decide +kernel) hp.1 ?_
      refine hs_aload_n ci_2085_11 l0 ?_
      refine hs_gfi 47 ci_2085_12 (by decide +kernel) hp.1 ?_
      refine hs_iconst ci_2085_15 ?_
      refine hs_isub ci_2085_16 ?_
      refine hs_ial1 (0 + t) ci_2085_17 ((i32_sub s5.2.1 (b := 1) rfl (by omega) (by omega)).trans (by omega)) (ckq_v gq_sk t (by omega)) hp.1 ?_
      refine hs_bipush ci_2085_18 ?_
      refine hs_ic (t := 45) ci_2085_20 rfl (fun b20 => ?_) (fun b20 => ?_)
      · simp only [hs_cd, ab_not] at b20
        refine hs_aload_n ci_2085_45 l0 ?_
        refine hs_dup ci_2085_46 rfl ?_
        refine hs_gfi 47 ci_2085_47 (by decide +kernel) hp.1 ?_
        refine hs_iconst ci_2085_50 ?_
        refine hs_isub ci_2085_51 ?_
        have e5 : (hv h 182 47 - Int32.ofInt 1).toInt = (t : Int) := (i32_sub s5.2.1 (b := 1) rfl (by omega) (by omega)).trans (by omega)
        refine hs_pfi 47 0 45 ci_2085_52 (by decide +kernel) hp.1 (by rw [e5]; omega) (by rw [e5]; omega) ?_
        intro j1 w9
        replace hf := (w9.fr (M := [(182, 45, 48), (186, 0, 134)]) rfl).tr hf
        replace hp : ab_hp j1 := ⟨w9.1, hp.2.set (by unfold ab_pr; rfl) w9.2⟩
        have s6 := s5.pop (h' := j1) (by rw [w9.v, if_neg (fun e => absurd e.2 (by decide))]) (by rw [w9.v, if_pos ⟨rfl, rfl⟩]; exact e5) (by rw [w9.v, if_neg (fun e => absurd e.2 (by decide))]) (by rw [w9.v, if_neg (fun e => absurd e.2 (by decide))]) (fun j => by rw [w9.v, if_neg (fun e => absurd e.1 (by decide))]) (fun j => by rw [w9.v, if_neg (fun e => absurd e.1 (by decide))])
        have FJ : ab_fr [(182, 45, 48), (186, 0, 134)] j1 h := w9.fr rfl
        have d1 : hv j1 182 48 = hv h 182 48 := by rw [w9.v, if_neg (fun e => absurd e.2 (by decide))]
        clear w9
        refine hs_aload_n ci_2085_55 l0 ?_
        refine hs_aload_n ci_2085_56 l0 ?_
        refine hs_gfr 44 199 ci_2085_57 (by decide +kernel) hp.1 ?_
        refine hs_aload_n ci_2085_60 l0 ?_
        refine hs_gfi 47 ci_2085_61 (by decide +kernel) hp.1 ?_
        have hbin : SK h t = 21 ∨ SK h t = 22 := by unfold SK; rw [show t = 0 + t by omega]; omega
        have hsv : hv j1 199 (0 + t) = hv h 199 (0 + t) := hv_fr FJ (by rfl)
        rw [if_pos hbin] at s6
        refine hs_ial1 (0 + t) ci_2085_64 (s6.2.1.trans (by omega)) (ckq_v gq_sk t (by omega)) hp.1 ?_
        rw [hsv]
        have hbin2 : (hv h 199 (0 + t)).toInt = 21 ∨ (hv h 199 (0 + t)).toInt = 22 := by have := hbin; unfold SK at this; rw [show t = 0 + t by omega] at this; exact this
        refine hs_iconst ci_2085_65 ?_
        refine hs_iconst ci_2085_66 ?_
        refine hs_cv 2081 11 3 ci_2085_67 (by decide +kernel) (by decide +kernel) hp.1 rfl (by rw [ml_2081]; rfl) (c_code (d := d) _ _ _ s6 (by omega) (fun q => by omega) (fun _ => by omega) hp) ?_
        rintro v9 k2 ⟨hp2, f2, s7, e8⟩
        have d3 : hv k2 182 48 = hv h 182 48 := (hv_fr f2 (by rfl)).trans d1
        have m3 : ∀ i, SK k2 i = SK h i := fun i => by unfold SK; rw [hv_fr f2 (by rfl), hv_fr FJ (by rfl)]
        rw [e8]
        clear e8 v9
        simp only [Option.toList, List.cons_append, List.nil_append]
        have ewf : wf_d (hv h 199 (0 + t)).toInt = -1 := by
          unfold wf_d
          rcases hbin2 with q | q <;> rw [q] <;> rfl
        rw [ewf] at s7
        replace hf := (fr_sub (M := [(182, 45, 48), (186, 0, 134)]) (by decide +kernel) f2).tr hf
        replace hp := hp2
        clear hp2
        refine hs_goto (t := 0) ci_2085_70 rfl ?_
        refine hs.mono (ih (c + 1) t _ _ (by omega) (by omega) s7 hp hf l0 l1) ?_
        rintro pc' ls' st' h' ⟨z1, z2, z3, z4, c', t', z5, z6, z7, z8, z9, z10, z11⟩
        refine ⟨z1, z2, z3, z4, c', t', z5, by omega, z7, z8, z9.trans d3, fun i y1 y2 => ?_, fun i => (z11 i).trans (m3 i)⟩
        by_cases e : i = t
        · rw [e]
          exact hbin
        · rw [← m3 i]
          exact z10 i y1 (by omega)
      · simp only [hs_cd, ab_not] at b20
        refine hs_aload_n ci_2085_23 l0 ?_
        refine hs_gfr 44 199 ci_2085_24 (by decide +kernel) hp.1 ?_
        refine hs_aload_n ci_2085_27 l0 ?_
        refine hs_gfi 47 ci_2085_28 (by decide +kernel) hp.1 ?_
        refine hs_iconst ci_2085_31 ?_
        refine hs_isub ci_2085_32 ?_
        refine hs_ial1 (0 + t) ci_2085_33 ((i32_sub s5.2.1 (b := 1) rfl (by omega) (by omega)).trans (by omega)) (ckq_v gq_sk t (by omega)) hp.1 ?_
        refine hs_bipush ci_2085_34 ?_
        refine hs_ic (t := 73) ci_2085_36 rfl (fun b36 => ?_) (fun b36 => ?_)
        · simp only [hs_cd, ab_not] at b36
          exact hs_k ⟨rfl, rfl, hp, hf, c, _, hk2, Nat.le_refl _, s5, fun q => Or.inr ⟨t, rfl, by unfold SK; rw [show t = 0 + t by omega]; omega⟩, rfl, fun i z1 z2 => by omega, fun _ => rfl⟩
        · simp only [hs_cd, ab_not] at b36
          refine hs_iload_n ci_2085_39 l1 ?_
          refine hs_bipush ci_2085_40 ?_
          refine hs_ic (t := 73) ci_2085_42 rfl (fun b42 => ?_) (fun b42 => ?_)
          · simp only [hs_cd, ab_not] at b42
            exact hs_k ⟨rfl, rfl, hp, hf, c, _, hk2, Nat.le_refl _, s5, fun q => Or.inr ⟨t, rfl, by unfold SK; rw [show t = 0 + t by omega]; omega⟩, rfl, fun i z1 z2 => by omega, fun _ => rfl⟩
          · simp only [hs_cd, ab_not] at b42
            refine hs_aload_n ci_2085_45 l0 ?_
            refine hs_dup ci_2085_46 rfl ?_
            refine hs_gfi 47 ci_2085_47 (by decide +kernel) hp.1 ?_
            refine hs_iconst ci_2085_50 ?_
            refine hs_isub ci_2085_51 ?_
            have e5 : (hv h 182 47 - Int32.ofInt 1).toInt = (t : Int) := (i32_sub s5.2.1 (b := 1) rfl (by omega) (by omega)).trans (by omega)
            refine hs_pfi 47 0 45 ci_2085_52 (by decide +kernel) hp.1 (by rw [e5]; omega) (by rw [e5]; omega) ?_
            intro j1 w9
            replace hf := (w9.fr (M := [(182, 45, 48), (186, 0, 134)]) rfl).tr hf
            replace hp : ab_hp j1 := ⟨w9.1, hp.2.set (by unfold ab_pr; rfl) w9.2⟩
            have s6 := s5.pop (h' := j1) (by rw [w9.v, if_neg (fun e => absurd e.2 (by decide))]) (by rw [w9.v, if_pos ⟨rfl, rfl⟩]; exact e5) (by rw [w9.v, if_neg (fun e => absurd e.2 (by decide))]) (by rw [w9.v, if_neg (fun e => absurd e.2 (by decide))]) (fun j => by rw [w9.v, if_neg (fun e => absurd e.1 (by decide))]) (fun j => by rw [w9.v, if_neg (fun e => absurd e.1 (by decide))])
            have FJ : ab_fr [(182, 45, 48), (186, 0, 134)] j1 h := w9.fr rfl
            have d1 : hv j1 182 48 = hv h 182 48 := by rw [w9.v, if_neg (fun e => absurd e.2 (by decide))]
            clear w9
            refine hs_aload_n ci_2085_55 l0 ?_
            refine hs_aload_n ci_2085_56 l0 ?_
            refine hs_gfr 44 199 ci_2085_57 (by decide +kernel) hp.1 ?_
            refine hs_aload_n ci_2085_60 l0 ?_
            refine hs_gfi 47 ci_2085_61 (by decide +kernel) hp.1 ?_
            have hbin : SK h t = 21 ∨ SK h t = 22 := by unfold SK; rw [show t = 0 + t by omega]; omega
            have hsv : hv j1 199 (0 + t) = hv h 199 (0 + t) := hv_fr FJ (by rfl)
            rw [if_pos hbin] at s6
            refine hs_ial1 (0 + t) ci_2085_64 (s6.2.1.trans (by omega)) (ckq_v gq_sk t (by omega)) hp.1 ?_
            rw [hsv]
            have hbin2 : (hv h 199 (0 + t)).toInt = 21 ∨ (hv h 199 (0 + t)).toInt = 22 := by have := hbin; unfold SK at this; rw [show t = 0 + t by omega] at this; exact this
            refine hs_iconst ci_2085_65 ?_
            refine hs_iconst ci_2085_66 ?_
            refine hs_cv 2081 11 3 ci_2085_67 (by decide +kernel) (by decide +kernel) hp.1 rfl (by rw [ml_2081]; rfl) (c_code (d := d) _ _ _ s6 (by omega) (fun q => by omega) (fun _ => by omega) hp) ?_
            rintro v9 k2 ⟨hp2, f2, s7, e8⟩
            have d3 : hv k2 182 48 = hv h 182 48 := (hv_fr f2 (by rfl)).trans d1
            have m3 : ∀ i, SK k2 i = SK h i := fun i => by unfold SK; rw [hv_fr f2 (by rfl), hv_fr FJ (by rfl)]
            rw [e8]
            clear e8 v9
            simp only [Option.toList, List.cons_append, List.nil_append]
            have ewf : wf_d (hv h 199 (0 + t)).toInt = -1 := by
              unfold wf_d
              rcases hbin2 with q | q <;> rw [q] <;> rfl
            rw [ewf] at s7
            replace hf := (fr_sub (M := [(182, 45, 48), (186, 0, 134)]) (by decide +kernel) f2).tr hf
            replace hp := hp2
            clear hp2
            refine hs_goto (t := 0) ci_2085_70 rfl ?_
            refine hs.mono (ih (c + 1) t _ _ (by omega) (by omega) s7 hp hf l0 l1) ?_
            rintro pc' ls' st' h' ⟨z1, z2, z3, z4, c', t', z5, z6, z7, z8, z9, z10, z11⟩
            refine ⟨z1, z2, z3, z4, c', t', z5, by omega, z7, z8, z9.trans d3, fun i y1 y2 => ?_, fun i => (z11 i).trans (m3 i)⟩
            by_cases e : i = t
            · rw [e]
              exact hbin
            · rw [← m3 i]
              exact z10 i y1 (by omega)
theorem c_joins2 {sc : List Value} {sp d : Nat} {h : eg_H} {c t n : Nat} (x1 : Int32) (hk : c + t ≤ 44) (s5 : S5 h c t n 1 1) (hp : ab_hp h) : mc sc sp 2085 11 (d + 1) [.ref 182, .int x1] h (fun vo h' => vo = none ∧ ab_hp h' ∧ ab_fr [(182, 45, 48), (186, 0, 134)] h' h ∧ ∃ c' t', c' + t' = c + t ∧ t' ≤ t ∧ S5 h' c' t' n 1 1 ∧ (x1.toInt = 22 → t' = 0 ∨ ∃ t1, t' = t1 + 1 ∧ ¬ (SK h' t1 = 21 ∨ SK h' t1 = 22)) ∧ hv h' 182 48 = hv h 182 48 ∧ (∀ i, t' ≤ i → i < t → SK h i = 21 ∨ SK h i = 22) ∧ ∀ i, SK h' i = SK h i) := by
  have l0 : eg_find 0 (eg_args 0 [.ref 182, .int x1]) = some (.ref 182) := rfl
  have l1 : eg_find 1 (eg_args 0 [.ref 182, .int x1]) = some (.int x1) := rfl
  unfold mc
  refine hs.mono (ju_loop hk (t + 1) c t _ h (Nat.le_refl _) rfl s5 hp ab_fr.rf l0 l1) ?_
  rintro pc' ls' st' h' ⟨rfl, rfl, g3, g4, g5⟩
  exact ⟨5, none, by decide +kernel, by rw [rt_2085]; rfl, rfl, g3, g4, g5⟩
/-- what stands open in a row of nots, brackets and joins -/
def fr_n (f : Nat → Int) : Nat → List Bool
  | 0 => []
  | t + 1 => if f t = 20 then false :: fr_n f t else if f t = 23 then true :: fr_n f t else fr_n f t
theorem fr_le {f : Nat → Int} : ∀ t, (fr_n f t).length ≤ t
  | 0 => Nat.le_refl _
  | t + 1 => by
    have ih := fr_le (f := f) t
    unfold fr_n
    by_cases a : f t = 20
    · rw [if_pos a]
      exact Nat.succ_le_succ ih
    · rw [if_neg a]
      by_cases b : f t = 23
      · rw [if_pos b]
        exact Nat.succ_le_succ ih
      · rw [if_neg b]
        exact Nat.le_succ_of_le ih
theorem fr_same {f g : Nat → Int} : ∀ t, (∀ i, i < t → f i = g i) → fr_n f t = fr_n g t
  | 0, _ => rfl
  | t + 1, h => by
    unfold fr_n
    rw [fr_same t (fun i hi => h i (by omega)), h t (by omega)]
def sh_n (f : Nat → Int) (t : Nat) : Prop := (∀ i, i < t → 20 ≤ f i ∧ f i ≤ 23) ∧ ∀ i, i + 1 < t → (f (i + 1) = 21 ∨ f (i + 1) = 22) → f i ≠ 20
theorem sh_le {f : Nat → Int} {t t' : Nat} (h : sh_n f t) (ht : t' ≤ t) : sh_n f t' := ⟨fun i hi => h.1 i (by omega), fun i hi => h.2 i (by omega)⟩
theorem fr_top {f : Nat → Int} : ∀ t, sh_n f t → (∀ i, i + 1 = t → f i ≠ 20) → dn (fr_n f t) = fr_n f t
  | 0, _, _ => rfl
  | t + 1, h, ht => by
    have h20 := ht t rfl
    unfold fr_n
    rw [if_neg h20]
    by_cases b : f t = 23
    · rw [if_pos b]
      rfl
    · rw [if_neg b]
      have hr := h.1 t (by omega)
      refine fr_top t (sh_le h (by omega)) (fun i hi => ?_)
      subst hi
      exact h.2 i (by omega) (by omega)
theorem fr_nots {f : Nat → Int} {t : Nat} : ∀ d, (∀ i, t ≤ i → i < t + d → f i = 20) → dn (fr_n f (t + d)) = dn (fr_n f t) ∧ (fr_n f (t + d)).length = (fr_n f t).length + d
  | 0, _ => ⟨rfl, rfl⟩
  | d + 1, h => by
    obtain ⟨i1, i2⟩ := fr_nots (f := f) (t := t) d (fun i a b => h i a (by omega))
    have e : fr_n f (t + (d + 1)) = false :: fr_n f (t + d) := by
      show fr_n f (t + d + 1) = _
      rw [fr_n, if_pos (h (t + d) (by omega) (by omega))]
    rw [e]
    refine ⟨i1, ?_⟩
    show (fr_n f (t + d)).length + 1 = _
    omega
theorem fr_jns {f : Nat → Int} {t : Nat} : ∀ d, (∀ i, t ≤ i → i < t + d → f i = 21 ∨ f i = 22) → fr_n f (t + d) = fr_n f t
  | 0, _ => rfl
  | d + 1, h => by
    have i1 := fr_jns (f := f) (t := t) d (fun i a b => h i a (by omega))
    have hj := h (t + d) (by omega) (by omega)
    show fr_n f (t + d + 1) = _
    rw [fr_n, if_neg (by omega), if_neg (by omega), i1]
theorem fr_tj {f : Nat → Int} {t t' : Nat} (h : sh_n f t) (ht : t' ≤ t) (hj : ∀ i, t' ≤ i → i < t → f i = 21 ∨ f i = 22) (hn : ∀ i, i + 1 = t → f i ≠ 20) : ∀ i, i + 1 = t' → f i ≠ 20 := by
  intro i hi
  by_cases e : t' = t
  · exact hn i (by omega)
  · have := hj t' (by omega) (by omega)
    subst hi
    exact h.2 i (by omega) this
/-- what stands open, and how deep that is -/
def D5 (h : eg_H) (t : Nat) (F : List Bool) : Prop := (hv h 182 48).toInt = 1 + (F.length : Int) ∧ fr_n (SK h) t = F ∧ sh_n (SK h) t
theorem D5.up {h h' : eg_H} {t : Nat} {F : List Bool} (d : D5 h t F) (e48 : hv h' 182 48 = hv h 182 48) (e : ∀ i, SK h' i = SK h i) : D5 h' t F := by
  have e1 : SK h' = SK h := funext e
  unfold D5
  rw [e48, e1]
  exact d
theorem D5.fr {M : ab_M} {h h' : eg_H} {t : Nat} {F : List Bool} (d : D5 h t F) (f : ab_fr M h' h) (k1 : ab_inr M 182 48 48 = false) (k2 : ∀ i, ab_inr M 199 i i = false) : D5 h' t F := d.up (hv_same (f 182 48 k1)) (fun i => by unfold SK; rw [hv_same (f 199 i (k2 i))])
theorem S5.fr {M : ab_M} {h h' : eg_H} {c t n w : Nat} {e : Int} (s : S5 h c t n w e) (f : ab_fr M h' h) (k1 : ab_inr M 182 45 45 = false ∧ ab_inr M 182 46 46 = false ∧ ab_inr M 182 47 47 = false ∧ ab_inr M 182 49 49 = false) (k2 : ∀ i, ab_inr M 186 i i = false) (k3 : ∀ i, ab_inr M 199 i i = false) : S5 h' c t n w e := s.same (hv_same (f 182 45 k1.1)) (hv_same (f 182 47 k1.2.2.1)) (hv_same (f 182 46 k1.2.1)) (hv_same (f 182 49 k1.2.2.2)) (fun j => hv_same (f 186 j (k2 j))) (fun j => hv_same (f 199 j (k3 j)))
/-- nots are over -/
theorem D5.nots {h h' : eg_H} {t t' : Nat} {F : List Bool} (d : D5 h t F) (ht : t' ≤ t) (e48 : (hv h' 182 48).toInt = 1 + (F.length : Int) - (t : Int) + (t' : Int)) (h1 : ∀ i, t' ≤ i → i < t → SK h i = 20) (h2 : ∀ i, i + 1 = t' → SK h i ≠ 20) (e : ∀ i, SK h' i = SK h i) : D5 h' t' (dn F) ∧ ∀ i, i + 1 = t' → SK h' i ≠ 20 := by
  obtain ⟨d1, d2, d3⟩ := d
  have e1 : SK h' = SK h := funext e
  obtain ⟨k, rfl⟩ : ∃ k, t = t' + k := ⟨t - t', by omega⟩
  obtain ⟨a1, a2⟩ := fr_nots (f := SK h) (t := t') k h1
  have a3 := fr_top t' (sh_le d3 ht) h2
  have a4 : fr_n (SK h) t' = dn F := by rw [← a3, ← a1, d2]
  rw [d2] at a2
  unfold D5
  rw [e1]
  refine ⟨⟨?_, a4, sh_le d3 ht⟩, h2⟩
  rw [← a4]
  omega
/-- joins are over -/
theorem D5.jns {h h' : eg_H} {t t' : Nat} {F : List Bool} (d : D5 h t F) (ht : t' ≤ t) (e48 : hv h' 182 48 = hv h 182 48) (h1 : ∀ i, t' ≤ i → i < t → SK h i = 21 ∨ SK h i = 22) (h2 : ∀ i, i + 1 = t → SK h i ≠ 20) (e : ∀ i, SK h' i = SK h i) : D5 h' t' F ∧ ∀ i, i + 1 = t' → SK h' i ≠ 20 := by
  obtain ⟨d1, d2, d3⟩ := d
  have e1 : SK h' = SK h := funext e
  have b := fr_tj d3 ht h1 h2
  obtain ⟨k, rfl⟩ : ∃ k, t = t' + k := ⟨t - t', by omega⟩
  have a1 := fr_jns (f := SK h) (t := t') k h1
  unfold D5
  rw [e1, e48]
  exact ⟨⟨d1, by rw [← a1]; exact d2, sh_le d3 ht⟩, b⟩
/-- one thing more -/
theorem D5.push {h h' : eg_H} {t : Nat} {F : List Bool} {v : Int} (d : D5 h t F) (e : ∀ i, i ≠ t → SK h' i = SK h i) (ev : SK h' t = v) (hv1 : 20 ≤ v ∧ v ≤ 23) (hj : v = 21 ∨ v = 22 → ∀ i, i + 1 = t → SK h i ≠ 20) (G : List Bool) (hG : G = if v = 20 then false :: F else if v = 23 then true :: F else F) (e48 : (hv h' 182 48).toInt = 1 + (G.length : Int)) : D5 h' (t + 1) G := by
  obtain ⟨d1, d2, d3, d4⟩ := d
  have a : fr_n (SK h') t = F := by rw [← d2]; exact fr_same t (fun i hi => e i (by omega))
  refine ⟨e48, ?_, fun i hi => ?_, fun i hi g => ?_⟩
  · rw [fr_n, a, ev]
    exact hG.symm
  · by_cases c : i = t
    · rw [c, ev]
      exact hv1
    · rw [e i c]
      exact d3 i (by omega)
  · rw [e i (by omega)]
    by_cases c : i + 1 = t
    · rw [c, ev] at g
      exact hj g i c
    · rw [e (i + 1) c] at g
      exact d4 i (by omega) g
/-- a bracket is closed -/
theorem D5.cls {h h' : eg_H} {t : Nat} {F : List Bool} (d : D5 h (t + 1) F) (h0 : SK h t ≠ 20) (h1 : ¬ (SK h t = 21 ∨ SK h t = 22)) (e : ∀ i, SK h' i = SK h i) (e48 : (hv h' 182 48).toInt = (hv h 182 48).toInt - 1) : ∃ G, F = true :: G ∧ D5 h' t G := by
  obtain ⟨d1, d2, d3, d4⟩ := d
  have e1 : SK h' = SK h := funext e
  have r := d3 t (by omega)
  have a : true :: fr_n (SK h) t = F := by
    rw [← d2, fr_n, if_neg h0, if_pos (by omega)]
  refine ⟨fr_n (SK h) t, a.symm, ?_, by rw [e1], by rw [e1]; exact ⟨fun i hi => d3 i (by omega), fun i hi => d4 i (by omega)⟩⟩
  have l : F.length = (fr_n (SK h) t).length + 1 := by rw [← a]; rfl
  omega
theorem D5.nil {h : eg_H} {t : Nat} {F : List Bool} (d : D5 h t F) (h2 : ∀ i, i + 1 = t → SK h i ≠ 20) (h3 : t = 0 ∨ ∃ t1, t = t1 + 1 ∧ ¬ (SK h t1 = 21 ∨ SK h t1 = 22)) : F = [] ↔ t = 0 := by
  obtain ⟨-, d2, d3, -⟩ := d
  constructor
  · intro g
    rcases h3 with z | ⟨t1, rfl, z⟩
    · exact z
    · have r := d3 t1 (by omega)
      have n := h2 t1 rfl
      rw [fr_n, if_neg n, if_pos (by omega)] at d2
      rw [g] at d2
      exact absurd d2 (List.cons_ne_nil _ _)
  · intro g
    rw [g] at d2
    exact d2.symm
