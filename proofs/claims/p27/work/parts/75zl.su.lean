/-! BY HAND: what was sworn last -/
theorem ci_1117_0 : ab_at 1117 0 (.aload_n 0) 1 = true := by decide +kernel
theorem ci_1117_1 : ab_at 1117 1 (.getfield 63) 3 = true := by decide +kernel
theorem ci_1117_4 : ab_at 1117 4 (.getfield 308) 3 = true := by decide +kernel
theorem ci_1121_0 : ab_at 1121 0 (.aload_n 0) 1 = true := by decide +kernel
theorem ci_1121_1 : ab_at 1121 1 (.getfield 63) 3 = true := by decide +kernel
theorem ci_1121_4 : ab_at 1121 4 (.getfield 311) 3 = true := by decide +kernel
theorem ci_1997_0 : ab_at 1997 0 (.aload_n 0) 1 = true := by decide +kernel
theorem ci_1997_1 : ab_at 1997 1 (.iconst 0) 1 = true := by decide +kernel
theorem ci_1997_2 : ab_at 1997 2 (.putfield 1) 3 = true := by decide +kernel
theorem ci_1997_5 : ab_at 1997 5 (.aload_n 0) 1 = true := by decide +kernel
theorem ci_1997_6 : ab_at 1997 6 (.getfield 400) 3 = true := by decide +kernel
theorem ci_1997_9 : ab_at 1997 9 (.ifCond .eq 10) 3 = true := by decide +kernel
theorem ci_1997_12 : ab_at 1997 12 (.aload_n 0) 1 = true := by decide +kernel
theorem ci_1997_13 : ab_at 1997 13 (.getfield 403) 3 = true := by decide +kernel
theorem ci_1997_16 : ab_at 1997 16 (.goto 4) 3 = true := by decide +kernel
theorem ci_1997_19 : ab_at 1997 19 (.iconst (-1)) 1 = true := by decide +kernel
theorem ci_2001_0 : ab_at 2001 0 (.aload_n 0) 1 = true := by decide +kernel
theorem ci_2001_1 : ab_at 2001 1 (.iconst 0) 1 = true := by decide +kernel
theorem ci_2001_2 : ab_at 2001 2 (.putfield 1) 3 = true := by decide +kernel
theorem ci_2001_5 : ab_at 2001 5 (.aload_n 0) 1 = true := by decide +kernel
theorem ci_2001_6 : ab_at 2001 6 (.getfield 400) 3 = true := by decide +kernel
theorem ci_2001_9 : ab_at 2001 9 (.ifCond .eq 10) 3 = true := by decide +kernel
theorem ci_2001_12 : ab_at 2001 12 (.aload_n 0) 1 = true := by decide +kernel
theorem ci_2001_13 : ab_at 2001 13 (.getfield 406) 3 = true := by decide +kernel
theorem ci_2001_16 : ab_at 2001 16 (.goto 4) 3 = true := by decide +kernel
theorem ci_2001_19 : ab_at 2001 19 (.iconst (-1)) 1 = true := by decide +kernel
/-- how many words a man gave -/
def gc_n (g : Nat → Int32) (m : Int32) : Nat → Nat
  | 0 => 0
  | p + 1 => (if (g p).toInt = m.toInt then 1 else 0) + gc_n g m p
theorem or_one : ∀ p : Nat, p < 10 → ∀ n : Nat, n < 1024 → bs_n 10 (Int32.ofNat n ||| (Int32.ofInt 1 <<< (Int32.ofNat p &&& 31))) ≤ bs_n 10 (Int32.ofNat n) + 1 := by decide +kernel
theorem gv_c {g : Nat → Int32} {m : Int32} : ∀ p, p ≤ 10 → bs_n 10 (gv_n g m p) ≤ gc_n g m p
  | 0, _ => by
    show bs_n 10 (Int32.ofInt 0) ≤ 0
    decide +kernel
  | p + 1, h => by
    have ih := gv_c (g := g) (m := m) p (by omega)
    obtain ⟨b1, b2⟩ := gv_b (g := g) (m := m) p (by omega)
    unfold gv_n gc_n
    by_cases c : (g p).toInt = m.toInt
    · rw [if_pos c, if_pos c]
      have o := or_one p (by omega) (gv_n g m p).toInt.toNat (by omega)
      rw [← i32_nat (x := gv_n g m p) (n := (gv_n g m p).toInt.toNat) (by omega) (by omega)] at o
      omega
    · rw [if_neg c, if_neg c]
      omega
/-- of all the men -/
def sg_n (g : Nat → Int32) (n : Nat) : Nat → Nat
  | 0 => 0
  | m + 1 => sg_n g n m + gc_n g (Int32.ofNat m) n
theorem sg_z {g : Nat → Int32} : ∀ m, sg_n g 0 m = 0
  | 0 => rfl
  | m + 1 => by
    show sg_n g 0 m + 0 = 0
    rw [sg_z m]
theorem sg_s {g : Nat → Int32} {p : Nat} : ∀ m : Nat, m ≤ 6 → ((g p).toInt < (m : Int) → sg_n g (p + 1) m ≤ sg_n g p m + 1) ∧ (¬ (g p).toInt < (m : Int) → sg_n g (p + 1) m ≤ sg_n g p m)
  | 0, _ => ⟨fun _ => Nat.zero_le _, fun _ => Nat.le_refl _⟩
  | m + 1, hm => by
    obtain ⟨i1, i2⟩ := sg_s (g := g) (p := p) m (by omega)
    have e1 : sg_n g (p + 1) (m + 1) = sg_n g (p + 1) m + ((if (g p).toInt = (Int32.ofNat m).toInt then 1 else 0) + gc_n g (Int32.ofNat m) p) := rfl
    have e2 : sg_n g p (m + 1) = sg_n g p m + gc_n g (Int32.ofNat m) p := rfl
    rw [sm_n m (by omega)] at e1
    by_cases c : (g p).toInt = (m : Int)
    · rw [if_pos c] at e1
      have := i2 (by omega)
      exact ⟨fun _ => by omega, fun _ => by omega⟩
    · rw [if_neg c] at e1
      refine ⟨fun k => ?_, fun k => ?_⟩
      · have := i1 (by omega)
        omega
      · have := i2 (by omega)
        omega
theorem sg_b {g : Nat → Int32} {m : Nat} (hm : m ≤ 6) : ∀ p, sg_n g p m ≤ p
  | 0 => by rw [sg_z]; exact Nat.le_refl _
  | p + 1 => by
    have ih := sg_b (g := g) hm p
    obtain ⟨i1, i2⟩ := sg_s (g := g) (p := p) m hm
    by_cases c : (g p).toInt < (m : Int)
    · have := i1 c
      omega
    · have := i2 c
      omega
theorem wy_b : ∀ a : Nat, a < 11 → ∀ s : Nat, s < 256 → 0 ≤ (wy_n (Int32.ofNat a) (Int32.ofNat s)).toInt ∧ (wy_n (Int32.ofNat a) (Int32.ofNat s)).toInt ≤ ((2 ^ a : Nat) : Int) := by decide +kernel
theorem sw_b {g : Nat → Int32} {B : Nat → Int} {n : Nat} (hn : n ≤ 10) : ∀ m, m ≤ 6 → (∀ q, q < m → 0 ≤ B q ∧ B q < 256) → 0 ≤ (sw_n (fun k => gv_n g (Int32.ofNat k) n) B m).1.toInt ∧ (sw_n (fun k => gv_n g (Int32.ofNat k) n) B m).1.toInt ≤ ((2 ^ sg_n g n m : Nat) : Int)
  | 0, _, _ => by
    show 0 ≤ (Int32.ofInt 1).toInt ∧ (Int32.ofInt 1).toInt ≤ ((2 ^ 0 : Nat) : Int)
    decide +kernel
  | m + 1, hm, hB => by
    obtain ⟨x0, x1⟩ := sw_b (g := g) (B := B) hn m (by omega) (fun q hq => hB q (by omega))
    obtain ⟨b0, b1⟩ := hB m (by omega)
    have c1 := gv_c (g := g) (m := Int32.ofNat m) n hn
    have c2 := (bc_v (x := gv_n g (Int32.ofNat m) n) (gv_b n hn)).2.2
    obtain ⟨y0, y1⟩ := wy_b (bs_n 10 (gv_n g (Int32.ofNat m) n)) (by omega) (B m).toNat (by omega)
    have sb := sg_b (g := g) (m := m + 1) hm n
    have s1 : sg_n g n (m + 1) = sg_n g n m + gc_n g (Int32.ofNat m) n := rfl
    have e1 : 2 ^ sg_n g n m * 2 ^ bs_n 10 (gv_n g (Int32.ofNat m) n) ≤ 2 ^ sg_n g n (m + 1) := by
      rw [← Nat.pow_add, s1]
      exact Nat.pow_le_pow_right (by decide) (by omega)
    have e2 : 2 ^ sg_n g n (m + 1) ≤ 2 ^ 10 := Nat.pow_le_pow_right (by decide) (by omega)
    have e4 := Int.mul_nonneg x0 y0
    have e5 := Int.mul_le_mul x1 y1 y0 (Int.natCast_nonneg _)
    rw [← Int.natCast_mul] at e5
    have e6 := Int.le_trans e5 (Int.ofNat_le.mpr e1)
    have e7 := Int.le_trans e6 (Int.ofNat_le.mpr e2)
    have e8 := Int.le_trans e7 (show ((2 ^ 10 : Nat) : Int) ≤ 2147483647 by decide)
    have e9 := Int.le_trans (show (-2147483648 : Int) ≤ 0 by decide) e4
    have er : (sw_n (fun k => gv_n g (Int32.ofNat k) n) B (m + 1)).1.toInt = (sw_n (fun k => gv_n g (Int32.ofNat k) n) B m).1.toInt * (wy_n (Int32.ofNat (bs_n 10 (gv_n g (Int32.ofNat m) n))) (Int32.ofNat (B m).toNat)).toInt := i32_mul rfl rfl e9 e8
    rw [er]
    exact ⟨e4, e6⟩
/-- the latest that was sworn -/
def js (h : eg_H) : Prop := ((hv h 182 35).toInt = 0 ∧ (hv h 109 4).toInt = -1 ∧ (hv h 109 5).toInt = -1) ∨ ((hv h 182 35).toInt = 1 ∧ hv h 109 4 = hv h 182 33 ∧ hv h 109 5 = hv h 182 34)
theorem js_k {h h' : eg_H} (a1 : hv h' 182 35 = hv h 182 35) (a2 : hv h' 109 4 = hv h 109 4) (a3 : hv h' 109 5 = hv h 109 5) (a4 : hv h' 182 33 = hv h 182 33) (a5 : hv h' 182 34 = hv h 182 34) (j : js h) : js h' := by
  unfold js
  rw [a1, a2, a3, a4, a5]
  exact j
def sz_P (h : eg_H) (k : Nat) (vo : Option Value) (h' : eg_H) : Prop := ab_hp h' ∧ ab_fr [(182, 0, 0)] h' h ∧ ∃ r : Int32, vo = some (.int r) ∧ r.toInt = if (hv h 182 35).toInt = 0 then -1 else (hv h 182 k).toInt
theorem rt_1117 : (eg_md 1117).2.2.2 = some .int := by decide +kernel
theorem rt_1121 : (eg_md 1121).2.2.2 = some .int := by decide +kernel
theorem rt_1997 : (eg_md 1997).2.2.2 = some .int := by decide +kernel
theorem rt_2001 : (eg_md 2001).2.2.2 = some .int := by decide +kernel
theorem k_sur {sc : List Value} {sp d : Nat} {h : eg_H} (hq : ab_hp h) : mc sc sp 1117 10 d [.ref 0] h (pe_P h (hv h 109 4)) := by
  have l0 : eg_find 0 (eg_args 0 [.ref 0]) = some (.ref 0) := rfl
  have hp := hq.1
  unfold mc
  refine hs_aload_n ci_1117_0 l0 ?_
  refine hs_gfr 7 109 ci_1117_1 (by decide +kernel) hp ?_
  refine hs_gfi 4 ci_1117_4 (by decide +kernel) hp ?_
  exact hs_k ⟨3, some (.int (hv h 109 4)), by decide +kernel, by rw [rt_1117]; rfl, rfl, rfl⟩
theorem k_ask {sc : List Value} {sp d : Nat} {h : eg_H} (hq : ab_hp h) : mc sc sp 1121 10 d [.ref 0] h (pe_P h (hv h 109 5)) := by
  have l0 : eg_find 0 (eg_args 0 [.ref 0]) = some (.ref 0) := rfl
  have hp := hq.1
  unfold mc
  refine hs_aload_n ci_1121_0 l0 ?_
  refine hs_gfr 7 109 ci_1121_1 (by decide +kernel) hp ?_
  refine hs_gfi 5 ci_1121_4 (by decide +kernel) hp ?_
  exact hs_k ⟨3, some (.int (hv h 109 5)), by decide +kernel, by rw [rt_1121]; rfl, rfl, rfl⟩
theorem m_sur {sc : List Value} {sp d : Nat} {h : eg_H} (hq : ab_hp h) : mc sc sp 1997 11 d [.ref 182] h (sz_P h 33) := by
  have l0 : eg_find 0 (eg_args 0 [.ref 182]) = some (.ref 182) := rfl
  have hp := hq.1
  unfold mc
  refine hs_aload_n ci_1997_0 l0 ?_
  refine hs_iconst ci_1997_1 ?_
  refine hs_pfi 0 (0) (1) ci_1997_2 (by decide +kernel) hp (by decide) (by decide) ?_
  intro h2 w2
  replace hp := w2.1
  have f2 : ab_fr [(182, 0, 0)] h2 h := w2.fr rfl
  have q2 : ab_hp h2 := ⟨hp, hq.2.fr (M := [(182, 0, 0)]) (by decide +kernel) f2⟩
  refine hs_aload_n ci_1997_5 l0 ?_
  refine hs_gfi 35 ci_1997_6 (by decide +kernel) hp ?_
  refine hs_if (t := 19) ci_1997_9 rfl (fun b9 => ?_) (fun b9 => ?_)
  · simp only [hs_cd, ab_not] at b9
    refine hs_iconst ci_1997_19 ?_
    rw [hv_same (f2 182 35 rfl)] at b9
    exact hs_k ⟨3, some (.int (Int32.ofInt (-1))), by decide +kernel, by rw [rt_1997]; rfl, q2, f2, _, rfl, by rw [if_pos b9]; exact kI_m1⟩
  · simp only [hs_cd, ab_not] at b9
    refine hs_aload_n ci_1997_12 l0 ?_
    refine hs_gfi 33 ci_1997_13 (by decide +kernel) hp ?_
    refine hs_goto (t := 20) ci_1997_16 rfl ?_
    rw [hv_same (f2 182 35 rfl)] at b9
    exact hs_k ⟨3, some (.int (hv h2 182 33)), by decide +kernel, by rw [rt_1997]; rfl, q2, f2, _, rfl, by rw [if_neg b9, hv_same (f2 182 33 rfl)]⟩
theorem m_ask {sc : List Value} {sp d : Nat} {h : eg_H} (hq : ab_hp h) : mc sc sp 2001 11 d [.ref 182] h (sz_P h 34) := by
  have l0 : eg_find 0 (eg_args 0 [.ref 182]) = some (.ref 182) := rfl
  have hp := hq.1
  unfold mc
  refine hs_aload_n ci_2001_0 l0 ?_
  refine hs_iconst ci_2001_1 ?_
  refine hs_pfi 0 (0) (1) ci_2001_2 (by decide +kernel) hp (by decide) (by decide) ?_
  intro h2 w2
  replace hp := w2.1
  have f2 : ab_fr [(182, 0, 0)] h2 h := w2.fr rfl
  have q2 : ab_hp h2 := ⟨hp, hq.2.fr (M := [(182, 0, 0)]) (by decide +kernel) f2⟩
  refine hs_aload_n ci_2001_5 l0 ?_
  refine hs_gfi 35 ci_2001_6 (by decide +kernel) hp ?_
  refine hs_if (t := 19) ci_2001_9 rfl (fun b9 => ?_) (fun b9 => ?_)
  · simp only [hs_cd, ab_not] at b9
    refine hs_iconst ci_2001_19 ?_
    rw [hv_same (f2 182 35 rfl)] at b9
    exact hs_k ⟨3, some (.int (Int32.ofInt (-1))), by decide +kernel, by rw [rt_2001]; rfl, q2, f2, _, rfl, by rw [if_pos b9]; exact kI_m1⟩
  · simp only [hs_cd, ab_not] at b9
    refine hs_aload_n ci_2001_12 l0 ?_
    refine hs_gfi 34 ci_2001_13 (by decide +kernel) hp ?_
    refine hs_goto (t := 20) ci_2001_16 rfl ?_
    rw [hv_same (f2 182 35 rfl)] at b9
    exact hs_k ⟨3, some (.int (hv h2 182 34)), by decide +kernel, by rw [rt_2001]; rfl, q2, f2, _, rfl, by rw [if_neg b9, hv_same (f2 182 34 rfl)]⟩
