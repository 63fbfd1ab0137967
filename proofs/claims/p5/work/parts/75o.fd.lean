/-! BY HAND: names that are told already -/
theorem ci_778_0 : ab_at 778 0 (.iconst 0) 1 = true := by decide +kernel
theorem ci_778_1 : ab_at 778 1 (.istore_n 3) 1 = true := by decide +kernel
theorem ci_778_2 : ab_at 778 2 (.iload_n 3) 1 = true := by decide +kernel
theorem ci_778_3 : ab_at 778 3 (.aload_n 0) 1 = true := by decide +kernel
theorem ci_778_4 : ab_at 778 4 (.getfield 24) 3 = true := by decide +kernel
theorem ci_778_7 : ab_at 778 7 (.if_icmp .ge 22) 3 = true := by decide +kernel
theorem ci_778_10 : ab_at 778 10 (.aload_n 0) 1 = true := by decide +kernel
theorem ci_778_11 : ab_at 778 11 (.getfield 33) 3 = true := by decide +kernel
theorem ci_778_14 : ab_at 778 14 (.iload_n 3) 1 = true := by decide +kernel
theorem ci_778_15 : ab_at 778 15 (.laload) 1 = true := by decide +kernel
theorem ci_778_16 : ab_at 778 16 (.lload_n 1) 1 = true := by decide +kernel
theorem ci_778_17 : ab_at 778 17 (.lcmp) 1 = true := by decide +kernel
theorem ci_778_18 : ab_at 778 18 (.ifCond .ne 5) 3 = true := by decide +kernel
theorem ci_778_21 : ab_at 778 21 (.iload_n 3) 1 = true := by decide +kernel
theorem ci_778_23 : ab_at 778 23 (.iinc 3 1) 3 = true := by decide +kernel
theorem ci_778_26 : ab_at 778 26 (.goto (-24)) 3 = true := by decide +kernel
theorem ci_778_29 : ab_at 778 29 (.iconst (-1)) 1 = true := by decide +kernel
theorem ci_782_0 : ab_at 782 0 (.iconst 0) 1 = true := by decide +kernel
theorem ci_782_1 : ab_at 782 1 (.istore_n 3) 1 = true := by decide +kernel
theorem ci_782_2 : ab_at 782 2 (.iload_n 3) 1 = true := by decide +kernel
theorem ci_782_3 : ab_at 782 3 (.aload_n 0) 1 = true := by decide +kernel
theorem ci_782_4 : ab_at 782 4 (.getfield 27) 3 = true := by decide +kernel
theorem ci_782_7 : ab_at 782 7 (.if_icmp .ge 22) 3 = true := by decide +kernel
theorem ci_782_10 : ab_at 782 10 (.aload_n 0) 1 = true := by decide +kernel
theorem ci_782_11 : ab_at 782 11 (.getfield 44) 3 = true := by decide +kernel
theorem ci_782_14 : ab_at 782 14 (.iload_n 3) 1 = true := by decide +kernel
theorem ci_782_15 : ab_at 782 15 (.laload) 1 = true := by decide +kernel
theorem ci_782_16 : ab_at 782 16 (.lload_n 1) 1 = true := by decide +kernel
theorem ci_782_17 : ab_at 782 17 (.lcmp) 1 = true := by decide +kernel
theorem ci_782_18 : ab_at 782 18 (.ifCond .ne 5) 3 = true := by decide +kernel
theorem ci_782_21 : ab_at 782 21 (.iload_n 3) 1 = true := by decide +kernel
theorem ci_782_23 : ab_at 782 23 (.iinc 3 1) 3 = true := by decide +kernel
theorem ci_782_26 : ab_at 782 26 (.goto (-24)) 3 = true := by decide +kernel
theorem ci_782_29 : ab_at 782 29 (.iconst (-1)) 1 = true := by decide +kernel
/-- the first place below n where it is, or -1 -/
def sf (g : Nat → Int) (a : Int) : Nat → Int
  | 0 => -1
  | n + 1 => if sf g a n ≠ -1 then sf g a n else if g n = a then (n : Int) else -1
theorem sf_b {g : Nat → Int} {a : Int} : ∀ n, sf g a n = -1 ∨ (0 ≤ sf g a n ∧ sf g a n < (n : Int))
  | 0 => Or.inl rfl
  | n + 1 => by
    unfold sf
    rcases sf_b (g := g) (a := a) n with e | ⟨e1, e2⟩
    · rw [e, if_neg (by decide)]
      split
      · exact Or.inr ⟨by omega, by omega⟩
      · exact Or.inl rfl
    · rw [if_pos (by omega)]
      exact Or.inr ⟨e1, by omega⟩
theorem sf_no {g : Nat → Int} {a : Int} : ∀ n, (∀ j, j < n → g j ≠ a) → sf g a n = -1
  | 0, _ => rfl
  | n + 1, h => by
    unfold sf
    rw [sf_no n (fun j hj => h j (by omega)), if_neg (by decide), if_neg (h n (by omega))]
theorem sf_up {g : Nat → Int} {a : Int} {n : Nat} (h : ∀ j, j < n → g j ≠ a) (e : g n = a) : ∀ m, n < m → sf g a m = (n : Int)
  | 0, hm => by omega
  | m + 1, hm => by
    unfold sf
    by_cases q : n = m
    · subst q
      rw [sf_no n h, if_neg (by decide), if_pos e]
    · rw [sf_up h e m (by omega), if_pos (by omega)]
theorem sf_same {g g' : Nat → Int} {a a' : Int} : ∀ n, (∀ j, j < n → (g j = a ↔ g' j = a')) → sf g a n = sf g' a' n
  | 0, _ => rfl
  | n + 1, h => by
    unfold sf
    rw [sf_same n (fun j hj => h j (by omega))]
    by_cases e : g n = a
    · rw [if_pos e, if_pos ((h n (by omega)).mp e)]
    · rw [if_neg e, if_neg (fun q => e ((h n (by omega)).mpr q))]
theorem rt_778 : (eg_md 778).2.2.2 = some .int := by decide +kernel
def mn_P (h : eg_H) (c : Int) (vo : Option Value) (h' : eg_H) : Prop := h' = h ∧ ∃ r : Int32, vo = some (.int r) ∧ r.toInt = sf (fun j => (hl h 24 j).toInt) c (hv h 23 4).toInt.toNat
theorem mn_loop {sc : List Value} {sp d : Nat} {h : eg_H} {c : Int64} (hq : ab_hp h) : ∀ (m k : Nat) (x : Int32) (ls : eg_L), (k : Int) + (m : Int) = (hv h 23 4).toInt → x.toInt = (k : Int) → eg_find 0 ls = some (.ref 23) → eg_find 1 ls = some (.long c) → eg_find 3 ls = some (.int x) → (∀ j, j < k → (hl h 24 j).toInt ≠ c.toInt) → hs sc sp 778 1 d (fun pc' _ st' h' => ∃ ik vo, ab_ret 778 pc' = some ik ∧ eg_rv (eg_md 778).2.2.2 ik st' = some vo ∧ mn_P h c.toInt vo h') 2 ls [] h := by
  have hp := hq.1
  obtain ⟨-, n1, n2⟩ := sb_v (a := 23) (k := 4) (lo := .ofNat 0) (hi := .ofNat 6) hq (by decide +kernel)
  have n1 : (0 : Int) ≤ (hv h 23 4).toInt := n1
  have n2 : (hv h 23 4).toInt ≤ (6 : Int) := n2
  intro m
  induction m with
  | zero =>
    intro k x ls hk hx l0 l1 l3 hne
    refine hs_iload_n ci_778_2 l3 ?_
    refine hs_aload_n ci_778_3 l0 ?_
    refine hs_gfi 4 ci_778_4 (by decide +kernel) hp ?_
    refine hs_ic (t := 29) ci_778_7 rfl (fun b7 => ?_) (fun b7 => ?_)
    · simp only [hs_cd, ab_not] at b7
      refine hs_iconst ci_778_29 ?_
      exact hs_k ⟨3, _, by decide +kernel, by rw [rt_778]; rfl, rfl, _, rfl, by rw [sf_no _ (fun j hj => hne j (by omega))]; decide⟩
    · simp only [hs_cd, ab_not] at b7
      omega
  | succ m ih =>
    intro k x ls hk hx l0 l1 l3 hne
    refine hs_iload_n ci_778_2 l3 ?_
    refine hs_aload_n ci_778_3 l0 ?_
    refine hs_gfi 4 ci_778_4 (by decide +kernel) hp ?_
    refine hs_ic (t := 29) ci_778_7 rfl (fun b7 => ?_) (fun b7 => ?_)
    · simp only [hs_cd, ab_not] at b7
      omega
    · simp only [hs_cd, ab_not] at b7
      refine hs_aload_n ci_778_10 l0 ?_
      refine hs_gfr 7 24 ci_778_11 (by decide +kernel) hp ?_
      refine hs_iload_n ci_778_14 l3 ?_
      refine hs_laload 6 ci_778_15 (by decide +kernel) hp (by omega) (by omega) ?_
      refine hs_lload_n ci_778_16 l1 ?_
      refine hs_lcmp ci_778_17 (fun z17 q17 => ?_)
      refine hs_if (t := 23) ci_778_18 rfl (fun b18 => ?_) (fun b18 => ?_)
      · simp only [hs_cd, ab_not] at b18
        refine hs_iinc2 ci_778_23 (by decide +kernel) l3 ?_
        intro ls9 q9
        replace l0 := q9.2 0 _ (by decide) (Or.inl rfl) l0
        replace l1 := q9.2 1 _ (by decide) (Or.inr (by decide)) l1
        have l3 := q9.1
        clear q9
        refine hs_goto (t := 2) ci_778_26 rfl ?_
        refine ih (k + 1) _ _ (by omega) (i32_inc hx (by omega) (by omega)) l0 l1 l3 (fun j hj => ?_)
        by_cases e9 : j = k
        · subst e9
          have e8 : x.toInt.toNat = j := by omega
          rw [e8] at q17
          rcases q17 with ⟨-, q1⟩ | ⟨q1, -⟩ | ⟨-, q1⟩
          · omega
          · omega
          · omega
        · exact hne j (by omega)
      · simp only [hs_cd, ab_not] at b18
        refine hs_iload_n ci_778_21 l3 ?_
        have e9 : x.toInt.toNat = k := by omega
        refine hs_k ⟨3, _, by decide +kernel, by rw [rt_778]; rfl, rfl, x, rfl, ?_⟩
        rw [hx]
        refine (sf_up (n := k) hne ?_ _ (by omega)).symm
        rcases q17 with ⟨q1, -⟩ | ⟨-, q2⟩ | ⟨q1, -⟩
        · omega
        · rw [e9] at q2
          exact congrArg Int64.toInt q2
        · omega
theorem k_mn {sc : List Value} {sp d : Nat} {h : eg_H} (c : Int64) (hq : ab_hp h) : mc sc sp 778 1 d [.ref 23, .long c] h (mn_P h c.toInt) := by
  have l0 : eg_find 0 (eg_args 0 [.ref 23, .long c]) = some (.ref 23) := rfl
  have l1 : eg_find 1 (eg_args 0 [.ref 23, .long c]) = some (.long c) := rfl
  obtain ⟨-, n1, n2⟩ := sb_v (a := 23) (k := 4) (lo := .ofNat 0) (hi := .ofNat 6) hq (by decide +kernel)
  have n1 : (0 : Int) ≤ (hv h 23 4).toInt := n1
  unfold mc
  refine hs_iconst ci_778_0 ?_
  refine hs_istore2_n ci_778_1 (by decide +kernel) ?_
  intro ls9 q9
  replace l0 := q9.2 0 _ (by decide) (Or.inl rfl) l0
  replace l1 := q9.2 1 _ (by decide) (Or.inr (by decide)) l1
  have l3 := q9.1
  clear q9
  exact mn_loop hq (hv h 23 4).toInt.toNat 0 _ _ (by omega) rfl l0 l1 l3 (fun j hj => by omega)
theorem rt_782 : (eg_md 782).2.2.2 = some .int := by decide +kernel
def pn_P (h : eg_H) (c : Int) (vo : Option Value) (h' : eg_H) : Prop := h' = h ∧ ∃ r : Int32, vo = some (.int r) ∧ r.toInt = sf (fun j => (hl h 27 j).toInt) c (hv h 23 5).toInt.toNat
theorem pn_loop {sc : List Value} {sp d : Nat} {h : eg_H} {c : Int64} (hq : ab_hp h) : ∀ (m k : Nat) (x : Int32) (ls : eg_L), (k : Int) + (m : Int) = (hv h 23 5).toInt → x.toInt = (k : Int) → eg_find 0 ls = some (.ref 23) → eg_find 1 ls = some (.long c) → eg_find 3 ls = some (.int x) → (∀ j, j < k → (hl h 27 j).toInt ≠ c.toInt) → hs sc sp 782 1 d (fun pc' _ st' h' => ∃ ik vo, ab_ret 782 pc' = some ik ∧ eg_rv (eg_md 782).2.2.2 ik st' = some vo ∧ pn_P h c.toInt vo h') 2 ls [] h := by
  have hp := hq.1
  obtain ⟨-, n1, n2⟩ := sb_v (a := 23) (k := 5) (lo := .ofNat 0) (hi := .ofNat 10) hq (by decide +kernel)
  have n1 : (0 : Int) ≤ (hv h 23 5).toInt := n1
  have n2 : (hv h 23 5).toInt ≤ (10 : Int) := n2
  intro m
  induction m with
  | zero =>
    intro k x ls hk hx l0 l1 l3 hne
    refine hs_iload_n ci_782_2 l3 ?_
    refine hs_aload_n ci_782_3 l0 ?_
    refine hs_gfi 5 ci_782_4 (by decide +kernel) hp ?_
    refine hs_ic (t := 29) ci_782_7 rfl (fun b7 => ?_) (fun b7 => ?_)
    · simp only [hs_cd, ab_not] at b7
      refine hs_iconst ci_782_29 ?_
      exact hs_k ⟨3, _, by decide +kernel, by rw [rt_782]; rfl, rfl, _, rfl, by rw [sf_no _ (fun j hj => hne j (by omega))]; decide⟩
    · simp only [hs_cd, ab_not] at b7
      omega
  | succ m ih =>
    intro k x ls hk hx l0 l1 l3 hne
    refine hs_iload_n ci_782_2 l3 ?_
    refine hs_aload_n ci_782_3 l0 ?_
    refine hs_gfi 5 ci_782_4 (by decide +kernel) hp ?_
    refine hs_ic (t := 29) ci_782_7 rfl (fun b7 => ?_) (fun b7 => ?_)
    · simp only [hs_cd, ab_not] at b7
      omega
    · simp only [hs_cd, ab_not] at b7
      refine hs_aload_n ci_782_10 l0 ?_
      refine hs_gfr 10 27 ci_782_11 (by decide +kernel) hp ?_
      refine hs_iload_n ci_782_14 l3 ?_
      refine hs_laload 10 ci_782_15 (by decide +kernel) hp (by omega) (by omega) ?_
      refine hs_lload_n ci_782_16 l1 ?_
      refine hs_lcmp ci_782_17 (fun z17 q17 => ?_)
      refine hs_if (t := 23) ci_782_18 rfl (fun b18 => ?_) (fun b18 => ?_)
      · simp only [hs_cd, ab_not] at b18
        refine hs_iinc2 ci_782_23 (by decide +kernel) l3 ?_
        intro ls9 q9
        replace l0 := q9.2 0 _ (by decide) (Or.inl rfl) l0
        replace l1 := q9.2 1 _ (by decide) (Or.inr (by decide)) l1
        have l3 := q9.1
        clear q9
        refine hs_goto (t := 2) ci_782_26 rfl ?_
        refine ih (k + 1) _ _ (by omega) (i32_inc hx (by omega) (by omega)) l0 l1 l3 (fun j hj => ?_)
        by_cases e9 : j = k
        · subst e9
          have e8 : x.toInt.toNat = j := by omega
          rw [e8] at q17
          rcases q17 with ⟨-, q1⟩ | ⟨q1, -⟩ | ⟨-, q1⟩
          · omega
          · omega
          · omega
        · exact hne j (by omega)
      · simp only [hs_cd, ab_not] at b18
        refine hs_iload_n ci_782_21 l3 ?_
        have e9 : x.toInt.toNat = k := by omega
        refine hs_k ⟨3, _, by decide +kernel, by rw [rt_782]; rfl, rfl, x, rfl, ?_⟩
        rw [hx]
        refine (sf_up (n := k) hne ?_ _ (by omega)).symm
        rcases q17 with ⟨q1, -⟩ | ⟨-, q2⟩ | ⟨q1, -⟩
        · omega
        · rw [e9] at q2
          exact congrArg Int64.toInt q2
        · omega
theorem k_pn {sc : List Value} {sp d : Nat} {h : eg_H} (c : Int64) (hq : ab_hp h) : mc sc sp 782 1 d [.ref 23, .long c] h (pn_P h c.toInt) := by
  have l0 : eg_find 0 (eg_args 0 [.ref 23, .long c]) = some (.ref 23) := rfl
  have l1 : eg_find 1 (eg_args 0 [.ref 23, .long c]) = some (.long c) := rfl
  obtain ⟨-, n1, n2⟩ := sb_v (a := 23) (k := 5) (lo := .ofNat 0) (hi := .ofNat 10) hq (by decide +kernel)
  have n1 : (0 : Int) ≤ (hv h 23 5).toInt := n1
  unfold mc
  refine hs_iconst ci_782_0 ?_
  refine hs_istore2_n ci_782_1 (by decide +kernel) ?_
  intro ls9 q9
  replace l0 := q9.2 0 _ (by decide) (Or.inl rfl) l0
  replace l1 := q9.2 1 _ (by decide) (Or.inr (by decide)) l1
  have l3 := q9.1
  clear q9
  exact pn_loop hq (hv h 23 5).toInt.toNat 0 _ _ (by omega) rfl l0 l1 l3 (fun j hj => by omega)
