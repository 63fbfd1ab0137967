/-! BY HAND: the reference's next token -/
theorem ci_1658_0 : ab_at 1658 0 (.aload_n 0) 1 = true := by decide +kernel
theorem ci_1658_1 : ab_at 1658 1 (.invokevirtual 148) 3 = true := by decide +kernel
theorem ci_1658_4 : ab_at 1658 4 (.bipush 32) 2 = true := by decide +kernel
theorem ci_1658_6 : ab_at 1658 6 (.if_icmp .eq 12) 3 = true := by decide +kernel
theorem ci_1658_9 : ab_at 1658 9 (.aload_n 0) 1 = true := by decide +kernel
theorem ci_1658_10 : ab_at 1658 10 (.invokevirtual 148) 3 = true := by decide +kernel
theorem ci_1658_13 : ab_at 1658 13 (.bipush 10) 2 = true := by decide +kernel
theorem ci_1658_15 : ab_at 1658 15 (.if_icmp .ne 16) 3 = true := by decide +kernel
theorem ci_1658_18 : ab_at 1658 18 (.aload_n 0) 1 = true := by decide +kernel
theorem ci_1658_19 : ab_at 1658 19 (.dup) 1 = true := by decide +kernel
theorem ci_1658_20 : ab_at 1658 20 (.getfield 21) 3 = true := by decide +kernel
theorem ci_1658_23 : ab_at 1658 23 (.iconst 1) 1 = true := by decide +kernel
theorem ci_1658_24 : ab_at 1658 24 (.iadd) 1 = true := by decide +kernel
theorem ci_1658_25 : ab_at 1658 25 (.putfield 21) 3 = true := by decide +kernel
theorem ci_1658_28 : ab_at 1658 28 (.goto (-28)) 3 = true := by decide +kernel
theorem ci_1658_31 : ab_at 1658 31 (.aload_n 0) 1 = true := by decide +kernel
theorem ci_1662_0 : ab_at 1662 0 (.aload_n 0) 1 = true := by decide +kernel
theorem ci_1662_1 : ab_at 1662 1 (.getfield 21) 3 = true := by decide +kernel
theorem ci_1662_4 : ab_at 1662 4 (.aload_n 0) 1 = true := by decide +kernel
theorem ci_1662_5 : ab_at 1662 5 (.getfield 18) 3 = true := by decide +kernel
theorem ci_1662_8 : ab_at 1662 8 (.if_icmp .ge 19) 3 = true := by decide +kernel
theorem ci_1662_11 : ab_at 1662 11 (.aload_n 0) 1 = true := by decide +kernel
theorem ci_1662_12 : ab_at 1662 12 (.getfield 14) 3 = true := by decide +kernel
theorem ci_1662_15 : ab_at 1662 15 (.aload_n 0) 1 = true := by decide +kernel
theorem ci_1662_16 : ab_at 1662 16 (.getfield 21) 3 = true := by decide +kernel
theorem ci_1662_19 : ab_at 1662 19 (.baload) 1 = true := by decide +kernel
theorem ci_1662_20 : ab_at 1662 20 (.sipush 255) 3 = true := by decide +kernel
theorem ci_1662_23 : ab_at 1662 23 (.iand) 1 = true := by decide +kernel
theorem ci_1662_24 : ab_at 1662 24 (.goto 4) 3 = true := by decide +kernel
theorem ci_1662_27 : ab_at 1662 27 (.iconst (-1)) 1 = true := by decide +kernel
theorem ml_1662 : (eg_md 1662).2.2.1 = 1 := by decide +kernel
theorem kI_m1 : (Int32.ofInt (-1)).toInt = -1 := by decide +kernel
/-- the byte at a place of the reference's text -/
def bM (h : eg_H) (k : Nat) : Int := (hv h 183 k).toInt % 256
abbrev nN (h : eg_H) : Nat := (hv h 182 3).toInt.toNat
abbrev nL (h : eg_H) : Nat := (hv h 182 5).toInt.toNat
theorem nb_182 {h : eg_H} (hq : ab_hp h) : (0 ≤ (hv h 182 3).toInt ∧ (hv h 182 3).toInt ≤ 940) ∧ (0 ≤ (hv h 182 4).toInt ∧ (hv h 182 4).toInt ≤ 940) ∧ (0 ≤ (hv h 182 5).toInt ∧ (hv h 182 5).toInt ≤ 940) := ⟨(sb_v (a := 182) (k := 3) (lo := .ofNat 0) (hi := .ofNat 940) hq (by decide +kernel)).2, (sb_v (a := 182) (k := 4) (lo := .ofNat 0) (hi := .ofNat 940) hq (by decide +kernel)).2, (sb_v (a := 182) (k := 5) (lo := .ofNat 0) (hi := .ofNat 940) hq (by decide +kernel)).2⟩
theorem bM_b (h : eg_H) (k : Nat) : 0 ≤ bM h k ∧ bM h k < 256 := by
  unfold bM
  omega
def pk_P (h : eg_H) (vo : Option Value) (h' : eg_H) : Prop := h' = h ∧ ∃ r : Int32, vo = some (.int r) ∧ (((hv h 182 4).toInt < (hv h 182 3).toInt ∧ r.toInt = bM h (hv h 182 4).toInt.toNat) ∨ ((hv h 182 3).toInt ≤ (hv h 182 4).toInt ∧ r.toInt = -1))
theorem rt_1662 : (eg_md 1662).2.2.2 = some .int := by decide +kernel
theorem k_peek {sc : List Value} {sp d : Nat} {h : eg_H} (hq : ab_hp h) : mc sc sp 1662 11 d [.ref 182] h (pk_P h) := by
  have l0 : eg_find 0 (eg_args 0 [.ref 182]) = some (.ref 182) := rfl
  have hp := hq.1
  obtain ⟨⟨n1, n2⟩, ⟨p1, p2⟩, -⟩ := nb_182 hq
  unfold mc
  refine hs_aload_n ci_1662_0 l0 ?_
  refine hs_gfi 4 ci_1662_1 (by decide +kernel) hp ?_
  refine hs_aload_n ci_1662_4 l0 ?_
  refine hs_gfi 3 ci_1662_5 (by decide +kernel) hp ?_
  refine hs_ic (t := 27) ci_1662_8 rfl (fun b8 => ?_) (fun b8 => ?_)
  · simp only [hs_cd, ab_not] at b8
    refine hs_iconst ci_1662_27 ?_
    exact hs_k ⟨3, some (.int (Int32.ofInt (-1))), by decide +kernel, by decide +kernel, rfl, _, rfl, Or.inr ⟨by omega, by decide⟩⟩
  · simp only [hs_cd, ab_not] at b8
    refine hs_aload_n ci_1662_11 l0 ?_
    refine hs_gfr 1 183 ci_1662_12 (by decide +kernel) hp ?_
    refine hs_aload_n ci_1662_15 l0 ?_
    refine hs_gfi 4 ci_1662_16 (by decide +kernel) hp ?_
    refine hs_baload 2 0 939 (-128) (127) ci_1662_19 ⟨rfl, by decide⟩ (by decide +kernel) hp (by omega) (by omega) (fun r19_1 r19_2 => ?_)
    refine hs_sipush ci_1662_20 ?_
    refine hs_iand ci_1662_23 ?_
    refine hs_goto (t := 28) ci_1662_24 rfl ?_
    refine hs_k ⟨3, some (.int (hv h 183 (hv h 182 4).toInt.toNat &&& (Int16.ofInt 255).toInt32)), by decide +kernel, ?_, rfl, _, rfl, Or.inl ⟨by omega, i32_255 _⟩⟩
    rw [rt_1662]
    rfl
abbrev MNX : ab_M := [(182, 4, 4), (182, 11, 14), (182, 17, 17)]
/-- how the reference tells a token -/
def rs_M (h : eg_H) (t : tx_K) (a p : Nat) : Prop := (hv h 182 12).toInt = (a : Int) ∧ (hv h 182 4).toInt = (p : Int) ∧ (match t with
  | (0, _) => (hv h 182 11).toInt = 0
  | (1, _) => (hv h 182 11).toInt = 4
  | (2, c, _) => (hv h 182 11).toInt = 3 ∧ (hv h 182 14).toInt = c
  | (3, v, _) => (hv h 182 11).toInt = 2 ∧ (hv h 182 14).toInt = v
  | (_, a, b) => (hv h 182 11).toInt = 1 ∧ (hl h 182 17).toInt = b ∧ tx_co a b)
def nx_P (h : eg_H) (vo : Option Value) (h' : eg_H) : Prop := vo = none ∧ ab_hp h' ∧ ab_fr MNX h' h ∧ ∃ (t : tx_K) (a p' : Nat), tx_X (bM h) (nN h) (nL h) (hv h 182 4).toInt.toNat t a p' ∧ p' ≤ nN h ∧ rs_M h' t a p'
theorem bM_fr {h h' : eg_H} (f : ab_fr MNX h' h) : bM h' = bM h := funext (fun k => by unfold bM; rw [hv_same (f 183 k rfl)])
theorem nN_fr {h h' : eg_H} (f : ab_fr MNX h' h) : hv h' 182 3 = hv h 182 3 := hv_same (f 182 3 rfl)
theorem nL_fr {h h' : eg_H} (f : ab_fr MNX h' h) : hv h' 182 5 = hv h 182 5 := hv_same (f 182 5 rfl)
theorem i32_inc {x : Int32} {a : Int} (hx : x.toInt = a) (h1 : -2147483648 ≤ a) (h2 : a ≤ 2147483646) : (x + Int32.ofInt 1).toInt = a + 1 := i32_add hx rfl (by omega) (by omega)
/-- blanks are passed -/
def sk_E (h : eg_H) (pc' : Nat) (ls' : eg_L) (st' : List Value) (h' : eg_H) : Prop := pc' = 31 ∧ st' = [] ∧ eg_find 0 ls' = some (.ref 182) ∧ ab_hp h' ∧ ab_fr MNX h' h ∧ ∃ q : Nat, (hv h' 182 4).toInt = (q : Int) ∧ tx_sk (bM h) (nN h) (hv h 182 4).toInt.toNat q
theorem sk_loop {sc : List Value} {sp d : Nat} {h : eg_H} (hq : ab_hp h) (h0 : (hv h 182 4).toInt ≤ (hv h 182 3).toInt) : ∀ (m p1 : Nat) (ls : eg_L) (h1 : eg_H), p1 + m = nN h → (hv h 182 4).toInt ≤ (p1 : Int) → (hv h1 182 4).toInt = (p1 : Int) → ab_hp h1 → ab_fr MNX h1 h → (∀ r, (hv h 182 4).toInt.toNat ≤ r → r < p1 → tx_b (bM h r)) → eg_find 0 ls = some (.ref 182) → hs sc sp 1658 11 (d + 1) (sk_E h) 0 ls [] h1 := by
  obtain ⟨⟨n1, n2⟩, ⟨p1, p2⟩, -⟩ := nb_182 hq
  have hN : nN h = (hv h 182 3).toInt.toNat := rfl
  intro m
  induction m with
  | zero =>
    intro p1 ls h1 hm hp1 hv4 hq1 hf hb l0
    have hp := hq1.1
    have eB := bM_fr hf
    have eN := nN_fr hf
    refine hs_aload_n ci_1658_0 l0 ?_
    refine hs_cv 1662 11 0 ci_1658_1 (by decide +kernel) (by decide +kernel) hp rfl (by rw [ml_1662]; rfl) (k_peek hq1) ?_
    rintro v9 h9 ⟨e9, r1, e8, hr1⟩
    rw [e8, e9]
    clear e8 e9 v9 h9
    simp only [Option.toList, List.cons_append, List.nil_append]
    refine hs_bipush ci_1658_4 ?_
    refine hs_ic (t := 18) ci_1658_6 rfl (fun b6 => ?_) (fun b6 => ?_)
    · simp only [hs_cd, ab_not, kB_32] at b6
      rcases hr1 with ⟨q1, -⟩ | ⟨-, q2⟩
      · rw [eN] at q1
        omega
      · omega
    · simp only [hs_cd, ab_not, kB_32] at b6
      refine hs_aload_n ci_1658_9 l0 ?_
      refine hs_cv 1662 11 0 ci_1658_10 (by decide +kernel) (by decide +kernel) hp rfl (by rw [ml_1662]; rfl) (k_peek hq1) ?_
      rintro v9 h9 ⟨e9, r2, e8, hr2⟩
      rw [e8, e9]
      clear e8 e9 v9 h9
      simp only [Option.toList, List.cons_append, List.nil_append]
      refine hs_bipush ci_1658_13 ?_
      refine hs_ic (t := 31) ci_1658_15 rfl (fun b15 => ?_) (fun b15 => ?_)
      · simp only [hs_cd, ab_not, kB_10] at b15
        exact hs_k ⟨rfl, rfl, l0, hq1, hf, p1, hv4, by omega, by omega, hb, fun g => by omega⟩
      · simp only [hs_cd, ab_not, kB_10] at b15
        rcases hr2 with ⟨q1, -⟩ | ⟨-, q2⟩
        · rw [eN] at q1
          omega
        · omega
  | succ m ih =>
    intro p1 ls h1 hm hp1 hv4 hq1 hf hb l0
    have hp := hq1.1
    have eB := bM_fr hf
    have eN := nN_fr hf
    have e4 : (hv h1 182 4).toInt.toNat = p1 := by omega
    refine hs_aload_n ci_1658_0 l0 ?_
    refine hs_cv 1662 11 0 ci_1658_1 (by decide +kernel) (by decide +kernel) hp rfl (by rw [ml_1662]; rfl) (k_peek hq1) ?_
    rintro v9 h9 ⟨e9, r1, e8, hr1⟩
    rw [e8, e9]
    clear e8 e9 v9 h9
    simp only [Option.toList, List.cons_append, List.nil_append]
    refine hs_bipush ci_1658_4 ?_
    refine hs_ic (t := 18) ci_1658_6 rfl (fun b6 => ?_) (fun b6 => ?_)
    · simp only [hs_cd, ab_not, kB_32] at b6
      refine hs_aload_n ci_1658_18 l0 ?_
      refine hs_dup ci_1658_19 rfl ?_
      refine hs_gfi 4 ci_1658_20 (by decide +kernel) hp ?_
      refine hs_iconst ci_1658_23 ?_
      refine hs_iadd ci_1658_24 ?_
      refine hs_pfi 4 (0) (940) ci_1658_25 (by decide +kernel) hp (by rw [i32_inc hv4 (by omega) (by omega)]; omega) (by rw [i32_inc hv4 (by omega) (by omega)]; omega) ?_
      intro h25 w25
      replace hp := w25.1
      refine hs_goto (t := 0) ci_1658_28 rfl ?_
      have hbl : tx_b (bM h p1) := by
        rcases hr1 with ⟨-, q2⟩ | ⟨q1, -⟩
        · rw [e4, eB] at q2
          rw [← q2]
          exact Or.inl b6
        · rw [eN] at q1
          omega
      have e25 : (hv h1 182 4 + Int32.ofInt 1).toInt = (p1 : Int) + 1 := i32_inc hv4 (by omega) (by omega)
      exact ih (p1 + 1) _ _ (by omega) (by omega) (by rw [w25.v, if_pos ⟨rfl, rfl⟩]; exact e25) ⟨hp, hq1.2.fr (M := MNX) (by decide +kernel) (w25.fr (M := MNX) rfl)⟩ ((w25.fr (M := MNX) rfl).tr hf) (fun r g1 g2 => by
        by_cases e : r = p1
        · rw [e]; exact hbl
        · exact hb r g1 (by omega)) l0
    · simp only [hs_cd, ab_not, kB_32] at b6
      refine hs_aload_n ci_1658_9 l0 ?_
      refine hs_cv 1662 11 0 ci_1658_10 (by decide +kernel) (by decide +kernel) hp rfl (by rw [ml_1662]; rfl) (k_peek hq1) ?_
      rintro v9 h9 ⟨e9, r2, e8, hr2⟩
      rw [e8, e9]
      clear e8 e9 v9 h9
      simp only [Option.toList, List.cons_append, List.nil_append]
      refine hs_bipush ci_1658_13 ?_
      refine hs_ic (t := 31) ci_1658_15 rfl (fun b15 => ?_) (fun b15 => ?_)
      · simp only [hs_cd, ab_not, kB_10] at b15
        refine hs_k ⟨rfl, rfl, l0, hq1, hf, p1, hv4, by omega, by omega, hb, fun g => ?_⟩
        rintro (g1 | g1)
        · rcases hr1 with ⟨-, q2⟩ | ⟨q1, -⟩
          · rw [e4, eB] at q2
            omega
          · rw [eN] at q1
            omega
        · rcases hr2 with ⟨-, q2⟩ | ⟨q1, -⟩
          · rw [e4, eB] at q2
            omega
          · rw [eN] at q1
            omega
      · simp only [hs_cd, ab_not, kB_10] at b15
        refine hs_aload_n ci_1658_18 l0 ?_
        refine hs_dup ci_1658_19 rfl ?_
        refine hs_gfi 4 ci_1658_20 (by decide +kernel) hp ?_
        refine hs_iconst ci_1658_23 ?_
        refine hs_iadd ci_1658_24 ?_
        refine hs_pfi 4 (0) (940) ci_1658_25 (by decide +kernel) hp (by rw [i32_inc hv4 (by omega) (by omega)]; omega) (by rw [i32_inc hv4 (by omega) (by omega)]; omega) ?_
        intro h25 w25
        replace hp := w25.1
        refine hs_goto (t := 0) ci_1658_28 rfl ?_
        have hbl : tx_b (bM h p1) := by
          rcases hr2 with ⟨-, q2⟩ | ⟨q1, -⟩
          · rw [e4, eB] at q2
            rw [← q2]
            exact Or.inr b15
          · rw [eN] at q1
            omega
        have e25 : (hv h1 182 4 + Int32.ofInt 1).toInt = (p1 : Int) + 1 := i32_inc hv4 (by omega) (by omega)
        exact ih (p1 + 1) _ _ (by omega) (by omega) (by rw [w25.v, if_pos ⟨rfl, rfl⟩]; exact e25) ⟨hp, hq1.2.fr (M := MNX) (by decide +kernel) (w25.fr (M := MNX) rfl)⟩ ((w25.fr (M := MNX) rfl).tr hf) (fun r g1 g2 => by
          by_cases e : r = p1
          · rw [e]; exact hbl
          · exact hb r g1 (by omega)) l0
