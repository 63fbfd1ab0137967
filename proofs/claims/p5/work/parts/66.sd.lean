/-! BY HAND: what is said: the codes take no more truths than there are -/
theorem sg_r {L n : Nat} {xs : List Int32} {en : ab_E} {la : List (Nat × ab_A)} {ls : eg_L} {h : eg_H} (hn : 2 ≤ n) (hp : ab_hp h) (he : ∀ q ∈ en, ∃ lo hi, q.2 = (lo, hi, false, none) ∧ q.1 < n ∧ lo ≤ ar_n L xs q.1 ∧ ar_n L xs q.1 ≤ hi) (hl : ab_vl (ar_n L xs) n la ls) : ab_r L (ar_n L xs) (n, en, la, [], []) ls [] h :=
  ⟨⟨hn, rfl, rfl⟩, ar_e he, hl, rfl, (fun _ _ _ hf => by cases hf), hp⟩
theorem wf_b {f : Nat → Int} {n : Nat} (w : wf_ok f n) : ∀ i, i ≤ n → 0 ≤ wf_h f i ∧ wf_h f i ≤ (i : Int) := by
  intro i
  induction i with
  | zero => intro _; exact ⟨Int.le_refl _, Int.le_refl _⟩
  | succ i ih =>
    intro hi
    have h1 := ih (by omega)
    have h2 := w i (by omega)
    unfold wf_h wf_d
    split
    · omega
    · split
      next e => have := h2.2 (Or.inl e); omega
      next =>
        split
        next e => have := h2.2 (Or.inr e); omega
        next => omega
theorem gq_126 : gsl 184 126 = some (0, 45) := by decide +kernel
theorem gq_cd : ckn 180 (fun i => ckq 184 (127 + i) (-2147483648) 2147483647) = true := by decide +kernel
theorem hv_200 {h h' : eg_H} (f : ab_fr [(200, 0, 44)] h' h) (k : Nat) : hv h' 184 k = hv h 184 k := hv_fr f (by unfold ab_inr; rfl)
abbrev MT : ab_M := [(200, 0, 44)]
/-- one of the pieces: from here to 204, with so many truths more -/
theorem sd_go {sc : List Value} {sp dq : Nat} (hsc : ab_osc sc) {h : eg_H} {xk xn xi xt : Int32} {ls : eg_L} {q : ab_Q} (hq : ab_Tr q) {lo hi dd : Int} {pc : Nat} (e : q = (2105, 11, pc, 6, (6, [(2, .ofNat 0, .ofNat 9, false, none), (3, lo, hi, false, none), (4, .ofNat 0, .ofNat 45, false, none), (5, .ofNat 127, .ofNat 262, false, none)], [(0, .inr 184), (1, .inl (2, .ofNat 0)), (2, .inl (3, .ofNat 0)), (3, .inl (4, .ofNat 0)), (4, .inl (5, .ofNat 0))], [], []), [(200, 0, 44)], [(204, (6, [], [(0, .inr 184), (1, .inl (2, .ofNat 0)), (2, .inl (3, dd)), (3, .inl (4, .ofNat 0)), (4, .inl (5, .ofNat 0))], [], []))], none)) (hd : 6 ≤ dq) (hp : ab_hp h) (b1 : 0 ≤ xk.toInt ∧ xk.toInt ≤ 9) (b2 : lo ≤ xn.toInt ∧ xn.toInt ≤ hi) (b3 : 0 ≤ xi.toInt ∧ xi.toInt ≤ 45) (b4 : 127 ≤ xt.toInt ∧ xt.toInt ≤ 262) (l0 : eg_find 0 ls = some (.ref 182)) (l1 : eg_find 1 ls = some (.int xk)) (l2 : eg_find 2 ls = some (.int xn)) (l3 : eg_find 3 ls = some (.int xi)) (l4 : eg_find 4 ls = some (.int xt)) {K : Nat → eg_L → List Value → eg_H → Prop}
    (n : ∀ (ls' : eg_L) (h' : eg_H) (xn' : Int32), ab_hp h' → ab_fr MT h' h → xn'.toInt = xn.toInt + dd → eg_find 0 ls' = some (.ref 182) → eg_find 1 ls' = some (.int xk) → eg_find 2 ls' = some (.int xn') → eg_find 3 ls' = some (.int xi) → hs sc sp 2105 11 dq K 204 ls' [] h') : hs sc sp 2105 11 dq K pc ls [] h := by
  subst e
  refine hs_q hq hsc hd (ν := ar_n sc.length [xk, xn, xi, xt]) (sg_r (by decide) hp (fun q hq => ?_) (vl_ref l0 (vl_int l1 (by decide) (by show xk.toInt = xk.toInt + 0; omega) (vl_int l2 (by decide) (by show xn.toInt = xn.toInt + 0; omega) (vl_int l3 (by decide) (by show xi.toInt = xi.toInt + 0; omega) (vl_int l4 (by decide) (by show xt.toInt = xt.toInt + 0; omega) vl_nil)))))) (fun e he ν' ls' st' h' hr hx hf => ?_)
  · simp only [List.mem_cons, List.not_mem_nil, or_false] at hq
    rcases hq with rfl | rfl | rfl | rfl
    · exact ⟨_, _, rfl, by show 2 < 6; decide, b1.1, b1.2⟩
    · exact ⟨_, _, rfl, by show 3 < 6; decide, b2.1, b2.2⟩
    · exact ⟨_, _, rfl, by show 4 < 6; decide, b3.1, b3.2⟩
    · exact ⟨_, _, rfl, by show 5 < 6; decide, b4.1, b4.2⟩
  · simp only [List.mem_cons, List.not_mem_nil, or_false] at he
    subst he
    have k0 := hr.ref 0 182 (by rfl)
    obtain ⟨y1, k1, e1⟩ := hr.int 1 (by rfl)
    obtain ⟨y2, k2, e2⟩ := hr.int 2 (by rfl)
    obtain ⟨y3, k3, e3⟩ := hr.int 3 (by rfl)
    have v2 : ν' 2 = xk.toInt := hx 2 (by show 2 < 6; decide)
    have v3 : ν' 3 = xn.toInt := hx 3 (by show 3 < 6; decide)
    have v4 : ν' 4 = xi.toInt := hx 4 (by show 4 < 6; decide)
    have e1 : y1.toInt = ν' 2 + 0 := e1
    have e3 : y3.toInt = ν' 4 + 0 := e3
    obtain rfl : y1 = xk := Int32.toInt_inj.mp (by omega)
    obtain rfl : y3 = xi := Int32.toInt_inj.mp (by omega)
    obtain rfl : st' = [] := hr.2.2.2.1
    exact n ls' h' y2 hr.2.2.2.2.2 hf (by rw [e2, v3]) k0 k1 k2 k3

theorem ci_2105_0 : ab_at 2105 0 (.iconst 0) 1 = true := by decide +kernel
theorem ci_2105_1 : ab_at 2105 1 (.istore_n 2) 1 = true := by decide +kernel
theorem ci_2105_2 : ab_at 2105 2 (.iconst 0) 1 = true := by decide +kernel
theorem ci_2105_3 : ab_at 2105 3 (.istore_n 3) 1 = true := by decide +kernel
theorem ci_2105_4 : ab_at 2105 4 (.iload_n 3) 1 = true := by decide +kernel
theorem ci_2105_5 : ab_at 2105 5 (.aload_n 0) 1 = true := by decide +kernel
theorem ci_2105_6 : ab_at 2105 6 (.getfield 33) 3 = true := by decide +kernel
theorem ci_2105_9 : ab_at 2105 9 (.bipush 126) 2 = true := by decide +kernel
theorem ci_2105_11 : ab_at 2105 11 (.iaload) 1 = true := by decide +kernel
theorem ci_2105_12 : ab_at 2105 12 (.if_icmp .ge 198) 3 = true := by decide +kernel
theorem ci_2105_15 : ab_at 2105 15 (.bipush 127) 2 = true := by decide +kernel
theorem ci_2105_17 : ab_at 2105 17 (.iconst 3) 1 = true := by decide +kernel
theorem ci_2105_18 : ab_at 2105 18 (.iload_n 3) 1 = true := by decide +kernel
theorem ci_2105_19 : ab_at 2105 19 (.imul) 1 = true := by decide +kernel
theorem ci_2105_20 : ab_at 2105 20 (.iadd) 1 = true := by decide +kernel
theorem ci_2105_21 : ab_at 2105 21 (.istore 4) 2 = true := by decide +kernel
theorem ci_2105_23 : ab_at 2105 23 (.aload_n 0) 1 = true := by decide +kernel
theorem ci_2105_24 : ab_at 2105 24 (.getfield 33) 3 = true := by decide +kernel
theorem ci_2105_27 : ab_at 2105 27 (.iload 4) 2 = true := by decide +kernel
theorem ci_2105_29 : ab_at 2105 29 (.iaload) 1 = true := by decide +kernel
theorem ci_2105_30 : ab_at 2105 30 (.bipush 20) 2 = true := by decide +kernel
theorem ci_2105_32 : ab_at 2105 32 (.if_icmp .ne 30) 3 = true := by decide +kernel
theorem ci_2105_62 : ab_at 2105 62 (.aload_n 0) 1 = true := by decide +kernel
theorem ci_2105_63 : ab_at 2105 63 (.getfield 33) 3 = true := by decide +kernel
theorem ci_2105_66 : ab_at 2105 66 (.iload 4) 2 = true := by decide +kernel
theorem ci_2105_68 : ab_at 2105 68 (.iaload) 1 = true := by decide +kernel
theorem ci_2105_69 : ab_at 2105 69 (.bipush 21) 2 = true := by decide +kernel
theorem ci_2105_71 : ab_at 2105 71 (.if_icmp .eq 15) 3 = true := by decide +kernel
theorem ci_2105_74 : ab_at 2105 74 (.aload_n 0) 1 = true := by decide +kernel
theorem ci_2105_75 : ab_at 2105 75 (.getfield 33) 3 = true := by decide +kernel
theorem ci_2105_78 : ab_at 2105 78 (.iload 4) 2 = true := by decide +kernel
theorem ci_2105_80 : ab_at 2105 80 (.iaload) 1 = true := by decide +kernel
theorem ci_2105_81 : ab_at 2105 81 (.bipush 22) 2 = true := by decide +kernel
theorem ci_2105_83 : ab_at 2105 83 (.if_icmp .ne 82) 3 = true := by decide +kernel
theorem ci_2105_204 : ab_at 2105 204 (.iinc 3 1) 3 = true := by decide +kernel
theorem ci_2105_207 : ab_at 2105 207 (.goto (-203)) 3 = true := by decide +kernel
theorem ci_2105_210 : ab_at 2105 210 (.aload_n 0) 1 = true := by decide +kernel
theorem ci_2105_211 : ab_at 2105 211 (.getfield 86) 3 = true := by decide +kernel
theorem ci_2105_214 : ab_at 2105 214 (.iconst 0) 1 = true := by decide +kernel
theorem ci_2105_215 : ab_at 2105 215 (.baload) 1 = true := by decide +kernel
theorem sd_loop {sc : List Value} {sp dq : Nat} (hsc : ab_osc sc) (hd : 6 ≤ dq) {h0 : eg_H} {xk : Int32} (b1 : 0 ≤ xk.toInt ∧ xk.toInt ≤ 9) (r : Nat) : ∀ (i : Nat) (xi xn : Int32) (ls : eg_L) (h : eg_H), i + r = 46 → xi.toInt = (i : Int) → (i : Int) ≤ (hv h 184 126).toInt → xn.toInt = wf_h (ab_cd h 184 126) i → ab_hp h → ab_fr MT h h0 → eg_find 0 ls = some (.ref 182) → eg_find 1 ls = some (.int xk) → eg_find 2 ls = some (.int xn) → eg_find 3 ls = some (.int xi) → hs sc sp 2105 11 dq (fun pc' _ st' h' => pc' = 216 ∧ (∃ t : Int32, st' = [.int t] ∧ 0 ≤ t.toInt ∧ t.toInt ≤ 1) ∧ ab_hp h' ∧ ab_fr MT h' h0) 4 ls [] h := by
  induction r with
  | zero =>
    intro i xi xn ls h hr hi hic hn hp hf l0 l1 l2 l3
    have g := gsl_b hp.1 gq_126
    simp only at g
    omega
  | succ r ih =>
    intro i xi xn ls h hr hi hic hn hp hf l0 l1 l2 l3
    have g := gsl_b hp.1 gq_126
    simp only at g
    have e20 : (Int8.ofInt 20).toInt32.toInt = 20 := rfl
    have e21 : (Int8.ofInt 21).toInt32.toInt = 21 := rfl
    have e22 : (Int8.ofInt 22).toInt32.toInt = 22 := rfl
    have ecd : ab_cd h 184 126 i = (hv h 184 (127 + 3 * i)).toInt := rfl
    have hwb := wf_b hp.2.1 i (by omega)
    have eh : wf_h (ab_cd h 184 126) (i + 1) = wf_h (ab_cd h 184 126) i + wf_d (ab_cd h 184 126 i) := rfl
    have NXT : ∀ (ls' : eg_L) (h' : eg_H) (xn' : Int32), (i : Int) < (hv h 184 126).toInt → ab_hp h' → ab_fr MT h' h → xn'.toInt = wf_h (ab_cd h 184 126) (i + 1) → eg_find 0 ls' = some (.ref 182) → eg_find 1 ls' = some (.int xk) → eg_find 2 ls' = some (.int xn') → eg_find 3 ls' = some (.int xi) → hs sc sp 2105 11 dq (fun pc' _ st' h' => pc' = 216 ∧ (∃ t : Int32, st' = [.int t] ∧ 0 ≤ t.toInt ∧ t.toInt ≤ 1) ∧ ab_hp h' ∧ ab_fr MT h' h0) 204 ls' [] h' := by
      intro ls' h' xn' hlt hp' hf' hn' l0 l1 l2 l3
      have ecd' : ab_cd h' 184 126 = ab_cd h 184 126 := funext (fun j => by unfold ab_cd; rw [hv_200 hf'])
      refine hs_iinc ci_2105_204 (by decide +kernel) l3 ?_
      intro ls9 q9
      replace l0 := q9.2 0 _ (by decide) rfl l0
      replace l1 := q9.2 1 _ (by decide) rfl l1
      replace l2 := q9.2 2 _ (by decide) rfl l2
      have l3 := q9.1
      clear q9
      refine hs_goto (t := 4) ci_2105_207 rfl ?_
      exact ih (i + 1) _ _ _ _ (by omega) (by have := i32_add hi (y := Int32.ofInt 1) (b := 1) rfl (by omega) (by omega); rw [this]; omega) (by rw [hv_200 hf']; omega) (by rw [ecd']; exact hn') hp' (hf'.tr hf) l0 l1 l2 l3
    refine hs_iload_n ci_2105_4 l3 ?_
    refine hs_aload_n ci_2105_5 l0 ?_
    refine hs_gfr 6 184 ci_2105_6 (by decide +kernel) hp.1 ?_
    refine hs_bipush ci_2105_9 ?_
    refine hs_ial1 126 ci_2105_11 rfl gq_126 hp.1 ?_
    refine hs_ic (t := 210) ci_2105_12 rfl (fun b12 => ?_) (fun b12 => ?_)
    · simp only [hs_cd, ab_not] at b12
      refine hs_aload_n ci_2105_210 l0 ?_
      refine hs_gfr 50 200 ci_2105_211 (by decide +kernel) hp.1 ?_
      refine hs_iconst ci_2105_214 ?_
      refine hs_baload 3 0 44 0 1 ci_2105_215 ⟨rfl, by decide⟩ (by decide +kernel) hp.1 (by decide) (by decide) (fun q1 q2 => ?_)
      exact hs_k ⟨rfl, ⟨_, rfl, q1, q2⟩, hp, hf⟩
    · simp only [hs_cd, ab_not] at b12
      refine hs_bipush ci_2105_15 ?_
      refine hs_iconst ci_2105_17 ?_
      refine hs_iload_n ci_2105_18 l3 ?_
      refine hs_imul ci_2105_19 ?_
      refine hs_iadd ci_2105_20 ?_
      have hxt : ((Int8.ofInt 127).toInt32 + Int32.ofInt 3 * xi).toInt = ((127 + 3 * i : Nat) : Int) := (i32_add (a := 127) rfl (i32_mul (a := 3) rfl hi (by omega) (by omega)) (by omega) (by omega)).trans (by omega)
      have gcd := ckq_v gq_cd (3 * i) (by omega)
      have hwf := hp.2.1 i (by omega)
      generalize hxt0 : (Int8.ofInt 127).toInt32 + Int32.ofInt 3 * xi = xt at hxt
      refine hs_istore ci_2105_21 (by decide +kernel) ?_
      intro ls9 q9
      replace l0 := q9.2 0 _ (by decide) rfl l0
      replace l1 := q9.2 1 _ (by decide) rfl l1
      replace l2 := q9.2 2 _ (by decide) rfl l2
      replace l3 := q9.2 3 _ (by decide) rfl l3
      have l4 := q9.1
      clear q9
      refine hs_aload_n ci_2105_23 l0 ?_
      refine hs_gfr 6 184 ci_2105_24 (by decide +kernel) hp.1 ?_
      refine hs_iload ci_2105_27 l4 ?_
      refine hs_ial1 (127 + 3 * i) ci_2105_29 hxt (gcd) hp.1 ?_
      refine hs_bipush ci_2105_30 ?_
      refine hs_ic (t := 62) ci_2105_32 rfl (fun b32 => ?_) (fun b32 => ?_)
      · simp only [hs_cd, ab_not] at b32
        refine hs_aload_n ci_2105_62 l0 ?_
        refine hs_gfr 6 184 ci_2105_63 (by decide +kernel) hp.1 ?_
        refine hs_iload ci_2105_66 l4 ?_
        refine hs_ial1 (127 + 3 * i) ci_2105_68 hxt (gcd) hp.1 ?_
        refine hs_bipush ci_2105_69 ?_
        refine hs_ic (t := 86) ci_2105_71 rfl (fun b71 => ?_) (fun b71 => ?_)
        · simp only [hs_cd, ab_not] at b71
          have hw1 := (hwf.2 (Or.inl (by show (hv h 184 (127 + 3 * i)).toInt = 21; omega)))
          exact sd_go hsc tr_sdB rfl hd hp b1 ⟨by show 2 ≤ _; rw [hn]; exact hw1, by show _ ≤ 45; omega⟩ (by omega) (by omega) l0 l1 l2 l3 l4 (fun ls' h' xn' p1 p2 p3 k0 k1 k2 k3 => NXT ls' h' xn' (by omega) p1 p2 (by rw [p3, eh, ecd, hn]; unfold wf_d; rw [if_neg (by omega)]; rw [if_pos (by omega)]; rfl) k0 k1 k2 k3)
        · simp only [hs_cd, ab_not] at b71
          refine hs_aload_n ci_2105_74 l0 ?_
          refine hs_gfr 6 184 ci_2105_75 (by decide +kernel) hp.1 ?_
          refine hs_iload ci_2105_78 l4 ?_
          refine hs_ial1 (127 + 3 * i) ci_2105_80 hxt (gcd) hp.1 ?_
          refine hs_bipush ci_2105_81 ?_
          refine hs_ic (t := 165) ci_2105_83 rfl (fun b83 => ?_) (fun b83 => ?_)
          · simp only [hs_cd, ab_not] at b83
            exact sd_go hsc tr_sdC rfl hd hp b1 ⟨by show 0 ≤ _; omega, by show _ ≤ 44; omega⟩ (by omega) (by omega) l0 l1 l2 l3 l4 (fun ls' h' xn' p1 p2 p3 k0 k1 k2 k3 => NXT ls' h' xn' (by omega) p1 p2 (by rw [p3, eh, ecd, hn]; unfold wf_d; rw [if_neg (by omega), if_neg (by omega), if_neg (by omega)]; rfl) k0 k1 k2 k3)
          · simp only [hs_cd, ab_not] at b83
            have hw1 := (hwf.2 (Or.inr (by show (hv h 184 (127 + 3 * i)).toInt = 22; omega)))
            exact sd_go hsc tr_sdB rfl hd hp b1 ⟨by show 2 ≤ _; rw [hn]; exact hw1, by show _ ≤ 45; omega⟩ (by omega) (by omega) l0 l1 l2 l3 l4 (fun ls' h' xn' p1 p2 p3 k0 k1 k2 k3 => NXT ls' h' xn' (by omega) p1 p2 (by rw [p3, eh, ecd, hn]; unfold wf_d; rw [if_neg (by omega)]; rw [if_neg (by omega), if_pos (by omega)]; rfl) k0 k1 k2 k3)
      · simp only [hs_cd, ab_not] at b32
        have hw1 := (hwf.1 (by show (hv h 184 (127 + 3 * i)).toInt = 20; omega))
        exact sd_go hsc tr_sdA rfl hd hp b1 ⟨by show 1 ≤ _; rw [hn]; exact hw1, by show _ ≤ 45; omega⟩ (by omega) (by omega) l0 l1 l2 l3 l4 (fun ls' h' xn' p1 p2 p3 k0 k1 k2 k3 => NXT ls' h' xn' (by omega) p1 p2 (by rw [p3, eh, ecd, hn]; unfold wf_d; rw [if_pos (by omega)]; rfl) k0 k1 k2 k3)
def sm_isSaid : ab_Q := (2105, 11, 0, 6, (3, [(2, .ofNat 0, .ofNat 9, false, none)], [(0, .inr 184), (1, .inl (2, .ofNat 0))], [], []), [(200, 0, 44)], [(216, (4, [(3, .ofNat 0, .ofNat 1, false, none)], [], [.inl (3, .ofNat 0)], []))], none)
theorem tr_isSaid : ab_Tr sm_isSaid := tr_hand (by decide +kernel) (fun sc sp hsc dq hdq ν ls st h hr => by
  have l0 := hr.ref 0 182 (by rfl)
  obtain ⟨x, l1, hx0⟩ := hr.int 1 (by rfl)
  have hx0 : x.toInt = ν 2 + 0 := hx0
  have hb : 0 ≤ ν 2 ∧ ν 2 ≤ 9 := hr.bnd 2 (by rfl)
  obtain rfl : st = [] := hr.2.2.2.1
  have hp : ab_hp h := hr.2.2.2.2.2
  have g := gsl_b hp.1 gq_126
  simp only at g
  show hs sc sp 2105 11 dq _ 0 ls [] h
  refine hs_iconst ci_2105_0 ?_
  refine hs_istore_n ci_2105_1 (by decide +kernel) ?_
  intro ls9 q9
  replace l0 := q9.2 0 _ (by decide) rfl l0
  replace l1 := q9.2 1 _ (by decide) rfl l1
  have l2 := q9.1
  clear q9
  refine hs_iconst ci_2105_2 ?_
  refine hs_istore_n ci_2105_3 (by decide +kernel) ?_
  intro ls9 q9
  replace l0 := q9.2 0 _ (by decide) rfl l0
  replace l1 := q9.2 1 _ (by decide) rfl l1
  replace l2 := q9.2 2 _ (by decide) rfl l2
  have l3 := q9.1
  clear q9
  refine hs.mono (sd_loop hsc hdq (h0 := h) (by omega) 46 0 _ _ _ _ rfl rfl (by omega) rfl hp ab_fr.rf l0 l1 l2 l3) ?_
  rintro pc' ls' st' h' ⟨rfl, ⟨t, rfl, t1, t2⟩, hp', hf'⟩
  exact ⟨_, List.mem_cons_self, rfl, _, en_int hr.1 t1 t2 hp', ab_upd_ext, hf'⟩)
