/-! BY HAND: a headland copied -/
theorem ci_835_0 : ab_at 835 0 (.aload_n 0) 1 = true := by decide +kernel
theorem ci_835_1 : ab_at 835 1 (.aload_n 1) 1 = true := by decide +kernel
theorem ci_835_2 : ab_at 835 2 (.getfield 9) 3 = true := by decide +kernel
theorem ci_835_5 : ab_at 835 5 (.putfield 9) 3 = true := by decide +kernel
theorem ci_835_8 : ab_at 835 8 (.aload_n 0) 1 = true := by decide +kernel
theorem ci_835_9 : ab_at 835 9 (.aload_n 1) 1 = true := by decide +kernel
theorem ci_835_10 : ab_at 835 10 (.getfield 15) 3 = true := by decide +kernel
theorem ci_835_13 : ab_at 835 13 (.putfield 15) 3 = true := by decide +kernel
theorem ci_835_16 : ab_at 835 16 (.aload_n 0) 1 = true := by decide +kernel
theorem ci_835_17 : ab_at 835 17 (.aload_n 1) 1 = true := by decide +kernel
theorem ci_835_18 : ab_at 835 18 (.getfield 18) 3 = true := by decide +kernel
theorem ci_835_21 : ab_at 835 21 (.putfield 18) 3 = true := by decide +kernel
theorem ci_835_24 : ab_at 835 24 (.aload_n 0) 1 = true := by decide +kernel
theorem ci_835_25 : ab_at 835 25 (.aload_n 1) 1 = true := by decide +kernel
theorem ci_835_26 : ab_at 835 26 (.getfield 21) 3 = true := by decide +kernel
theorem ci_835_29 : ab_at 835 29 (.putfield 21) 3 = true := by decide +kernel
theorem ci_835_32 : ab_at 835 32 (.aload_n 0) 1 = true := by decide +kernel
theorem ci_835_33 : ab_at 835 33 (.aload_n 1) 1 = true := by decide +kernel
theorem ci_835_34 : ab_at 835 34 (.getfield 24) 3 = true := by decide +kernel
theorem ci_835_37 : ab_at 835 37 (.putfield 24) 3 = true := by decide +kernel
theorem ci_835_40 : ab_at 835 40 (.aload_n 0) 1 = true := by decide +kernel
theorem ci_835_41 : ab_at 835 41 (.aload_n 1) 1 = true := by decide +kernel
theorem ci_835_42 : ab_at 835 42 (.getfield 27) 3 = true := by decide +kernel
theorem ci_835_45 : ab_at 835 45 (.putfield 27) 3 = true := by decide +kernel
theorem ci_835_48 : ab_at 835 48 (.aload_n 0) 1 = true := by decide +kernel
theorem ci_835_49 : ab_at 835 49 (.aload_n 1) 1 = true := by decide +kernel
theorem ci_835_50 : ab_at 835 50 (.getfield 30) 3 = true := by decide +kernel
theorem ci_835_53 : ab_at 835 53 (.putfield 30) 3 = true := by decide +kernel
theorem ci_835_56 : ab_at 835 56 (.iconst 0) 1 = true := by decide +kernel
theorem ci_835_57 : ab_at 835 57 (.istore_n 2) 1 = true := by decide +kernel
theorem sb_0 {h : eg_H} {a k : Nat} {lo hi : Int} (hp : ab_hp0 h) (c : ck_sb a k lo hi = true) : lo ≤ (hv h a k).toInt ∧ (hv h a k).toInt ≤ hi := by
  unfold ck_sb at c
  split at c
  next tag rg hg => exact (hv_slot hp hg (of_decide_eq_true c)).2
  next => cases c
/-- a summary from where one is -/
theorem hs_seg {q : ab_Q} (hq : ab_Tr q) {pc' : Nat} {σ : ab_S} (he : q.2.2.2.2.2.2.1 = [(pc', σ)]) {sc : List Value} {sp d : Nat} (hsc : ab_osc sc) (hd : q.2.2.2.1 ≤ d) {ν : Nat → Int} {ls : eg_L} {st : List Value} {h : eg_H} {K : Nat → eg_L → List Value → eg_H → Prop} (hr : ab_r sc.length ν q.2.2.2.2.1 ls st h) (n : ∀ ν' ls' st' h', ab_r sc.length ν' σ ls' st' h' → ab_ext ν ν' q.2.2.2.2.1.1 → ab_fr q.2.2.2.2.2.1 h' h → hs sc sp q.1 q.2.1 d K pc' ls' st' h') : hs sc sp q.1 q.2.1 d K q.2.2.1 ls st h := by
  obtain ⟨-, -, ht⟩ := hq sc sp hsc
  obtain ⟨e, hem, ν', ls', st', h', g1, g2, g3, g4, g5⟩ := ht d hd ν ls st h hr
  rw [he] at hem
  obtain rfl := List.mem_singleton.mp hem
  exact (n ν' ls' st' h' g1 g2 g4).pre g5
theorem ar_z {L a : Nat} {h : eg_H} {ls : eg_L} (hp : ab_hp h) (l0 : eg_find 0 ls = some (.ref a)) : ab_r L (ar_n L []) (2, [], [(0, .inr (a + 2))], [], []) ls [] h := ⟨⟨show 2 ≤ 2 by decide, rfl, rfl⟩, (fun j B hf => by cases hf), vl_ref l0 vl_nil, rfl, (fun _ _ _ hf => by cases hf), hp⟩
theorem ar_rri {L a b : Nat} {lo hi : Int} {h : eg_H} {ls : eg_L} {x : Int32} (hp : ab_hp h) (l0 : eg_find 0 ls = some (.ref a)) (l1 : eg_find 1 ls = some (.ref b)) (l2 : eg_find 2 ls = some (.int x)) (h1 : lo ≤ x.toInt) (h2 : x.toInt ≤ hi) : ab_r L (ar_n L [x]) (3, [(2, lo, hi, false, none)], [(0, .inr (a + 2)), (1, .inr (b + 2)), (2, .inl (2, .ofNat 0))], [], []) ls [] h := by
  refine ⟨⟨show 2 ≤ 3 by decide, rfl, rfl⟩, ar_e (fun q hq => ?_), vl_ref l0 (vl_ref l1 (vl_int l2 (show 2 < 3 by decide) (Int.add_zero _).symm vl_nil)), rfl, (fun _ _ _ hf => by cases hf), hp⟩
  obtain rfl := List.mem_singleton.mp hq
  exact ⟨_, _, rfl, (show 2 < 3 by decide), h1, h2⟩
def cp_P (M : ab_M) (h : eg_H) (a b : Nat) (vo : Option Value) (h' : eg_H) : Prop := vo = none ∧ ab_hp h' ∧ ab_fr M h' h ∧ ∀ i, i < 7 → hv h' a i = hv h b i
theorem rt_835 : (eg_md 835).2.2.2 = none := by decide +kernel
abbrev MC_8_23 : ab_M := [(8, 0, 6), (9, 0, 5), (10, 0, 5), (11, 0, 5), (12, 0, 9), (13, 0, 9), (14, 0, 9), (15, 0, 9), (16, 0, 9), (17, 0, 9), (18, 0, 9), (19, 0, 9), (20, 0, 9), (21, 0, 9)]
theorem k_cp_8_23 {sc : List Value} {sp d : Nat} {h : eg_H} (hsc : ab_osc sc) (hq : ab_hp h) : mc sc sp 835 1 (d + 1) [.ref 8, .ref 23] h (cp_P MC_8_23 h 8 23) := by
  have l0 : eg_find 0 (eg_args 0 [.ref 8, .ref 23]) = some (.ref 8) := rfl
  have l1 : eg_find 1 (eg_args 0 [.ref 8, .ref 23]) = some (.ref 23) := rfl
  have hp := hq.1
  unfold mc
  refine hs_aload_n ci_835_0 l0 ?_
  refine hs_aload_n ci_835_1 l1 ?_
  refine hs_gfi 0 ci_835_2 (by decide +kernel) hp ?_
  refine hs_pfi 0 (-2147483648) (2147483647) ci_835_5 (by decide +kernel) hp (ab_ige _) (ab_ile _) ?_
  intro h5 w5
  replace hp := w5.1
  refine hs_aload_n ci_835_8 l0 ?_
  refine hs_aload_n ci_835_9 l1 ?_
  refine hs_gfi 1 ci_835_10 (by decide +kernel) hp ?_
  refine hs_pfi 1 (-2147483648) (2147483647) ci_835_13 (by decide +kernel) hp (ab_ige _) (ab_ile _) ?_
  intro h13 w13
  replace hp := w13.1
  refine hs_aload_n ci_835_16 l0 ?_
  refine hs_aload_n ci_835_17 l1 ?_
  refine hs_gfi 2 ci_835_18 (by decide +kernel) hp ?_
  refine hs_pfi 2 (-2147483648) (2147483647) ci_835_21 (by decide +kernel) hp (ab_ige _) (ab_ile _) ?_
  intro h21 w21
  replace hp := w21.1
  refine hs_aload_n ci_835_24 l0 ?_
  refine hs_aload_n ci_835_25 l1 ?_
  refine hs_gfi 3 ci_835_26 (by decide +kernel) hp ?_
  refine hs_pfi 3 (-2147483648) (2147483647) ci_835_29 (by decide +kernel) hp (ab_ige _) (ab_ile _) ?_
  intro h29 w29
  replace hp := w29.1
  refine hs_aload_n ci_835_32 l0 ?_
  refine hs_aload_n ci_835_33 l1 ?_
  refine hs_gfi 4 ci_835_34 (by decide +kernel) hp ?_
  refine hs_pfi 4 (0) (6) ci_835_37 (by decide +kernel) hp (sb_0 (lo := .ofNat 0) (hi := .ofNat 6) hp (by decide +kernel)).1 (sb_0 (lo := .ofNat 0) (hi := .ofNat 6) hp (by decide +kernel)).2 ?_
  intro h37 w37
  replace hp := w37.1
  refine hs_aload_n ci_835_40 l0 ?_
  refine hs_aload_n ci_835_41 l1 ?_
  refine hs_gfi 5 ci_835_42 (by decide +kernel) hp ?_
  refine hs_pfi 5 (0) (10) ci_835_45 (by decide +kernel) hp (sb_0 (lo := .ofNat 0) (hi := .ofNat 10) hp (by decide +kernel)).1 (sb_0 (lo := .ofNat 0) (hi := .ofNat 10) hp (by decide +kernel)).2 ?_
  intro h45 w45
  replace hp := w45.1
  refine hs_aload_n ci_835_48 l0 ?_
  refine hs_aload_n ci_835_49 l1 ?_
  refine hs_gfi 6 ci_835_50 (by decide +kernel) hp ?_
  refine hs_pfi 6 (-2147483648) (2147483647) ci_835_53 (by decide +kernel) hp (ab_ige _) (ab_ile _) ?_
  intro h53 w53
  replace hp := w53.1
  refine hs_iconst ci_835_56 ?_
  refine hs_istore2_n ci_835_57 (by decide +kernel) ?_
  intro ls9 q9
  replace l0 := q9.2 0 _ (by decide) (Or.inl rfl) l0
  replace l1 := q9.2 1 _ (by decide) (Or.inl rfl) l1
  have l2 := q9.1
  clear q9
  have f5 : ab_fr [(8, 0, 6)] h5 h := w5.fr rfl
  have f13 : ab_fr [(8, 0, 6)] h13 h := (w13.fr rfl).tr f5
  have f21 : ab_fr [(8, 0, 6)] h21 h := (w21.fr rfl).tr f13
  have f29 : ab_fr [(8, 0, 6)] h29 h := (w29.fr rfl).tr f21
  have f37 : ab_fr [(8, 0, 6)] h37 h := (w37.fr rfl).tr f29
  have f45 : ab_fr [(8, 0, 6)] h45 h := (w45.fr rfl).tr f37
  have f53 : ab_fr [(8, 0, 6)] h53 h := (w53.fr rfl).tr f45
  have fM : ab_fr MC_8_23 h53 h := fr_sub (by decide +kernel) f53
  refine hs_seg tr_z148 rfl hsc (show 1 ≤ d + 1 by omega) (ar_rri (a := 8) (b := 23) (lo := .ofNat 0) (hi := .ofNat 6) ⟨hp, hq.2.fr (M := MC_8_23) (by decide +kernel) fM⟩ l0 l1 l2 (by decide) (by decide)) ?_
  rintro ν' ls' st' h' ⟨-, -, -, g2, -, g3⟩ - g5
  obtain rfl : st' = [] := g2
  refine hs_k ⟨5, none, by decide +kernel, by rw [rt_835]; rfl, rfl, g3, (fr_sub (by decide +kernel) g5).tr fM, fun i hi => ?_⟩
  have hi2 : i = 0 ∨ i = 1 ∨ i = 2 ∨ i = 3 ∨ i = 4 ∨ i = 5 ∨ i = 6 := by omega
  rcases hi2 with rfl | rfl | rfl | rfl | rfl | rfl | rfl
  · rw [hv_same (g5 8 0 rfl), w53.v, if_neg (by decide), w45.v, if_neg (by decide), w37.v, if_neg (by decide), w29.v, if_neg (by decide), w21.v, if_neg (by decide), w13.v, if_neg (by decide), w5.v, if_pos ⟨rfl, rfl⟩]
  · rw [hv_same (g5 8 1 rfl), w53.v, if_neg (by decide), w45.v, if_neg (by decide), w37.v, if_neg (by decide), w29.v, if_neg (by decide), w21.v, if_neg (by decide), w13.v, if_pos ⟨rfl, rfl⟩, hv_same (f5 23 1 rfl)]
  · rw [hv_same (g5 8 2 rfl), w53.v, if_neg (by decide), w45.v, if_neg (by decide), w37.v, if_neg (by decide), w29.v, if_neg (by decide), w21.v, if_pos ⟨rfl, rfl⟩, hv_same (f13 23 2 rfl)]
  · rw [hv_same (g5 8 3 rfl), w53.v, if_neg (by decide), w45.v, if_neg (by decide), w37.v, if_neg (by decide), w29.v, if_pos ⟨rfl, rfl⟩, hv_same (f21 23 3 rfl)]
  · rw [hv_same (g5 8 4 rfl), w53.v, if_neg (by decide), w45.v, if_neg (by decide), w37.v, if_pos ⟨rfl, rfl⟩, hv_same (f29 23 4 rfl)]
  · rw [hv_same (g5 8 5 rfl), w53.v, if_neg (by decide), w45.v, if_pos ⟨rfl, rfl⟩, hv_same (f37 23 5 rfl)]
  · rw [hv_same (g5 8 6 rfl), w53.v, if_pos ⟨rfl, rfl⟩, hv_same (f45 23 6 rfl)]
abbrev MC_130_8 : ab_M := [(130, 0, 6), (131, 0, 5), (132, 0, 5), (133, 0, 5), (134, 0, 9), (135, 0, 9), (136, 0, 9), (137, 0, 9), (138, 0, 9), (139, 0, 9), (140, 0, 9), (141, 0, 9), (142, 0, 9), (143, 0, 9)]
theorem k_cp_130_8 {sc : List Value} {sp d : Nat} {h : eg_H} (hsc : ab_osc sc) (hq : ab_hp h) : mc sc sp 835 1 (d + 1) [.ref 130, .ref 8] h (cp_P MC_130_8 h 130 8) := by
  have l0 : eg_find 0 (eg_args 0 [.ref 130, .ref 8]) = some (.ref 130) := rfl
  have l1 : eg_find 1 (eg_args 0 [.ref 130, .ref 8]) = some (.ref 8) := rfl
  have hp := hq.1
  unfold mc
  refine hs_aload_n ci_835_0 l0 ?_
  refine hs_aload_n ci_835_1 l1 ?_
  refine hs_gfi 0 ci_835_2 (by decide +kernel) hp ?_
  refine hs_pfi 0 (-2147483648) (2147483647) ci_835_5 (by decide +kernel) hp (ab_ige _) (ab_ile _) ?_
  intro h5 w5
  replace hp := w5.1
  refine hs_aload_n ci_835_8 l0 ?_
  refine hs_aload_n ci_835_9 l1 ?_
  refine hs_gfi 1 ci_835_10 (by decide +kernel) hp ?_
  refine hs_pfi 1 (-2147483648) (2147483647) ci_835_13 (by decide +kernel) hp (ab_ige _) (ab_ile _) ?_
  intro h13 w13
  replace hp := w13.1
  refine hs_aload_n ci_835_16 l0 ?_
  refine hs_aload_n ci_835_17 l1 ?_
  refine hs_gfi 2 ci_835_18 (by decide +kernel) hp ?_
  refine hs_pfi 2 (-2147483648) (2147483647) ci_835_21 (by decide +kernel) hp (ab_ige _) (ab_ile _) ?_
  intro h21 w21
  replace hp := w21.1
  refine hs_aload_n ci_835_24 l0 ?_
  refine hs_aload_n ci_835_25 l1 ?_
  refine hs_gfi 3 ci_835_26 (by decide +kernel) hp ?_
  refine hs_pfi 3 (-2147483648) (2147483647) ci_835_29 (by decide +kernel) hp (ab_ige _) (ab_ile _) ?_
  intro h29 w29
  replace hp := w29.1
  refine hs_aload_n ci_835_32 l0 ?_
  refine hs_aload_n ci_835_33 l1 ?_
  refine hs_gfi 4 ci_835_34 (by decide +kernel) hp ?_
  refine hs_pfi 4 (0) (6) ci_835_37 (by decide +kernel) hp (sb_0 (lo := .ofNat 0) (hi := .ofNat 6) hp (by decide +kernel)).1 (sb_0 (lo := .ofNat 0) (hi := .ofNat 6) hp (by decide +kernel)).2 ?_
  intro h37 w37
  replace hp := w37.1
  refine hs_aload_n ci_835_40 l0 ?_
  refine hs_aload_n ci_835_41 l1 ?_
  refine hs_gfi 5 ci_835_42 (by decide +kernel) hp ?_
  refine hs_pfi 5 (0) (10) ci_835_45 (by decide +kernel) hp (sb_0 (lo := .ofNat 0) (hi := .ofNat 10) hp (by decide +kernel)).1 (sb_0 (lo := .ofNat 0) (hi := .ofNat 10) hp (by decide +kernel)).2 ?_
  intro h45 w45
  replace hp := w45.1
  refine hs_aload_n ci_835_48 l0 ?_
  refine hs_aload_n ci_835_49 l1 ?_
  refine hs_gfi 6 ci_835_50 (by decide +kernel) hp ?_
  refine hs_pfi 6 (-2147483648) (2147483647) ci_835_53 (by decide +kernel) hp (ab_ige _) (ab_ile _) ?_
  intro h53 w53
  replace hp := w53.1
  refine hs_iconst ci_835_56 ?_
  refine hs_istore2_n ci_835_57 (by decide +kernel) ?_
  intro ls9 q9
  replace l0 := q9.2 0 _ (by decide) (Or.inl rfl) l0
  replace l1 := q9.2 1 _ (by decide) (Or.inl rfl) l1
  have l2 := q9.1
  clear q9
  have f5 : ab_fr [(130, 0, 6)] h5 h := w5.fr rfl
  have f13 : ab_fr [(130, 0, 6)] h13 h := (w13.fr rfl).tr f5
  have f21 : ab_fr [(130, 0, 6)] h21 h := (w21.fr rfl).tr f13
  have f29 : ab_fr [(130, 0, 6)] h29 h := (w29.fr rfl).tr f21
  have f37 : ab_fr [(130, 0, 6)] h37 h := (w37.fr rfl).tr f29
  have f45 : ab_fr [(130, 0, 6)] h45 h := (w45.fr rfl).tr f37
  have f53 : ab_fr [(130, 0, 6)] h53 h := (w53.fr rfl).tr f45
  have fM : ab_fr MC_130_8 h53 h := fr_sub (by decide +kernel) f53
  refine hs_seg tr_z4443 rfl hsc (show 1 ≤ d + 1 by omega) (ar_rri (a := 130) (b := 8) (lo := .ofNat 0) (hi := .ofNat 6) ⟨hp, hq.2.fr (M := MC_130_8) (by decide +kernel) fM⟩ l0 l1 l2 (by decide) (by decide)) ?_
  rintro ν' ls' st' h' ⟨-, -, -, g2, -, g3⟩ - g5
  obtain rfl : st' = [] := g2
  refine hs_k ⟨5, none, by decide +kernel, by rw [rt_835]; rfl, rfl, g3, (fr_sub (by decide +kernel) g5).tr fM, fun i hi => ?_⟩
  have hi2 : i = 0 ∨ i = 1 ∨ i = 2 ∨ i = 3 ∨ i = 4 ∨ i = 5 ∨ i = 6 := by omega
  rcases hi2 with rfl | rfl | rfl | rfl | rfl | rfl | rfl
  · rw [hv_same (g5 130 0 rfl), w53.v, if_neg (by decide), w45.v, if_neg (by decide), w37.v, if_neg (by decide), w29.v, if_neg (by decide), w21.v, if_neg (by decide), w13.v, if_neg (by decide), w5.v, if_pos ⟨rfl, rfl⟩]
  · rw [hv_same (g5 130 1 rfl), w53.v, if_neg (by decide), w45.v, if_neg (by decide), w37.v, if_neg (by decide), w29.v, if_neg (by decide), w21.v, if_neg (by decide), w13.v, if_pos ⟨rfl, rfl⟩, hv_same (f5 8 1 rfl)]
  · rw [hv_same (g5 130 2 rfl), w53.v, if_neg (by decide), w45.v, if_neg (by decide), w37.v, if_neg (by decide), w29.v, if_neg (by decide), w21.v, if_pos ⟨rfl, rfl⟩, hv_same (f13 8 2 rfl)]
  · rw [hv_same (g5 130 3 rfl), w53.v, if_neg (by decide), w45.v, if_neg (by decide), w37.v, if_neg (by decide), w29.v, if_pos ⟨rfl, rfl⟩, hv_same (f21 8 3 rfl)]
  · rw [hv_same (g5 130 4 rfl), w53.v, if_neg (by decide), w45.v, if_neg (by decide), w37.v, if_pos ⟨rfl, rfl⟩, hv_same (f29 8 4 rfl)]
  · rw [hv_same (g5 130 5 rfl), w53.v, if_neg (by decide), w45.v, if_pos ⟨rfl, rfl⟩, hv_same (f37 8 5 rfl)]
  · rw [hv_same (g5 130 6 rfl), w53.v, if_pos ⟨rfl, rfl⟩, hv_same (f45 8 6 rfl)]
abbrev MC_156_8 : ab_M := [(156, 0, 6), (157, 0, 5), (158, 0, 5), (159, 0, 5), (160, 0, 9), (161, 0, 9), (162, 0, 9), (163, 0, 9), (164, 0, 9), (165, 0, 9), (166, 0, 9), (167, 0, 9), (168, 0, 9), (169, 0, 9)]
theorem k_cp_156_8 {sc : List Value} {sp d : Nat} {h : eg_H} (hsc : ab_osc sc) (hq : ab_hp h) : mc sc sp 835 1 (d + 1) [.ref 156, .ref 8] h (cp_P MC_156_8 h 156 8) := by
  have l0 : eg_find 0 (eg_args 0 [.ref 156, .ref 8]) = some (.ref 156) := rfl
  have l1 : eg_find 1 (eg_args 0 [.ref 156, .ref 8]) = some (.ref 8) := rfl
  have hp := hq.1
  unfold mc
  refine hs_aload_n ci_835_0 l0 ?_
  refine hs_aload_n ci_835_1 l1 ?_
  refine hs_gfi 0 ci_835_2 (by decide +kernel) hp ?_
  refine hs_pfi 0 (-2147483648) (2147483647) ci_835_5 (by decide +kernel) hp (ab_ige _) (ab_ile _) ?_
  intro h5 w5
  replace hp := w5.1
  refine hs_aload_n ci_835_8 l0 ?_
  refine hs_aload_n ci_835_9 l1 ?_
  refine hs_gfi 1 ci_835_10 (by decide +kernel) hp ?_
  refine hs_pfi 1 (-2147483648) (2147483647) ci_835_13 (by decide +kernel) hp (ab_ige _) (ab_ile _) ?_
  intro h13 w13
  replace hp := w13.1
  refine hs_aload_n ci_835_16 l0 ?_
  refine hs_aload_n ci_835_17 l1 ?_
  refine hs_gfi 2 ci_835_18 (by decide +kernel) hp ?_
  refine hs_pfi 2 (-2147483648) (2147483647) ci_835_21 (by decide +kernel) hp (ab_ige _) (ab_ile _) ?_
  intro h21 w21
  replace hp := w21.1
  refine hs_aload_n ci_835_24 l0 ?_
  refine hs_aload_n ci_835_25 l1 ?_
  refine hs_gfi 3 ci_835_26 (by decide +kernel) hp ?_
  refine hs_pfi 3 (-2147483648) (2147483647) ci_835_29 (by decide +kernel) hp (ab_ige _) (ab_ile _) ?_
  intro h29 w29
  replace hp := w29.1
  refine hs_aload_n ci_835_32 l0 ?_
  refine hs_aload_n ci_835_33 l1 ?_
  refine hs_gfi 4 ci_835_34 (by decide +kernel) hp ?_
  refine hs_pfi 4 (0) (6) ci_835_37 (by decide +kernel) hp (sb_0 (lo := .ofNat 0) (hi := .ofNat 6) hp (by decide +kernel)).1 (sb_0 (lo := .ofNat 0) (hi := .ofNat 6) hp (by decide +kernel)).2 ?_
  intro h37 w37
  replace hp := w37.1
  refine hs_aload_n ci_835_40 l0 ?_
  refine hs_aload_n ci_835_41 l1 ?_
  refine hs_gfi 5 ci_835_42 (by decide +kernel) hp ?_
  refine hs_pfi 5 (0) (10) ci_835_45 (by decide +kernel) hp (sb_0 (lo := .ofNat 0) (hi := .ofNat 10) hp (by decide +kernel)).1 (sb_0 (lo := .ofNat 0) (hi := .ofNat 10) hp (by decide +kernel)).2 ?_
  intro h45 w45
  replace hp := w45.1
  refine hs_aload_n ci_835_48 l0 ?_
  refine hs_aload_n ci_835_49 l1 ?_
  refine hs_gfi 6 ci_835_50 (by decide +kernel) hp ?_
  refine hs_pfi 6 (-2147483648) (2147483647) ci_835_53 (by decide +kernel) hp (ab_ige _) (ab_ile _) ?_
  intro h53 w53
  replace hp := w53.1
  refine hs_iconst ci_835_56 ?_
  refine hs_istore2_n ci_835_57 (by decide +kernel) ?_
  intro ls9 q9
  replace l0 := q9.2 0 _ (by decide) (Or.inl rfl) l0
  replace l1 := q9.2 1 _ (by decide) (Or.inl rfl) l1
  have l2 := q9.1
  clear q9
  have f5 : ab_fr [(156, 0, 6)] h5 h := w5.fr rfl
  have f13 : ab_fr [(156, 0, 6)] h13 h := (w13.fr rfl).tr f5
  have f21 : ab_fr [(156, 0, 6)] h21 h := (w21.fr rfl).tr f13
  have f29 : ab_fr [(156, 0, 6)] h29 h := (w29.fr rfl).tr f21
  have f37 : ab_fr [(156, 0, 6)] h37 h := (w37.fr rfl).tr f29
  have f45 : ab_fr [(156, 0, 6)] h45 h := (w45.fr rfl).tr f37
  have f53 : ab_fr [(156, 0, 6)] h53 h := (w53.fr rfl).tr f45
  have fM : ab_fr MC_156_8 h53 h := fr_sub (by decide +kernel) f53
  refine hs_seg tr_z4435 rfl hsc (show 1 ≤ d + 1 by omega) (ar_rri (a := 156) (b := 8) (lo := .ofNat 0) (hi := .ofNat 6) ⟨hp, hq.2.fr (M := MC_156_8) (by decide +kernel) fM⟩ l0 l1 l2 (by decide) (by decide)) ?_
  rintro ν' ls' st' h' ⟨-, -, -, g2, -, g3⟩ - g5
  obtain rfl : st' = [] := g2
  refine hs_k ⟨5, none, by decide +kernel, by rw [rt_835]; rfl, rfl, g3, (fr_sub (by decide +kernel) g5).tr fM, fun i hi => ?_⟩
  have hi2 : i = 0 ∨ i = 1 ∨ i = 2 ∨ i = 3 ∨ i = 4 ∨ i = 5 ∨ i = 6 := by omega
  rcases hi2 with rfl | rfl | rfl | rfl | rfl | rfl | rfl
  · rw [hv_same (g5 156 0 rfl), w53.v, if_neg (by decide), w45.v, if_neg (by decide), w37.v, if_neg (by decide), w29.v, if_neg (by decide), w21.v, if_neg (by decide), w13.v, if_neg (by decide), w5.v, if_pos ⟨rfl, rfl⟩]
  · rw [hv_same (g5 156 1 rfl), w53.v, if_neg (by decide), w45.v, if_neg (by decide), w37.v, if_neg (by decide), w29.v, if_neg (by decide), w21.v, if_neg (by decide), w13.v, if_pos ⟨rfl, rfl⟩, hv_same (f5 8 1 rfl)]
  · rw [hv_same (g5 156 2 rfl), w53.v, if_neg (by decide), w45.v, if_neg (by decide), w37.v, if_neg (by decide), w29.v, if_neg (by decide), w21.v, if_pos ⟨rfl, rfl⟩, hv_same (f13 8 2 rfl)]
  · rw [hv_same (g5 156 3 rfl), w53.v, if_neg (by decide), w45.v, if_neg (by decide), w37.v, if_neg (by decide), w29.v, if_pos ⟨rfl, rfl⟩, hv_same (f21 8 3 rfl)]
  · rw [hv_same (g5 156 4 rfl), w53.v, if_neg (by decide), w45.v, if_neg (by decide), w37.v, if_pos ⟨rfl, rfl⟩, hv_same (f29 8 4 rfl)]
  · rw [hv_same (g5 156 5 rfl), w53.v, if_neg (by decide), w45.v, if_pos ⟨rfl, rfl⟩, hv_same (f37 8 5 rfl)]
  · rw [hv_same (g5 156 6 rfl), w53.v, if_pos ⟨rfl, rfl⟩, hv_same (f45 8 6 rfl)]
abbrev MC_8_130 : ab_M := [(8, 0, 6), (9, 0, 5), (10, 0, 5), (11, 0, 5), (12, 0, 9), (13, 0, 9), (14, 0, 9), (15, 0, 9), (16, 0, 9), (17, 0, 9), (18, 0, 9), (19, 0, 9), (20, 0, 9), (21, 0, 9)]
theorem k_cp_8_130 {sc : List Value} {sp d : Nat} {h : eg_H} (hsc : ab_osc sc) (hq : ab_hp h) : mc sc sp 835 1 (d + 1) [.ref 8, .ref 130] h (cp_P MC_8_130 h 8 130) := by
  have l0 : eg_find 0 (eg_args 0 [.ref 8, .ref 130]) = some (.ref 8) := rfl
  have l1 : eg_find 1 (eg_args 0 [.ref 8, .ref 130]) = some (.ref 130) := rfl
  have hp := hq.1
  unfold mc
  refine hs_aload_n ci_835_0 l0 ?_
  refine hs_aload_n ci_835_1 l1 ?_
  refine hs_gfi 0 ci_835_2 (by decide +kernel) hp ?_
  refine hs_pfi 0 (-2147483648) (2147483647) ci_835_5 (by decide +kernel) hp (ab_ige _) (ab_ile _) ?_
  intro h5 w5
  replace hp := w5.1
  refine hs_aload_n ci_835_8 l0 ?_
  refine hs_aload_n ci_835_9 l1 ?_
  refine hs_gfi 1 ci_835_10 (by decide +kernel) hp ?_
  refine hs_pfi 1 (-2147483648) (2147483647) ci_835_13 (by decide +kernel) hp (ab_ige _) (ab_ile _) ?_
  intro h13 w13
  replace hp := w13.1
  refine hs_aload_n ci_835_16 l0 ?_
  refine hs_aload_n ci_835_17 l1 ?_
  refine hs_gfi 2 ci_835_18 (by decide +kernel) hp ?_
  refine hs_pfi 2 (-2147483648) (2147483647) ci_835_21 (by decide +kernel) hp (ab_ige _) (ab_ile _) ?_
  intro h21 w21
  replace hp := w21.1
  refine hs_aload_n ci_835_24 l0 ?_
  refine hs_aload_n ci_835_25 l1 ?_
  refine hs_gfi 3 ci_835_26 (by decide +kernel) hp ?_
  refine hs_pfi 3 (-2147483648) (2147483647) ci_835_29 (by decide +kernel) hp (ab_ige _) (ab_ile _) ?_
  intro h29 w29
  replace hp := w29.1
  refine hs_aload_n ci_835_32 l0 ?_
  refine hs_aload_n ci_835_33 l1 ?_
  refine hs_gfi 4 ci_835_34 (by decide +kernel) hp ?_
  refine hs_pfi 4 (0) (6) ci_835_37 (by decide +kernel) hp (sb_0 (lo := .ofNat 0) (hi := .ofNat 6) hp (by decide +kernel)).1 (sb_0 (lo := .ofNat 0) (hi := .ofNat 6) hp (by decide +kernel)).2 ?_
  intro h37 w37
  replace hp := w37.1
  refine hs_aload_n ci_835_40 l0 ?_
  refine hs_aload_n ci_835_41 l1 ?_
  refine hs_gfi 5 ci_835_42 (by decide +kernel) hp ?_
  refine hs_pfi 5 (0) (10) ci_835_45 (by decide +kernel) hp (sb_0 (lo := .ofNat 0) (hi := .ofNat 10) hp (by decide +kernel)).1 (sb_0 (lo := .ofNat 0) (hi := .ofNat 10) hp (by decide +kernel)).2 ?_
  intro h45 w45
  replace hp := w45.1
  refine hs_aload_n ci_835_48 l0 ?_
  refine hs_aload_n ci_835_49 l1 ?_
  refine hs_gfi 6 ci_835_50 (by decide +kernel) hp ?_
  refine hs_pfi 6 (-2147483648) (2147483647) ci_835_53 (by decide +kernel) hp (ab_ige _) (ab_ile _) ?_
  intro h53 w53
  replace hp := w53.1
  refine hs_iconst ci_835_56 ?_
  refine hs_istore2_n ci_835_57 (by decide +kernel) ?_
  intro ls9 q9
  replace l0 := q9.2 0 _ (by decide) (Or.inl rfl) l0
  replace l1 := q9.2 1 _ (by decide) (Or.inl rfl) l1
  have l2 := q9.1
  clear q9
  have f5 : ab_fr [(8, 0, 6)] h5 h := w5.fr rfl
  have f13 : ab_fr [(8, 0, 6)] h13 h := (w13.fr rfl).tr f5
  have f21 : ab_fr [(8, 0, 6)] h21 h := (w21.fr rfl).tr f13
  have f29 : ab_fr [(8, 0, 6)] h29 h := (w29.fr rfl).tr f21
  have f37 : ab_fr [(8, 0, 6)] h37 h := (w37.fr rfl).tr f29
  have f45 : ab_fr [(8, 0, 6)] h45 h := (w45.fr rfl).tr f37
  have f53 : ab_fr [(8, 0, 6)] h53 h := (w53.fr rfl).tr f45
  have fM : ab_fr MC_8_130 h53 h := fr_sub (by decide +kernel) f53
  refine hs_seg tr_z4460 rfl hsc (show 1 ≤ d + 1 by omega) (ar_rri (a := 8) (b := 130) (lo := .ofNat 0) (hi := .ofNat 6) ⟨hp, hq.2.fr (M := MC_8_130) (by decide +kernel) fM⟩ l0 l1 l2 (by decide) (by decide)) ?_
  rintro ν' ls' st' h' ⟨-, -, -, g2, -, g3⟩ - g5
  obtain rfl : st' = [] := g2
  refine hs_k ⟨5, none, by decide +kernel, by rw [rt_835]; rfl, rfl, g3, (fr_sub (by decide +kernel) g5).tr fM, fun i hi => ?_⟩
  have hi2 : i = 0 ∨ i = 1 ∨ i = 2 ∨ i = 3 ∨ i = 4 ∨ i = 5 ∨ i = 6 := by omega
  rcases hi2 with rfl | rfl | rfl | rfl | rfl | rfl | rfl
  · rw [hv_same (g5 8 0 rfl), w53.v, if_neg (by decide), w45.v, if_neg (by decide), w37.v, if_neg (by decide), w29.v, if_neg (by decide), w21.v, if_neg (by decide), w13.v, if_neg (by decide), w5.v, if_pos ⟨rfl, rfl⟩]
  · rw [hv_same (g5 8 1 rfl), w53.v, if_neg (by decide), w45.v, if_neg (by decide), w37.v, if_neg (by decide), w29.v, if_neg (by decide), w21.v, if_neg (by decide), w13.v, if_pos ⟨rfl, rfl⟩, hv_same (f5 130 1 rfl)]
  · rw [hv_same (g5 8 2 rfl), w53.v, if_neg (by decide), w45.v, if_neg (by decide), w37.v, if_neg (by decide), w29.v, if_neg (by decide), w21.v, if_pos ⟨rfl, rfl⟩, hv_same (f13 130 2 rfl)]
  · rw [hv_same (g5 8 3 rfl), w53.v, if_neg (by decide), w45.v, if_neg (by decide), w37.v, if_neg (by decide), w29.v, if_pos ⟨rfl, rfl⟩, hv_same (f21 130 3 rfl)]
  · rw [hv_same (g5 8 4 rfl), w53.v, if_neg (by decide), w45.v, if_neg (by decide), w37.v, if_pos ⟨rfl, rfl⟩, hv_same (f29 130 4 rfl)]
  · rw [hv_same (g5 8 5 rfl), w53.v, if_neg (by decide), w45.v, if_pos ⟨rfl, rfl⟩, hv_same (f37 130 5 rfl)]
  · rw [hv_same (g5 8 6 rfl), w53.v, if_pos ⟨rfl, rfl⟩, hv_same (f45 130 6 rfl)]
abbrev MC_8_156 : ab_M := [(8, 0, 6), (9, 0, 5), (10, 0, 5), (11, 0, 5), (12, 0, 9), (13, 0, 9), (14, 0, 9), (15, 0, 9), (16, 0, 9), (17, 0, 9), (18, 0, 9), (19, 0, 9), (20, 0, 9), (21, 0, 9)]
theorem k_cp_8_156 {sc : List Value} {sp d : Nat} {h : eg_H} (hsc : ab_osc sc) (hq : ab_hp h) : mc sc sp 835 1 (d + 1) [.ref 8, .ref 156] h (cp_P MC_8_156 h 8 156) := by
  have l0 : eg_find 0 (eg_args 0 [.ref 8, .ref 156]) = some (.ref 8) := rfl
  have l1 : eg_find 1 (eg_args 0 [.ref 8, .ref 156]) = some (.ref 156) := rfl
  have hp := hq.1
  unfold mc
  refine hs_aload_n ci_835_0 l0 ?_
  refine hs_aload_n ci_835_1 l1 ?_
  refine hs_gfi 0 ci_835_2 (by decide +kernel) hp ?_
  refine hs_pfi 0 (-2147483648) (2147483647) ci_835_5 (by decide +kernel) hp (ab_ige _) (ab_ile _) ?_
  intro h5 w5
  replace hp := w5.1
  refine hs_aload_n ci_835_8 l0 ?_
  refine hs_aload_n ci_835_9 l1 ?_
  refine hs_gfi 1 ci_835_10 (by decide +kernel) hp ?_
  refine hs_pfi 1 (-2147483648) (2147483647) ci_835_13 (by decide +kernel) hp (ab_ige _) (ab_ile _) ?_
  intro h13 w13
  replace hp := w13.1
  refine hs_aload_n ci_835_16 l0 ?_
  refine hs_aload_n ci_835_17 l1 ?_
  refine hs_gfi 2 ci_835_18 (by decide +kernel) hp ?_
  refine hs_pfi 2 (-2147483648) (2147483647) ci_835_21 (by decide +kernel) hp (ab_ige _) (ab_ile _) ?_
  intro h21 w21
  replace hp := w21.1
  refine hs_aload_n ci_835_24 l0 ?_
  refine hs_aload_n ci_835_25 l1 ?_
  refine hs_gfi 3 ci_835_26 (by decide +kernel) hp ?_
  refine hs_pfi 3 (-2147483648) (2147483647) ci_835_29 (by decide +kernel) hp (ab_ige _) (ab_ile _) ?_
  intro h29 w29
  replace hp := w29.1
  refine hs_aload_n ci_835_32 l0 ?_
  refine hs_aload_n ci_835_33 l1 ?_
  refine hs_gfi 4 ci_835_34 (by decide +kernel) hp ?_
  refine hs_pfi 4 (0) (6) ci_835_37 (by decide +kernel) hp (sb_0 (lo := .ofNat 0) (hi := .ofNat 6) hp (by decide +kernel)).1 (sb_0 (lo := .ofNat 0) (hi := .ofNat 6) hp (by decide +kernel)).2 ?_
  intro h37 w37
  replace hp := w37.1
  refine hs_aload_n ci_835_40 l0 ?_
  refine hs_aload_n ci_835_41 l1 ?_
  refine hs_gfi 5 ci_835_42 (by decide +kernel) hp ?_
  refine hs_pfi 5 (0) (10) ci_835_45 (by decide +kernel) hp (sb_0 (lo := .ofNat 0) (hi := .ofNat 10) hp (by decide +kernel)).1 (sb_0 (lo := .ofNat 0) (hi := .ofNat 10) hp (by decide +kernel)).2 ?_
  intro h45 w45
  replace hp := w45.1
  refine hs_aload_n ci_835_48 l0 ?_
  refine hs_aload_n ci_835_49 l1 ?_
  refine hs_gfi 6 ci_835_50 (by decide +kernel) hp ?_
  refine hs_pfi 6 (-2147483648) (2147483647) ci_835_53 (by decide +kernel) hp (ab_ige _) (ab_ile _) ?_
  intro h53 w53
  replace hp := w53.1
  refine hs_iconst ci_835_56 ?_
  refine hs_istore2_n ci_835_57 (by decide +kernel) ?_
  intro ls9 q9
  replace l0 := q9.2 0 _ (by decide) (Or.inl rfl) l0
  replace l1 := q9.2 1 _ (by decide) (Or.inl rfl) l1
  have l2 := q9.1
  clear q9
  have f5 : ab_fr [(8, 0, 6)] h5 h := w5.fr rfl
  have f13 : ab_fr [(8, 0, 6)] h13 h := (w13.fr rfl).tr f5
  have f21 : ab_fr [(8, 0, 6)] h21 h := (w21.fr rfl).tr f13
  have f29 : ab_fr [(8, 0, 6)] h29 h := (w29.fr rfl).tr f21
  have f37 : ab_fr [(8, 0, 6)] h37 h := (w37.fr rfl).tr f29
  have f45 : ab_fr [(8, 0, 6)] h45 h := (w45.fr rfl).tr f37
  have f53 : ab_fr [(8, 0, 6)] h53 h := (w53.fr rfl).tr f45
  have fM : ab_fr MC_8_156 h53 h := fr_sub (by decide +kernel) f53
  refine hs_seg tr_z4452 rfl hsc (show 1 ≤ d + 1 by omega) (ar_rri (a := 8) (b := 156) (lo := .ofNat 0) (hi := .ofNat 6) ⟨hp, hq.2.fr (M := MC_8_156) (by decide +kernel) fM⟩ l0 l1 l2 (by decide) (by decide)) ?_
  rintro ν' ls' st' h' ⟨-, -, -, g2, -, g3⟩ - g5
  obtain rfl : st' = [] := g2
  refine hs_k ⟨5, none, by decide +kernel, by rw [rt_835]; rfl, rfl, g3, (fr_sub (by decide +kernel) g5).tr fM, fun i hi => ?_⟩
  have hi2 : i = 0 ∨ i = 1 ∨ i = 2 ∨ i = 3 ∨ i = 4 ∨ i = 5 ∨ i = 6 := by omega
  rcases hi2 with rfl | rfl | rfl | rfl | rfl | rfl | rfl
  · rw [hv_same (g5 8 0 rfl), w53.v, if_neg (by decide), w45.v, if_neg (by decide), w37.v, if_neg (by decide), w29.v, if_neg (by decide), w21.v, if_neg (by decide), w13.v, if_neg (by decide), w5.v, if_pos ⟨rfl, rfl⟩]
  · rw [hv_same (g5 8 1 rfl), w53.v, if_neg (by decide), w45.v, if_neg (by decide), w37.v, if_neg (by decide), w29.v, if_neg (by decide), w21.v, if_neg (by decide), w13.v, if_pos ⟨rfl, rfl⟩, hv_same (f5 156 1 rfl)]
  · rw [hv_same (g5 8 2 rfl), w53.v, if_neg (by decide), w45.v, if_neg (by decide), w37.v, if_neg (by decide), w29.v, if_neg (by decide), w21.v, if_pos ⟨rfl, rfl⟩, hv_same (f13 156 2 rfl)]
  · rw [hv_same (g5 8 3 rfl), w53.v, if_neg (by decide), w45.v, if_neg (by decide), w37.v, if_neg (by decide), w29.v, if_pos ⟨rfl, rfl⟩, hv_same (f21 156 3 rfl)]
  · rw [hv_same (g5 8 4 rfl), w53.v, if_neg (by decide), w45.v, if_neg (by decide), w37.v, if_pos ⟨rfl, rfl⟩, hv_same (f29 156 4 rfl)]
  · rw [hv_same (g5 8 5 rfl), w53.v, if_neg (by decide), w45.v, if_pos ⟨rfl, rfl⟩, hv_same (f37 156 5 rfl)]
  · rw [hv_same (g5 8 6 rfl), w53.v, if_pos ⟨rfl, rfl⟩, hv_same (f45 156 6 rfl)]
