/-! BY HAND: the readers of a BOOK in both -/
theorem ci_1205_0 : ab_at 1205 0 (.aload_n 0) 1 = true := by decide +kernel
theorem ci_1205_1 : ab_at 1205 1 (.getfield 38) 3 = true := by decide +kernel
theorem ci_1205_4 : ab_at 1205 4 (.getfield 51) 3 = true := by decide +kernel
theorem ci_1205_7 : ab_at 1205 7 (.sipush 209) 3 = true := by decide +kernel
theorem ci_1205_10 : ab_at 1205 10 (.if_icmp .ne 8) 3 = true := by decide +kernel
theorem ci_1205_13 : ab_at 1205 13 (.aload_n 0) 1 = true := by decide +kernel
theorem ci_1205_14 : ab_at 1205 14 (.invokevirtual 65) 3 = true := by decide +kernel
theorem ci_1205_18 : ab_at 1205 18 (.aload_n 0) 1 = true := by decide +kernel
theorem ci_1205_19 : ab_at 1205 19 (.getfield 38) 3 = true := by decide +kernel
theorem ci_1205_22 : ab_at 1205 22 (.getfield 51) 3 = true := by decide +kernel
theorem ci_1205_25 : ab_at 1205 25 (.iconst 1) 1 = true := by decide +kernel
theorem ci_1205_26 : ab_at 1205 26 (.if_icmp .ne 10) 3 = true := by decide +kernel
theorem ci_1205_29 : ab_at 1205 29 (.aload_n 0) 1 = true := by decide +kernel
theorem ci_1205_30 : ab_at 1205 30 (.invokevirtual 68) 3 = true := by decide +kernel
theorem ci_1205_33 : ab_at 1205 33 (.goto 11) 3 = true := by decide +kernel
theorem ci_1205_36 : ab_at 1205 36 (.aload_n 0) 1 = true := by decide +kernel
theorem ci_1205_37 : ab_at 1205 37 (.getfield 38) 3 = true := by decide +kernel
theorem ci_1205_40 : ab_at 1205 40 (.iconst 1) 1 = true := by decide +kernel
theorem ci_1205_41 : ab_at 1205 41 (.invokevirtual 61) 3 = true := by decide +kernel
theorem ci_1209_0 : ab_at 1209 0 (.aload_n 0) 1 = true := by decide +kernel
theorem ci_1209_1 : ab_at 1209 1 (.getfield 18) 3 = true := by decide +kernel
theorem ci_1209_4 : ab_at 1209 4 (.bipush 40) 2 = true := by decide +kernel
theorem ci_1209_6 : ab_at 1209 6 (.if_icmp .lt 12) 3 = true := by decide +kernel
theorem ci_1209_9 : ab_at 1209 9 (.aload_n 0) 1 = true := by decide +kernel
theorem ci_1209_10 : ab_at 1209 10 (.getfield 38) 3 = true := by decide +kernel
theorem ci_1209_13 : ab_at 1209 13 (.iconst 4) 1 = true := by decide +kernel
theorem ci_1209_14 : ab_at 1209 14 (.invokevirtual 61) 3 = true := by decide +kernel
theorem ci_1209_18 : ab_at 1209 18 (.aload_n 0) 1 = true := by decide +kernel
theorem ci_1209_19 : ab_at 1209 19 (.getfield 38) 3 = true := by decide +kernel
theorem ci_1209_22 : ab_at 1209 22 (.iconst 1) 1 = true := by decide +kernel
theorem ci_1209_23 : ab_at 1209 23 (.bipush 60) 2 = true := by decide +kernel
theorem ci_1209_25 : ab_at 1209 25 (.invokevirtual 71) 3 = true := by decide +kernel
theorem ci_1209_28 : ab_at 1209 28 (.ifCond .ne 5) 3 = true := by decide +kernel
theorem ci_1209_31 : ab_at 1209 31 (.iconst 0) 1 = true := by decide +kernel
theorem ci_1216_0 : ab_at 1216 0 (.aload_n 0) 1 = true := by decide +kernel
theorem ci_1216_1 : ab_at 1216 1 (.getfield 42) 3 = true := by decide +kernel
theorem ci_1216_4 : ab_at 1216 4 (.aload_n 0) 1 = true := by decide +kernel
theorem ci_1216_5 : ab_at 1216 5 (.getfield 38) 3 = true := by decide +kernel
theorem ci_1216_8 : ab_at 1216 8 (.invokevirtual 79) 3 = true := by decide +kernel
theorem ci_1216_11 : ab_at 1216 11 (.invokevirtual 83) 3 = true := by decide +kernel
theorem ci_1216_14 : ab_at 1216 14 (.istore_n 1) 1 = true := by decide +kernel
theorem ci_1216_15 : ab_at 1216 15 (.iload_n 1) 1 = true := by decide +kernel
theorem ci_1216_16 : ab_at 1216 16 (.iconst (-1)) 1 = true := by decide +kernel
theorem ci_1216_17 : ab_at 1216 17 (.if_icmp .ne 12) 3 = true := by decide +kernel
theorem ci_1216_20 : ab_at 1216 20 (.aload_n 0) 1 = true := by decide +kernel
theorem ci_1216_21 : ab_at 1216 21 (.getfield 38) 3 = true := by decide +kernel
theorem ci_1216_24 : ab_at 1216 24 (.iconst 3) 1 = true := by decide +kernel
theorem ci_1216_25 : ab_at 1216 25 (.invokevirtual 61) 3 = true := by decide +kernel
theorem ci_1216_29 : ab_at 1216 29 (.aload_n 0) 1 = true := by decide +kernel
theorem ci_1216_30 : ab_at 1216 30 (.getfield 18) 3 = true := by decide +kernel
theorem ci_1216_33 : ab_at 1216 33 (.bipush 40) 2 = true := by decide +kernel
theorem ci_1216_35 : ab_at 1216 35 (.if_icmp .lt 12) 3 = true := by decide +kernel
theorem ci_1216_38 : ab_at 1216 38 (.aload_n 0) 1 = true := by decide +kernel
theorem ci_1216_39 : ab_at 1216 39 (.getfield 38) 3 = true := by decide +kernel
theorem ci_1216_42 : ab_at 1216 42 (.iconst 4) 1 = true := by decide +kernel
theorem ci_1216_43 : ab_at 1216 43 (.invokevirtual 61) 3 = true := by decide +kernel
theorem ci_1216_47 : ab_at 1216 47 (.aload_n 0) 1 = true := by decide +kernel
theorem ci_1216_48 : ab_at 1216 48 (.getfield 38) 3 = true := by decide +kernel
theorem ci_1216_51 : ab_at 1216 51 (.invokevirtual 46) 3 = true := by decide +kernel
theorem ci_1216_54 : ab_at 1216 54 (.aload_n 0) 1 = true := by decide +kernel
theorem ci_1216_55 : ab_at 1216 55 (.getfield 38) 3 = true := by decide +kernel
theorem ci_1216_58 : ab_at 1216 58 (.getfield 51) 3 = true := by decide +kernel
theorem ci_1216_61 : ab_at 1216 61 (.invokestatic 89) 3 = true := by decide +kernel
theorem ci_1216_64 : ab_at 1216 64 (.istore_n 2) 1 = true := by decide +kernel
theorem ci_1216_65 : ab_at 1216 65 (.iload_n 2) 1 = true := by decide +kernel
theorem ci_1216_66 : ab_at 1216 66 (.iconst (-1)) 1 = true := by decide +kernel
theorem ci_1216_67 : ab_at 1216 67 (.if_icmp .ne 12) 3 = true := by decide +kernel
theorem ci_1216_70 : ab_at 1216 70 (.aload_n 0) 1 = true := by decide +kernel
theorem ci_1216_71 : ab_at 1216 71 (.getfield 38) 3 = true := by decide +kernel
theorem ci_1216_74 : ab_at 1216 74 (.iconst 1) 1 = true := by decide +kernel
theorem ci_1216_75 : ab_at 1216 75 (.invokevirtual 61) 3 = true := by decide +kernel
theorem ci_1221_0 : ab_at 1221 0 (.iload_n 0) 1 = true := by decide +kernel
theorem ci_1221_1 : ab_at 1221 1 (.tableswitch 51 206 212 #[45, 47, 49, 51, 51, 51, 43]) 43 = true := by decide +kernel
theorem ci_1221_44 : ab_at 1221 44 (.iconst 0) 1 = true := by decide +kernel
theorem ci_1221_46 : ab_at 1221 46 (.iconst 1) 1 = true := by decide +kernel
theorem ci_1221_48 : ab_at 1221 48 (.iconst 2) 1 = true := by decide +kernel
theorem ci_1221_50 : ab_at 1221 50 (.iconst 3) 1 = true := by decide +kernel
theorem ci_1221_52 : ab_at 1221 52 (.iconst (-1)) 1 = true := by decide +kernel
theorem ml_1209 : (eg_md 1209).2.2.1 = 1 := by decide +kernel
theorem ml_1216 : (eg_md 1216).2.2.1 = 3 := by decide +kernel
theorem ml_1221 : (eg_md 1221).2.2.1 = 1 := by decide +kernel
theorem kS_209 : (Int16.ofInt (209)).toInt32.toInt = 209 := by decide +kernel
/-- a line of a BOOK, its first token the j-th, n lines told: it ends ahead of the token j + 2 -/
def isday (t : tx_K) : Prop := 4 ≤ t.1 ∧ t.2.1 = 2968
def isded (t : tx_K) : Prop := 4 ≤ t.1 ∧ (t.2.1 = 220610 ∨ t.2.1 = 38567165 ∨ t.2.1 = 3546724 ∨ t.2.1 = 8935760650)
section SBL
variable (tk : Nat → tx_K) (ta : Nat → Nat) (ps : PS)
noncomputable def sb_ln (n j : Nat) : Sum ER Unit := @ite _ (isday (tk j)) (Classical.propDecidable _) (if 40 ≤ n then .inl (4, ta j) else sbn (sp_num (tk (j + 1)) (ta (j + 1)) 1 60) (fun _ => .inr ())) (sbn (sp_old ps 3 5 (tk j) (ta j)) (fun _ => if 40 ≤ n then .inl (4, ta j) else @ite _ (isded (tk (j + 1))) (Classical.propDecidable _) (.inr ()) (.inl (1, ta (j + 1)))))
noncomputable def sb_all : Nat → Nat → Nat → Sum ER Nat
  | 0, _, j => .inl (1, ta (j - 1))
  | f + 1, n, j => if (tk j).1 = 0 then .inr n else sbn (sb_ln tk ta ps n j) (fun _ => if (tk (j + 2)).1 = 2 ∧ (tk (j + 2)).2.1 = 59 then sb_all f (n + 1) (j + 3) else .inl (1, ta (j + 2)))
end SBL
section SBX
variable {tk : Nat → tx_K} {ta : Nat → Nat} {ps : PS} {n j : Nat}
theorem sd_d (h : isday (tk j)) : sb_ln tk ta ps n j = (if 40 ≤ n then .inl (4, ta j) else sbn (sp_num (tk (j + 1)) (ta (j + 1)) 1 60) (fun _ => .inr ())) := by
  unfold sb_ln
  rw [if_pos h]
theorem sd_n (h : ¬ isday (tk j)) : sb_ln tk ta ps n j = sbn (sp_old ps 3 5 (tk j) (ta j)) (fun _ => if 40 ≤ n then .inl (4, ta j) else @ite _ (isded (tk (j + 1))) (Classical.propDecidable _) (.inr ()) (.inl (1, ta (j + 1)))) := by
  unfold sb_ln
  rw [if_neg h]
/-- a line that is the forty-first is none -/
theorem sb_40 (hn : 40 ≤ n) {u : Unit} : sb_ln tk ta ps n j ≠ .inr u := by
  intro g
  by_cases h : isday (tk j)
  · rw [sd_d h, if_pos hn] at g
    cases g
  · rw [sd_n h] at g
    obtain ⟨a, -, g⟩ := sbn_i g
    rw [if_pos hn] at g
    cases g
end SBX
/-- the promises' names, as the headland has them -/
def PN (h : eg_H) (ps : PS) : Prop := (hv h 8 5).toInt = ps.1 5 ∧ ∀ q : Nat, (q : Int) < ps.1 5 → (hl h 12 q).toInt = ps.2 3 q
theorem PN.sf {h : eg_H} {ps : PS} (c : PN h ps) (a : Int) : sf (fun q => (hl h 12 q).toInt) a (hv h 8 5).toInt.toNat = sf (ps.2 3) a (ps.1 5).toNat := by
  rw [c.1]
  exact sf_same _ (fun q hq => by rw [c.2 q (by omega)])
abbrev MBK : ab_M := [(3, 6, 11), (112, 4, 4), (113, 0, 39), (114, 0, 39)]
abbrev MBW : ab_M := [(3, 6, 11), (113, 0, 39), (114, 0, 39)]
/-- the j-th token is the current one, n lines are told -/
def bk_S (h : eg_H) (tk : Nat → tx_K) (ta : Nat → Nat) (m : Nat) (ps : PS) (n j : Nat) : Prop := ab_hp h ∧ kwok h ∧ ro h tk ta m ∧ cu h tk ta m (j + 1) ∧ (hv h 112 4).toInt = (n : Int) ∧ PN h ps
section BKS
variable {h h' : eg_H} {tk : Nat → tx_K} {ta : Nat → Nat} {m : Nat} {ps : PS} {n n' j j' : Nat}
theorem bk_S.up (s : bk_S h tk ta m ps n j) (f : ab_fr MBK h' h) (q : ab_hp h') (c : cu h' tk ta m (j' + 1)) (o : (hv h' 112 4).toInt = (n' : Int)) : bk_S h' tk ta m ps n' j' := by
  obtain ⟨s1, s2, ⟨r1, r2, r3, r4, r5⟩, s4, s5, s6, s7⟩ := s
  exact ⟨q, s2.fr f (fun _ => rfl), ⟨r1, r2, by rw [hv_same (f 3 5 rfl)]; exact r3, fun t ht => (r4 t ht).same (f 5 t rfl) (f 6 t rfl) (f 7 t rfl) (fun k => hl_same (f 4 k rfl)), r5⟩, c, o, by rw [hv_same (f 8 5 rfl)]; exact s6, fun q hq => by rw [hl_same (f 12 q rfl)]; exact s7 q hq⟩
theorem bk_S.cur (s : bk_S h tk ta m ps n j) : cur h (tk j) (ta j) := s.2.2.2.1.2 (by omega)
theorem bk_S.pl (s : bk_S h tk ta m ps n j) : (hv h 3 10).toInt = (ta j : Int) := s.cur.1
end BKS
/-- a line is read: what it comes to; the heap's own order isn't told here -/
def bl_P (h : eg_H) (tk : Nat → tx_K) (ta : Nat → Nat) (m : Nat) (ps : PS) (n j : Nat) (vo : Option Value) (h' : eg_H) : Prop := ab_fr MBW h' h ∧ ∃ r : Int32, vo = some (.int r) ∧ ((r.toInt = 1 ∧ (∃ u, sb_ln tk ta ps n j = .inr u) ∧ cu h' tk ta m (j + 1 + 1)) ∨ (r.toInt = 0 ∧ ∃ (k : Int) (a : Nat), sb_ln tk ta ps n j = .inl (k, a) ∧ flt h' k a))
theorem rt_1200 : (eg_md 1200).2.2.2 = some .boolean := by decide +kernel
theorem rt_1205 : (eg_md 1205).2.2.2 = some .boolean := by decide +kernel
theorem rt_1209 : (eg_md 1209).2.2.2 = some .boolean := by decide +kernel
theorem rt_1216 : (eg_md 1216).2.2.2 = some .boolean := by decide +kernel
theorem rt_1221 : (eg_md 1221).2.2.2 = some .int := by decide +kernel
theorem k_int0 {sc : List Value} {sp d : Nat} {h : eg_H} (hp : ab_hp0 h) : mc sc sp 758 8 d [.ref 3] h (fun vo h' => h' = h ∧ vo = some (.int (hl h 3 11).toInt32)) := by
  have l0 : eg_find 0 (eg_args 0 [.ref 3]) = some (.ref 3) := rfl
  unfold mc
  refine hs_aload_n ci_758_0 l0 ?_
  refine hs_gfl 11 ci_758_1 (by decide +kernel) hp ?_
  refine hs_l2i ci_758_4 ?_
  exact hs_k ⟨3, some (.int (hl h 3 11).toInt32), by decide +kernel, by rw [rt_758]; rfl, rfl, rfl⟩
theorem k_rday {sc : List Value} {sp d : Nat} {h : eg_H} {tk : Nat → tx_K} {ta : Nat → Nat} {m : Nat} {ps : PS} {n j : Nat} (hd9 : isday (tk j)) (s0 : bk_S h tk ta m ps n j) : mc sc sp 1209 0 (d + 1 + 1) [.ref 112] h (bl_P h tk ta m ps n j) := by
  have l0 : eg_find 0 (eg_args 0 [.ref 112]) = some (.ref 112) := rfl
  have hp := s0.1.1
  have hln : (hv h 112 4).toInt = (n : Int) := s0.2.2.2.2.1
  unfold mc
  refine hs_aload_n ci_1209_0 l0 ?_
  refine hs_gfi 4 ci_1209_1 (by decide +kernel) hp ?_
  refine hs_bipush ci_1209_4 ?_
  refine hs_ic (t := 18) ci_1209_6 rfl (fun b6 => ?_) (fun b6 => ?_)
  · simp only [hs_cd, ab_not, kB_40] at b6
    refine hs_aload_n ci_1209_18 l0 ?_
    refine hs_gfr 0 3 ci_1209_19 (by decide +kernel) hp ?_
    refine hs_iconst ci_1209_22 ?_
    refine hs_bipush ci_1209_23 ?_
    refine hs_cv 752 8 2 ci_1209_25 (by decide +kernel) (by decide +kernel) hp rfl (by rw [ml_752]; rfl) (k_num s0.1 s0.2.1 s0.2.2.1 s0.2.2.2.1) ?_
    rintro v9 h2 ⟨q2, f2, c2, r2, e8, hr2⟩
    rw [e8]
    clear e8 v9
    replace hp := q2.1
    rw [kI_1, kB_60] at hr2
    simp only [Option.toList, List.cons_append, List.nil_append]
    refine hs_if (t := 33) ci_1209_28 rfl (fun b28 => ?_) (fun b28 => ?_)
    · simp only [hs_cd, ab_not] at b28
      have hl2 : (hv h2 112 4).toInt = (n : Int) := by rw [hv_same (f2 112 4 rfl)]; exact hln
      refine hs_aload_n ci_1209_33 l0 ?_
      refine hs_gfr 2 113 ci_1209_34 (by decide +kernel) hp ?_
      refine hs_aload_n ci_1209_37 l0 ?_
      refine hs_gfi 4 ci_1209_38 (by decide +kernel) hp ?_
      refine hs_iconst ci_1209_41 ?_
      refine hs_iastore 0 39 (-2147483648) (2147483647) ci_1209_42 (by decide +kernel) hp (by omega) (by omega) (by decide) (by decide) ?_
      intro h42 w42
      replace hp := w42.1
      have hl42 : (hv h42 112 4).toInt = (n : Int) := by rw [w42.v, if_neg (by omega)]; exact hl2
      refine hs_aload_n ci_1209_43 l0 ?_
      refine hs_gfr 3 114 ci_1209_44 (by decide +kernel) hp ?_
      refine hs_aload_n ci_1209_47 l0 ?_
      refine hs_gfi 4 ci_1209_48 (by decide +kernel) hp ?_
      refine hs_aload_n ci_1209_51 l0 ?_
      refine hs_gfr 0 3 ci_1209_52 (by decide +kernel) hp ?_
      refine hs_cv 758 8 0 ci_1209_55 (by decide +kernel) (by decide +kernel) hp rfl (by rw [ml_758]; rfl) (k_int0 hp) ?_
      rintro v9 h9 ⟨e9, e8⟩
      rw [e8, e9]
      clear e8 e9 v9 h9
      simp only [Option.toList, List.cons_append, List.nil_append]
      refine hs_iastore 0 39 (-2147483648) (2147483647) ci_1209_58 (by decide +kernel) hp (by omega) (by omega) (ab_ige _) (ab_ile _) ?_
      intro h58 w58
      replace hp := w58.1
      refine hs_iconst ci_1209_59 ?_
      have f42 : ab_fr MBW h42 h2 := w42.fr (ab_inr_up (k1 := 0) (k2 := 39) rfl (by omega) (by omega))
      have f58 : ab_fr MBW h58 h42 := w58.fr (ab_inr_up (k1 := 0) (k2 := 39) rfl (by omega) (by omega))
      have c58 : cu h58 tk ta m (j + 1 + 1) := (c2.fr (M := [(113, 0, 39)]) (w42.fr (ab_inr_up (k1 := 0) (k2 := 39) rfl (by omega) (by omega))) rfl rfl rfl rfl (fun _ => rfl)).fr (M := [(114, 0, 39)]) (w58.fr (ab_inr_up (k1 := 0) (k2 := 39) rfl (by omega) (by omega))) rfl rfl rfl rfl (fun _ => rfl)
      rcases hr2 with ⟨v, y1, -, -⟩ | ⟨k, a, -, y2, -⟩
      · exact hs_k ⟨3, some (.int (Int32.ofInt 1)), by decide +kernel, rv_b rt_1209 (Or.inr (by decide)), f58.tr (f42.tr (fr_sub (M := MBW) (by decide +kernel) f2)), _, rfl, Or.inl ⟨by decide, ⟨(), by rw [sd_d hd9, if_neg (by omega)]; exact sbn_r y1⟩, c58⟩⟩
      · omega
    · simp only [hs_cd, ab_not] at b28
      refine hs_iconst ci_1209_31 ?_
      rcases hr2 with ⟨v, -, y2, -⟩ | ⟨k, a, y1, -, y3⟩
      · omega
      · exact hs_k ⟨3, some (.int (Int32.ofInt 0)), by decide +kernel, rv_b rt_1209 (Or.inl (by decide)), fr_sub (M := MBW) (by decide +kernel) f2, _, rfl, Or.inr ⟨by decide, k, a, by rw [sd_d hd9, if_neg (by omega)]; exact sbn_l y1, y3⟩⟩
  · simp only [hs_cd, ab_not, kB_40] at b6
    refine hs_aload_n ci_1209_9 l0 ?_
    refine hs_gfr 0 3 ci_1209_10 (by decide +kernel) hp ?_
    refine hs_iconst ci_1209_13 ?_
    refine hs_cv 748 8 1 ci_1209_14 (by decide +kernel) (by decide +kernel) hp rfl (by rw [ml_748]; rfl) (k_fail (Int32.ofInt 4) s0.1) ?_
    rintro v9 h2 ⟨r2, e8, hr2, q2, f2, g8, g9⟩
    rw [e8]
    clear e8 v9
    replace hp := q2.1
    simp only [Option.toList, List.cons_append, List.nil_append]
    exact hs_k ⟨3, some (.int r2), by decide +kernel, rv_b rt_1209 (Or.inl hr2), fr_sub (M := MBW) (by decide +kernel) f2, r2, rfl, Or.inr ⟨hr2, 4, ta j, by rw [sd_d hd9, if_pos (by omega)], g8.trans kI_4, by rw [g9]; exact s0.pl⟩⟩
def dd_P (h : eg_H) (x : Int) (vo : Option Value) (h' : eg_H) : Prop := h' = h ∧ ∃ r : Int32, vo = some (.int r) ∧ ((0 ≤ r.toInt ∧ r.toInt ≤ 3 ∧ (x = 206 ∨ x = 207 ∨ x = 208 ∨ x = 212)) ∨ (r.toInt = -1 ∧ ¬ (x = 206 ∨ x = 207 ∨ x = 208 ∨ x = 212)))
theorem k_deed {sc : List Value} {sp d : Nat} {h : eg_H} (x : Int32) : mc sc sp 1221 0 d [.int x] h (dd_P h x.toInt) := by
  have l0 : eg_find 0 (eg_args 0 [.int x]) = some (.int x) := rfl
  unfold mc
  refine hs_iload_n ci_1221_0 l0 ?_
  by_cases e206 : x.toInt = 206
  · refine hs_tbi 206 (off := 45) (t := 46) ci_1221_1 e206 (by decide) (by decide +kernel) (by decide +kernel) ?_
    refine hs_iconst ci_1221_46 ?_
    exact hs_k ⟨3, some (.int (Int32.ofInt (1))), by decide +kernel, by rw [rt_1221]; rfl, rfl, _, rfl, Or.inl ⟨by decide, by decide, by omega⟩⟩
  by_cases e207 : x.toInt = 207
  · refine hs_tbi 207 (off := 47) (t := 48) ci_1221_1 e207 (by decide) (by decide +kernel) (by decide +kernel) ?_
    refine hs_iconst ci_1221_48 ?_
    exact hs_k ⟨3, some (.int (Int32.ofInt (2))), by decide +kernel, by rw [rt_1221]; rfl, rfl, _, rfl, Or.inl ⟨by decide, by decide, by omega⟩⟩
  by_cases e208 : x.toInt = 208
  · refine hs_tbi 208 (off := 49) (t := 50) ci_1221_1 e208 (by decide) (by decide +kernel) (by decide +kernel) ?_
    refine hs_iconst ci_1221_50 ?_
    exact hs_k ⟨3, some (.int (Int32.ofInt (3))), by decide +kernel, by rw [rt_1221]; rfl, rfl, _, rfl, Or.inl ⟨by decide, by decide, by omega⟩⟩
  by_cases e209 : x.toInt = 209
  · refine hs_tbi 209 (off := 51) (t := 52) ci_1221_1 e209 (by decide) (by decide +kernel) (by decide +kernel) ?_
    refine hs_iconst ci_1221_52 ?_
    exact hs_k ⟨3, some (.int (Int32.ofInt (-1))), by decide +kernel, by rw [rt_1221]; rfl, rfl, _, rfl, Or.inr ⟨by decide, by omega⟩⟩
  by_cases e210 : x.toInt = 210
  · refine hs_tbi 210 (off := 51) (t := 52) ci_1221_1 e210 (by decide) (by decide +kernel) (by decide +kernel) ?_
    refine hs_iconst ci_1221_52 ?_
    exact hs_k ⟨3, some (.int (Int32.ofInt (-1))), by decide +kernel, by rw [rt_1221]; rfl, rfl, _, rfl, Or.inr ⟨by decide, by omega⟩⟩
  by_cases e211 : x.toInt = 211
  · refine hs_tbi 211 (off := 51) (t := 52) ci_1221_1 e211 (by decide) (by decide +kernel) (by decide +kernel) ?_
    refine hs_iconst ci_1221_52 ?_
    exact hs_k ⟨3, some (.int (Int32.ofInt (-1))), by decide +kernel, by rw [rt_1221]; rfl, rfl, _, rfl, Or.inr ⟨by decide, by omega⟩⟩
  by_cases e212 : x.toInt = 212
  · refine hs_tbi 212 (off := 43) (t := 44) ci_1221_1 e212 (by decide) (by decide +kernel) (by decide +kernel) ?_
    refine hs_iconst ci_1221_44 ?_
    exact hs_k ⟨3, some (.int (Int32.ofInt (0))), by decide +kernel, by rw [rt_1221]; rfl, rfl, _, rfl, Or.inl ⟨by decide, by decide, by omega⟩⟩
  refine hs_tbo (t := 52) ci_1221_1 (by decide +kernel) (by omega) ?_
  refine hs_iconst ci_1221_52 ?_
  exact hs_k ⟨3, some (.int (Int32.ofInt (-1))), by decide +kernel, by rw [rt_1221]; rfl, rfl, _, rfl, Or.inr ⟨by decide, by omega⟩⟩
theorem k_rded {sc : List Value} {sp d : Nat} {h : eg_H} {tk : Nat → tx_K} {ta : Nat → Nat} {m : Nat} {ps : PS} {n j : Nat} (hnd : ¬ isday (tk j)) (hnm : 4 ≤ (tk j).1 ∧ isnm (tk j).2.1) (s0 : bk_S h tk ta m ps n j) : mc sc sp 1216 0 (d + 1) [.ref 112] h (bl_P h tk ta m ps n j) := by
  have l0 : eg_find 0 (eg_args 0 [.ref 112]) = some (.ref 112) := rfl
  have hp := s0.1.1
  have hln : (hv h 112 4).toInt = (n : Int) := s0.2.2.2.2.1
  have hval : (hl h 3 11).toInt = (tk j).2.1 := ((cur_k s0.cur s0.2.1).2.2.2.2.2.2 hnm.1).1
  have hsn : sp_nam (tk j) (ta j) = .inr (tk j).2.1 := by
    unfold sp_nam
    rw [if_pos hnm]
  unfold mc
  refine hs_aload_n ci_1216_0 l0 ?_
  refine hs_gfr 1 8 ci_1216_1 (by decide +kernel) hp ?_
  refine hs_aload_n ci_1216_4 l0 ?_
  refine hs_gfr 0 3 ci_1216_5 (by decide +kernel) hp ?_
  refine hs_cv 774 8 0 ci_1216_8 (by decide +kernel) (by decide +kernel) hp rfl (by rw [ml_774]; rfl) (k_lng s0.1) ?_
  rintro v9 h9 ⟨e9, e8⟩
  rw [e8, e9]
  clear e8 e9 v9 h9
  simp only [Option.toList, List.cons_append, List.nil_append]
  refine hs_cv 782 1 1 ci_1216_11 (by decide +kernel) (by decide +kernel) hp rfl (by rw [ml_782]; rfl) (k_p8 (hl h 3 11) s0.1) ?_
  rintro v9 h9 ⟨e9, mr, e8, hmr⟩
  rw [e8, e9]
  clear e8 e9 v9 h9
  rw [hval, s0.2.2.2.2.2.sf] at hmr
  simp only [Option.toList, List.cons_append, List.nil_append]
  refine hs_istore2_n ci_1216_14 (by decide +kernel) ?_
  intro ls9 q9
  replace l0 := q9.2 0 _ (by decide) (Or.inl rfl) l0
  have l1 := q9.1
  clear q9
  refine hs_iload_n ci_1216_15 l1 ?_
  refine hs_iconst ci_1216_16 ?_
  refine hs_ic (t := 29) ci_1216_17 rfl (fun b17 => ?_) (fun b17 => ?_)
  · simp only [hs_cd, ab_not, kI_m1] at b17
    refine hs_aload_n ci_1216_29 l0 ?_
    refine hs_gfi 4 ci_1216_30 (by decide +kernel) hp ?_
    refine hs_bipush ci_1216_33 ?_
    refine hs_ic (t := 47) ci_1216_35 rfl (fun b35 => ?_) (fun b35 => ?_)
    · simp only [hs_cd, ab_not, kB_40] at b35
      refine hs_aload_n ci_1216_47 l0 ?_
      refine hs_gfr 0 3 ci_1216_48 (by decide +kernel) hp ?_
      refine hs_cv 736 8 0 ci_1216_51 (by decide +kernel) (by decide +kernel) hp rfl (by rw [ml_736]; rfl) (k_adv s0.1 s0.2.2.1 s0.2.2.2.1) ?_
      rintro v9 h2 ⟨e8, q2, f2, c2⟩
      rw [e8]
      clear e8 v9
      replace hp := q2.1
      have s2 : bk_S h2 tk ta m ps n (j + 1) := s0.up (fr_sub (by decide +kernel) f2) q2 c2 (by rw [hv_same (f2 112 4 rfl)]; exact hln)
      have hl2 : (hv h2 112 4).toInt = (n : Int) := s2.2.2.2.2.1
      simp only [Option.toList, List.nil_append]
      refine hs_aload_n ci_1216_54 l0 ?_
      refine hs_gfr 0 3 ci_1216_55 (by decide +kernel) hp ?_
      refine hs_gfi 7 ci_1216_58 (by decide +kernel) hp ?_
      refine hs_cs 1221 0 1 ci_1216_61 (by decide +kernel) rfl (by rw [ml_1221]; rfl) (k_deed (hv h2 3 7)) ?_
      rintro v9 h9 ⟨e9, dr, e8, hdr⟩
      rw [e8, e9]
      clear e8 e9 v9 h9
      have K := (cur_k s2.cur s2.2.1).2.2.2.2.1
      have z206 : (hv h2 3 7).toInt = 206 ↔ (4 ≤ (tk (j + 1)).1 ∧ (tk (j + 1)).2.1 = 38567165) := K 6 (by decide)
      have z207 : (hv h2 3 7).toInt = 207 ↔ (4 ≤ (tk (j + 1)).1 ∧ (tk (j + 1)).2.1 = 3546724) := K 7 (by decide)
      have z208 : (hv h2 3 7).toInt = 208 ↔ (4 ≤ (tk (j + 1)).1 ∧ (tk (j + 1)).2.1 = 8935760650) := K 8 (by decide)
      have z212 : (hv h2 3 7).toInt = 212 ↔ (4 ≤ (tk (j + 1)).1 ∧ (tk (j + 1)).2.1 = 220610) := K 12 (by decide)
      have zz : ((hv h2 3 7).toInt = 206 ∨ (hv h2 3 7).toInt = 207 ∨ (hv h2 3 7).toInt = 208 ∨ (hv h2 3 7).toInt = 212) ↔ isded (tk (j + 1)) := by
        constructor
        · rintro (z | z | z | z)
          · exact ⟨(z206.mp z).1, Or.inr (Or.inl (z206.mp z).2)⟩
          · exact ⟨(z207.mp z).1, Or.inr (Or.inr (Or.inl (z207.mp z).2))⟩
          · exact ⟨(z208.mp z).1, Or.inr (Or.inr (Or.inr (z208.mp z).2))⟩
          · exact ⟨(z212.mp z).1, Or.inl (z212.mp z).2⟩
        · rintro ⟨g, z | z | z | z⟩
          · exact Or.inr (Or.inr (Or.inr (z212.mpr ⟨g, z⟩)))
          · exact Or.inl (z206.mpr ⟨g, z⟩)
          · exact Or.inr (Or.inl (z207.mpr ⟨g, z⟩))
          · exact Or.inr (Or.inr (Or.inl (z208.mpr ⟨g, z⟩)))
      simp only [Option.toList, List.cons_append, List.nil_append]
      refine hs_istore2_n ci_1216_64 (by decide +kernel) ?_
      intro ls9 q9
      replace l0 := q9.2 0 _ (by decide) (Or.inl rfl) l0
      replace l1 := q9.2 1 _ (by decide) (Or.inl rfl) l1
      have l2 := q9.1
      clear q9
      refine hs_iload_n ci_1216_65 l2 ?_
      refine hs_iconst ci_1216_66 ?_
      refine hs_ic (t := 79) ci_1216_67 rfl (fun b67 => ?_) (fun b67 => ?_)
      · simp only [hs_cd, ab_not, kI_m1] at b67
        refine hs_aload_n ci_1216_79 l0 ?_
        refine hs_gfr 2 113 ci_1216_80 (by decide +kernel) hp ?_
        refine hs_aload_n ci_1216_83 l0 ?_
        refine hs_gfi 4 ci_1216_84 (by decide +kernel) hp ?_
        refine hs_iload_n ci_1216_87 l2 ?_
        refine hs_iastore 0 39 (-2147483648) (2147483647) ci_1216_88 (by decide +kernel) hp (by omega) (by omega) (ab_ige _) (ab_ile _) ?_
        intro h88 w88
        replace hp := w88.1
        have hl88 : (hv h88 112 4).toInt = (n : Int) := by rw [w88.v, if_neg (by omega)]; exact hl2
        refine hs_aload_n ci_1216_89 l0 ?_
        refine hs_gfr 3 114 ci_1216_90 (by decide +kernel) hp ?_
        refine hs_aload_n ci_1216_93 l0 ?_
        refine hs_gfi 4 ci_1216_94 (by decide +kernel) hp ?_
        refine hs_iload_n ci_1216_97 l1 ?_
        refine hs_iastore 0 39 (-2147483648) (2147483647) ci_1216_98 (by decide +kernel) hp (by omega) (by omega) (ab_ige _) (ab_ile _) ?_
        intro h98 w98
        replace hp := w98.1
        refine hs_iconst ci_1216_99 ?_
        have hso : sp_old ps 3 5 (tk j) (ta j) = .inr (sf (ps.2 3) (tk j).2.1 (ps.1 5).toNat) := by
          unfold sp_old
          rw [sbn_r hsn, if_neg (by rw [← hmr]; exact b17)]
        have hz : isded (tk (j + 1)) := by
          rcases hdr with ⟨-, -, z⟩ | ⟨z1, -⟩
          · exact zz.mp z
          · omega
        have f88 : ab_fr MBW h88 h2 := w88.fr (ab_inr_up (k1 := 0) (k2 := 39) rfl (by omega) (by omega))
        have f98 : ab_fr MBW h98 h88 := w98.fr (ab_inr_up (k1 := 0) (k2 := 39) rfl (by omega) (by omega))
        have c98 : cu h98 tk ta m (j + 1 + 1) := (c2.fr (M := [(113, 0, 39)]) (w88.fr (ab_inr_up (k1 := 0) (k2 := 39) rfl (by omega) (by omega))) rfl rfl rfl rfl (fun _ => rfl)).fr (M := [(114, 0, 39)]) (w98.fr (ab_inr_up (k1 := 0) (k2 := 39) rfl (by omega) (by omega))) rfl rfl rfl rfl (fun _ => rfl)
        exact hs_k ⟨3, some (.int (Int32.ofInt 1)), by decide +kernel, rv_b rt_1216 (Or.inr (by decide)), f98.tr (f88.tr (fr_sub (M := MBW) (by decide +kernel) f2)), _, rfl, Or.inl ⟨by decide, ⟨(), by rw [sd_n hnd, sbn_r hso, if_neg (by omega), if_pos hz]⟩, c98⟩⟩
      · simp only [hs_cd, ab_not, kI_m1] at b67
        refine hs_aload_n ci_1216_70 l0 ?_
        refine hs_gfr 0 3 ci_1216_71 (by decide +kernel) hp ?_
        refine hs_iconst ci_1216_74 ?_
        refine hs_cv 748 8 1 ci_1216_75 (by decide +kernel) (by decide +kernel) hp rfl (by rw [ml_748]; rfl) (k_fail (Int32.ofInt 1) s2.1) ?_
        rintro v9 h3 ⟨r3, e8, hr3, q3, f3, g8, g9⟩
        rw [e8]
        clear e8 v9
        replace hp := q3.1
        simp only [Option.toList, List.cons_append, List.nil_append]
        have hso : sp_old ps 3 5 (tk j) (ta j) = .inr (sf (ps.2 3) (tk j).2.1 (ps.1 5).toNat) := by
          unfold sp_old
          rw [sbn_r hsn, if_neg (by rw [← hmr]; exact b17)]
        have hnz : ¬ isded (tk (j + 1)) := by
          rcases hdr with ⟨z1, -, -⟩ | ⟨-, z2⟩
          · omega
          · exact fun g => z2 (zz.mpr g)
        exact hs_k ⟨3, some (.int r3), by decide +kernel, rv_b rt_1216 (Or.inl hr3), (fr_sub (M := MBW) (by decide +kernel) f3).tr (fr_sub (M := MBW) (by decide +kernel) f2), r3, rfl, Or.inr ⟨hr3, 1, ta (j + 1), by rw [sd_n hnd, sbn_r hso, if_neg (by omega), if_neg hnz], g8.trans kI_1, by rw [g9]; exact s2.pl⟩⟩
    · simp only [hs_cd, ab_not, kB_40] at b35
      refine hs_aload_n ci_1216_38 l0 ?_
      refine hs_gfr 0 3 ci_1216_39 (by decide +kernel) hp ?_
      refine hs_iconst ci_1216_42 ?_
      refine hs_cv 748 8 1 ci_1216_43 (by decide +kernel) (by decide +kernel) hp rfl (by rw [ml_748]; rfl) (k_fail (Int32.ofInt 4) s0.1) ?_
      rintro v9 h2 ⟨r2, e8, hr2, q2, f2, g8, g9⟩
      rw [e8]
      clear e8 v9
      replace hp := q2.1
      simp only [Option.toList, List.cons_append, List.nil_append]
      have hso : sp_old ps 3 5 (tk j) (ta j) = .inr (sf (ps.2 3) (tk j).2.1 (ps.1 5).toNat) := by
        unfold sp_old
        rw [sbn_r hsn, if_neg (by rw [← hmr]; exact b17)]
      exact hs_k ⟨3, some (.int r2), by decide +kernel, rv_b rt_1216 (Or.inl hr2), fr_sub (M := MBW) (by decide +kernel) f2, r2, rfl, Or.inr ⟨hr2, 4, ta j, by rw [sd_n hnd, sbn_r hso, if_pos (by omega)], g8.trans kI_4, by rw [g9]; exact s0.pl⟩⟩
  · simp only [hs_cd, ab_not, kI_m1] at b17
    refine hs_aload_n ci_1216_20 l0 ?_
    refine hs_gfr 0 3 ci_1216_21 (by decide +kernel) hp ?_
    refine hs_iconst ci_1216_24 ?_
    refine hs_cv 748 8 1 ci_1216_25 (by decide +kernel) (by decide +kernel) hp rfl (by rw [ml_748]; rfl) (k_fail (Int32.ofInt 3) s0.1) ?_
    rintro v9 h2 ⟨r2, e8, hr2, q2, f2, g8, g9⟩
    rw [e8]
    clear e8 v9
    replace hp := q2.1
    simp only [Option.toList, List.cons_append, List.nil_append]
    exact hs_k ⟨3, some (.int r2), by decide +kernel, rv_b rt_1216 (Or.inl hr2), fr_sub (M := MBW) (by decide +kernel) f2, r2, rfl, Or.inr ⟨hr2, 3, ta j, by
      rw [sd_n hnd]
      refine sbn_l ?_
      unfold sp_old
      rw [sbn_r hsn, if_pos (by rw [← hmr]; exact b17)], g8.trans kI_3, by rw [g9]; exact s0.pl⟩⟩
theorem k_bln {sc : List Value} {sp d : Nat} {h : eg_H} {tk : Nat → tx_K} {ta : Nat → Nat} {m : Nat} {ps : PS} {n j : Nat} (s0 : bk_S h tk ta m ps n j) : mc sc sp 1205 0 (d + 1 + 1 + 1) [.ref 112] h (bl_P h tk ta m ps n j) := by
  have l0 : eg_find 0 (eg_args 0 [.ref 112]) = some (.ref 112) := rfl
  have hp := s0.1.1
  have hln : (hv h 112 4).toInt = (n : Int) := s0.2.2.2.2.1
  have KC := cur_k s0.cur s0.2.1
  have z209 : (hv h 3 7).toInt = 209 ↔ isday (tk j) := KC.2.2.2.2.1 9 (by decide)
  have z1 := KC.2.2.2.1
  unfold mc
  refine hs_aload_n ci_1205_0 l0 ?_
  refine hs_gfr 0 3 ci_1205_1 (by decide +kernel) hp ?_
  refine hs_gfi 7 ci_1205_4 (by decide +kernel) hp ?_
  refine hs_sipush ci_1205_7 ?_
  refine hs_ic (t := 18) ci_1205_10 rfl (fun b10 => ?_) (fun b10 => ?_)
  · simp only [hs_cd, ab_not, kS_209] at b10
    refine hs_aload_n ci_1205_18 l0 ?_
    refine hs_gfr 0 3 ci_1205_19 (by decide +kernel) hp ?_
    refine hs_gfi 7 ci_1205_22 (by decide +kernel) hp ?_
    refine hs_iconst ci_1205_25 ?_
    refine hs_ic (t := 36) ci_1205_26 rfl (fun b26 => ?_) (fun b26 => ?_)
    · simp only [hs_cd, ab_not, kI_1] at b26
      refine hs_aload_n ci_1205_36 l0 ?_
      refine hs_gfr 0 3 ci_1205_37 (by decide +kernel) hp ?_
      refine hs_iconst ci_1205_40 ?_
      refine hs_cv 748 8 1 ci_1205_41 (by decide +kernel) (by decide +kernel) hp rfl (by rw [ml_748]; rfl) (k_fail (Int32.ofInt 1) s0.1) ?_
      rintro v9 h2 ⟨r2, e8, hr2, q2, f2, g8, g9⟩
      rw [e8]
      clear e8 v9
      replace hp := q2.1
      simp only [Option.toList, List.cons_append, List.nil_append]
      exact hs_k ⟨3, some (.int r2), by decide +kernel, rv_b rt_1205 (Or.inl hr2), fr_sub (M := MBW) (by decide +kernel) f2, r2, rfl, Or.inr ⟨hr2, 1, ta j, by
        rw [sd_n (fun g => b10 (z209.mpr g))]
        refine sbn_l ?_
        unfold sp_old
        refine sbn_l ?_
        unfold sp_nam
        rw [if_neg (fun g => b26 (z1.mpr g))], g8.trans kI_1, by rw [g9]; exact s0.pl⟩⟩
    · simp only [hs_cd, ab_not, kI_1] at b26
      refine hs_aload_n ci_1205_29 l0 ?_
      refine hs_cv 1216 0 0 ci_1205_30 (by decide +kernel) (by decide +kernel) hp rfl (by rw [ml_1216]; rfl) (k_rded (d := d + 1) (fun g => b10 (z209.mpr g)) (z1.mp b26) s0) ?_
      rintro v9 h2 ⟨f2, r2, e8, hr2⟩
      rw [e8]
      clear e8 v9
      simp only [Option.toList, List.cons_append, List.nil_append]
      refine hs_goto (t := 44) ci_1205_33 rfl ?_
      exact hs_k ⟨3, some (.int r2), by decide +kernel, rv_b rt_1205 (by rcases hr2 with ⟨z, -⟩ | ⟨z, -⟩ <;> omega), f2, r2, rfl, hr2⟩
  · simp only [hs_cd, ab_not, kS_209] at b10
    refine hs_aload_n ci_1205_13 l0 ?_
    refine hs_cv 1209 0 0 ci_1205_14 (by decide +kernel) (by decide +kernel) hp rfl (by rw [ml_1209]; rfl) (k_rday (z209.mp b10) s0) ?_
    rintro v9 h2 ⟨f2, r2, e8, hr2⟩
    rw [e8]
    clear e8 v9
    simp only [Option.toList, List.cons_append, List.nil_append]
    exact hs_k ⟨3, some (.int r2), by decide +kernel, rv_b rt_1205 (by rcases hr2 with ⟨z, -⟩ | ⟨z, -⟩ <;> omega), f2, r2, rfl, hr2⟩
theorem c_bln {sc : List Value} {sp d : Nat} {h : eg_H} (hsc : ab_osc sc) {n : Nat} (hn : (hv h 112 4).toInt = (n : Int)) (hp : ab_hp h) : mc sc sp 1205 0 (d + 4) [.ref 112] h (mc_P [(3, 6, 11), (113, 0, 39), (114, 0, 39)] h (some (0, 1))) := by
  obtain ⟨s1, b1, b2⟩ := sb_v (a := 112) (k := 4) (lo := .ofNat 0) (hi := .ofNat 40) hp (by decide +kernel)
  exact mc_q tr_z4015 (iv := some (0, 1)) (by decide +kernel) hsc (show 4 ≤ d + 4 by omega) (ar_ov 112 4 (by decide) hp s1 b1 b2)
