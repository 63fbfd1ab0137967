/-! BY HAND: the reference's reader of a SENTENCE -/
theorem ci_2097_0 : ab_at 2097 0 (.aload_n 0) 1 = true := by decide +kernel
theorem ci_2097_1 : ab_at 2097 1 (.ldc2_w 127) 3 = true := by decide +kernel
theorem ci_2097_4 : ab_at 2097 4 (.invokevirtual 224) 3 = true := by decide +kernel
theorem ci_2097_7 : ab_at 2097 7 (.ifCond .eq 7) 3 = true := by decide +kernel
theorem ci_2097_10 : ab_at 2097 10 (.iconst 0) 1 = true := by decide +kernel
theorem ci_2097_11 : ab_at 2097 11 (.goto 134) 3 = true := by decide +kernel
theorem ci_2097_14 : ab_at 2097 14 (.aload_n 0) 1 = true := by decide +kernel
theorem ci_2097_15 : ab_at 2097 15 (.ldc2_w 111) 3 = true := by decide +kernel
theorem ci_2097_18 : ab_at 2097 18 (.invokevirtual 224) 3 = true := by decide +kernel
theorem ci_2097_21 : ab_at 2097 21 (.ifCond .eq 7) 3 = true := by decide +kernel
theorem ci_2097_24 : ab_at 2097 24 (.iconst 1) 1 = true := by decide +kernel
theorem ci_2097_25 : ab_at 2097 25 (.goto 120) 3 = true := by decide +kernel
theorem ci_2097_28 : ab_at 2097 28 (.aload_n 0) 1 = true := by decide +kernel
theorem ci_2097_29 : ab_at 2097 29 (.ldc2_w 129) 3 = true := by decide +kernel
theorem ci_2097_32 : ab_at 2097 32 (.invokevirtual 224) 3 = true := by decide +kernel
theorem ci_2097_35 : ab_at 2097 35 (.ifCond .eq 7) 3 = true := by decide +kernel
theorem ci_2097_38 : ab_at 2097 38 (.iconst 2) 1 = true := by decide +kernel
theorem ci_2097_39 : ab_at 2097 39 (.goto 106) 3 = true := by decide +kernel
theorem ci_2097_42 : ab_at 2097 42 (.aload_n 0) 1 = true := by decide +kernel
theorem ci_2097_43 : ab_at 2097 43 (.ldc2_w 131) 3 = true := by decide +kernel
theorem ci_2097_46 : ab_at 2097 46 (.invokevirtual 224) 3 = true := by decide +kernel
theorem ci_2097_49 : ab_at 2097 49 (.ifCond .eq 7) 3 = true := by decide +kernel
theorem ci_2097_52 : ab_at 2097 52 (.iconst 3) 1 = true := by decide +kernel
theorem ci_2097_53 : ab_at 2097 53 (.goto 92) 3 = true := by decide +kernel
theorem ci_2097_56 : ab_at 2097 56 (.aload_n 0) 1 = true := by decide +kernel
theorem ci_2097_57 : ab_at 2097 57 (.ldc2_w 133) 3 = true := by decide +kernel
theorem ci_2097_60 : ab_at 2097 60 (.invokevirtual 224) 3 = true := by decide +kernel
theorem ci_2097_63 : ab_at 2097 63 (.ifCond .eq 7) 3 = true := by decide +kernel
theorem ci_2097_66 : ab_at 2097 66 (.iconst 4) 1 = true := by decide +kernel
theorem ci_2097_67 : ab_at 2097 67 (.goto 78) 3 = true := by decide +kernel
theorem ci_2097_70 : ab_at 2097 70 (.aload_n 0) 1 = true := by decide +kernel
theorem ci_2097_71 : ab_at 2097 71 (.ldc2_w 135) 3 = true := by decide +kernel
theorem ci_2097_74 : ab_at 2097 74 (.invokevirtual 224) 3 = true := by decide +kernel
theorem ci_2097_77 : ab_at 2097 77 (.ifCond .eq 7) 3 = true := by decide +kernel
theorem ci_2097_80 : ab_at 2097 80 (.iconst 5) 1 = true := by decide +kernel
theorem ci_2097_81 : ab_at 2097 81 (.goto 64) 3 = true := by decide +kernel
theorem ci_2097_84 : ab_at 2097 84 (.aload_n 0) 1 = true := by decide +kernel
theorem ci_2097_85 : ab_at 2097 85 (.ldc2_w 137) 3 = true := by decide +kernel
theorem ci_2097_88 : ab_at 2097 88 (.invokevirtual 224) 3 = true := by decide +kernel
theorem ci_2097_91 : ab_at 2097 91 (.ifCond .eq 8) 3 = true := by decide +kernel
theorem ci_2097_94 : ab_at 2097 94 (.bipush 6) 2 = true := by decide +kernel
theorem ci_2097_96 : ab_at 2097 96 (.goto 49) 3 = true := by decide +kernel
theorem ci_2097_99 : ab_at 2097 99 (.aload_n 0) 1 = true := by decide +kernel
theorem ci_2097_100 : ab_at 2097 100 (.ldc2_w 139) 3 = true := by decide +kernel
theorem ci_2097_103 : ab_at 2097 103 (.invokevirtual 224) 3 = true := by decide +kernel
theorem ci_2097_106 : ab_at 2097 106 (.ifCond .eq 8) 3 = true := by decide +kernel
theorem ci_2097_109 : ab_at 2097 109 (.bipush 7) 2 = true := by decide +kernel
theorem ci_2097_111 : ab_at 2097 111 (.goto 34) 3 = true := by decide +kernel
theorem ci_2097_114 : ab_at 2097 114 (.aload_n 0) 1 = true := by decide +kernel
theorem ci_2097_115 : ab_at 2097 115 (.ldc2_w 141) 3 = true := by decide +kernel
theorem ci_2097_118 : ab_at 2097 118 (.invokevirtual 224) 3 = true := by decide +kernel
theorem ci_2097_121 : ab_at 2097 121 (.ifCond .eq 8) 3 = true := by decide +kernel
theorem ci_2097_124 : ab_at 2097 124 (.bipush 8) 2 = true := by decide +kernel
theorem ci_2097_126 : ab_at 2097 126 (.goto 19) 3 = true := by decide +kernel
theorem ci_2097_129 : ab_at 2097 129 (.aload_n 0) 1 = true := by decide +kernel
theorem ci_2097_130 : ab_at 2097 130 (.ldc2_w 143) 3 = true := by decide +kernel
theorem ci_2097_133 : ab_at 2097 133 (.invokevirtual 224) 3 = true := by decide +kernel
theorem ci_2097_136 : ab_at 2097 136 (.ifCond .eq 8) 3 = true := by decide +kernel
theorem ci_2097_139 : ab_at 2097 139 (.bipush 9) 2 = true := by decide +kernel
theorem ci_2097_141 : ab_at 2097 141 (.goto 4) 3 = true := by decide +kernel
theorem ci_2097_144 : ab_at 2097 144 (.iconst (-1)) 1 = true := by decide +kernel
theorem kB_21 : (Int8.ofInt (21)).toInt32.toInt = 21 := by decide +kernel
section RS
variable {B : Nat → Int} {n0 lim : Nat} {tk : Nat → tx_K} {ta P : Nat → Nat} {sc : List Value} {sp d : Nat} {h : eg_H} {j : Nat} {ps : PS}
theorem wd_iff (r : rt B n0 lim tk ta P h j) {w : Int64} {A Bv : Int} (hco : tx_co A Bv) (hv1 : w.toInt = Bv) : (4 ≤ (tk j).1 ∧ (tk j).2.2 = w.toInt) ↔ (4 ≤ (tk j).1 ∧ (tk j).2.1 = A) := by
  have kw := (rs_k r.2.2.2.2).2.2.2.2.2.2
  rw [hv1]
  exact ⟨fun g => ⟨g.1, (tx_co_one (kw g.1).2 hco).mpr g.2⟩, fun g => ⟨g.1, (tx_co_one (kw g.1).2 hco).mp g.2⟩⟩
theorem iw_c {q q' : Prop} (e : q ↔ q') {r : Int32} (g : (r.toInt = 1 ∧ q) ∨ (r.toInt = 0 ∧ ¬ q)) : (r.toInt = 1 ∧ q') ∨ (r.toInt = 0 ∧ ¬ q') := by
  rcases g with ⟨a, b⟩ | ⟨a, b⟩
  · exact Or.inl ⟨a, e.mp b⟩
  · exact Or.inr ⟨a, fun c => b (e.mpr c)⟩
theorem iw_1 {q : Prop} {r : Int32} (g : (r.toInt = 1 ∧ q) ∨ (r.toInt = 0 ∧ ¬ q)) (z : ¬ r.toInt = 0) : q := by
  rcases g with ⟨-, b⟩ | ⟨a, -⟩
  · exact b
  · exact absurd a z
theorem iw_0 {q : Prop} {r : Int32} (g : (r.toInt = 1 ∧ q) ∨ (r.toInt = 0 ∧ ¬ q)) (z : r.toInt = 0) : ¬ q := by
  rcases g with ⟨a, -⟩ | ⟨-, b⟩
  · omega
  · exact b
/-- a number has three digits at most -/
theorem tx_X_999 {B : Nat → Int} {n lim p : Nat} {t : tx_K} {a p' : Nat} (x : tx_X B n lim p t a p') (h : t.1 = 3) : 0 ≤ t.2.1 ∧ t.2.1 ≤ 999 := by
  obtain ⟨q, -, x⟩ := x
  rcases x with ⟨-, -, rfl, -, -⟩ | ⟨-, -, rfl, -, -⟩ | ⟨-, -, -, (⟨-, rfl⟩ | ⟨-, rfl⟩), -, -⟩ | ⟨-, -, -, hu, (⟨-, -, rfl⟩ | ⟨hd, h3, rfl⟩ | ⟨-, -, rfl⟩), -⟩
  · exact absurd h (by decide)
  · exact absurd h (by decide)
  · exact absurd (show 2 = 3 from h) (by decide)
  · exact absurd h (by decide)
  · exact absurd (show 4 = 3 from h) (by decide)
  · obtain ⟨b1, b2⟩ := tx_10_b (B := B) (q := q) (p' - q) (fun r r2 => hd (q + r) (by omega) (by have := hu.1; omega))
    show 0 ≤ tx_10 B q (p' - q) ∧ tx_10 B q (p' - q) ≤ 999
    have b3 : (10 : Int) ^ (p' - q) ≤ 1000 := by
      rcases (show p' - q = 0 ∨ p' - q = 1 ∨ p' - q = 2 ∨ p' - q = 3 by omega) with e | e | e | e
      · rw [e]; decide
      · rw [e]; decide
      · rw [e]; decide
      · rw [e]; decide
    exact ⟨b1, by omega⟩
  · exact absurd h (by decide)
theorem nm_99 (ts : TS B n0 lim tk ta P) {i : Nat} (h3 : (tk i).1 = 3) : sp_num (tk i) (ta i) 0 999 = .inr (tk i).2.1 := by
  unfold sp_num
  rw [if_pos h3, if_pos (tx_X_999 (ts i) h3)]
theorem nm_9e {i : Nat} (h3 : ¬ (tk i).1 = 3) : sp_num (tk i) (ta i) 0 999 = .inl (1, ta i) := by
  unfold sp_num
  rw [if_neg h3]
abbrev M3 : ab_M := [(182, 47, 49), (199, 0, 44)]
theorem D5.pj {j1 j2 j3 : eg_H} {t : Nat} {F : List Bool} {b y z : Int32} (dd : D5 h t F) (w1 : hw h j1 199 (0 + t) b) (w2 : hw j1 j2 182 47 y) (w3 : hw j2 j3 182 49 z) (hb : b.toInt = 21 ∨ b.toInt = 22) (top : ∀ i, i + 1 = t → SK h i ≠ 20) : D5 j3 (t + 1) F := by
  have e1 : ∀ i, SK j3 i = (hv j1 199 i).toInt := fun i => by unfold SK; rw [w3.v, if_neg (fun p => absurd p.1 (by decide)), w2.v, if_neg (fun p => absurd p.1 (by decide))]
  refine dd.push (v := b.toInt) (fun i hi => ?_) ?_ (by omega) (fun _ => top) F ?_ ?_
  · rw [e1, w1.v, if_neg (by omega)]
    rfl
  · rw [e1, w1.v, if_pos ⟨rfl, by omega⟩]
  · rw [if_neg (by omega), if_neg (by omega)]
  · rw [w3.v, if_neg (fun p => absurd p.2 (by decide)), w2.v, if_neg (fun p => absurd p.2 (by decide)), w1.v, if_neg (fun p => absurd p.1 (by decide))]
    exact dd.1
theorem D5.pf {j1 j2 j3 : eg_H} {t : Nat} {F : List Bool} {b y z : Int32} (dd : D5 h t F) (w1 : hw h j1 199 (0 + t) b) (w2 : hw j1 j2 182 47 y) (w3 : hw j2 j3 182 48 z) (G : List Bool) (hb : (b.toInt = 20 ∧ G = false :: F) ∨ (b.toInt = 23 ∧ G = true :: F)) (hz : z.toInt = 2 + (F.length : Int)) : D5 j3 (t + 1) G := by
  have e1 : ∀ i, SK j3 i = (hv j1 199 i).toInt := fun i => by unfold SK; rw [w3.v, if_neg (fun p => absurd p.1 (by decide)), w2.v, if_neg (fun p => absurd p.1 (by decide))]
  have hl : G.length = F.length + 1 := by
    rcases hb with ⟨-, e⟩ | ⟨-, e⟩
    · rw [e]; rfl
    · rw [e]; rfl
  refine dd.push (v := b.toInt) (fun i hi => ?_) ?_ (by omega) (fun g => by omega) G ?_ ?_
  · rw [e1, w1.v, if_neg (by omega)]
    rfl
  · rw [e1, w1.v, if_pos ⟨rfl, by omega⟩]
  · rcases hb with ⟨g, e⟩ | ⟨g, e⟩
    · rw [if_pos g, e]
    · rw [if_neg (by omega), if_pos g, e]
  · rw [w3.v, if_pos ⟨rfl, rfl⟩, hz, hl]
    omega
/-- what is behind a one -/
def bh_P (B : Nat → Int) (n0 lim : Nat) (tk : Nat → tx_K) (ta P : Nat → Nat) (ps : PS) (h : eg_H) (n j : Nat) (Fs : List Bool) (vo : Option Value) (h' : eg_H) : Prop := ab_hp h' ∧ ab_fr MSN h' h ∧ ∃ r : Int32, vo = some (.int r) ∧ ((r.toInt = 1 ∧ hv h' 182 15 = hv h 182 15 ∧ rt B n0 lim tk ta P h' (j + 1) ∧ ∃ c' t' : Nat, (S5 h' c' t' n 0 0 ∧ c' + t' ≤ 2 * n ∧ D5 h' t' Fs ∧ ∀ x, ssx tk ta ps true Fs n j x ↔ ssx tk ta ps false Fs n (j + 1) x) ∨ (∃ G, Fs = true :: G ∧ S5 h' c' t' n 1 1 ∧ c' + t' + 1 ≤ 2 * n ∧ D5 h' t' G ∧ ∀ x, ssx tk ta ps true Fs n j x ↔ ssx tk ta ps true (dn G) n (j + 1) x)) ∨ (r.toInt = 0 ∧ ∃ (k : Int) (a : Nat), flm h' k a ∧ ∀ x, ssx tk ta ps true Fs n j x ↔ x = .inl (k, a)))
theorem mb_24 {h1 : eg_H} {c t n : Nat} {Fs : List Bool} (ts : TS B n0 lim tk ta P) (hn : n ≤ 20) (hct : c + t + 1 ≤ 2 * n) (q1 : ab_hp h1) (r1 : rt B n0 lim tk ta P h1 j) (s1 : S5 h1 c t n 1 1) (dd1 : D5 h1 t Fs) (top1 : ∀ i, i + 1 = t → SK h1 i ≠ 20) (hf : ab_fr MSN h1 h) (e15 : hv h1 182 15 = hv h 182 15) {ls : eg_L} (l0 : eg_find 0 ls = some (.ref 182)) (hK : 4 ≤ (tk j).1 ∧ ((tk j).2.1 = 1111 ∨ (tk j).2.1 = 423)) : hs sc sp 2089 11 (d + 1 + 1) (fun pc' _ st' h' => ∃ ik vo, ab_ret 2089 pc' = some ik ∧ eg_rv (eg_md 2089).2.2.2 ik st' = some vo ∧ bh_P B n0 lim tk ta P ps h n j Fs vo h') 24 ls [] h1 := by
  have hp := q1.1
  refine hs_aload_n ci_2089_24 l0 ?_
  refine hs_aload_n ci_2089_25 l0 ?_
  refine hs_ldc2v (6385252) ci_2089_26 (by decide +kernel) ?_
  refine hs_cv 1676 11 1 ci_2089_29 (by decide +kernel) (by decide +kernel) hp rfl (by rw [ml_1676]; rfl) (m_isW _ q1 r1) ?_
  rintro v9 h9 ⟨e9, rW29, e8, hrW29⟩
  rw [e8, e9]
  clear e8 e9 v9 h9
  replace hrW29 := iw_c (wd_iff r1 wco_12 (by decide +kernel)) hrW29
  simp only [Option.toList, List.cons_append, List.nil_append]
  refine hs_if (t := 40) ci_2089_32 rfl (fun b32 => ?_) (fun b32 => ?_)
  · simp only [hs_cd, ab_not] at b32
    refine hs_bipush ci_2089_40 ?_
    refine hs_cv 2085 11 1 ci_2089_42 (by decide +kernel) (by decide +kernel) hp rfl (by rw [ml_2085]; rfl) (c_joins2 _ (by omega) s1 q1) ?_
    rintro v9 h2 ⟨e8, q2, f2, c2, t2, y1, y2, s2, y3, y4, y5, y6⟩
    rw [e8]
    clear e8 v9
    replace hp := q2.1
    obtain ⟨dd2, top2⟩ := dd1.jns y2 y4 y5 top1 y6
    have r2 : rt B n0 lim tk ta P h2 j := r1.fr f2 (fun _ => rfl) ⟨rfl, rfl, rfl, rfl, rfl, rfl, rfl⟩
    simp only [Option.toList, List.nil_append]
    refine hs_aload_n ci_2089_45 l0 ?_
    refine hs_gfr 44 199 ci_2089_46 (by decide +kernel) hp ?_
    refine hs_aload_n ci_2089_49 l0 ?_
    refine hs_gfi 47 ci_2089_50 (by decide +kernel) hp ?_
    refine hs_aload_n ci_2089_53 l0 ?_
    refine hs_ldc2v (6385252) ci_2089_54 (by decide +kernel) ?_
    refine hs_cv 1676 11 1 ci_2089_57 (by decide +kernel) (by decide +kernel) hp rfl (by rw [ml_1676]; rfl) (m_isW _ q2 r2) ?_
    rintro v9 h9 ⟨e9, rW57, e8, hrW57⟩
    rw [e8, e9]
    clear e8 e9 v9 h9
    replace hrW57 := iw_c (wd_iff r2 wco_12 (by decide +kernel)) hrW57
    simp only [Option.toList, List.cons_append, List.nil_append]
    refine hs_if (t := 68) ci_2089_60 rfl (fun b60 => ?_) (fun b60 => ?_)
    · simp only [hs_cd, ab_not] at b60
      refine hs_bipush ci_2089_68 ?_
      refine hs_ias1 (0 + t2) ci_2089_70 (s2.2.1.trans (by omega)) (ckq_v gq_sk t2 (by omega)) hp (ab_ige _) (ab_ile _) ?_
      intro j1 w1
      replace hp := w1.1
      have ejt : hv j1 182 47 = hv h2 182 47 := by rw [w1.v, if_neg (fun q => absurd q.1 (by decide))]
      have e5 : (hv j1 182 47 + Int32.ofInt 1).toInt = ((t2 + 1 : Nat) : Int) := by rw [ejt]; exact (i32_add s2.2.1 (b := 1) rfl (by omega) (by omega)).trans (by omega)
      refine hs_aload_n ci_2089_71 l0 ?_
      refine hs_dup ci_2089_72 rfl ?_
      refine hs_gfi 47 ci_2089_73 (by decide +kernel) hp ?_
      refine hs_iconst ci_2089_76 ?_
      refine hs_iadd ci_2089_77 ?_
      refine hs_pfi 47 0 45 ci_2089_78 (by decide +kernel) hp (by rw [e5]; omega) (by rw [e5]; omega) ?_
      intro j2 w2
      replace hp := w2.1
      refine hs_aload_n ci_2089_81 l0 ?_
      refine hs_iconst ci_2089_82 ?_
      refine hs_pfi 49 0 1 ci_2089_83 (by decide +kernel) hp (by decide) (by decide) ?_
      intro j3 w3
      replace hp := w3.1
      have f3 : ab_fr M3 j3 h2 := (w3.fr rfl).tr ((w2.fr rfl).tr (w1.fr (ab_inr_up (k1 := 0) (k2 := 44) rfl (by omega) (by omega))))
      have q3 : ab_hp j3 := ⟨hp, q2.2.fr (M := M3) (by decide +kernel) f3⟩
      have s3 : S5 j3 c2 (t2 + 1) n 0 0 := s2.pushA w1 w2 w3 e5 rfl
      have dd3 : D5 j3 (t2 + 1) Fs := dd2.pj w1 w2 w3 (by decide) top2
      have r3 : rt B n0 lim tk ta P j3 j := r2.fr f3 (fun _ => rfl) ⟨rfl, rfl, rfl, rfl, rfl, rfl, rfl⟩
      refine hs_aload_n ci_2089_86 l0 ?_
      refine hs_cv 1658 11 0 ci_2089_87 (by decide +kernel) (by decide +kernel) hp rfl (by rw [ml_1658]; rfl) (m_next ts q3 r3) ?_
      rintro v9 h4 ⟨e8, q4, f4, r4⟩
      rw [e8]
      clear e8 v9
      replace hp := q4.1
      simp only [Option.toList, List.nil_append]
      refine hs_iconst ci_2089_90 ?_
      have F4 : ab_fr MSN h4 h := (fr_sub (by decide +kernel) f4).tr ((fr_sub (by decide +kernel) f3).tr ((fr_sub (by decide +kernel) f2).tr hf))
      exact hs_k ⟨3, some (.int (Int32.ofInt 1)), by decide +kernel, rv_b rt_2089 (Or.inr (by decide)), q4, F4, _, rfl, Or.inl ⟨by decide, by rw [hv_same (f4 182 15 rfl), hv_same (f3 182 15 rfl), hv_same (f2 182 15 rfl)]; exact e15, r4, c2, t2 + 1, Or.inl ⟨s3.fr f4 ⟨rfl, rfl, rfl, rfl⟩ (fun _ => rfl) (fun _ => rfl), by omega, dd3.fr f4 rfl (fun _ => rfl), fun x => w_j hK⟩⟩⟩
    · simp only [hs_cd, ab_not] at b60
      refine hs_bipush ci_2089_63 ?_
      refine hs_goto (t := 70) ci_2089_65 rfl ?_
      refine hs_ias1 (0 + t2) ci_2089_70 (s2.2.1.trans (by omega)) (ckq_v gq_sk t2 (by omega)) hp (ab_ige _) (ab_ile _) ?_
      intro j1 w1
      replace hp := w1.1
      have ejt : hv j1 182 47 = hv h2 182 47 := by rw [w1.v, if_neg (fun q => absurd q.1 (by decide))]
      have e5 : (hv j1 182 47 + Int32.ofInt 1).toInt = ((t2 + 1 : Nat) : Int) := by rw [ejt]; exact (i32_add s2.2.1 (b := 1) rfl (by omega) (by omega)).trans (by omega)
      refine hs_aload_n ci_2089_71 l0 ?_
      refine hs_dup ci_2089_72 rfl ?_
      refine hs_gfi 47 ci_2089_73 (by decide +kernel) hp ?_
      refine hs_iconst ci_2089_76 ?_
      refine hs_iadd ci_2089_77 ?_
      refine hs_pfi 47 0 45 ci_2089_78 (by decide +kernel) hp (by rw [e5]; omega) (by rw [e5]; omega) ?_
      intro j2 w2
      replace hp := w2.1
      refine hs_aload_n ci_2089_81 l0 ?_
      refine hs_iconst ci_2089_82 ?_
      refine hs_pfi 49 0 1 ci_2089_83 (by decide +kernel) hp (by decide) (by decide) ?_
      intro j3 w3
      replace hp := w3.1
      have f3 : ab_fr M3 j3 h2 := (w3.fr rfl).tr ((w2.fr rfl).tr (w1.fr (ab_inr_up (k1 := 0) (k2 := 44) rfl (by omega) (by omega))))
      have q3 : ab_hp j3 := ⟨hp, q2.2.fr (M := M3) (by decide +kernel) f3⟩
      have s3 : S5 j3 c2 (t2 + 1) n 0 0 := s2.pushA w1 w2 w3 e5 rfl
      have dd3 : D5 j3 (t2 + 1) Fs := dd2.pj w1 w2 w3 (by decide) top2
      have r3 : rt B n0 lim tk ta P j3 j := r2.fr f3 (fun _ => rfl) ⟨rfl, rfl, rfl, rfl, rfl, rfl, rfl⟩
      refine hs_aload_n ci_2089_86 l0 ?_
      refine hs_cv 1658 11 0 ci_2089_87 (by decide +kernel) (by decide +kernel) hp rfl (by rw [ml_1658]; rfl) (m_next ts q3 r3) ?_
      rintro v9 h4 ⟨e8, q4, f4, r4⟩
      rw [e8]
      clear e8 v9
      replace hp := q4.1
      simp only [Option.toList, List.nil_append]
      refine hs_iconst ci_2089_90 ?_
      have F4 : ab_fr MSN h4 h := (fr_sub (by decide +kernel) f4).tr ((fr_sub (by decide +kernel) f3).tr ((fr_sub (by decide +kernel) f2).tr hf))
      exact hs_k ⟨3, some (.int (Int32.ofInt 1)), by decide +kernel, rv_b rt_2089 (Or.inr (by decide)), q4, F4, _, rfl, Or.inl ⟨by decide, by rw [hv_same (f4 182 15 rfl), hv_same (f3 182 15 rfl), hv_same (f2 182 15 rfl)]; exact e15, r4, c2, t2 + 1, Or.inl ⟨s3.fr f4 ⟨rfl, rfl, rfl, rfl⟩ (fun _ => rfl) (fun _ => rfl), by omega, dd3.fr f4 rfl (fun _ => rfl), fun x => w_j hK⟩⟩⟩
  · simp only [hs_cd, ab_not] at b32
    refine hs_bipush ci_2089_35 ?_
    refine hs_goto (t := 42) ci_2089_37 rfl ?_
    refine hs_cv 2085 11 1 ci_2089_42 (by decide +kernel) (by decide +kernel) hp rfl (by rw [ml_2085]; rfl) (c_joins2 _ (by omega) s1 q1) ?_
    rintro v9 h2 ⟨e8, q2, f2, c2, t2, y1, y2, s2, y3, y4, y5, y6⟩
    rw [e8]
    clear e8 v9
    replace hp := q2.1
    obtain ⟨dd2, top2⟩ := dd1.jns y2 y4 y5 top1 y6
    have r2 : rt B n0 lim tk ta P h2 j := r1.fr f2 (fun _ => rfl) ⟨rfl, rfl, rfl, rfl, rfl, rfl, rfl⟩
    simp only [Option.toList, List.nil_append]
    refine hs_aload_n ci_2089_45 l0 ?_
    refine hs_gfr 44 199 ci_2089_46 (by decide +kernel) hp ?_
    refine hs_aload_n ci_2089_49 l0 ?_
    refine hs_gfi 47 ci_2089_50 (by decide +kernel) hp ?_
    refine hs_aload_n ci_2089_53 l0 ?_
    refine hs_ldc2v (6385252) ci_2089_54 (by decide +kernel) ?_
    refine hs_cv 1676 11 1 ci_2089_57 (by decide +kernel) (by decide +kernel) hp rfl (by rw [ml_1676]; rfl) (m_isW _ q2 r2) ?_
    rintro v9 h9 ⟨e9, rW57, e8, hrW57⟩
    rw [e8, e9]
    clear e8 e9 v9 h9
    replace hrW57 := iw_c (wd_iff r2 wco_12 (by decide +kernel)) hrW57
    simp only [Option.toList, List.cons_append, List.nil_append]
    refine hs_if (t := 68) ci_2089_60 rfl (fun b60 => ?_) (fun b60 => ?_)
    · simp only [hs_cd, ab_not] at b60
      refine hs_bipush ci_2089_68 ?_
      refine hs_ias1 (0 + t2) ci_2089_70 (s2.2.1.trans (by omega)) (ckq_v gq_sk t2 (by omega)) hp (ab_ige _) (ab_ile _) ?_
      intro j1 w1
      replace hp := w1.1
      have ejt : hv j1 182 47 = hv h2 182 47 := by rw [w1.v, if_neg (fun q => absurd q.1 (by decide))]
      have e5 : (hv j1 182 47 + Int32.ofInt 1).toInt = ((t2 + 1 : Nat) : Int) := by rw [ejt]; exact (i32_add s2.2.1 (b := 1) rfl (by omega) (by omega)).trans (by omega)
      refine hs_aload_n ci_2089_71 l0 ?_
      refine hs_dup ci_2089_72 rfl ?_
      refine hs_gfi 47 ci_2089_73 (by decide +kernel) hp ?_
      refine hs_iconst ci_2089_76 ?_
      refine hs_iadd ci_2089_77 ?_
      refine hs_pfi 47 0 45 ci_2089_78 (by decide +kernel) hp (by rw [e5]; omega) (by rw [e5]; omega) ?_
      intro j2 w2
      replace hp := w2.1
      refine hs_aload_n ci_2089_81 l0 ?_
      refine hs_iconst ci_2089_82 ?_
      refine hs_pfi 49 0 1 ci_2089_83 (by decide +kernel) hp (by decide) (by decide) ?_
      intro j3 w3
      replace hp := w3.1
      have f3 : ab_fr M3 j3 h2 := (w3.fr rfl).tr ((w2.fr rfl).tr (w1.fr (ab_inr_up (k1 := 0) (k2 := 44) rfl (by omega) (by omega))))
      have q3 : ab_hp j3 := ⟨hp, q2.2.fr (M := M3) (by decide +kernel) f3⟩
      have s3 : S5 j3 c2 (t2 + 1) n 0 0 := s2.pushA w1 w2 w3 e5 rfl
      have dd3 : D5 j3 (t2 + 1) Fs := dd2.pj w1 w2 w3 (by decide) top2
      have r3 : rt B n0 lim tk ta P j3 j := r2.fr f3 (fun _ => rfl) ⟨rfl, rfl, rfl, rfl, rfl, rfl, rfl⟩
      refine hs_aload_n ci_2089_86 l0 ?_
      refine hs_cv 1658 11 0 ci_2089_87 (by decide +kernel) (by decide +kernel) hp rfl (by rw [ml_1658]; rfl) (m_next ts q3 r3) ?_
      rintro v9 h4 ⟨e8, q4, f4, r4⟩
      rw [e8]
      clear e8 v9
      replace hp := q4.1
      simp only [Option.toList, List.nil_append]
      refine hs_iconst ci_2089_90 ?_
      have F4 : ab_fr MSN h4 h := (fr_sub (by decide +kernel) f4).tr ((fr_sub (by decide +kernel) f3).tr ((fr_sub (by decide +kernel) f2).tr hf))
      exact hs_k ⟨3, some (.int (Int32.ofInt 1)), by decide +kernel, rv_b rt_2089 (Or.inr (by decide)), q4, F4, _, rfl, Or.inl ⟨by decide, by rw [hv_same (f4 182 15 rfl), hv_same (f3 182 15 rfl), hv_same (f2 182 15 rfl)]; exact e15, r4, c2, t2 + 1, Or.inl ⟨s3.fr f4 ⟨rfl, rfl, rfl, rfl⟩ (fun _ => rfl) (fun _ => rfl), by omega, dd3.fr f4 rfl (fun _ => rfl), fun x => w_j hK⟩⟩⟩
    · simp only [hs_cd, ab_not] at b60
      refine hs_bipush ci_2089_63 ?_
      refine hs_goto (t := 70) ci_2089_65 rfl ?_
      refine hs_ias1 (0 + t2) ci_2089_70 (s2.2.1.trans (by omega)) (ckq_v gq_sk t2 (by omega)) hp (ab_ige _) (ab_ile _) ?_
      intro j1 w1
      replace hp := w1.1
      have ejt : hv j1 182 47 = hv h2 182 47 := by rw [w1.v, if_neg (fun q => absurd q.1 (by decide))]
      have e5 : (hv j1 182 47 + Int32.ofInt 1).toInt = ((t2 + 1 : Nat) : Int) := by rw [ejt]; exact (i32_add s2.2.1 (b := 1) rfl (by omega) (by omega)).trans (by omega)
      refine hs_aload_n ci_2089_71 l0 ?_
      refine hs_dup ci_2089_72 rfl ?_
      refine hs_gfi 47 ci_2089_73 (by decide +kernel) hp ?_
      refine hs_iconst ci_2089_76 ?_
      refine hs_iadd ci_2089_77 ?_
      refine hs_pfi 47 0 45 ci_2089_78 (by decide +kernel) hp (by rw [e5]; omega) (by rw [e5]; omega) ?_
      intro j2 w2
      replace hp := w2.1
      refine hs_aload_n ci_2089_81 l0 ?_
      refine hs_iconst ci_2089_82 ?_
      refine hs_pfi 49 0 1 ci_2089_83 (by decide +kernel) hp (by decide) (by decide) ?_
      intro j3 w3
      replace hp := w3.1
      have f3 : ab_fr M3 j3 h2 := (w3.fr rfl).tr ((w2.fr rfl).tr (w1.fr (ab_inr_up (k1 := 0) (k2 := 44) rfl (by omega) (by omega))))
      have q3 : ab_hp j3 := ⟨hp, q2.2.fr (M := M3) (by decide +kernel) f3⟩
      have s3 : S5 j3 c2 (t2 + 1) n 0 0 := s2.pushA w1 w2 w3 e5 rfl
      have dd3 : D5 j3 (t2 + 1) Fs := dd2.pj w1 w2 w3 (by decide) top2
      have r3 : rt B n0 lim tk ta P j3 j := r2.fr f3 (fun _ => rfl) ⟨rfl, rfl, rfl, rfl, rfl, rfl, rfl⟩
      refine hs_aload_n ci_2089_86 l0 ?_
      refine hs_cv 1658 11 0 ci_2089_87 (by decide +kernel) (by decide +kernel) hp rfl (by rw [ml_1658]; rfl) (m_next ts q3 r3) ?_
      rintro v9 h4 ⟨e8, q4, f4, r4⟩
      rw [e8]
      clear e8 v9
      replace hp := q4.1
      simp only [Option.toList, List.nil_append]
      refine hs_iconst ci_2089_90 ?_
      have F4 : ab_fr MSN h4 h := (fr_sub (by decide +kernel) f4).tr ((fr_sub (by decide +kernel) f3).tr ((fr_sub (by decide +kernel) f2).tr hf))
      exact hs_k ⟨3, some (.int (Int32.ofInt 1)), by decide +kernel, rv_b rt_2089 (Or.inr (by decide)), q4, F4, _, rfl, Or.inl ⟨by decide, by rw [hv_same (f4 182 15 rfl), hv_same (f3 182 15 rfl), hv_same (f2 182 15 rfl)]; exact e15, r4, c2, t2 + 1, Or.inl ⟨s3.fr f4 ⟨rfl, rfl, rfl, rfl⟩ (fun _ => rfl) (fun _ => rfl), by omega, dd3.fr f4 rfl (fun _ => rfl), fun x => w_j hK⟩⟩⟩
theorem mb_92 {h1 : eg_H} {c t n : Nat} {Fs : List Bool} (ts : TS B n0 lim tk ta P) (hn : n ≤ 20) (hct : c + t + 1 ≤ 2 * n) (q1 : ab_hp h1) (r1 : rt B n0 lim tk ta P h1 j) (s1 : S5 h1 c t n 1 1) (dd1 : D5 h1 t Fs) (top1 : ∀ i, i + 1 = t → SK h1 i ≠ 20) (hf : ab_fr MSN h1 h) (e15 : hv h1 182 15 = hv h 182 15) {ls : eg_L} (l0 : eg_find 0 ls = some (.ref 182)) (hst : (tk j).1 ≠ 0) (hNJ : ¬ (4 ≤ (tk j).1 ∧ ((tk j).2.1 = 1111 ∨ (tk j).2.1 = 423))) : hs sc sp 2089 11 (d + 1 + 1) (fun pc' _ st' h' => ∃ ik vo, ab_ret 2089 pc' = some ik ∧ eg_rv (eg_md 2089).2.2.2 ik st' = some vo ∧ bh_P B n0 lim tk ta P ps h n j Fs vo h') 92 ls [] h1 := by
  have hp := q1.1
  refine hs_aload_n ci_2089_92 l0 ?_
  refine hs_bipush ci_2089_93 ?_
  refine hs_cv 2085 11 1 ci_2089_95 (by decide +kernel) (by decide +kernel) hp rfl (by rw [ml_2085]; rfl) (c_joins2 _ (by omega) s1 q1) ?_
  rintro v9 h2 ⟨e8, q2, f2, c2, t2, y1, y2, s2, y3, y4, y5, y6⟩
  rw [e8]
  clear e8 v9
  replace hp := q2.1
  have y9 := y3 rfl
  obtain ⟨dd2, top2⟩ := dd1.jns y2 y4 y5 top1 y6
  have r2 : rt B n0 lim tk ta P h2 j := r1.fr f2 (fun _ => rfl) ⟨rfl, rfl, rfl, rfl, rfl, rfl, rfl⟩
  simp only [Option.toList, List.nil_append]
  refine hs_aload_n ci_2089_98 l0 ?_
  refine hs_bipush ci_2089_99 ?_
  refine hs_cv 1738 11 1 ci_2089_101 (by decide +kernel) (by decide +kernel) hp rfl (by rw [ml_1738]; rfl) (m_isG _ q2 r2) ?_
  rintro v9 h9 ⟨e9, rG101, e8, hrG101⟩
  rw [e8, e9]
  clear e8 e9 v9 h9
  rw [kB_41] at hrG101
  simp only [Option.toList, List.cons_append, List.nil_append]
  refine hs_if (t := 114) ci_2089_104 rfl (fun b104 => ?_) (fun b104 => ?_)
  · simp only [hs_cd, ab_not] at b104
    refine hs_aload_n ci_2089_114 l0 ?_
    refine hs_iconst ci_2089_115 ?_
    refine hs_cv 1687 11 1 ci_2089_116 (by decide +kernel) (by decide +kernel) hp rfl (by rw [ml_1687]; rfl) (m_bad (Int32.ofInt 1) (by decide) q2 r2) ?_
    rintro v9 h3 ⟨r3, e8, hr3, q3, f3, g3⟩
    rw [e8]
    clear e8 v9
    replace hp := q3.1
    rw [kI_1] at g3
    simp only [Option.toList, List.cons_append, List.nil_append]
    exact hs_k ⟨3, some (.int r3), by decide +kernel, rv_b rt_2089 (Or.inl hr3), q3, (fr_sub (by decide +kernel) f3).tr ((fr_sub (by decide +kernel) f2).tr hf), r3, rfl, Or.inr ⟨hr3, 1, ta j, g3, fun x => w_f hNJ (fun z => absurd z hst) (fun z1 z2 => absurd (And.intro z1 z2) (iw_0 hrG101 b104))⟩⟩
  · simp only [hs_cd, ab_not] at b104
    refine hs_aload_n ci_2089_107 l0 ?_
    refine hs_gfi 47 ci_2089_108 (by decide +kernel) hp ?_
    refine hs_if (t := 120) ci_2089_111 rfl (fun b111 => ?_) (fun b111 => ?_)
    · simp only [hs_cd, ab_not] at b111
      have hsg := iw_1 hrG101 b104
      obtain ⟨t3, rfl⟩ : ∃ t3, t2 = t3 + 1 := ⟨t2 - 1, by have := s2.2.1; omega⟩
      have hns : ¬ (SK h2 t3 = 21 ∨ SK h2 t3 = 22) := by
        rcases y9 with z | ⟨t1, z, w⟩
        · omega
        · obtain rfl : t1 = t3 := by omega
          exact w
      have hdp := dd2.1
      have hl9 : Fs.length ≤ t3 + 1 := by rw [← dd2.2.1]; exact fr_le _
      have e5 : (hv h2 182 47 - Int32.ofInt 1).toInt = (t3 : Int) := (i32_sub s2.2.1 (b := 1) rfl (by omega) (by omega)).trans (by omega)
      refine hs_aload_n ci_2089_120 l0 ?_
      refine hs_dup ci_2089_121 rfl ?_
      refine hs_gfi 47 ci_2089_122 (by decide +kernel) hp ?_
      refine hs_iconst ci_2089_125 ?_
      refine hs_isub ci_2089_126 ?_
      refine hs_pfi 47 (0) (45) ci_2089_127 (by decide +kernel) hp (by rw [e5]; omega) (by rw [e5]; omega) ?_
      intro h127 w127
      replace hp := w127.1
      refine hs_aload_n ci_2089_130 l0 ?_
      refine hs_dup ci_2089_131 rfl ?_
      refine hs_gfi 48 ci_2089_132 (by decide +kernel) hp ?_
      refine hs_iconst ci_2089_135 ?_
      refine hs_isub ci_2089_136 ?_
      refine hs_pfi 48 (-2147483648) (2147483647) ci_2089_137 (by decide +kernel) hp (ab_ige _) (ab_ile _) ?_
      intro h137 w137
      replace hp := w137.1
      have f3 : ab_fr [(182, 47, 48)] h137 h2 := (w137.fr rfl).tr (w127.fr rfl)
      have q3 : ab_hp h137 := ⟨hp, q2.2.fr (M := [(182, 47, 48)]) (by decide +kernel) f3⟩
      have s3 := s2.pop (h' := h137) (hv_same (f3 182 45 rfl)) (by rw [w137.v, if_neg (fun p => absurd p.2 (by decide)), w127.v, if_pos ⟨rfl, rfl⟩]; exact e5) (hv_same (f3 182 46 rfl)) (hv_same (f3 182 49 rfl)) (fun i => hv_same (f3 186 i rfl)) (fun i => hv_same (f3 199 i rfl))
      rw [if_neg hns] at s3
      have s4 : S5 h137 c2 t3 n 1 1 := s3
      obtain ⟨G, eG, dd3⟩ := dd2.cls (h' := h137) (top2 t3 rfl) hns (fun i => by unfold SK; rw [hv_same (f3 199 i rfl)]) (by
        rw [w137.v, if_pos ⟨rfl, rfl⟩, w127.v, if_neg (fun p => absurd p.2 (by decide))]
        exact i32_sub rfl (b := 1) rfl (by omega) (by omega))
      have r3 : rt B n0 lim tk ta P h137 j := r2.fr f3 (fun _ => rfl) ⟨rfl, rfl, rfl, rfl, rfl, rfl, rfl⟩
      refine hs_aload_n ci_2089_140 l0 ?_
      refine hs_cv 1658 11 0 ci_2089_141 (by decide +kernel) (by decide +kernel) hp rfl (by rw [ml_1658]; rfl) (m_next ts q3 r3) ?_
      rintro v9 h4 ⟨e8, q4, f4, r4⟩
      rw [e8]
      clear e8 v9
      replace hp := q4.1
      simp only [Option.toList, List.nil_append]
      refine hs_iconst ci_2089_144 ?_
      exact hs_k ⟨3, some (.int (Int32.ofInt 1)), by decide +kernel, rv_b rt_2089 (Or.inr (by decide)), q4, (fr_sub (by decide +kernel) f4).tr ((fr_sub (by decide +kernel) f3).tr ((fr_sub (by decide +kernel) f2).tr hf)), _, rfl, Or.inl ⟨by decide, by rw [hv_same (f4 182 15 rfl), hv_same (f3 182 15 rfl), hv_same (f2 182 15 rfl)]; exact e15, r4, c2, t3, Or.inr ⟨G, eG, s4.fr f4 ⟨rfl, rfl, rfl, rfl⟩ (fun _ => rfl) (fun _ => rfl), by omega, dd3.fr f4 rfl (fun _ => rfl), fun x => by rw [eG]; exact w_c hsg⟩⟩⟩
    · simp only [hs_cd, ab_not] at b111
      refine hs_aload_n ci_2089_114 l0 ?_
      refine hs_iconst ci_2089_115 ?_
      refine hs_cv 1687 11 1 ci_2089_116 (by decide +kernel) (by decide +kernel) hp rfl (by rw [ml_1687]; rfl) (m_bad (Int32.ofInt 1) (by decide) q2 r2) ?_
      rintro v9 h3 ⟨r3, e8, hr3, q3, f3, g3⟩
      rw [e8]
      clear e8 v9
      replace hp := q3.1
      rw [kI_1] at g3
      simp only [Option.toList, List.cons_append, List.nil_append]
      exact hs_k ⟨3, some (.int r3), by decide +kernel, rv_b rt_2089 (Or.inl hr3), q3, (fr_sub (by decide +kernel) f3).tr ((fr_sub (by decide +kernel) f2).tr hf), r3, rfl, Or.inr ⟨hr3, 1, ta j, g3, fun x => w_f hNJ (fun z => absurd z hst) (fun _ _ => (dd2.nil top2 y9).mpr (by have := s2.2.1; omega))⟩⟩
theorem m_beh {c t n : Nat} {F : List Bool} (ts : TS B n0 lim tk ta P) (hn : n ≤ 20) (hct : c + t + 1 ≤ 2 * n) (hq : ab_hp h) (hr : rt B n0 lim tk ta P h j) (s0 : S5 h c t n 1 1) (dd0 : D5 h t F) (hst : (tk j).1 ≠ 0) : mc sc sp 2089 11 (d + 1 + 1) [.ref 182] h (bh_P B n0 lim tk ta P ps h n j (dn F)) := by
  have l0 : eg_find 0 (eg_args 0 [.ref 182]) = some (.ref 182) := rfl
  have hp := hq.1
  have hfl : F.length ≤ t := by rw [← dd0.2.1]; exact fr_le t
  have hd0 := dd0.1
  unfold mc
  refine hs_aload_n ci_2089_0 l0 ?_
  refine hs_cv 2077 11 0 ci_2089_1 (by decide +kernel) (by decide +kernel) hp rfl (by rw [ml_2077]; rfl) (c_nots2 (e0 := 1 + (F.length : Int) - (t : Int)) (by omega) (by omega) (by omega) s0 (by omega) hq) ?_
  rintro v9 h1 ⟨e8, q1, f1, c1, t1, y1, y2, s1, y3, y4, y5, y6⟩
  rw [e8]
  clear e8 v9
  replace hp := q1.1
  obtain ⟨dd1, top1⟩ := dd0.nots y2 y3 y4 y5 y6
  have r1 : rt B n0 lim tk ta P h1 j := hr.fr f1 (fun _ => rfl) ⟨rfl, rfl, rfl, rfl, rfl, rfl, rfl⟩
  simp only [Option.toList, List.nil_append]
  refine hs_aload_n ci_2089_4 l0 ?_
  refine hs_ldc2v (6385252) ci_2089_5 (by decide +kernel) ?_
  refine hs_cv 1676 11 1 ci_2089_8 (by decide +kernel) (by decide +kernel) hp rfl (by rw [ml_1676]; rfl) (m_isW _ q1 r1) ?_
  rintro v9 h9 ⟨e9, rW8, e8, hrW8⟩
  rw [e8, e9]
  clear e8 e9 v9 h9
  replace hrW8 := iw_c (wd_iff r1 wco_12 (by decide +kernel)) hrW8
  simp only [Option.toList, List.cons_append, List.nil_append]
  refine hs_if (t := 24) ci_2089_11 rfl (fun b11 => ?_) (fun b11 => ?_)
  · simp only [hs_cd, ab_not] at b11
    exact mb_24 ts hn (by omega) q1 r1 s1 dd1 top1 (fr_sub (by decide +kernel) f1) (hv_same (f1 182 15 rfl)) l0 ⟨(iw_1 hrW8 b11).1, Or.inl (iw_1 hrW8 b11).2⟩
  · simp only [hs_cd, ab_not] at b11
    refine hs_aload_n ci_2089_14 l0 ?_
    refine hs_ldc2v (28530) ci_2089_15 (by decide +kernel) ?_
    refine hs_cv 1676 11 1 ci_2089_18 (by decide +kernel) (by decide +kernel) hp rfl (by rw [ml_1676]; rfl) (m_isW _ q1 r1) ?_
    rintro v9 h9 ⟨e9, rW18, e8, hrW18⟩
    rw [e8, e9]
    clear e8 e9 v9 h9
    replace hrW18 := iw_c (wd_iff r1 wco_11 (by decide +kernel)) hrW18
    simp only [Option.toList, List.cons_append, List.nil_append]
    refine hs_if (t := 92) ci_2089_21 rfl (fun b21 => ?_) (fun b21 => ?_)
    · simp only [hs_cd, ab_not] at b21
      exact mb_92 ts hn (by omega) q1 r1 s1 dd1 top1 (fr_sub (by decide +kernel) f1) (hv_same (f1 182 15 rfl)) l0 hst (fun g => g.2.elim (fun z => iw_0 hrW8 b11 ⟨g.1, z⟩) (fun z => iw_0 hrW18 b21 ⟨g.1, z⟩))
    · simp only [hs_cd, ab_not] at b21
      exact mb_24 ts hn (by omega) q1 r1 s1 dd1 top1 (fr_sub (by decide +kernel) f1) (hv_same (f1 182 15 rfl)) l0 ⟨(iw_1 hrW18 b21).1, Or.inr (iw_1 hrW18 b21).2⟩
/-- which leaf it is -/
def lf (t : tx_K) (r : Int) : Prop := (0 ≤ r ∧ r ≤ 4 ∧ 4 ≤ t.1 ∧ (t.2.1 = 220610 ∨ t.2.1 = 283288069 ∨ t.2.1 = 122079 ∨ t.2.1 = 10506715 ∨ t.2.1 = 276903499)) ∨ (5 ≤ r ∧ r ≤ 6 ∧ 4 ≤ t.1 ∧ (t.2.1 = 79 ∨ t.2.1 = 555)) ∨ (7 ≤ r ∧ r ≤ 9 ∧ 4 ≤ t.1 ∧ (t.2.1 = 394725 ∨ t.2.1 = 400557 ∨ t.2.1 = 212302449)) ∨ (r = -1 ∧ ¬ (4 ≤ t.1 ∧ (t.2.1 = 220610 ∨ t.2.1 = 283288069 ∨ t.2.1 = 122079 ∨ t.2.1 = 10506715 ∨ t.2.1 = 276903499 ∨ t.2.1 = 79 ∨ t.2.1 = 555 ∨ t.2.1 = 394725 ∨ t.2.1 = 400557 ∨ t.2.1 = 212302449)))
theorem m_leaf (hq : ab_hp h) (hr : rt B n0 lim tk ta P h j) : mc sc sp 2097 11 (d + 1) [.ref 182] h (fun vo h' => h' = h ∧ ∃ r : Int32, vo = some (.int r) ∧ lf (tk j) r.toInt) := by
  have l0 : eg_find 0 (eg_args 0 [.ref 182]) = some (.ref 182) := rfl
  have hp := hq.1
  unfold mc
  refine hs_aload_n ci_2097_0 l0 ?_
  refine hs_ldc2v (126943688025203) ci_2097_1 (by decide +kernel) ?_
  refine hs_cv 1676 11 1 ci_2097_4 (by decide +kernel) (by decide +kernel) hp rfl (by rw [ml_1676]; rfl) (m_isW _ hq hr) ?_
  rintro v9 h9 ⟨e9, rW0, e8, hrW0⟩
  rw [e8, e9]
  clear e8 e9 v9 h9
  replace hrW0 := iw_c (wd_iff hr wco_14 (by decide +kernel)) hrW0
  simp only [Option.toList, List.cons_append, List.nil_append]
  refine hs_if (t := 14) ci_2097_7 rfl (fun b7 => ?_) (fun b7 => ?_)
  · simp only [hs_cd, ab_not] at b7
    refine hs_aload_n ci_2097_14 l0 ?_
    refine hs_ldc2v (1801810036) ci_2097_15 (by decide +kernel) ?_
    refine hs_cv 1676 11 1 ci_2097_18 (by decide +kernel) (by decide +kernel) hp rfl (by rw [ml_1676]; rfl) (m_isW _ hq hr) ?_
    rintro v9 h9 ⟨e9, rW1, e8, hrW1⟩
    rw [e8, e9]
    clear e8 e9 v9 h9
    replace hrW1 := iw_c (wd_iff hr wco_6 (by decide +kernel)) hrW1
    simp only [Option.toList, List.cons_append, List.nil_append]
    refine hs_if (t := 28) ci_2097_21 rfl (fun b21 => ?_) (fun b21 => ?_)
    · simp only [hs_cd, ab_not] at b21
      refine hs_aload_n ci_2097_28 l0 ?_
      refine hs_ldc2v (1717922924) ci_2097_29 (by decide +kernel) ?_
      refine hs_cv 1676 11 1 ci_2097_32 (by decide +kernel) (by decide +kernel) hp rfl (by rw [ml_1676]; rfl) (m_isW _ hq hr) ?_
      rintro v9 h9 ⟨e9, rW2, e8, hrW2⟩
      rw [e8, e9]
      clear e8 e9 v9 h9
      replace hrW2 := iw_c (wd_iff hr wco_15 (by decide +kernel)) hrW2
      simp only [Option.toList, List.cons_append, List.nil_append]
      refine hs_if (t := 42) ci_2097_35 rfl (fun b35 => ?_) (fun b35 => ?_)
      · simp only [hs_cd, ab_not] at b35
        refine hs_aload_n ci_2097_42 l0 ?_
        refine hs_ldc2v (495875091824) ci_2097_43 (by decide +kernel) ?_
        refine hs_cv 1676 11 1 ci_2097_46 (by decide +kernel) (by decide +kernel) hp rfl (by rw [ml_1676]; rfl) (m_isW _ hq hr) ?_
        rintro v9 h9 ⟨e9, rW3, e8, hrW3⟩
        rw [e8, e9]
        clear e8 e9 v9 h9
        replace hrW3 := iw_c (wd_iff hr wco_16 (by decide +kernel)) hrW3
        simp only [Option.toList, List.cons_append, List.nil_append]
        refine hs_if (t := 56) ci_2097_49 rfl (fun b49 => ?_) (fun b49 => ?_)
        · simp only [hs_cd, ab_not] at b49
          refine hs_aload_n ci_2097_56 l0 ?_
          refine hs_ldc2v (126892147762532) ci_2097_57 (by decide +kernel) ?_
          refine hs_cv 1676 11 1 ci_2097_60 (by decide +kernel) (by decide +kernel) hp rfl (by rw [ml_1676]; rfl) (m_isW _ hq hr) ?_
          rintro v9 h9 ⟨e9, rW4, e8, hrW4⟩
          rw [e8, e9]
          clear e8 e9 v9 h9
          replace hrW4 := iw_c (wd_iff hr wco_17 (by decide +kernel)) hrW4
          simp only [Option.toList, List.cons_append, List.nil_append]
          refine hs_if (t := 70) ci_2097_63 rfl (fun b63 => ?_) (fun b63 => ?_)
          · simp only [hs_cd, ab_not] at b63
            refine hs_aload_n ci_2097_70 l0 ?_
            refine hs_ldc2v (25209) ci_2097_71 (by decide +kernel) ?_
            refine hs_cv 1676 11 1 ci_2097_74 (by decide +kernel) (by decide +kernel) hp rfl (by rw [ml_1676]; rfl) (m_isW _ hq hr) ?_
            rintro v9 h9 ⟨e9, rW5, e8, hrW5⟩
            rw [e8, e9]
            clear e8 e9 v9 h9
            replace hrW5 := iw_c (wd_iff hr wco_18 (by decide +kernel)) hrW5
            simp only [Option.toList, List.cons_append, List.nil_append]
            refine hs_if (t := 84) ci_2097_77 rfl (fun b77 => ?_) (fun b77 => ?_)
            · simp only [hs_cd, ab_not] at b77
              refine hs_aload_n ci_2097_84 l0 ?_
              refine hs_ldc2v (29807) ci_2097_85 (by decide +kernel) ?_
              refine hs_cv 1676 11 1 ci_2097_88 (by decide +kernel) (by decide +kernel) hp rfl (by rw [ml_1676]; rfl) (m_isW _ hq hr) ?_
              rintro v9 h9 ⟨e9, rW6, e8, hrW6⟩
              rw [e8, e9]
              clear e8 e9 v9 h9
              replace hrW6 := iw_c (wd_iff hr wco_19 (by decide +kernel)) hrW6
              simp only [Option.toList, List.cons_append, List.nil_append]
              refine hs_if (t := 99) ci_2097_91 rfl (fun b91 => ?_) (fun b91 => ?_)
              · simp only [hs_cd, ab_not] at b91
                refine hs_aload_n ci_2097_99 l0 ?_
                refine hs_ldc2v (1952541804) ci_2097_100 (by decide +kernel) ?_
                refine hs_cv 1676 11 1 ci_2097_103 (by decide +kernel) (by decide +kernel) hp rfl (by rw [ml_1676]; rfl) (m_isW _ hq hr) ?_
                rintro v9 h9 ⟨e9, rW7, e8, hrW7⟩
                rw [e8, e9]
                clear e8 e9 v9 h9
                replace hrW7 := iw_c (wd_iff hr wco_20 (by decide +kernel)) hrW7
                simp only [Option.toList, List.cons_append, List.nil_append]
                refine hs_if (t := 114) ci_2097_106 rfl (fun b106 => ?_) (fun b106 => ?_)
                · simp only [hs_cd, ab_not] at b106
                  refine hs_aload_n ci_2097_114 l0 ?_
                  refine hs_ldc2v (1953066092) ci_2097_115 (by decide +kernel) ?_
                  refine hs_cv 1676 11 1 ci_2097_118 (by decide +kernel) (by decide +kernel) hp rfl (by rw [ml_1676]; rfl) (m_isW _ hq hr) ?_
                  rintro v9 h9 ⟨e9, rW8, e8, hrW8⟩
                  rw [e8, e9]
                  clear e8 e9 v9 h9
                  replace hrW8 := iw_c (wd_iff hr wco_21 (by decide +kernel)) hrW8
                  simp only [Option.toList, List.cons_append, List.nil_append]
                  refine hs_if (t := 129) ci_2097_121 rfl (fun b121 => ?_) (fun b121 => ?_)
                  · simp only [hs_cd, ab_not] at b121
                    refine hs_aload_n ci_2097_129 l0 ?_
                    refine hs_ldc2v (121450625394034) ci_2097_130 (by decide +kernel) ?_
                    refine hs_cv 1676 11 1 ci_2097_133 (by decide +kernel) (by decide +kernel) hp rfl (by rw [ml_1676]; rfl) (m_isW _ hq hr) ?_
                    rintro v9 h9 ⟨e9, rW9, e8, hrW9⟩
                    rw [e8, e9]
                    clear e8 e9 v9 h9
                    replace hrW9 := iw_c (wd_iff hr wco_22 (by decide +kernel)) hrW9
                    simp only [Option.toList, List.cons_append, List.nil_append]
                    refine hs_if (t := 144) ci_2097_136 rfl (fun b136 => ?_) (fun b136 => ?_)
                    · simp only [hs_cd, ab_not] at b136
                      refine hs_iconst ci_2097_144 ?_
                      refine hs_k ⟨3, some (.int (Int32.ofInt (-1))), by decide +kernel, by rw [rt_2097]; rfl, rfl, _, rfl, Or.inr (Or.inr (Or.inr ⟨by decide, ?_⟩))⟩
                      rintro ⟨g, z⟩
                      rcases z with z | z | z | z | z | z | z | z | z | z
                      · exact iw_0 hrW1 b21 ⟨g, z⟩
                      · exact iw_0 hrW0 b7 ⟨g, z⟩
                      · exact iw_0 hrW2 b35 ⟨g, z⟩
                      · exact iw_0 hrW3 b49 ⟨g, z⟩
                      · exact iw_0 hrW4 b63 ⟨g, z⟩
                      · exact iw_0 hrW5 b77 ⟨g, z⟩
                      · exact iw_0 hrW6 b91 ⟨g, z⟩
                      · exact iw_0 hrW7 b106 ⟨g, z⟩
                      · exact iw_0 hrW8 b121 ⟨g, z⟩
                      · exact iw_0 hrW9 b136 ⟨g, z⟩
                    · simp only [hs_cd, ab_not] at b136
                      refine hs_bipush ci_2097_139 ?_
                      refine hs_goto (t := 145) ci_2097_141 rfl ?_
                      exact hs_k ⟨3, some (.int (Int8.ofInt 9).toInt32), by decide +kernel, by rw [rt_2097]; rfl, rfl, _, rfl, Or.inr (Or.inr (Or.inl ⟨by decide, by decide, (iw_1 hrW9 b136).1, by have := (iw_1 hrW9 b136).2; omega⟩))⟩
                  · simp only [hs_cd, ab_not] at b121
                    refine hs_bipush ci_2097_124 ?_
                    refine hs_goto (t := 145) ci_2097_126 rfl ?_
                    exact hs_k ⟨3, some (.int (Int8.ofInt 8).toInt32), by decide +kernel, by rw [rt_2097]; rfl, rfl, _, rfl, Or.inr (Or.inr (Or.inl ⟨by decide, by decide, (iw_1 hrW8 b121).1, by have := (iw_1 hrW8 b121).2; omega⟩))⟩
                · simp only [hs_cd, ab_not] at b106
                  refine hs_bipush ci_2097_109 ?_
                  refine hs_goto (t := 145) ci_2097_111 rfl ?_
                  exact hs_k ⟨3, some (.int (Int8.ofInt 7).toInt32), by decide +kernel, by rw [rt_2097]; rfl, rfl, _, rfl, Or.inr (Or.inr (Or.inl ⟨by decide, by decide, (iw_1 hrW7 b106).1, by have := (iw_1 hrW7 b106).2; omega⟩))⟩
              · simp only [hs_cd, ab_not] at b91
                refine hs_bipush ci_2097_94 ?_
                refine hs_goto (t := 145) ci_2097_96 rfl ?_
                exact hs_k ⟨3, some (.int (Int8.ofInt 6).toInt32), by decide +kernel, by rw [rt_2097]; rfl, rfl, _, rfl, Or.inr (Or.inl ⟨by decide, by decide, (iw_1 hrW6 b91).1, by have := (iw_1 hrW6 b91).2; omega⟩)⟩
            · simp only [hs_cd, ab_not] at b77
              refine hs_iconst ci_2097_80 ?_
              refine hs_goto (t := 145) ci_2097_81 rfl ?_
              exact hs_k ⟨3, some (.int (Int32.ofInt 5)), by decide +kernel, by rw [rt_2097]; rfl, rfl, _, rfl, Or.inr (Or.inl ⟨by decide, by decide, (iw_1 hrW5 b77).1, by have := (iw_1 hrW5 b77).2; omega⟩)⟩
          · simp only [hs_cd, ab_not] at b63
            refine hs_iconst ci_2097_66 ?_
            refine hs_goto (t := 145) ci_2097_67 rfl ?_
            exact hs_k ⟨3, some (.int (Int32.ofInt 4)), by decide +kernel, by rw [rt_2097]; rfl, rfl, _, rfl, Or.inl ⟨by decide, by decide, (iw_1 hrW4 b63).1, by have := (iw_1 hrW4 b63).2; omega⟩⟩
        · simp only [hs_cd, ab_not] at b49
          refine hs_iconst ci_2097_52 ?_
          refine hs_goto (t := 145) ci_2097_53 rfl ?_
          exact hs_k ⟨3, some (.int (Int32.ofInt 3)), by decide +kernel, by rw [rt_2097]; rfl, rfl, _, rfl, Or.inl ⟨by decide, by decide, (iw_1 hrW3 b49).1, by have := (iw_1 hrW3 b49).2; omega⟩⟩
      · simp only [hs_cd, ab_not] at b35
        refine hs_iconst ci_2097_38 ?_
        refine hs_goto (t := 145) ci_2097_39 rfl ?_
        exact hs_k ⟨3, some (.int (Int32.ofInt 2)), by decide +kernel, by rw [rt_2097]; rfl, rfl, _, rfl, Or.inl ⟨by decide, by decide, (iw_1 hrW2 b35).1, by have := (iw_1 hrW2 b35).2; omega⟩⟩
    · simp only [hs_cd, ab_not] at b21
      refine hs_iconst ci_2097_24 ?_
      refine hs_goto (t := 145) ci_2097_25 rfl ?_
      exact hs_k ⟨3, some (.int (Int32.ofInt 1)), by decide +kernel, by rw [rt_2097]; rfl, rfl, _, rfl, Or.inl ⟨by decide, by decide, (iw_1 hrW1 b21).1, by have := (iw_1 hrW1 b21).2; omega⟩⟩
  · simp only [hs_cd, ab_not] at b7
    refine hs_iconst ci_2097_10 ?_
    refine hs_goto (t := 145) ci_2097_11 rfl ?_
    exact hs_k ⟨3, some (.int (Int32.ofInt 0)), by decide +kernel, by rw [rt_2097]; rfl, rfl, _, rfl, Or.inl ⟨by decide, by decide, (iw_1 hrW0 b7).1, by have := (iw_1 hrW0 b7).2; omega⟩⟩
/-- a one is read -/
def od_P (B : Nat → Int) (n0 lim : Nat) (tk : Nat → tx_K) (ta P : Nat → Nat) (ps : PS) (h : eg_H) (n j : Nat) (F : List Bool) (vo : Option Value) (h' : eg_H) : Prop := ab_hp h' ∧ ab_fr MSN h' h ∧ ∃ r : Int32, vo = some (.int r) ∧ ((r.toInt = 1 ∧ n + 1 ≤ 20 ∧ ∃ c' t' j' : Nat, rt B n0 lim tk ta P h' j' ∧ ((∃ G, G.length = F.length + 1 ∧ S5 h' c' t' (n + 1) 0 0 ∧ c' + t' ≤ 2 * (n + 1) ∧ D5 h' t' G ∧ ∀ x, ssx tk ta ps false F n j x ↔ ssx tk ta ps false G (n + 1) j' x) ∨ (S5 h' c' t' (n + 1) 1 1 ∧ c' + t' + 1 ≤ 2 * (n + 1) ∧ D5 h' t' F ∧ ∀ x, ssx tk ta ps false F n j x ↔ ssx tk ta ps true (dn F) (n + 1) j' x))) ∨ (r.toInt = 0 ∧ ∃ (k : Int) (a : Nat), flm h' k a ∧ ∀ x, ssx tk ta ps false F n j x ↔ x = .inl (k, a)))
/-- the men's names, as the reference has them -/
def RN (h : eg_H) (ps : PS) : Prop := (hv h 184 0).toInt = ps.1 4 ∧ ∀ q : Nat, (q : Int) < ps.1 4 → tx_co (ps.2 0 q) (hl h 187 q).toInt
theorem RN.fr {M : ab_M} {h' : eg_H} (r : RN h ps) (f : ab_fr M h' h) (k1 : ab_inr M 184 0 0 = false) (k2 : ∀ q, ab_inr M 187 q q = false) : RN h' ps := ⟨by rw [hv_same (f 184 0 k1)]; exact r.1, fun q hq => by rw [hl_same (f 187 q (k2 q))]; exact r.2 q hq⟩
theorem od_38 {h1 : eg_H} {c t n : Nat} {F : List Bool} (ts : TS B n0 lim tk ta P) (hn : n ≤ 20) (hct : c + t ≤ 2 * n) (q1 : ab_hp h1) (hw1 : rwok h1) (hN : RN h1 ps) (r1 : rt B n0 lim tk ta P h1 j) (s1 : S5 h1 c t n 0 0) (dd1 : D5 h1 t F) (hf : ab_fr MSN h1 h) {x1 x2 x3 : Int32} (hx1 : (x1.toInt = 1 ∧ (4 ≤ (tk j).1 ∧ (tk j).2.1 = 10631)) ∨ (x1.toInt = 0 ∧ ¬ (4 ≤ (tk j).1 ∧ (tk j).2.1 = 10631))) (hx2 : (x2.toInt = 1 ∧ ((tk j).1 = 2 ∧ (tk j).2.1 = 40)) ∨ (x2.toInt = 0 ∧ ¬ ((tk j).1 = 2 ∧ (tk j).2.1 = 40))) (hx3 : lf (tk j) x3.toInt) (kne : ss_k (tk j) ≠ 0) {ls : eg_L} (l0 : eg_find 0 ls = some (.ref 182)) (l1 : eg_find 1 ls = some (.int x1)) (l2 : eg_find 2 ls = some (.int x2)) (l3 : eg_find 3 ls = some (.int x3)) : hs sc sp 2093 11 (d + 1 + 1) (fun pc' _ st' h' => ∃ ik vo, ab_ret 2093 pc' = some ik ∧ eg_rv (eg_md 2093).2.2.2 ik st' = some vo ∧ od_P B n0 lim tk ta P ps h n j F vo h') 38 ls [] h1 := by
  have hp := q1.1
  have hdp := dd1.1
  have hones := s1.2.2.1
  refine hs_aload_n ci_2093_38 l0 ?_
  refine hs_gfi 46 ci_2093_39 (by decide +kernel) hp ?_
  refine hs_bipush ci_2093_42 ?_
  refine hs_ic (t := 56) ci_2093_44 rfl (fun b44 => ?_) (fun b44 => ?_)
  · simp only [hs_cd, ab_not, kB_20] at b44
    refine hs_aload_n ci_2093_56 l0 ?_
    refine hs_iconst ci_2093_57 ?_
    refine hs_cv 1687 11 1 ci_2093_58 (by decide +kernel) (by decide +kernel) hp rfl (by rw [ml_1687]; rfl) (m_bad (Int32.ofInt 4) (by decide) q1 r1) ?_
    rintro v9 h2 ⟨r2, e8, hr2, q2, f2, g2⟩
    rw [e8]
    clear e8 v9
    replace hp := q2.1
    rw [kI_4] at g2
    simp only [Option.toList, List.cons_append, List.nil_append]
    exact hs_k ⟨3, some (.int r2), by decide +kernel, rv_b rt_2093 (Or.inl hr2), q2, (fr_sub (by decide +kernel) f2).tr hf, _, rfl, Or.inr ⟨hr2, 4, ta j, g2, fun x => o_f kne (by omega)⟩⟩
  · simp only [hs_cd, ab_not, kB_20] at b44
    refine hs_aload_n ci_2093_47 l0 ?_
    refine hs_gfi 48 ci_2093_48 (by decide +kernel) hp ?_
    refine hs_bipush ci_2093_51 ?_
    refine hs_ic (t := 62) ci_2093_53 rfl (fun b53 => ?_) (fun b53 => ?_)
    · simp only [hs_cd, ab_not, kB_8] at b53
      refine hs_aload_n ci_2093_62 l0 ?_
      refine hs_dup ci_2093_63 rfl ?_
      refine hs_gfi 46 ci_2093_64 (by decide +kernel) hp ?_
      refine hs_iconst ci_2093_67 ?_
      refine hs_iadd ci_2093_68 ?_
      have hn20 : n < 20 := by omega
      have hF8 : F.length < 8 := by omega
      have e6 : (hv h1 182 46 + Int32.ofInt 1).toInt = ((n + 1 : Nat) : Int) := (i32_add hones (b := 1) rfl (by omega) (by omega)).trans (by omega)
      refine hs_pfi 46 (-2147483648) (2147483647) ci_2093_69 (by decide +kernel) hp (ab_ige _) (ab_ile _) ?_
      intro h69 w69
      replace hp := w69.1
      have f2 : ab_fr [(182, 46, 46)] h69 h1 := w69.fr rfl
      have q2 : ab_hp h69 := ⟨hp, q1.2.fr (M := [(182, 46, 46)]) (by decide +kernel) f2⟩
      have s2 : S5 h69 c t (n + 1) 0 0 := s1.ones w69 e6
      have dd2 : D5 h69 t F := dd1.fr f2 rfl (fun _ => rfl)
      have r2 : rt B n0 lim tk ta P h69 j := r1.fr f2 (fun _ => rfl) ⟨rfl, rfl, rfl, rfl, rfl, rfl, rfl⟩
      refine hs_aload_n ci_2093_72 l0 ?_
      refine hs_cv 1658 11 0 ci_2093_73 (by decide +kernel) (by decide +kernel) hp rfl (by rw [ml_1658]; rfl) (m_next ts q2 r2) ?_
      rintro v9 h3 ⟨e8, q3, f3, r3⟩
      rw [e8]
      clear e8 v9
      replace hp := q3.1
      simp only [Option.toList, List.nil_append]
      have s3 : S5 h3 c t (n + 1) 0 0 := s2.fr f3 ⟨rfl, rfl, rfl, rfl⟩ (fun _ => rfl) (fun _ => rfl)
      have dd3 : D5 h3 t F := dd2.fr f3 rfl (fun _ => rfl)
      have F3 : ab_fr MSN h3 h := (fr_sub (by decide +kernel) f3).tr ((fr_sub (by decide +kernel) f2).tr hf)
      have w3n : rwok h3 := (hw1.fr f2 (fun _ => rfl)).fr f3 (fun _ => rfl)
      have N3 : RN h3 ps := (hN.fr f2 rfl (fun _ => rfl)).fr f3 rfl (fun _ => rfl)
      refine hs_iload_n ci_2093_76 l1 ?_
      refine hs_if (t := 84) ci_2093_77 rfl (fun b77 => ?_) (fun b77 => ?_)
      · simp only [hs_cd, ab_not] at b77
        refine hs_aload_n ci_2093_84 l0 ?_
        refine hs_gfr 44 199 ci_2093_85 (by decide +kernel) hp ?_
        refine hs_aload_n ci_2093_88 l0 ?_
        refine hs_gfi 47 ci_2093_89 (by decide +kernel) hp ?_
        refine hs_iload_n ci_2093_92 l1 ?_
        refine hs_if (t := 101) ci_2093_93 rfl (fun b93 => ?_) (fun b93 => ?_)
        · simp only [hs_cd, ab_not] at b93
          refine hs_bipush ci_2093_101 ?_
          refine hs_ias1 (0 + t) ci_2093_103 (s3.2.1.trans (by omega)) (ckq_v gq_sk t (by omega)) hp (ab_ige _) (ab_ile _) ?_
          intro j1 w1
          replace hp := w1.1
          have ejt : hv j1 182 47 = hv h3 182 47 := by rw [w1.v, if_neg (fun q => absurd q.1 (by decide))]
          have e5 : (hv j1 182 47 + Int32.ofInt 1).toInt = ((t + 1 : Nat) : Int) := by rw [ejt]; exact (i32_add s3.2.1 (b := 1) rfl (by omega) (by omega)).trans (by omega)
          refine hs_aload_n ci_2093_104 l0 ?_
          refine hs_dup ci_2093_105 rfl ?_
          refine hs_gfi 47 ci_2093_106 (by decide +kernel) hp ?_
          refine hs_iconst ci_2093_109 ?_
          refine hs_iadd ci_2093_110 ?_
          refine hs_pfi 47 0 45 ci_2093_111 (by decide +kernel) hp (by rw [e5]; omega) (by rw [e5]; omega) ?_
          intro j2 w2
          replace hp := w2.1
          refine hs_aload_n ci_2093_114 l0 ?_
          refine hs_dup ci_2093_115 rfl ?_
          refine hs_gfi 48 ci_2093_116 (by decide +kernel) hp ?_
          refine hs_iconst ci_2093_119 ?_
          refine hs_iadd ci_2093_120 ?_
          have ej8 : (hv j2 182 48).toInt = 1 + (F.length : Int) := by
            rw [w2.v, if_neg (fun q => absurd q.2 (by decide)), w1.v, if_neg (fun q => absurd q.1 (by decide))]
            exact dd3.1
          have e8z : (hv j2 182 48 + Int32.ofInt 1).toInt = 2 + (F.length : Int) := (i32_add ej8 (b := 1) rfl (by omega) (by omega)).trans (by omega)
          refine hs_pfi 48 (-2147483648) (2147483647) ci_2093_121 (by decide +kernel) hp (ab_ige _) (ab_ile _) ?_
          intro j3 w3
          replace hp := w3.1
          have f4 : ab_fr M3 j3 h3 := (w3.fr rfl).tr ((w2.fr rfl).tr (w1.fr (ab_inr_up (k1 := 0) (k2 := 44) rfl (by omega) (by omega))))
          have q4 : ab_hp j3 := ⟨hp, q3.2.fr (M := M3) (by decide +kernel) f4⟩
          have s4 : S5 j3 c (t + 1) (n + 1) 0 0 := s3.pushB w1 w2 w3 e5
          have r4 : rt B n0 lim tk ta P j3 (j + 1) := r3.fr f4 (fun _ => rfl) ⟨rfl, rfl, rfl, rfl, rfl, rfl, rfl⟩
          refine hs_iconst ci_2093_124 ?_
          omega
        · simp only [hs_cd, ab_not] at b93
          refine hs_bipush ci_2093_96 ?_
          refine hs_goto (t := 103) ci_2093_98 rfl ?_
          refine hs_ias1 (0 + t) ci_2093_103 (s3.2.1.trans (by omega)) (ckq_v gq_sk t (by omega)) hp (ab_ige _) (ab_ile _) ?_
          intro j1 w1
          replace hp := w1.1
          have ejt : hv j1 182 47 = hv h3 182 47 := by rw [w1.v, if_neg (fun q => absurd q.1 (by decide))]
          have e5 : (hv j1 182 47 + Int32.ofInt 1).toInt = ((t + 1 : Nat) : Int) := by rw [ejt]; exact (i32_add s3.2.1 (b := 1) rfl (by omega) (by omega)).trans (by omega)
          refine hs_aload_n ci_2093_104 l0 ?_
          refine hs_dup ci_2093_105 rfl ?_
          refine hs_gfi 47 ci_2093_106 (by decide +kernel) hp ?_
          refine hs_iconst ci_2093_109 ?_
          refine hs_iadd ci_2093_110 ?_
          refine hs_pfi 47 0 45 ci_2093_111 (by decide +kernel) hp (by rw [e5]; omega) (by rw [e5]; omega) ?_
          intro j2 w2
          replace hp := w2.1
          refine hs_aload_n ci_2093_114 l0 ?_
          refine hs_dup ci_2093_115 rfl ?_
          refine hs_gfi 48 ci_2093_116 (by decide +kernel) hp ?_
          refine hs_iconst ci_2093_119 ?_
          refine hs_iadd ci_2093_120 ?_
          have ej8 : (hv j2 182 48).toInt = 1 + (F.length : Int) := by
            rw [w2.v, if_neg (fun q => absurd q.2 (by decide)), w1.v, if_neg (fun q => absurd q.1 (by decide))]
            exact dd3.1
          have e8z : (hv j2 182 48 + Int32.ofInt 1).toInt = 2 + (F.length : Int) := (i32_add ej8 (b := 1) rfl (by omega) (by omega)).trans (by omega)
          refine hs_pfi 48 (-2147483648) (2147483647) ci_2093_121 (by decide +kernel) hp (ab_ige _) (ab_ile _) ?_
          intro j3 w3
          replace hp := w3.1
          have f4 : ab_fr M3 j3 h3 := (w3.fr rfl).tr ((w2.fr rfl).tr (w1.fr (ab_inr_up (k1 := 0) (k2 := 44) rfl (by omega) (by omega))))
          have q4 : ab_hp j3 := ⟨hp, q3.2.fr (M := M3) (by decide +kernel) f4⟩
          have s4 : S5 j3 c (t + 1) (n + 1) 0 0 := s3.pushB w1 w2 w3 e5
          have r4 : rt B n0 lim tk ta P j3 (j + 1) := r3.fr f4 (fun _ => rfl) ⟨rfl, rfl, rfl, rfl, rfl, rfl, rfl⟩
          refine hs_iconst ci_2093_124 ?_
          have hNt := iw_1 hx1 b77
          have kk : ss_k (tk j) = 2 := sk_2 hNt.1 hNt.2
          have dd4 : D5 j3 (t + 1) (false :: F) := dd3.pf w1 w2 w3 _ (Or.inl ⟨by decide, rfl⟩) e8z
          exact hs_k ⟨3, some (.int (Int32.ofInt 1)), by decide +kernel, rv_b rt_2093 (Or.inr (by decide)), q4, (fr_sub (by decide +kernel) f4).tr F3, _, rfl, Or.inl ⟨by decide, by omega, c, t + 1, j + 1, r4, Or.inl ⟨false :: F, rfl, s4, by omega, dd4, fun x => o_2 kk hn20 hF8⟩⟩⟩
      · simp only [hs_cd, ab_not] at b77
        refine hs_iload_n ci_2093_80 l2 ?_
        refine hs_if (t := 126) ci_2093_81 rfl (fun b81 => ?_) (fun b81 => ?_)
        · simp only [hs_cd, ab_not] at b81
          refine hs_aload_n ci_2093_126 l0 ?_
          refine hs_iconst ci_2093_127 ?_
          refine hs_pfi 49 (0) (1) ci_2093_128 (by decide +kernel) hp (by decide) (by decide) ?_
          intro h128 w128
          replace hp := w128.1
          have f4 : ab_fr [(182, 49, 49)] h128 h3 := w128.fr rfl
          have q4 : ab_hp h128 := ⟨hp, q3.2.fr (M := [(182, 49, 49)]) (by decide +kernel) f4⟩
          have s4 : S5 h128 c t (n + 1) 1 0 := s3.whole w128 rfl
          have dd4 : D5 h128 t F := dd3.fr f4 rfl (fun _ => rfl)
          have r4 : rt B n0 lim tk ta P h128 (j + 1) := r3.fr f4 (fun _ => rfl) ⟨rfl, rfl, rfl, rfl, rfl, rfl, rfl⟩
          have F4 : ab_fr MSN h128 h := (fr_sub (by decide +kernel) f4).tr F3
          have w4n : rwok h128 := w3n.fr f4 (fun _ => rfl)
          have N4 : RN h128 ps := N3.fr f4 rfl (fun _ => rfl)
          have hx30 : 0 ≤ x3.toInt := by
            rcases hx3 with z | z | z | z
            · exact z.1
            · omega
            · omega
            · exact absurd (sk_0 (iw_0 hx2 b81) (fun g => g.2.elim (fun y => iw_0 hx1 b77 ⟨g.1, y⟩) (fun y => z.2 ⟨g.1, y⟩))) kne
          have ewf : wf_d x3.toInt = 1 := by
            have z9 : x3.toInt ≤ 9 := by
              rcases hx3 with z | z | z | z
              · omega
              · omega
              · omega
              · omega
            unfold wf_d
            rw [if_neg (by omega), if_neg (by omega), if_neg (by omega)]
          refine hs_iload_n ci_2093_131 l3 ?_
          refine hs_iconst ci_2093_132 ?_
          refine hs_ic (t := 145) ci_2093_133 rfl (fun b133 => ?_) (fun b133 => ?_)
          · simp only [hs_cd, ab_not, kI_5] at b133
            refine hs_iload_n ci_2093_145 l3 ?_
            refine hs_bipush ci_2093_146 ?_
            refine hs_ic (t := 183) ci_2093_148 rfl (fun b148 => ?_) (fun b148 => ?_)
            · simp only [hs_cd, ab_not, kB_7] at b148
              have rk4 := rs_k r4.2.2.2.2
              have k3 := rk4.2.2.1
              have kv := rk4.2.2.2.2.2.1
              refine hs_aload_n ci_2093_183 l0 ?_
              refine hs_gfi 11 ci_2093_184 (by decide +kernel) hp ?_
              refine hs_iconst ci_2093_187 ?_
              refine hs_ic (t := 209) ci_2093_188 rfl (fun b188 => ?_) (fun b188 => ?_)
              · simp only [hs_cd, ab_not, kI_3] at b188
                refine hs_aload_n ci_2093_209 l0 ?_
                refine hs_iconst ci_2093_210 ?_
                refine hs_cv 1687 11 1 ci_2093_211 (by decide +kernel) (by decide +kernel) hp rfl (by rw [ml_1687]; rfl) (m_bad (Int32.ofInt 1) (by decide) q4 r4) ?_
                rintro v9 h5 ⟨r5, e8, hr5, q5, f5, g5⟩
                rw [e8]
                clear e8 v9
                replace hp := q5.1
                rw [kI_1] at g5
                simp only [Option.toList, List.cons_append, List.nil_append]
                have kk : ss_k (tk j) = 5 := by
                  rcases hx3 with z | z | z | z
                  · omega
                  · omega
                  · exact sk_5 z.2.2.1 z.2.2.2
                  · omega
                have hsg : ¬ ((tk (j + 1)).1 = 2 ∧ 60 ≤ (tk (j + 1)).2.1 ∧ (tk (j + 1)).2.1 ≤ 62) := by
                  intro z
                  have z1 := k3.mpr z.1
                  have z2 := kv z.1
                  omega
                exact hs_k ⟨3, some (.int r5), by decide +kernel, rv_b rt_2093 (Or.inl hr5), q5, (fr_sub (by decide +kernel) f5).tr F4, _, rfl, Or.inr ⟨hr5, 1, ta (j + 1), g5, fun x => o_5s kk hn20 hF8 hsg⟩⟩
              · simp only [hs_cd, ab_not, kI_3] at b188
                refine hs_aload_n ci_2093_191 l0 ?_
                refine hs_gfi 14 ci_2093_192 (by decide +kernel) hp ?_
                refine hs_bipush ci_2093_195 ?_
                refine hs_ic (t := 209) ci_2093_197 rfl (fun b197 => ?_) (fun b197 => ?_)
                · simp only [hs_cd, ab_not, kB_60] at b197
                  refine hs_aload_n ci_2093_209 l0 ?_
                  refine hs_iconst ci_2093_210 ?_
                  refine hs_cv 1687 11 1 ci_2093_211 (by decide +kernel) (by decide +kernel) hp rfl (by rw [ml_1687]; rfl) (m_bad (Int32.ofInt 1) (by decide) q4 r4) ?_
                  rintro v9 h5 ⟨r5, e8, hr5, q5, f5, g5⟩
                  rw [e8]
                  clear e8 v9
                  replace hp := q5.1
                  rw [kI_1] at g5
                  simp only [Option.toList, List.cons_append, List.nil_append]
                  have kk : ss_k (tk j) = 5 := by
                    rcases hx3 with z | z | z | z
                    · omega
                    · omega
                    · exact sk_5 z.2.2.1 z.2.2.2
                    · omega
                  have hsg : ¬ ((tk (j + 1)).1 = 2 ∧ 60 ≤ (tk (j + 1)).2.1 ∧ (tk (j + 1)).2.1 ≤ 62) := by
                    intro z
                    have z1 := k3.mpr z.1
                    have z2 := kv z.1
                    omega
                  exact hs_k ⟨3, some (.int r5), by decide +kernel, rv_b rt_2093 (Or.inl hr5), q5, (fr_sub (by decide +kernel) f5).tr F4, _, rfl, Or.inr ⟨hr5, 1, ta (j + 1), g5, fun x => o_5s kk hn20 hF8 hsg⟩⟩
                · simp only [hs_cd, ab_not, kB_60] at b197
                  refine hs_aload_n ci_2093_200 l0 ?_
                  refine hs_gfi 14 ci_2093_201 (by decide +kernel) hp ?_
                  refine hs_bipush ci_2093_204 ?_
                  refine hs_ic (t := 215) ci_2093_206 rfl (fun b206 => ?_) (fun b206 => ?_)
                  · simp only [hs_cd, ab_not, kB_62] at b206
                    refine hs_aload_n ci_2093_215 l0 ?_
                    refine hs_gfi 14 ci_2093_216 (by decide +kernel) hp ?_
                    refine hs_istore2 ci_2093_219 (by decide +kernel) ?_
                    intro ls9 q9
                    replace l0 := q9.2 0 _ (by decide) (Or.inl rfl) l0
                    replace l1 := q9.2 1 _ (by decide) (Or.inl rfl) l1
                    replace l2 := q9.2 2 _ (by decide) (Or.inl rfl) l2
                    replace l3 := q9.2 3 _ (by decide) (Or.inl rfl) l3
                    have l4 := q9.1
                    clear q9
                    refine hs_aload_n ci_2093_221 l0 ?_
                    refine hs_cv 1658 11 0 ci_2093_222 (by decide +kernel) (by decide +kernel) hp rfl (by rw [ml_1658]; rfl) (m_next ts q4 r4) ?_
                    rintro v9 h5 ⟨e8, q5, f5, r5⟩
                    rw [e8]
                    clear e8 v9
                    replace hp := q5.1
                    simp only [Option.toList, List.nil_append]
                    have rk5 := rs_k r5.2.2.2.2
                    have s5 : S5 h5 c t (n + 1) 1 0 := s4.fr f5 ⟨rfl, rfl, rfl, rfl⟩ (fun _ => rfl) (fun _ => rfl)
                    have dd5 : D5 h5 t F := dd4.fr f5 rfl (fun _ => rfl)
                    refine hs_aload_n ci_2093_225 l0 ?_
                    refine hs_gfi 11 ci_2093_226 (by decide +kernel) hp ?_
                    refine hs_iconst ci_2093_229 ?_
                    refine hs_ic (t := 239) ci_2093_230 rfl (fun b230 => ?_) (fun b230 => ?_)
                    · simp only [hs_cd, ab_not, kI_2] at b230
                      refine hs_aload_n ci_2093_239 l0 ?_
                      refine hs_iload_n ci_2093_240 l3 ?_
                      refine hs_iload ci_2093_241 l4 ?_
                      refine hs_aload_n ci_2093_243 l0 ?_
                      refine hs_gfi 14 ci_2093_244 (by decide +kernel) hp ?_
                      refine hs_cv 2081 11 3 ci_2093_247 (by decide +kernel) (by decide +kernel) hp rfl (by rw [ml_2081]; rfl) (c_code _ _ _ s5 (by omega) (fun q => absurd ewf (by rw [q]; decide)) (fun q => absurd ewf (by rcases q with q | q <;> rw [q] <;> decide)) q5) ?_
                      rintro v9 h6 ⟨q6, f6, s6, e8⟩
                      rw [e8]
                      clear e8 v9
                      replace hp := q6.1
                      rw [ewf] at s6
                      have dd6 : D5 h6 t F := dd5.fr f6 rfl (fun _ => rfl)
                      have r6 : rt B n0 lim tk ta P h6 (j + 1 + 1) := r5.fr f6 (fun _ => rfl) ⟨rfl, rfl, rfl, rfl, rfl, rfl, rfl⟩
                      simp only [Option.toList, List.nil_append]
                      refine hs_aload_n ci_2093_250 l0 ?_
                      refine hs_cv 1658 11 0 ci_2093_251 (by decide +kernel) (by decide +kernel) hp rfl (by rw [ml_1658]; rfl) (m_next ts q6 r6) ?_
                      rintro v9 h7 ⟨e8, q7, f7, r7⟩
                      rw [e8]
                      clear e8 v9
                      replace hp := q7.1
                      simp only [Option.toList, List.nil_append]
                      refine hs_iconst ci_2093_254 ?_
                      have kk : ss_k (tk j) = 5 := by
                        rcases hx3 with z | z | z | z
                        · omega
                        · omega
                        · exact sk_5 z.2.2.1 z.2.2.2
                        · omega
                      have z1 := k3.mp b188
                      have z2 := kv z1
                      have hsg : (tk (j + 1)).1 = 2 ∧ 60 ≤ (tk (j + 1)).2.1 ∧ (tk (j + 1)).2.1 ≤ 62 := ⟨z1, by omega, by omega⟩
                      exact hs_k ⟨3, some (.int (Int32.ofInt 1)), by decide +kernel, rv_b rt_2093 (Or.inr (by decide)), q7, (fr_sub (by decide +kernel) f7).tr ((fr_sub (by decide +kernel) f6).tr ((fr_sub (by decide +kernel) f5).tr F4)), _, rfl, Or.inl ⟨by decide, by omega, c + 1, t, j + 3, r7, Or.inr ⟨s6.fr f7 ⟨rfl, rfl, rfl, rfl⟩ (fun _ => rfl) (fun _ => rfl), by omega, dd6.fr f7 rfl (fun _ => rfl), fun x => o_5 kk hn20 hF8 hsg (nm_99 ts (rk5.2.1.mp b230))⟩⟩⟩
                    · simp only [hs_cd, ab_not, kI_2] at b230
                      refine hs_aload_n ci_2093_233 l0 ?_
                      refine hs_iconst ci_2093_234 ?_
                      refine hs_cv 1687 11 1 ci_2093_235 (by decide +kernel) (by decide +kernel) hp rfl (by rw [ml_1687]; rfl) (m_bad (Int32.ofInt 1) (by decide) q5 r5) ?_
                      rintro v9 h6 ⟨r6, e8, hr6, q6, f6, g6⟩
                      rw [e8]
                      clear e8 v9
                      replace hp := q6.1
                      rw [kI_1] at g6
                      simp only [Option.toList, List.cons_append, List.nil_append]
                      have kk : ss_k (tk j) = 5 := by
                        rcases hx3 with z | z | z | z
                        · omega
                        · omega
                        · exact sk_5 z.2.2.1 z.2.2.2
                        · omega
                      have z1 := k3.mp b188
                      have z2 := kv z1
                      have hsg : (tk (j + 1)).1 = 2 ∧ 60 ≤ (tk (j + 1)).2.1 ∧ (tk (j + 1)).2.1 ≤ 62 := ⟨z1, by omega, by omega⟩
                      exact hs_k ⟨3, some (.int r6), by decide +kernel, rv_b rt_2093 (Or.inl hr6), q6, (fr_sub (by decide +kernel) f6).tr ((fr_sub (by decide +kernel) f5).tr F4), _, rfl, Or.inr ⟨hr6, 1, ta (j + 2), g6, fun x => o_5e kk hn20 hF8 hsg (nm_9e (fun z => b230 (rk5.2.1.mpr z)))⟩⟩
                  · simp only [hs_cd, ab_not, kB_62] at b206
                    refine hs_aload_n ci_2093_209 l0 ?_
                    refine hs_iconst ci_2093_210 ?_
                    refine hs_cv 1687 11 1 ci_2093_211 (by decide +kernel) (by decide +kernel) hp rfl (by rw [ml_1687]; rfl) (m_bad (Int32.ofInt 1) (by decide) q4 r4) ?_
                    rintro v9 h5 ⟨r5, e8, hr5, q5, f5, g5⟩
                    rw [e8]
                    clear e8 v9
                    replace hp := q5.1
                    rw [kI_1] at g5
                    simp only [Option.toList, List.cons_append, List.nil_append]
                    have kk : ss_k (tk j) = 5 := by
                      rcases hx3 with z | z | z | z
                      · omega
                      · omega
                      · exact sk_5 z.2.2.1 z.2.2.2
                      · omega
                    have hsg : ¬ ((tk (j + 1)).1 = 2 ∧ 60 ≤ (tk (j + 1)).2.1 ∧ (tk (j + 1)).2.1 ≤ 62) := by
                      intro z
                      have z1 := k3.mpr z.1
                      have z2 := kv z.1
                      omega
                    exact hs_k ⟨3, some (.int r5), by decide +kernel, rv_b rt_2093 (Or.inl hr5), q5, (fr_sub (by decide +kernel) f5).tr F4, _, rfl, Or.inr ⟨hr5, 1, ta (j + 1), g5, fun x => o_5s kk hn20 hF8 hsg⟩⟩
            · simp only [hs_cd, ab_not, kB_7] at b148
              refine hs_aload_n ci_2093_151 l0 ?_
              refine hs_iconst ci_2093_152 ?_
              refine hs_aload_n ci_2093_153 l0 ?_
              refine hs_gfr 6 184 ci_2093_154 (by decide +kernel) hp ?_
              refine hs_iconst ci_2093_157 ?_
              have g6 := gsl_b hp gq_0
              simp only at g6
              have hp4 := N4.1
              have hsf4 : ∀ a, tx_co a (hl h128 182 17).toInt → sf (fun q => (hl h128 187 (0 + q)).toInt) (hl h128 182 17).toInt (ps.1 4).toNat = sf (ps.2 0) a (ps.1 4).toNat := fun a ha => sf_same _ (fun q hq => by
                show (hl h128 187 (0 + q)).toInt = _ ↔ _
                rw [Nat.zero_add]
                exact (tx_co_one (N4.2 q (by omega)) ha).symm)
              refine hs_ial1 0 ci_2093_158 rfl gq_0 hp ?_
              refine hs_cv 1730 11 2 ci_2093_159 (by decide +kernel) (by decide +kernel) hp rfl (by rw [ml_1730]; rfl) (m_looks (ps := ps) (fr := 0) (many := (ps.1 4).toNat) (k := 0) (nn := 4) (by decide) (by rw [N4.1]; omega) (by omega) rfl hsf4 q4 w4n r4) ?_
              rintro v9 h5 ⟨q5, f5, rL, e8, hrL⟩
              rw [e8]
              clear e8 v9
              replace hp := q5.1
              simp only [Option.toList, List.cons_append, List.nil_append]
              refine hs_if (t := 167) ci_2093_162 rfl (fun b162 => ?_) (fun b162 => ?_)
              · simp only [hs_cd, ab_not] at b162
                obtain ⟨vL, yL, rt5⟩ : ∃ v, sp_old ps 0 4 (tk (j + 1)) (ta (j + 1)) = .inr v ∧ rt B n0 lim tk ta P h5 (j + 1) := by
                  rcases hrL with ⟨g, z1, -, -, z4⟩ | ⟨k, a, -, z2, -⟩
                  · exact ⟨g, z1, z4⟩
                  · omega
                have s5 : S5 h5 c t (n + 1) 1 0 := s4.fr f5 ⟨rfl, rfl, rfl, rfl⟩ (fun _ => rfl) (fun _ => rfl)
                have dd5 : D5 h5 t F := dd4.fr f5 rfl (fun _ => rfl)
                refine hs_aload_n ci_2093_167 l0 ?_
                refine hs_iload_n ci_2093_168 l3 ?_
                refine hs_iconst ci_2093_169 ?_
                refine hs_aload_n ci_2093_170 l0 ?_
                refine hs_gfi 18 ci_2093_171 (by decide +kernel) hp ?_
                refine hs_cv 2081 11 3 ci_2093_174 (by decide +kernel) (by decide +kernel) hp rfl (by rw [ml_2081]; rfl) (c_code _ _ _ s5 (by omega) (fun q => absurd ewf (by rw [q]; decide)) (fun q => absurd ewf (by rcases q with q | q <;> rw [q] <;> decide)) q5) ?_
                rintro v9 h6 ⟨q6, f6, s6, e8⟩
                rw [e8]
                clear e8 v9
                replace hp := q6.1
                rw [ewf] at s6
                have dd6 : D5 h6 t F := dd5.fr f6 rfl (fun _ => rfl)
                have r6 : rt B n0 lim tk ta P h6 (j + 1) := rt5.fr f6 (fun _ => rfl) ⟨rfl, rfl, rfl, rfl, rfl, rfl, rfl⟩
                simp only [Option.toList, List.nil_append]
                refine hs_aload_n ci_2093_177 l0 ?_
                refine hs_cv 1658 11 0 ci_2093_178 (by decide +kernel) (by decide +kernel) hp rfl (by rw [ml_1658]; rfl) (m_next ts q6 r6) ?_
                rintro v9 h7 ⟨e8, q7, f7, r7⟩
                rw [e8]
                clear e8 v9
                replace hp := q7.1
                simp only [Option.toList, List.nil_append]
                refine hs_iconst ci_2093_181 ?_
                have kk : ss_k (tk j) = 4 := by
                  rcases hx3 with z | z | z | z
                  · omega
                  · exact sk_4 z.2.2.1 z.2.2.2
                  · omega
                  · omega
                exact hs_k ⟨3, some (.int (Int32.ofInt 1)), by decide +kernel, rv_b rt_2093 (Or.inr (by decide)), q7, (fr_sub (by decide +kernel) f7).tr ((fr_sub (by decide +kernel) f6).tr ((fr_sub (by decide +kernel) f5).tr F4)), _, rfl, Or.inl ⟨by decide, by omega, c + 1, t, j + 2, r7, Or.inr ⟨s6.fr f7 ⟨rfl, rfl, rfl, rfl⟩ (fun _ => rfl) (fun _ => rfl), by omega, dd6.fr f7 rfl (fun _ => rfl), fun x => o_4 kk hn20 hF8 yL⟩⟩⟩
              · simp only [hs_cd, ab_not] at b162
                refine hs_iconst ci_2093_165 ?_
                have kk : ss_k (tk j) = 4 := by
                  rcases hx3 with z | z | z | z
                  · omega
                  · exact sk_4 z.2.2.1 z.2.2.2
                  · omega
                  · omega
                rcases hrL with ⟨g, -, z2, -⟩ | ⟨k, a, z1, z2, z3⟩
                · omega
                · exact hs_k ⟨3, some (.int (Int32.ofInt 0)), by decide +kernel, rv_b rt_2093 (Or.inl (by decide)), q5, (fr_sub (by decide +kernel) f5).tr F4, _, rfl, Or.inr ⟨(by decide), k, a, z3, fun x => o_4e kk hn20 hF8 z1⟩⟩
          · simp only [hs_cd, ab_not, kI_5] at b133
            refine hs_aload_n ci_2093_136 l0 ?_
            refine hs_iload_n ci_2093_137 l3 ?_
            refine hs_iconst ci_2093_138 ?_
            refine hs_iconst ci_2093_139 ?_
            refine hs_cv 2081 11 3 ci_2093_140 (by decide +kernel) (by decide +kernel) hp rfl (by rw [ml_2081]; rfl) (c_code _ _ _ s4 (by omega) (fun q => absurd ewf (by rw [q]; decide)) (fun q => absurd ewf (by rcases q with q | q <;> rw [q] <;> decide)) q4) ?_
            rintro v9 h5 ⟨q5, f5, s5, e8⟩
            rw [e8]
            clear e8 v9
            replace hp := q5.1
            rw [ewf] at s5
            have dd5 : D5 h5 t F := dd4.fr f5 rfl (fun _ => rfl)
            have r5 : rt B n0 lim tk ta P h5 (j + 1) := r4.fr f5 (fun _ => rfl) ⟨rfl, rfl, rfl, rfl, rfl, rfl, rfl⟩
            simp only [Option.toList, List.nil_append]
            refine hs_iconst ci_2093_143 ?_
            have kk : ss_k (tk j) = 3 := by
              rcases hx3 with z | z | z | z
              · exact sk_3 z.2.2.1 z.2.2.2
              · omega
              · omega
              · omega
            exact hs_k ⟨3, some (.int (Int32.ofInt 1)), by decide +kernel, rv_b rt_2093 (Or.inr (by decide)), q5, (fr_sub (by decide +kernel) f5).tr F4, _, rfl, Or.inl ⟨by decide, by omega, c + 1, t, j + 1, r5, Or.inr ⟨s5, by omega, dd5, fun x => o_3 kk hn20 hF8⟩⟩⟩
        · simp only [hs_cd, ab_not] at b81
          refine hs_aload_n ci_2093_84 l0 ?_
          refine hs_gfr 44 199 ci_2093_85 (by decide +kernel) hp ?_
          refine hs_aload_n ci_2093_88 l0 ?_
          refine hs_gfi 47 ci_2093_89 (by decide +kernel) hp ?_
          refine hs_iload_n ci_2093_92 l1 ?_
          refine hs_if (t := 101) ci_2093_93 rfl (fun b93 => ?_) (fun b93 => ?_)
          · simp only [hs_cd, ab_not] at b93
            refine hs_bipush ci_2093_101 ?_
            refine hs_ias1 (0 + t) ci_2093_103 (s3.2.1.trans (by omega)) (ckq_v gq_sk t (by omega)) hp (ab_ige _) (ab_ile _) ?_
            intro j1 w1
            replace hp := w1.1
            have ejt : hv j1 182 47 = hv h3 182 47 := by rw [w1.v, if_neg (fun q => absurd q.1 (by decide))]
            have e5 : (hv j1 182 47 + Int32.ofInt 1).toInt = ((t + 1 : Nat) : Int) := by rw [ejt]; exact (i32_add s3.2.1 (b := 1) rfl (by omega) (by omega)).trans (by omega)
            refine hs_aload_n ci_2093_104 l0 ?_
            refine hs_dup ci_2093_105 rfl ?_
            refine hs_gfi 47 ci_2093_106 (by decide +kernel) hp ?_
            refine hs_iconst ci_2093_109 ?_
            refine hs_iadd ci_2093_110 ?_
            refine hs_pfi 47 0 45 ci_2093_111 (by decide +kernel) hp (by rw [e5]; omega) (by rw [e5]; omega) ?_
            intro j2 w2
            replace hp := w2.1
            refine hs_aload_n ci_2093_114 l0 ?_
            refine hs_dup ci_2093_115 rfl ?_
            refine hs_gfi 48 ci_2093_116 (by decide +kernel) hp ?_
            refine hs_iconst ci_2093_119 ?_
            refine hs_iadd ci_2093_120 ?_
            have ej8 : (hv j2 182 48).toInt = 1 + (F.length : Int) := by
              rw [w2.v, if_neg (fun q => absurd q.2 (by decide)), w1.v, if_neg (fun q => absurd q.1 (by decide))]
              exact dd3.1
            have e8z : (hv j2 182 48 + Int32.ofInt 1).toInt = 2 + (F.length : Int) := (i32_add ej8 (b := 1) rfl (by omega) (by omega)).trans (by omega)
            refine hs_pfi 48 (-2147483648) (2147483647) ci_2093_121 (by decide +kernel) hp (ab_ige _) (ab_ile _) ?_
            intro j3 w3
            replace hp := w3.1
            have f4 : ab_fr M3 j3 h3 := (w3.fr rfl).tr ((w2.fr rfl).tr (w1.fr (ab_inr_up (k1 := 0) (k2 := 44) rfl (by omega) (by omega))))
            have q4 : ab_hp j3 := ⟨hp, q3.2.fr (M := M3) (by decide +kernel) f4⟩
            have s4 : S5 j3 c (t + 1) (n + 1) 0 0 := s3.pushB w1 w2 w3 e5
            have r4 : rt B n0 lim tk ta P j3 (j + 1) := r3.fr f4 (fun _ => rfl) ⟨rfl, rfl, rfl, rfl, rfl, rfl, rfl⟩
            refine hs_iconst ci_2093_124 ?_
            have hOt := iw_1 hx2 b81
            have kk : ss_k (tk j) = 1 := sk_1 hOt.1 hOt.2
            have dd4 : D5 j3 (t + 1) (true :: F) := dd3.pf w1 w2 w3 _ (Or.inr ⟨by decide, rfl⟩) e8z
            exact hs_k ⟨3, some (.int (Int32.ofInt 1)), by decide +kernel, rv_b rt_2093 (Or.inr (by decide)), q4, (fr_sub (by decide +kernel) f4).tr F3, _, rfl, Or.inl ⟨by decide, by omega, c, t + 1, j + 1, r4, Or.inl ⟨true :: F, rfl, s4, by omega, dd4, fun x => o_1 kk hn20 hF8⟩⟩⟩
          · simp only [hs_cd, ab_not] at b93
            refine hs_bipush ci_2093_96 ?_
            refine hs_goto (t := 103) ci_2093_98 rfl ?_
            refine hs_ias1 (0 + t) ci_2093_103 (s3.2.1.trans (by omega)) (ckq_v gq_sk t (by omega)) hp (ab_ige _) (ab_ile _) ?_
            intro j1 w1
            replace hp := w1.1
            have ejt : hv j1 182 47 = hv h3 182 47 := by rw [w1.v, if_neg (fun q => absurd q.1 (by decide))]
            have e5 : (hv j1 182 47 + Int32.ofInt 1).toInt = ((t + 1 : Nat) : Int) := by rw [ejt]; exact (i32_add s3.2.1 (b := 1) rfl (by omega) (by omega)).trans (by omega)
            refine hs_aload_n ci_2093_104 l0 ?_
            refine hs_dup ci_2093_105 rfl ?_
            refine hs_gfi 47 ci_2093_106 (by decide +kernel) hp ?_
            refine hs_iconst ci_2093_109 ?_
            refine hs_iadd ci_2093_110 ?_
            refine hs_pfi 47 0 45 ci_2093_111 (by decide +kernel) hp (by rw [e5]; omega) (by rw [e5]; omega) ?_
            intro j2 w2
            replace hp := w2.1
            refine hs_aload_n ci_2093_114 l0 ?_
            refine hs_dup ci_2093_115 rfl ?_
            refine hs_gfi 48 ci_2093_116 (by decide +kernel) hp ?_
            refine hs_iconst ci_2093_119 ?_
            refine hs_iadd ci_2093_120 ?_
            have ej8 : (hv j2 182 48).toInt = 1 + (F.length : Int) := by
              rw [w2.v, if_neg (fun q => absurd q.2 (by decide)), w1.v, if_neg (fun q => absurd q.1 (by decide))]
              exact dd3.1
            have e8z : (hv j2 182 48 + Int32.ofInt 1).toInt = 2 + (F.length : Int) := (i32_add ej8 (b := 1) rfl (by omega) (by omega)).trans (by omega)
            refine hs_pfi 48 (-2147483648) (2147483647) ci_2093_121 (by decide +kernel) hp (ab_ige _) (ab_ile _) ?_
            intro j3 w3
            replace hp := w3.1
            have f4 : ab_fr M3 j3 h3 := (w3.fr rfl).tr ((w2.fr rfl).tr (w1.fr (ab_inr_up (k1 := 0) (k2 := 44) rfl (by omega) (by omega))))
            have q4 : ab_hp j3 := ⟨hp, q3.2.fr (M := M3) (by decide +kernel) f4⟩
            have s4 : S5 j3 c (t + 1) (n + 1) 0 0 := s3.pushB w1 w2 w3 e5
            have r4 : rt B n0 lim tk ta P j3 (j + 1) := r3.fr f4 (fun _ => rfl) ⟨rfl, rfl, rfl, rfl, rfl, rfl, rfl⟩
            refine hs_iconst ci_2093_124 ?_
            omega
    · simp only [hs_cd, ab_not, kB_8] at b53
      refine hs_aload_n ci_2093_56 l0 ?_
      refine hs_iconst ci_2093_57 ?_
      refine hs_cv 1687 11 1 ci_2093_58 (by decide +kernel) (by decide +kernel) hp rfl (by rw [ml_1687]; rfl) (m_bad (Int32.ofInt 4) (by decide) q1 r1) ?_
      rintro v9 h2 ⟨r2, e8, hr2, q2, f2, g2⟩
      rw [e8]
      clear e8 v9
      replace hp := q2.1
      rw [kI_4] at g2
      simp only [Option.toList, List.cons_append, List.nil_append]
      exact hs_k ⟨3, some (.int r2), by decide +kernel, rv_b rt_2093 (Or.inl hr2), q2, (fr_sub (by decide +kernel) f2).tr hf, _, rfl, Or.inr ⟨hr2, 4, ta j, g2, fun x => o_f kne (by omega)⟩⟩
theorem m_opd {c t n : Nat} {F : List Bool} (ts : TS B n0 lim tk ta P) (hn : n ≤ 20) (hct : c + t ≤ 2 * n) (hq : ab_hp h) (hw : rwok h) (hN : RN h ps) (hr : rt B n0 lim tk ta P h j) (s0 : S5 h c t n 0 0) (dd0 : D5 h t F) : mc sc sp 2093 11 (d + 1 + 1) [.ref 182] h (od_P B n0 lim tk ta P ps h n j F) := by
  have l0 : eg_find 0 (eg_args 0 [.ref 182]) = some (.ref 182) := rfl
  have hp := hq.1
  unfold mc
  refine hs_aload_n ci_2093_0 l0 ?_
  refine hs_ldc2v (7237492) ci_2093_1 (by decide +kernel) ?_
  refine hs_cv 1676 11 1 ci_2093_4 (by decide +kernel) (by decide +kernel) hp rfl (by rw [ml_1676]; rfl) (m_isW _ hq hr) ?_
  rintro v9 h9 ⟨e9, rW4, e8, hrW4⟩
  rw [e8, e9]
  clear e8 e9 v9 h9
  replace hrW4 := iw_c (wd_iff hr wco_13 (by decide +kernel)) hrW4
  simp only [Option.toList, List.cons_append, List.nil_append]
  refine hs_istore2_n ci_2093_7 (by decide +kernel) ?_
  intro ls9 q9
  replace l0 := q9.2 0 _ (by decide) (Or.inl rfl) l0
  have l1 := q9.1
  clear q9
  refine hs_aload_n ci_2093_8 l0 ?_
  refine hs_bipush ci_2093_9 ?_
  refine hs_cv 1738 11 1 ci_2093_11 (by decide +kernel) (by decide +kernel) hp rfl (by rw [ml_1738]; rfl) (m_isG _ hq hr) ?_
  rintro v9 h9 ⟨e9, rG11, e8, hrG11⟩
  rw [e8, e9]
  clear e8 e9 v9 h9
  rw [kB_40] at hrG11
  simp only [Option.toList, List.cons_append, List.nil_append]
  refine hs_istore2_n ci_2093_14 (by decide +kernel) ?_
  intro ls9 q9
  replace l0 := q9.2 0 _ (by decide) (Or.inl rfl) l0
  replace l1 := q9.2 1 _ (by decide) (Or.inl rfl) l1
  have l2 := q9.1
  clear q9
  refine hs_aload_n ci_2093_15 l0 ?_
  refine hs_cv 2097 11 0 ci_2093_16 (by decide +kernel) (by decide +kernel) hp rfl (by rw [ml_2097]; rfl) (m_leaf hq hr) ?_
  rintro v9 h9 ⟨e9, rF, e8, hrF⟩
  rw [e8, e9]
  clear e8 e9 v9 h9
  simp only [Option.toList, List.cons_append, List.nil_append]
  refine hs_istore2_n ci_2093_19 (by decide +kernel) ?_
  intro ls9 q9
  replace l0 := q9.2 0 _ (by decide) (Or.inl rfl) l0
  replace l1 := q9.2 1 _ (by decide) (Or.inl rfl) l1
  replace l2 := q9.2 2 _ (by decide) (Or.inl rfl) l2
  have l3 := q9.1
  clear q9
  refine hs_iload_n ci_2093_20 l1 ?_
  refine hs_if (t := 38) ci_2093_21 rfl (fun b21 => ?_) (fun b21 => ?_)
  · simp only [hs_cd, ab_not] at b21
    exact od_38 ts hn hct hq hw hN hr s0 dd0 ab_fr.rf hrW4 hrG11 hrF (by rw [sk_2 (iw_1 hrW4 b21).1 (iw_1 hrW4 b21).2]; decide) l0 l1 l2 l3
  · simp only [hs_cd, ab_not] at b21
    refine hs_iload_n ci_2093_24 l2 ?_
    refine hs_if (t := 38) ci_2093_25 rfl (fun b25 => ?_) (fun b25 => ?_)
    · simp only [hs_cd, ab_not] at b25
      exact od_38 ts hn hct hq hw hN hr s0 dd0 ab_fr.rf hrW4 hrG11 hrF (by rw [sk_1 (iw_1 hrG11 b25).1 (iw_1 hrG11 b25).2]; decide) l0 l1 l2 l3
    · simp only [hs_cd, ab_not] at b25
      refine hs_iload_n ci_2093_28 l3 ?_
      refine hs_if (t := 38) ci_2093_29 rfl (fun b29 => ?_) (fun b29 => ?_)
      · simp only [hs_cd, ab_not] at b29
        exact od_38 ts hn hct hq hw hN hr s0 dd0 ab_fr.rf hrW4 hrG11 hrF (by
          rcases hrF with z | z | z | z
          · rw [sk_3 z.2.2.1 z.2.2.2]; decide
          · rw [sk_4 z.2.2.1 z.2.2.2]; decide
          · rw [sk_5 z.2.2.1 z.2.2.2]; decide
          · omega) l0 l1 l2 l3
      · simp only [hs_cd, ab_not] at b29
        refine hs_aload_n ci_2093_32 l0 ?_
        refine hs_iconst ci_2093_33 ?_
        refine hs_cv 1687 11 1 ci_2093_34 (by decide +kernel) (by decide +kernel) hp rfl (by rw [ml_1687]; rfl) (m_bad (Int32.ofInt 1) (by decide) hq hr) ?_
        rintro v9 h2 ⟨r2, e8, hr2, q2, f2, g2⟩
        rw [e8]
        clear e8 v9
        replace hp := q2.1
        rw [kI_1] at g2
        simp only [Option.toList, List.cons_append, List.nil_append]
        have kk : ss_k (tk j) = 0 := by
          rcases hrF with z | z | z | z
          · omega
          · omega
          · omega
          · exact sk_0 (iw_0 hrG11 b25) (fun g => g.2.elim (fun y => iw_0 hrW4 b21 ⟨g.1, y⟩) (fun y => z.2 ⟨g.1, y⟩))
        exact hs_k ⟨3, some (.int r2), by decide +kernel, rv_b rt_2093 (Or.inl hr2), q2, fr_sub (by decide +kernel) f2, r2, rfl, Or.inr ⟨hr2, 1, ta j, g2, fun x => o_0 kk⟩⟩
end RS
