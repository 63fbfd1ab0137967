/-! BY HAND: a SENTENCE in both -/
theorem ci_1242_0 : ab_at 1242 0 (.aload_n 0) 1 = true := by decide +kernel
theorem ci_1242_1 : ab_at 1242 1 (.getfield 24) 3 = true := by decide +kernel
theorem ci_1242_4 : ab_at 1242 4 (.sipush 200) 3 = true := by decide +kernel
theorem ci_1242_7 : ab_at 1242 7 (.invokevirtual 117) 3 = true := by decide +kernel
theorem ci_1242_10 : ab_at 1242 10 (.aload_n 0) 1 = true := by decide +kernel
theorem ci_1242_11 : ab_at 1242 11 (.getfield 86) 3 = true := by decide +kernel
theorem ci_1242_14 : ab_at 1242 14 (.invokevirtual 337) 3 = true := by decide +kernel
theorem ci_1242_17 : ab_at 1242 17 (.istore_n 1) 1 = true := by decide +kernel
theorem ci_1242_18 : ab_at 1242 18 (.aload_n 0) 1 = true := by decide +kernel
theorem ci_1242_19 : ab_at 1242 19 (.invokevirtual 124) 3 = true := by decide +kernel
theorem ci_1242_22 : ab_at 1242 22 (.iload_n 1) 1 = true := by decide +kernel
theorem ci_1242_23 : ab_at 1242 23 (.ifCond .ne 13) 3 = true := by decide +kernel
theorem ci_1242_26 : ab_at 1242 26 (.iconst (-1)) 1 = true := by decide +kernel
theorem ci_1242_27 : ab_at 1242 27 (.aload_n 0) 1 = true := by decide +kernel
theorem ci_1242_28 : ab_at 1242 28 (.getfield 24) 3 = true := by decide +kernel
theorem ci_1242_31 : ab_at 1242 31 (.getfield 127) 3 = true := by decide +kernel
theorem ci_1242_34 : ab_at 1242 34 (.isub) 1 = true := by decide +kernel
theorem ci_1242_36 : ab_at 1242 36 (.aload_n 0) 1 = true := by decide +kernel
theorem ci_1242_37 : ab_at 1242 37 (.getfield 79) 3 = true := by decide +kernel
theorem ci_1242_40 : ab_at 1242 40 (.aload_n 0) 1 = true := by decide +kernel
theorem ci_1242_41 : ab_at 1242 41 (.getfield 86) 3 = true := by decide +kernel
theorem ci_1242_44 : ab_at 1242 44 (.getfield 338) 3 = true := by decide +kernel
theorem ci_1242_47 : ab_at 1242 47 (.invokevirtual 340) 3 = true := by decide +kernel
theorem ci_1242_50 : ab_at 1242 50 (.aload_n 0) 1 = true := by decide +kernel
theorem ci_1242_51 : ab_at 1242 51 (.getfield 86) 3 = true := by decide +kernel
theorem ci_1242_54 : ab_at 1242 54 (.getfield 343) 3 = true := by decide +kernel
theorem ci_2073_0 : ab_at 2073 0 (.aload_n 0) 1 = true := by decide +kernel
theorem ci_2073_1 : ab_at 2073 1 (.iconst 0) 1 = true := by decide +kernel
theorem ci_2073_2 : ab_at 2073 2 (.putfield 1) 3 = true := by decide +kernel
theorem ci_2073_5 : ab_at 2073 5 (.aload_n 0) 1 = true := by decide +kernel
theorem ci_2073_6 : ab_at 2073 6 (.sipush 200) 3 = true := by decide +kernel
theorem ci_2073_9 : ab_at 2073 9 (.invokevirtual 243) 3 = true := by decide +kernel
theorem ci_2073_12 : ab_at 2073 12 (.aload_n 0) 1 = true := by decide +kernel
theorem ci_2073_13 : ab_at 2073 13 (.iconst 0) 1 = true := by decide +kernel
theorem ci_2073_14 : ab_at 2073 14 (.putfield 175) 3 = true := by decide +kernel
theorem ci_2073_17 : ab_at 2073 17 (.aload_n 0) 1 = true := by decide +kernel
theorem ci_2073_18 : ab_at 2073 18 (.iconst 0) 1 = true := by decide +kernel
theorem ci_2073_19 : ab_at 2073 19 (.putfield 446) 3 = true := by decide +kernel
theorem ci_2073_22 : ab_at 2073 22 (.aload_n 0) 1 = true := by decide +kernel
theorem ci_2073_23 : ab_at 2073 23 (.iconst 0) 1 = true := by decide +kernel
theorem ci_2073_24 : ab_at 2073 24 (.putfield 462) 3 = true := by decide +kernel
theorem ci_2073_27 : ab_at 2073 27 (.aload_n 0) 1 = true := by decide +kernel
theorem ci_2073_28 : ab_at 2073 28 (.iconst 0) 1 = true := by decide +kernel
theorem ci_2073_29 : ab_at 2073 29 (.putfield 449) 3 = true := by decide +kernel
theorem ci_2073_32 : ab_at 2073 32 (.aload_n 0) 1 = true := by decide +kernel
theorem ci_2073_33 : ab_at 2073 33 (.iconst 1) 1 = true := by decide +kernel
theorem ci_2073_34 : ab_at 2073 34 (.putfield 456) 3 = true := by decide +kernel
theorem ci_2073_37 : ab_at 2073 37 (.aload_n 0) 1 = true := by decide +kernel
theorem ci_2073_38 : ab_at 2073 38 (.iconst 0) 1 = true := by decide +kernel
theorem ci_2073_39 : ab_at 2073 39 (.putfield 465) 3 = true := by decide +kernel
theorem ci_2073_42 : ab_at 2073 42 (.aload_n 0) 1 = true := by decide +kernel
theorem ci_2073_43 : ab_at 2073 43 (.invokevirtual 187) 3 = true := by decide +kernel
theorem ci_2073_46 : ab_at 2073 46 (.iconst 1) 1 = true := by decide +kernel
theorem ci_2073_47 : ab_at 2073 47 (.istore_n 1) 1 = true := by decide +kernel
theorem ci_2073_176 : ab_at 2073 176 (.aload_n 0) 1 = true := by decide +kernel
theorem ci_2073_177 : ab_at 2073 177 (.getfield 462) 3 = true := by decide +kernel
theorem ml_1246 : (eg_md 1246).2.2.1 = 1 := by decide +kernel
theorem ml_1297 : (eg_md 1297).2.2.1 = 3 := by decide +kernel
theorem sn_fin2 {sc : List Value} {sp d : Nat} {h0 h : eg_H} {c n : Nat} (s5 : S5 h c 0 n 1 1) (hp : ab_hp h) (hf : ab_fr MZS h h0) {ls : eg_L} (l0 : eg_find 0 ls = some (.ref 182)) (l1 : eg_find 1 ls = some (.int (Int32.ofInt 0))) : hs sc sp 2073 11 d (fun pc' ls' st' h' => pc' = 176 ∧ st' = [] ∧ eg_find 0 ls' = some (.ref 182) ∧ ab_hp h' ∧ ab_fr MZS h' h0 ∧ ∀ a k, ¬ a = 184 → ab_slot h' a k = ab_slot h a k) 98 ls [] h := by
  have e00 : (Int32.ofInt 0).toInt = 0 := rfl
  refine hs_goto (t := 48) ci_2073_98 rfl ?_
  refine hs_iload_n ci_2073_48 l1 ?_
  refine hs_if (t := 132) ci_2073_49 rfl (fun b49 => ?_) (fun b49 => ?_)
  · simp only [hs_cd, ab_not] at b49
    refine hs_aload_n ci_2073_132 l0 ?_
    refine hs_gfr 6 184 ci_2073_133 (by decide +kernel) hp.1 ?_
    refine hs_bipush ci_2073_136 ?_
    refine hs_aload_n ci_2073_138 l0 ?_
    refine hs_gfi 45 ci_2073_139 (by decide +kernel) hp.1 ?_
    have g45 := (gf_182 hp.1).1
    refine hs_ias1 126 ci_2073_142 rfl gq_126 hp.1 (by show 0 ≤ _; omega) (by show _ ≤ 45; omega) ?_
    intro j1 w9
    replace hf := (w9.fr (M := MZS) (gz_184 (by decide) (by decide))).tr hf
    refine hs_iconst ci_2073_143 ?_
    refine hs_istore_n ci_2073_144 (by decide +kernel) ?_
    intro ls9 q9
    replace l0 := q9.2 0 _ (by decide) rfl l0
    replace l1 := q9.2 1 _ (by decide) rfl l1
    have l2 := q9.1
    clear q9
    have hc45 : c ≤ 45 := by have := s5.1; omega
    refine hs.mono (sn_cp (h0 := h) (h1 := h0) hc45 (rd := fun j => hv h 186 j) (3 * c) 0 _ _ _ (by omega) rfl w9.1 hf (by rw [w9.v, if_neg (fun e => absurd e.1 (by decide))]; exact s5.1) (by rw [w9.v, if_pos ⟨rfl, rfl⟩]; exact s5.1) (fun j => by rw [w9.v, if_neg (fun e => absurd e.1 (by decide))]) (fun j hj => nomatch hj) (fun a k q => w9.ne a k q) l0 l2) ?_
    rintro pc' ls' st' h' ⟨rfl, rfl, hp0, hf', h126, hcp, hot, k0⟩
    refine ⟨rfl, rfl, k0, ⟨hp0, ?_, hp.2.2.1.same (fun k _ => hot _ _ (by decide)), hp.2.2.2.1.same (fun k _ => hot _ _ (by decide)), fun k hd => ?_⟩, hf', hot⟩
    · unfold ab_Jc
      rw [h126, show ((c : Int)).toNat = c by omega]
      refine wf_ok_same (fun i hi => ?_) s5.2.2.2.2.1
      unfold ab_cd RD
      rw [show 126 + 1 + 3 * i = 127 + 3 * i by omega, hcp _ (by omega)]
    · rw [hv_same (hot 113 k (by decide))] at hd
      rw [hv_same (hot 114 k (by decide))]
      exact hp.2.2.2.2 k hd
  · simp only [hs_cd, ab_not] at b49
    omega
/-- the text taken by the reference -/
def tl_P (h : eg_H) (x : Int32) (vo : Option Value) (h' : eg_H) : Prop := vo = none ∧ ab_hp h' ∧ ab_fr [(182, 2, 5)] h' h ∧ hv h' 182 3 = hv h 182 2 ∧ (hv h' 182 2).toInt = 0 ∧ (hv h' 182 4).toInt = 0 ∧ hv h' 182 5 = x
theorem m_tkl {sc : List Value} {sp d : Nat} {h : eg_H} {x : Int32} (x1 : 0 ≤ x.toInt) (x2 : x.toInt ≤ 940) (hq : ab_hp h) : mc sc sp 1654 11 d [.ref 182, .int x] h (tl_P h x) := by
  have l0 : eg_find 0 (eg_args 0 [.ref 182, .int x]) = some (.ref 182) := rfl
  have l1 : eg_find 1 (eg_args 0 [.ref 182, .int x]) = some (.int x) := rfl
  have hp := hq.1
  obtain ⟨-, b1, b2⟩ := sb_v (a := 182) (k := 2) (lo := .ofNat 0) (hi := .ofNat 940) hq (by decide +kernel)
  have b1 : (0 : Int) ≤ (hv h 182 2).toInt := b1
  have b2 : (hv h 182 2).toInt ≤ (940 : Int) := b2
  unfold mc
  refine hs_aload_n ci_1654_0 l0 ?_
  refine hs_aload_n ci_1654_1 l0 ?_
  refine hs_gfi 2 ci_1654_2 (by decide +kernel) hp ?_
  refine hs_pfi 3 (0) (940) ci_1654_5 (by decide +kernel) hp b1 b2 ?_
  intro h5 w5
  replace hp := w5.1
  refine hs_aload_n ci_1654_8 l0 ?_
  refine hs_iconst ci_1654_9 ?_
  refine hs_pfi 2 (0) (940) ci_1654_10 (by decide +kernel) hp (by decide) (by decide) ?_
  intro h10 w10
  replace hp := w10.1
  refine hs_aload_n ci_1654_13 l0 ?_
  refine hs_iconst ci_1654_14 ?_
  refine hs_pfi 4 (0) (940) ci_1654_15 (by decide +kernel) hp (by decide) (by decide) ?_
  intro h15 w15
  replace hp := w15.1
  refine hs_aload_n ci_1654_18 l0 ?_
  refine hs_iload_n ci_1654_19 l1 ?_
  refine hs_pfi 5 (0) (940) ci_1654_20 (by decide +kernel) hp x1 x2 ?_
  intro h20 w20
  replace hp := w20.1
  have f5 : ab_fr [(182, 2, 5)] h5 h := w5.fr rfl
  have f10 : ab_fr [(182, 2, 5)] h10 h := (w10.fr rfl).tr f5
  have f15 : ab_fr [(182, 2, 5)] h15 h := (w15.fr rfl).tr f10
  have f20 : ab_fr [(182, 2, 5)] h20 h := (w20.fr rfl).tr f15
  refine hs_k ⟨5, none, by decide +kernel, by rw [rt_1654]; rfl, rfl, ⟨hp, hq.2.fr (M := [(182, 2, 5)]) (by decide +kernel) f20⟩, f20, ?_, ?_, ?_, ?_⟩
  · rw [w20.v, if_neg (by omega), w15.v, if_neg (by omega), w10.v, if_neg (by omega), w5.v, if_pos ⟨rfl, rfl⟩]
  · rw [w20.v, if_neg (by omega), w15.v, if_neg (by omega), w10.v, if_pos ⟨rfl, rfl⟩]
    exact kI_0
  · rw [w20.v, if_neg (by omega), w15.v, if_pos ⟨rfl, rfl⟩]
    exact kI_0
  · rw [w20.v, if_pos ⟨rfl, rfl⟩]
abbrev MSQ : ab_M := [(182, 0, 0), (182, 2, 5), (182, 11, 18), (182, 45, 49), (184, 126, 261), (186, 0, 134), (199, 0, 44)]
/-- what a SENTENCE is answered with, and the kind of its fault -/
def sa (tk : Nat → tx_K) (ta : Nat → Nat) (ps : PS) (r f : Int) : Prop := (∃ n : Nat, (∀ x, ssx tk ta ps false [] 0 0 x ↔ x = .inr n) ∧ r = (n : Int) ∧ f = 0) ∨ (∃ (k : Int) (a : Nat), (∀ x, ssx tk ta ps false [] 0 0 x ↔ x = .inl (k, a)) ∧ r = -1 - (a : Int) ∧ f = k)
theorem sa_one {tk : Nat → tx_K} {ta : Nat → Nat} {ps : PS} {r r' f f' : Int} (a : sa tk ta ps r f) (b : sa tk ta ps r' f') : r = r' ∧ f = f' := by
  rcases a with ⟨n, a1, a2, a3⟩ | ⟨k, a, a1, a2, a3⟩
  · rcases b with ⟨n', b1, b2, b3⟩ | ⟨k', a', b1, b2, b3⟩
    · have := Sum.inr.inj ((b1 _).mp ((a1 _).mpr rfl))
      omega
    · exact absurd ((b1 _).mp ((a1 (.inr n)).mpr rfl)) (by simp)
  · rcases b with ⟨n', b1, b2, b3⟩ | ⟨k', a', b1, b2, b3⟩
    · exact absurd ((b1 _).mp ((a1 (.inl (k, a))).mpr rfl)) (by simp)
    · obtain ⟨e1, e⟩ := Prod.mk.inj (Sum.inl.inj ((b1 _).mp ((a1 _).mpr rfl)))
      omega
section RZ
variable {B : Nat → Int} {n0 lim : Nat} {tk : Nat → tx_K} {ta P : Nat → Nat} {sc : List Value} {sp d : Nat} {h : eg_H} {ps : PS}
def sm_P (tk : Nat → tx_K) (ta : Nat → Nat) (ps : PS) (h : eg_H) (vo : Option Value) (h' : eg_H) : Prop := ab_hp h' ∧ ab_fr MSQ h' h ∧ (hv h' 182 2).toInt = 0 ∧ ∃ r : Int32, vo = some (.int r) ∧ sa tk ta ps r.toInt (hv h' 182 15).toInt
theorem rt_2073 : (eg_md 2073).2.2.2 = some .int := by decide +kernel
theorem kI_z1 : ¬ (Int32.ofInt 1).toInt = 0 := by decide
theorem sq_loop (hsc : ab_osc sc) (ts : TS B n0 lim tk ta P) : ∀ (r c t n j : Nat) (F : List Bool) (ls : eg_L) (h1 : eg_H), n ≤ 20 → ab_hp h1 → rwok h1 → RN h1 ps → rt B n0 lim tk ta P h1 j → D5 h1 t F → ab_fr MSQ h1 h → (hv h1 182 2).toInt = 0 → (hv h1 182 15).toInt = 0 → ((S5 h1 c t n 0 0 ∧ c + t ≤ 2 * n ∧ (∀ x, ssx tk ta ps false [] 0 0 x ↔ ssx tk ta ps false F n j x) ∧ 3 * (20 - n) + F.length < r) ∨ (S5 h1 c t n 1 1 ∧ c + t + 1 ≤ 2 * n ∧ (∀ x, ssx tk ta ps false [] 0 0 x ↔ ssx tk ta ps true (dn F) n j x) ∧ 3 * (20 - n) + (dn F).length + 1 < r)) → eg_find 0 ls = some (.ref 182) → eg_find 1 ls = some (.int (Int32.ofInt 1)) → hs sc sp 2073 11 (d + 1 + 1 + 1 + 1) (fun pc' _ st' h' => ∃ ik vo, ab_ret 2073 pc' = some ik ∧ eg_rv (eg_md 2073).2.2.2 ik st' = some vo ∧ sm_P tk ta ps h vo h') 48 ls [] h1 := by
  intro r
  induction r with
  | zero =>
    intro c t n j F ls h1 hn q1 w1 N1 r1 dd1 f1 e2 e15 hS
    rcases hS with ⟨-, -, -, z⟩ | ⟨-, -, -, z⟩
    · omega
    · omega
  | succ r ih =>
    intro c t n j F ls h1 hn q1 w1 N1 r1 dd1 f1 e2 e15 hS l0 l1
    have hp := q1.1
    have rk1 := rs_k r1.2.2.2.2
    have hfl : F.length ≤ t := by rw [← dd1.2.1]; exact fr_le t
    have hd0 := dd1.1
    refine hs_iload_n ci_2073_48 l1 ?_
    refine hs_if (t := 132) ci_2073_49 rfl (fun b49 => ?_) (fun b49 => ?_)
    · simp only [hs_cd, ab_not] at b49
      exact absurd b49 (by decide)
    · simp only [hs_cd, ab_not, kI_1] at b49
      refine hs_aload_n ci_2073_52 l0 ?_
      refine hs_gfi 49 ci_2073_53 (by decide +kernel) hp ?_
      refine hs_if (t := 101) ci_2073_56 rfl (fun b56 => ?_) (fun b56 => ?_)
      · simp only [hs_cd, ab_not] at b56
        refine hs_aload_n ci_2073_101 l0 ?_
        refine hs_gfi 49 ci_2073_102 (by decide +kernel) hp ?_
        refine hs_if (t := 118) ci_2073_105 rfl (fun b105 => ?_) (fun b105 => ?_)
        · simp only [hs_cd, ab_not] at b105
          have hO : S5 h1 c t n 0 0 ∧ c + t ≤ 2 * n ∧ (∀ x, ssx tk ta ps false [] 0 0 x ↔ ssx tk ta ps false F n j x) ∧ 3 * (20 - n) + F.length < r + 1 := by
            rcases hS with z | ⟨z, -⟩
            · exact z
            · exact absurd z.2.2.2.1 (by omega)
          obtain ⟨s1, hct, E1, hmu⟩ := hO
          refine hs_aload_n ci_2073_118 l0 ?_
          refine hs_cv 2093 11 0 ci_2073_119 (by decide +kernel) (by decide +kernel) hp rfl (by rw [ml_2093]; rfl) (mc.and (by decide) (m_opd (ps := ps) ts hn hct q1 w1 N1 r1 s1 dd1) (c_op15 hsc q1 e15 (by have := s1.1; omega) (by have := s1.2.1; omega))) ?_
          rintro v9 h2 ⟨⟨q2, f2, r2, e8, hr2⟩, r2x, e82, hz⟩
          obtain rfl : r2 = r2x := by
            have := Option.some.inj (e8.symm.trans e82)
            exact Value.int.inj this
          rw [e8]
          clear e8 e82 v9
          replace hp := q2.1
          simp only [Option.toList, List.cons_append, List.nil_append]
          refine hs_if (t := 48) ci_2073_122 rfl (fun b122 => ?_) (fun b122 => ?_)
          · simp only [hs_cd, ab_not] at b122
            rcases hr2 with ⟨yr, y0, c2, t2, j2, y1, y2⟩ | ⟨z, -⟩
            · have w2 : rwok h2 := w1.fr f2 (fun _ => rfl)
              have N2 : RN h2 ps := N1.fr f2 rfl (fun _ => rfl)
              rcases y2 with ⟨G, eG, s2, y3, y4, y5⟩ | ⟨s2, y3, y4, y5⟩
              · exact ih c2 t2 (n + 1) j2 G _ _ y0 q2 w2 N2 y1 y4 ((fr_sub (by decide +kernel) f2).tr f1) (by rw [hv_same (f2 182 2 rfl)]; exact e2) (hz yr) (Or.inl ⟨s2, y3, fun x => (E1 x).trans (y5 x), by omega⟩) l0 l1
              · have y6 := dn_le F
                exact ih c2 t2 (n + 1) j2 F _ _ y0 q2 w2 N2 y1 y4 ((fr_sub (by decide +kernel) f2).tr f1) (by rw [hv_same (f2 182 2 rfl)]; exact e2) (hz yr) (Or.inr ⟨s2, y3, fun x => (E1 x).trans (y5 x), by omega⟩) l0 l1
            · omega
          · simp only [hs_cd, ab_not] at b122
            refine hs_iconst ci_2073_125 ?_
            refine hs_aload_n ci_2073_126 l0 ?_
            refine hs_gfi 16 ci_2073_127 (by decide +kernel) hp ?_
            refine hs_isub ci_2073_130 ?_
            obtain ⟨k, a, z1, z2⟩ : ∃ (k : Int) (a : Nat), flm h2 k a ∧ ∀ x, ssx tk ta ps false F n j x ↔ x = .inl (k, a) := by
              rcases hr2 with ⟨z, -⟩ | ⟨-, z⟩
              · omega
              · exact z
            refine hs_k ⟨3, some (.int (Int32.ofInt (-1) - hv h2 182 16)), by decide +kernel, by rw [rt_2073]; rfl, q2, (fr_sub (by decide +kernel) f2).tr f1, by rw [hv_same (f2 182 2 rfl)]; exact e2, _, rfl, Or.inr ⟨k, a, fun x => (E1 x).trans (z2 x), ?_, z1.1⟩⟩
            have a9 := ab_ile (hv h2 182 16)
            have a8 := z1.2
            exact i32_sub kI_m1 a8 (by omega) (by omega)
        · simp only [hs_cd, ab_not] at b105
          omega
      · simp only [hs_cd, ab_not] at b56
        refine hs_aload_n ci_2073_59 l0 ?_
        refine hs_gfi 11 ci_2073_60 (by decide +kernel) hp ?_
        refine hs_if (t := 101) ci_2073_63 rfl (fun b63 => ?_) (fun b63 => ?_)
        · simp only [hs_cd, ab_not] at b63
          refine hs_aload_n ci_2073_101 l0 ?_
          refine hs_gfi 49 ci_2073_102 (by decide +kernel) hp ?_
          refine hs_if (t := 118) ci_2073_105 rfl (fun b105 => ?_) (fun b105 => ?_)
          · simp only [hs_cd, ab_not] at b105
            omega
          · simp only [hs_cd, ab_not] at b105
            have hW : S5 h1 c t n 1 1 ∧ c + t + 1 ≤ 2 * n ∧ (∀ x, ssx tk ta ps false [] 0 0 x ↔ ssx tk ta ps true (dn F) n j x) ∧ 3 * (20 - n) + (dn F).length + 1 < r + 1 := by
              rcases hS with ⟨z, -⟩ | z
              · exact absurd z.2.2.2.1 (by omega)
              · exact z
            obtain ⟨s1, hct, E1, hmu⟩ := hW
            have hst : (tk j).1 ≠ 0 := fun z => b63 (rk1.1.mpr z)
            refine hs_aload_n ci_2073_108 l0 ?_
            refine hs_cv 2089 11 0 ci_2073_109 (by decide +kernel) (by decide +kernel) hp rfl (by rw [ml_2089]; rfl) (m_beh (ps := ps) ts hn hct q1 r1 s1 dd1 hst) ?_
            rintro v9 h2 ⟨q2, f2, r2, e8, hr2⟩
            rw [e8]
            clear e8 v9
            replace hp := q2.1
            simp only [Option.toList, List.cons_append, List.nil_append]
            refine hs_if (t := 48) ci_2073_112 rfl (fun b112 => ?_) (fun b112 => ?_)
            · simp only [hs_cd, ab_not] at b112
              rcases hr2 with ⟨-, y15, y1, c2, t2, y2⟩ | ⟨z, -⟩
              · have w2 : rwok h2 := w1.fr f2 (fun _ => rfl)
                have N2 : RN h2 ps := N1.fr f2 rfl (fun _ => rfl)
                rcases y2 with ⟨s2, y3, y4, y5⟩ | ⟨G, eG, s2, y3, y4, y5⟩
                · exact ih c2 t2 n (j + 1) (dn F) _ _ hn q2 w2 N2 y1 y4 ((fr_sub (by decide +kernel) f2).tr f1) (by rw [hv_same (f2 182 2 rfl)]; exact e2) (by rw [y15]; exact e15) (Or.inl ⟨s2, y3, fun x => (E1 x).trans (y5 x), by omega⟩) l0 l1
                · have y6 := dn_le G
                  have y7 : (dn F).length = G.length + 1 := by rw [eG]; rfl
                  exact ih c2 t2 n (j + 1) G _ _ hn q2 w2 N2 y1 y4 ((fr_sub (by decide +kernel) f2).tr f1) (by rw [hv_same (f2 182 2 rfl)]; exact e2) (by rw [y15]; exact e15) (Or.inr ⟨s2, y3, fun x => (E1 x).trans (y5 x), by omega⟩) l0 l1
              · omega
            · simp only [hs_cd, ab_not] at b112
              refine hs_goto (t := 125) ci_2073_115 rfl ?_
              refine hs_iconst ci_2073_125 ?_
              refine hs_aload_n ci_2073_126 l0 ?_
              refine hs_gfi 16 ci_2073_127 (by decide +kernel) hp ?_
              refine hs_isub ci_2073_130 ?_
              obtain ⟨k, a, z1, z2⟩ : ∃ (k : Int) (a : Nat), flm h2 k a ∧ ∀ x, ssx tk ta ps true (dn F) n j x ↔ x = .inl (k, a) := by
                rcases hr2 with ⟨z, -⟩ | ⟨-, z⟩
                · omega
                · exact z
              refine hs_k ⟨3, some (.int (Int32.ofInt (-1) - hv h2 182 16)), by decide +kernel, by rw [rt_2073]; rfl, q2, (fr_sub (by decide +kernel) f2).tr f1, by rw [hv_same (f2 182 2 rfl)]; exact e2, _, rfl, Or.inr ⟨k, a, fun x => (E1 x).trans (z2 x), ?_, z1.1⟩⟩
              have a9 := ab_ile (hv h2 182 16)
              have a8 := z1.2
              exact i32_sub kI_m1 a8 (by omega) (by omega)
        · simp only [hs_cd, ab_not] at b63
          have hst := rk1.1.mp b63
          have hW : S5 h1 c t n 1 1 ∧ c + t + 1 ≤ 2 * n ∧ (∀ x, ssx tk ta ps false [] 0 0 x ↔ ssx tk ta ps true (dn F) n j x) ∧ 3 * (20 - n) + (dn F).length + 1 < r + 1 := by
            rcases hS with ⟨z, -⟩ | z
            · exact absurd z.2.2.2.1 (by omega)
            · exact z
          obtain ⟨s1, hct, E1, hmu⟩ := hW
          refine hs_aload_n ci_2073_66 l0 ?_
          refine hs_cv 2077 11 0 ci_2073_67 (by decide +kernel) (by decide +kernel) hp rfl (by rw [ml_2077]; rfl) (c_nots2 (e0 := 1 + (F.length : Int) - (t : Int)) (by omega) (by omega) (by omega) s1 (by omega) q1) ?_
          rintro v9 h2 ⟨e8, q2, f2, c1, t1, y1, y2, s2, y3, y4, y5, y6⟩
          rw [e8]
          clear e8 v9
          replace hp := q2.1
          obtain ⟨dd2, top2⟩ := dd1.nots y2 y3 y4 y5 y6
          have r2 : rt B n0 lim tk ta P h2 j := r1.fr f2 (fun _ => rfl) ⟨rfl, rfl, rfl, rfl, rfl, rfl, rfl⟩
          simp only [Option.toList, List.nil_append]
          refine hs_aload_n ci_2073_70 l0 ?_
          refine hs_bipush ci_2073_71 ?_
          refine hs_cv 2085 11 1 ci_2073_73 (by decide +kernel) (by decide +kernel) hp rfl (by rw [ml_2085]; rfl) (c_joins2 _ (by omega) s2 q2) ?_
          rintro v9 h3 ⟨e8, q3, f3, c2, t2, u1, u2, s3, u3, u4, u5, u6⟩
          rw [e8]
          clear e8 v9
          replace hp := q3.1
          have u9 := u3 rfl
          obtain ⟨dd3, top3⟩ := dd2.jns u2 u4 u5 top2 u6
          have r3 : rt B n0 lim tk ta P h3 j := r2.fr f3 (fun _ => rfl) ⟨rfl, rfl, rfl, rfl, rfl, rfl, rfl⟩
          have F3 : ab_fr MSQ h3 h := (fr_sub (by decide +kernel) f3).tr ((fr_sub (by decide +kernel) f2).tr f1)
          simp only [Option.toList, List.nil_append]
          refine hs_aload_n ci_2073_76 l0 ?_
          refine hs_gfi 47 ci_2073_77 (by decide +kernel) hp ?_
          refine hs_if (t := 96) ci_2073_80 rfl (fun b80 => ?_) (fun b80 => ?_)
          · simp only [hs_cd, ab_not] at b80
            refine hs_iconst ci_2073_96 ?_
            refine hs_istore2_n ci_2073_97 (by decide +kernel) ?_
            intro ls9 q9
            replace l0 := q9.2 0 _ (by decide) (Or.inl rfl) l0
            have l1 := q9.1
            clear q9
            obtain rfl : t2 = 0 := by have := s3.2.1; omega
            have eF := (dd3.nil top3 u9).mpr rfl
            refine hs.bind (sn_fin2 (h0 := h3) s3 q3 ab_fr.rf l0 l1) ?_
            rintro pc' ls' st' h4 ⟨rfl, rfl, l0, q4, f4, ho⟩
            replace hp := q4.1
            refine hs_aload_n ci_2073_176 l0 ?_
            refine hs_gfi 46 ci_2073_177 (by decide +kernel) hp ?_
            refine hs_k ⟨3, some (.int (hv h4 182 46)), by decide +kernel, by rw [rt_2073]; rfl, q4, (fr_sub (by decide +kernel) f4).tr F3, ?_, _, rfl, Or.inl ⟨n, fun x => ?_, ?_, ?_⟩⟩
            · rw [hv_same (ho 182 2 (by decide)), hv_same (f3 182 2 rfl), hv_same (f2 182 2 rfl)]
              exact e2
            · rw [E1 x, eF]
              exact w_e hst
            · rw [hv_same (ho 182 46 (by decide))]
              exact s3.2.2.1
            · rw [hv_same (ho 182 15 (by decide)), hv_same (f3 182 15 rfl), hv_same (f2 182 15 rfl)]
              exact e15
          · simp only [hs_cd, ab_not] at b80
            refine hs_aload_n ci_2073_83 l0 ?_
            refine hs_iconst ci_2073_84 ?_
            refine hs_cv 1687 11 1 ci_2073_85 (by decide +kernel) (by decide +kernel) hp rfl (by rw [ml_1687]; rfl) (m_bad (Int32.ofInt 1) (by decide) q3 r3) ?_
            rintro v9 h4 ⟨r4, e8, hr4, q4, f4, g4⟩
            rw [e8]
            clear e8 v9
            replace hp := q4.1
            rw [kI_1] at g4
            simp only [Option.toList, List.cons_append, List.nil_append]
            refine hs_pop ci_2073_88 rfl ?_
            refine hs_iconst ci_2073_89 ?_
            refine hs_aload_n ci_2073_90 l0 ?_
            refine hs_gfi 16 ci_2073_91 (by decide +kernel) hp ?_
            refine hs_isub ci_2073_94 ?_
            refine hs_k ⟨3, some (.int (Int32.ofInt (-1) - hv h4 182 16)), by decide +kernel, by rw [rt_2073]; rfl, q4, (fr_sub (by decide +kernel) f4).tr F3, ?_, _, rfl, Or.inr ⟨1, ta j, fun x => (E1 x).trans (w_f (by omega) (fun _ z => ?_) (fun z => absurd z (by omega))), ?_, g4.1⟩⟩
            · rw [hv_same (f4 182 2 rfl), hv_same (f3 182 2 rfl), hv_same (f2 182 2 rfl)]
              exact e2
            · have := (dd3.nil top3 u9).mp z
              have := s3.2.1
              omega
            · have a9 := ab_ile (hv h4 182 16)
              have a8 := g4.2
              exact i32_sub kI_m1 a8 (by omega) (by omega)
theorem m_sent {m : Nat} (hsc : ab_osc sc) (ts : TS B n0 200 tk ta P) (p0 : P 0 = 0) (hB : bM h = B) (hn0 : (hv h 182 2).toInt = (n0 : Int)) (hq : ab_hp h) (hw : rwok h) (hN : RN h ps) : mc sc sp 2073 11 (d + 1 + 1 + 1 + 1) [.ref 182] h (sm_P tk ta ps h) := by
  have l0 : eg_find 0 (eg_args 0 [.ref 182]) = some (.ref 182) := rfl
  have hp := hq.1
  unfold mc
  refine hs_aload_n ci_2073_0 l0 ?_
  refine hs_iconst ci_2073_1 ?_
  refine hs_pfi 0 (0) (1) ci_2073_2 (by decide +kernel) hp (by decide) (by decide) ?_
  intro h2 w2
  replace hp := w2.1
  refine hs_aload_n ci_2073_5 l0 ?_
  refine hs_sipush ci_2073_6 ?_
  refine hs_cv 1654 11 1 ci_2073_9 (by decide +kernel) (by decide +kernel) hp rfl (by rw [ml_1654]; rfl) (m_tkl (by decide) (by decide) ⟨hp, hq.2.fr (M := [(182, 0, 0)]) (by decide +kernel) (w2.fr rfl)⟩) ?_
  rintro v9 hA ⟨e8, qA, fA, a3, a2, a4, a5⟩
  rw [e8]
  clear e8 v9
  replace hp := qA.1
  have f2 : ab_fr [(182, 0, 0)] h2 h := w2.fr rfl
  simp only [Option.toList, List.nil_append]
  refine hs_aload_n ci_2073_12 l0 ?_
  refine hs_iconst ci_2073_13 ?_
  refine hs_pfi 15 (-2147483648) (2147483647) ci_2073_14 (by decide +kernel) hp (by decide) (by decide) ?_
  intro h14 w14
  replace hp := w14.1
  refine hs_aload_n ci_2073_17 l0 ?_
  refine hs_iconst ci_2073_18 ?_
  refine hs_pfi 45 (0) (45) ci_2073_19 (by decide +kernel) hp (by decide) (by decide) ?_
  intro h19 w19
  replace hp := w19.1
  refine hs_aload_n ci_2073_22 l0 ?_
  refine hs_iconst ci_2073_23 ?_
  refine hs_pfi 46 (-2147483648) (2147483647) ci_2073_24 (by decide +kernel) hp (by decide) (by decide) ?_
  intro h24 w24
  replace hp := w24.1
  refine hs_aload_n ci_2073_27 l0 ?_
  refine hs_iconst ci_2073_28 ?_
  refine hs_pfi 47 (0) (45) ci_2073_29 (by decide +kernel) hp (by decide) (by decide) ?_
  intro h29 w29
  replace hp := w29.1
  refine hs_aload_n ci_2073_32 l0 ?_
  refine hs_iconst ci_2073_33 ?_
  refine hs_pfi 48 (-2147483648) (2147483647) ci_2073_34 (by decide +kernel) hp (by decide) (by decide) ?_
  intro h34 w34
  replace hp := w34.1
  refine hs_aload_n ci_2073_37 l0 ?_
  refine hs_iconst ci_2073_38 ?_
  refine hs_pfi 49 (0) (1) ci_2073_39 (by decide +kernel) hp (by decide) (by decide) ?_
  intro h39 w39
  replace hp := w39.1
  have g14 : ab_fr [(182, 15, 15), (182, 45, 49)] h14 hA := w14.fr rfl
  have g19 : ab_fr [(182, 15, 15), (182, 45, 49)] h19 hA := (w19.fr rfl).tr g14
  have g24 : ab_fr [(182, 15, 15), (182, 45, 49)] h24 hA := (w24.fr rfl).tr g19
  have g29 : ab_fr [(182, 15, 15), (182, 45, 49)] h29 hA := (w29.fr rfl).tr g24
  have g34 : ab_fr [(182, 15, 15), (182, 45, 49)] h34 hA := (w34.fr rfl).tr g29
  have g39 : ab_fr [(182, 15, 15), (182, 45, 49)] h39 hA := (w39.fr rfl).tr g34
  have qB : ab_hp h39 := ⟨hp, qA.2.fr (M := [(182, 15, 15), (182, 45, 49)]) (by decide +kernel) g39⟩
  have FB : ab_fr MSQ h39 h := (fr_sub (by decide +kernel) g39).tr ((fr_sub (by decide +kernel) fA).tr (fr_sub (by decide +kernel) f2))
  have v49 : (hv h39 182 49).toInt = 0 := by rw [w39.v, if_pos ⟨rfl, rfl⟩]; exact kI_0
  have v48 : (hv h39 182 48).toInt = 1 := by rw [w39.v, if_neg (by omega), w34.v, if_pos ⟨rfl, rfl⟩]; exact kI_1
  have v47 : (hv h39 182 47).toInt = 0 := by rw [w39.v, if_neg (by omega), w34.v, if_neg (by omega), w29.v, if_pos ⟨rfl, rfl⟩]; exact kI_0
  have v46 : (hv h39 182 46).toInt = 0 := by rw [w39.v, if_neg (by omega), w34.v, if_neg (by omega), w29.v, if_neg (by omega), w24.v, if_pos ⟨rfl, rfl⟩]; exact kI_0
  have v45 : (hv h39 182 45).toInt = 0 := by rw [w39.v, if_neg (by omega), w34.v, if_neg (by omega), w29.v, if_neg (by omega), w24.v, if_neg (by omega), w19.v, if_pos ⟨rfl, rfl⟩]; exact kI_0
  have v15 : (hv h39 182 15).toInt = 0 := by rw [w39.v, if_neg (by omega), w34.v, if_neg (by omega), w29.v, if_neg (by omega), w24.v, if_neg (by omega), w19.v, if_neg (by omega), w14.v, if_pos ⟨rfl, rfl⟩]; exact kI_0
  have sB : S5 h39 0 0 0 0 0 := ⟨v45, v47, v46, v49, fun i hi => absurd hi (by omega), rfl⟩
  have dB : D5 h39 0 [] := ⟨v48, rfl, fun i hi => absurd hi (by omega), fun i hi => absurd hi (by omega)⟩
  have wB : rwok h39 := hw.fr FB (fun _ => rfl)
  have NB : RN h39 ps := hN.fr FB rfl (fun _ => rfl)
  have b1 : bM h39 = B := by
    rw [← hB]
    exact funext (fun k => by unfold bM; rw [hv_same (FB 183 k rfl)])
  have b3 : (hv h39 182 3).toInt = (n0 : Int) := by rw [hv_same (g39 182 3 rfl), a3, hv_same (f2 182 2 rfl)]; exact hn0
  have b5 : (hv h39 182 5).toInt = ((200 : Nat) : Int) := by rw [hv_same (g39 182 5 rfl), a5]; exact kS_200
  have b4 : (hv h39 182 4).toInt = (P 0 : Int) := by rw [hv_same (g39 182 4 rfl), a4, p0]; rfl
  have b2 : (hv h39 182 2).toInt = 0 := by rw [hv_same (g39 182 2 rfl)]; exact a2
  refine hs_aload_n ci_2073_42 l0 ?_
  refine hs_cv 1658 11 0 ci_2073_43 (by decide +kernel) (by decide +kernel) hp rfl (by rw [ml_1658]; rfl) (m_next0 (j := 0) ts qB b1 b3 b5 b4 (by omega)) ?_
  rintro v9 hC ⟨e8, qC, fC, rC⟩
  rw [e8]
  clear e8 v9
  replace hp := qC.1
  simp only [Option.toList, List.nil_append]
  refine hs_iconst ci_2073_46 ?_
  refine hs_istore2_n ci_2073_47 (by decide +kernel) ?_
  intro ls9 q9
  replace l0 := q9.2 0 _ (by decide) (Or.inl rfl) l0
  have l1 := q9.1
  clear q9
  exact sq_loop hsc ts 62 0 0 0 0 [] _ _ (by decide) qC (wB.fr fC (fun _ => rfl)) (NB.fr fC rfl (fun _ => rfl)) rC (dB.fr fC rfl (fun _ => rfl)) ((fr_sub (by decide +kernel) fC).tr FB) (by rw [hv_same (fC 182 2 rfl)]; exact b2) (by rw [hv_same (fC 182 15 rfl)]; exact v15) (Or.inl ⟨sB.fr fC ⟨rfl, rfl, rfl, rfl⟩ (fun _ => rfl) (fun _ => rfl), by decide, fun _ => Iff.rfl, by decide⟩) l0 l1
end RZ
abbrev MSX : ab_M := [(0, 15, 15), (1, 1, 1), (3, 5, 11), (5, 0, 940), (6, 0, 940), (7, 0, 940), (115, 3, 3), (116, 0, 47), (117, 0, 47), (118, 0, 47), (120, 3, 3), (121, 3, 3), (122, 0, 47), (123, 0, 47), (124, 0, 47)]
theorem ar_rr {L a b : Nat} {h : eg_H} {ls : eg_L} (hp : ab_hp h) (l0 : eg_find 0 ls = some (.ref a)) (l1 : eg_find 1 ls = some (.ref b)) : ab_r L (ar_n L []) (2, [], [(0, .inr (a + 2)), (1, .inr (b + 2))], [], []) ls [] h := ⟨⟨show 2 ≤ 2 by decide, rfl, rfl⟩, (fun j B hf => by cases hf), vl_ref l0 (vl_ref l1 vl_nil), rfl, (fun _ _ _ hf => by cases hf), hp⟩
theorem c_scp {sc : List Value} {sp d : Nat} {h : eg_H} (hsc : ab_osc sc) (hp : ab_hp h) : mc sc sp 1297 5 (d + 1) [.ref 115, .ref 121] h (mc_P [(115, 3, 3), (116, 0, 47), (117, 0, 47), (118, 0, 47)] h none) := mc_q tr_z4111 (iv := none) (by decide +kernel) hsc (show 1 ≤ d + 1 by omega) (ar_rr hp rfl rfl)
def sx_P (h : eg_H) (ps : PS) (vo : Option Value) (h' : eg_H) : Prop := ab_hp h' ∧ ab_fr MSX h' h ∧ (hv h' 1 1).toInt = 0 ∧ ∃ (r : Int32) (tk : Nat → tx_K) (ta P : Nat → Nat) (m : Nat), vo = some (.int r) ∧ tks (bA h) (hv h 1 1).toInt.toNat 200 tk ta P m ∧ sa tk ta ps r.toInt (hv h' 0 15).toInt
theorem k_sent {sc : List Value} {sp d : Nat} {h : eg_H} {ps : PS} (hsc : ab_osc sc) (hq : ab_hp h) (hk : kwok h) (hL : LN h ps) : mc sc sp 1242 10 (d + 33 + 1 + 1 + 1 + 1 + 1) [.ref 0] h (sx_P h ps) := by
  have l0 : eg_find 0 (eg_args 0 [.ref 0]) = some (.ref 0) := rfl
  have hp := hq.1
  unfold mc
  refine hs_aload_n ci_1242_0 l0 ?_
  refine hs_gfr 1 3 ci_1242_1 (by decide +kernel) hp ?_
  refine hs_sipush ci_1242_4 ?_
  refine hs_cv 692 8 1 ci_1242_7 (by decide +kernel) (by decide +kernel) hp rfl (by rw [ml_692]; rfl) (k_open (lim := 200) hq kS_200 (by decide)) ?_
  rintro v9 hA ⟨e8, qA, fA, a6, a8, P, tk, ta, m, m1, m2, m3, m4, m5, m6, m7⟩
  rw [e8]
  clear e8 v9
  simp only [Option.toList, List.nil_append]
  replace hp := qA.1
  have kA : kwok hA := hk.fr fA (fun _ => rfl)
  have roA : ro hA tk ta m := ⟨m1, m2, m3, m6, m7⟩
  have cA : cu hA tk ta m 0 := ⟨by rw [a6]; rfl, fun g => by omega⟩
  have tsA : tks (bA h) (hv h 1 1).toInt.toNat 200 tk ta P m := ⟨m2, m1, m4, m5, m7⟩
  have LA : LN hA ps := ⟨by rw [hv_same (fA 8 4 rfl)]; exact hL.1, fun q hq => by rw [hl_same (fA 9 q rfl)]; exact hL.2 q hq⟩
  refine hs_aload_n ci_1242_10 l0 ?_
  refine hs_gfr 10 120 ci_1242_11 (by decide +kernel) hp ?_
  refine hs_cv 1246 6 0 ci_1242_14 (by decide +kernel) (by decide +kernel) hp rfl (by rw [ml_1246]; rfl) (mc.and (by decide) (k_srd qA kA roA cA LA) (c_sr15 hsc qA a8)) ?_
  rintro v9 hB ⟨⟨qB, fB, rB, e8, hrB⟩, rB2, e82, hz⟩
  obtain rfl : rB = rB2 := by
    have := Option.some.inj (e8.symm.trans e82)
    exact Value.int.inj this
  rw [e8]
  clear e8 e82 v9
  replace hp := qB.1
  simp only [Option.toList, List.cons_append, List.nil_append]
  refine hs_istore2_n ci_1242_17 (by decide +kernel) ?_
  intro ls9 q9
  replace l0 := q9.2 0 _ (by decide) (Or.inl rfl) l0
  have l1 := q9.1
  clear q9
  refine hs_aload_n ci_1242_18 l0 ?_
  refine hs_cv 831 10 0 ci_1242_19 (by decide +kernel) (by decide +kernel) hp rfl (by rw [ml_831]; rfl) (k_close qB) ?_
  rintro v9 hC ⟨e8, qC, fC, c11, c15⟩
  rw [e8]
  clear e8 v9
  simp only [Option.toList, List.nil_append]
  replace hp := qC.1
  have FC : ab_fr MSX hC h := (fr_sub (by decide +kernel) fC).tr ((fr_sub (by decide +kernel) fB).tr (fr_sub (by decide +kernel) fA))
  refine hs_iload_n ci_1242_22 l1 ?_
  refine hs_if (t := 36) ci_1242_23 rfl (fun b23 => ?_) (fun b23 => ?_)
  · simp only [hs_cd, ab_not] at b23
    refine hs_aload_n ci_1242_36 l0 ?_
    refine hs_gfr 9 115 ci_1242_37 (by decide +kernel) hp ?_
    refine hs_aload_n ci_1242_40 l0 ?_
    refine hs_gfr 10 120 ci_1242_41 (by decide +kernel) hp ?_
    refine hs_gfr 2 121 ci_1242_44 (by decide +kernel) hp ?_
    refine hs_cv 1297 5 1 ci_1242_47 (by decide +kernel) (by decide +kernel) hp rfl (by rw [ml_1297]; rfl) (c_scp hsc qC) ?_
    rintro v9 hD ⟨qD, fD, e8⟩
    rw [e8]
    clear e8 v9
    replace hp := qD.1
    simp only [Option.toList, List.nil_append]
    refine hs_aload_n ci_1242_50 l0 ?_
    refine hs_gfr 10 120 ci_1242_51 (by decide +kernel) hp ?_
    refine hs_gfi 3 ci_1242_54 (by decide +kernel) hp ?_
    rcases hrB with ⟨hr1, n, y1, -, y3⟩ | ⟨y, -⟩
    · refine hs_k ⟨3, some (.int (hv hD 120 3)), by decide +kernel, by rw [rt_1242]; rfl, qD, (fr_sub (by decide +kernel) fD).tr FC, ?_, _, tk, ta, P, m, rfl, tsA, Or.inl ⟨n, y3, ?_, ?_⟩⟩
      · rw [hv_same (fD 1 1 rfl)]
        exact c11
      · rw [hv_same (fD 120 3 rfl), hv_same (fC 120 3 rfl)]
        exact y1
      · rw [hv_same (fD 0 15 rfl), c15]
        exact hz hr1
    · omega
  · simp only [hs_cd, ab_not] at b23
    refine hs_iconst ci_1242_26 ?_
    refine hs_aload_n ci_1242_27 l0 ?_
    refine hs_gfr 1 3 ci_1242_28 (by decide +kernel) hp ?_
    refine hs_gfi 9 ci_1242_31 (by decide +kernel) hp ?_
    refine hs_isub ci_1242_34 ?_
    rcases hrB with ⟨y, -⟩ | ⟨-, k, a, y1, y2⟩
    · omega
    · refine hs_k ⟨3, some (.int (Int32.ofInt (-1) - hv hC 3 9)), by decide +kernel, by rw [rt_1242]; rfl, qC, FC, c11, _, tk, ta, P, m, rfl, tsA, Or.inr ⟨k, a, y2, ?_, by rw [c15]; exact y1.1⟩⟩
      have hx3 : (hv hC 3 9).toInt = (a : Int) := by rw [hv_same (fC 3 9 rfl)]; exact y1.2
      have a9 := ab_ile (hv hC 3 9)
      exact i32_sub kI_m1 hx3 (by omega) (by omega)
