/-! BY HAND: a book is read: each line told is one of a promise, or of days -/
def ck_ld (o k : Nat) : Bool := match eg_at o eg_kx k with
  | some (.long _, _) => true
  | _ => false
theorem hs_ldc2 {sc : List Value} {sp u o dq pc : Nat} {K : Nat → eg_L → List Value → eg_H → Prop} {ls : eg_L} {st : List Value} {h : eg_H} {k : Nat} (c : ab_at u pc (.ldc2_w k) 3 = true) (ck : ck_ld o k = true) (n : ∀ v : Int64, hs sc sp u o dq K (pc + 3) ls (.long v :: st) h) : hs sc sp u o dq K pc ls st h := by
  unfold ck_ld at ck
  split at ck
  next v p hx => exact hs_s (G := eg_cn (.long v)) c (by simp only [eg_hd, eg_lok, Nat.beq_refl, eg_hd0, hx]) rfl (n v)
  next => cases ck
theorem fr_sub {M Mq : ab_M} {h h' : eg_H} (ck : ab_subM M Mq = true) (f : ab_fr Mq h' h) : ab_fr M h' h := f.mono (fun a k hk => ab_subM_ok ck hk)
/-- one that answers yes only with an int within bounds in a slot -/
def ck_eo (mu key : Nat) (lo hi : Int) (ends : List (Nat × ab_S)) : Bool := ends.all (fun e => match ab_ret mu e.1 with
  | none => false
  | some ir => (match ab_rv (eg_md mu).2.2.2 ir e.2.2.1 e.2.2.2.2.1 with
    | some [.inl (0, v)] => decide (v = 0) || (decide (v = 1) && (match eg_find key e.2.2.2.2.2 with
      | some (j, d) => decide (lo ≤ (ab_iv e.2.2.1 j d).1) && decide ((ab_iv e.2.2.1 j d).2 ≤ hi)
      | none => false))
    | _ => false))
def mc_B (M : ab_M) (h : eg_H) (a k : Nat) (lo hi : Int) (vo : Option Value) (h' : eg_H) : Prop := ab_hp h' ∧ ab_fr M h' h ∧ ∃ r : Int32, vo = some (.int r) ∧ (r.toInt = 0 ∨ (r.toInt = 1 ∧ lo ≤ (hv h' a k).toInt ∧ (hv h' a k).toInt ≤ hi))
theorem mc_qo {q : ab_Q} (hq : ab_Tr q) {a k : Nat} {lo hi : Int} (hk : k < 1024) (ck : (Nat.beq q.2.2.1 0 && ck_eo q.1 (a * 1024 + k) lo hi q.2.2.2.2.2.2.1) = true) {sc : List Value} {sp : Nat} (hsc : ab_osc sc) {d : Nat} (hd : q.2.2.2.1 ≤ d) {ν : Nat → Int} {as : List Value} {h : eg_H} (hr : ab_r sc.length ν q.2.2.2.2.1 (eg_args 0 as) [] h) : mc sc sp q.1 q.2.1 d as h (mc_B q.2.2.2.2.2.1 h a k lo hi) := by
  obtain ⟨u, o, pc, need, P, M, ends, rank⟩ := q
  simp only at *
  have c1 := Bool.and_eq_true_iff.mp ck
  obtain rfl := Nat.eq_of_beq_eq_true c1.1
  obtain ⟨-, -, ht⟩ := hq sc sp hsc
  obtain ⟨e, he, ν', ls', st', h', g1, g2, g3, g4, g5⟩ := ht d hd ν _ _ h hr
  refine ⟨e.1, ls', st', h', g5, ?_⟩
  have c2 := List.all_eq_true.mp c1.2 e he
  split at c2
  next => cases c2
  next ir hir =>
    split at c2
    next v hrv =>
      obtain ⟨vo, v1, v2⟩ := ab_rv_ok g1.2.1 g1.1.2.1 g1.2.2.2.1 hrv
      refine ⟨ir, vo, hir, v1, g1.2.2.2.2.2, g4, ?_⟩
      obtain ⟨_, t, e1, ⟨x, rfl, hj, hx⟩, ht2⟩ := v2
      obtain rfl : t = [] := ht2
      have h0 : ν' 0 = 0 := g1.1.2.1
      have hx : x.toInt = ν' 0 + v := hx
      cases vo with
      | none => cases e1
      | some z =>
        cases e1
        refine ⟨x, rfl, ?_⟩
        rcases Bool.or_eq_true_iff.mp c2 with c3 | c3
        · have := of_decide_eq_true c3
          exact Or.inl (by omega)
        · have c4 := Bool.and_eq_true_iff.mp c3
          have c5 := of_decide_eq_true c4.1
          refine Or.inr ⟨by omega, ?_⟩
          have c6 := c4.2
          split at c6
          next j dd hf =>
            have c7 := Bool.and_eq_true_iff.mp c6
            have c8 := of_decide_eq_true c7.1
            have c9 := of_decide_eq_true c7.2
            have ho := g1.ov a k hf hk
            have hi2 := ab_iv_v (en := e.2.2.1) (j := j) (d := dd) g1.2.1 h0 ho
            omega
          next => cases c6
    next => cases c2
theorem ar_l {L a : Nat} {v : Int64} {h : eg_H} (hp : ab_hp h) : ab_r L (ar_n L []) (2, [], [(0, .inr (a + 2)), (1, .inr 0)], [], []) (eg_args 0 [.ref a, .long v]) [] h := ar_r (a := a) (by omega) hp (fun q hq => nomatch hq) (fun q hq => by
  simp only [List.mem_cons, List.not_mem_nil, or_false] at hq
  rcases hq with rfl | rfl
  · exact ⟨.ref a, rfl, rfl⟩
  · exact ⟨.long v, rfl, v, rfl⟩)
section KO
variable {sc : List Value} {sp d : Nat} {h : eg_H}
theorem c_isWord (hsc : ab_osc sc) (v : Int64) (hp : ab_hp h) : mc sc sp 1676 11 (d + 1) [.ref 182, .long v] h (mc_P [] h (some (0, 1))) := mc_q tr_isWord (iv := some (0, 1)) (by decide +kernel) hsc (show 1 ≤ d + 1 by omega) (ar_l hp)
theorem c_next (hsc : ab_osc sc) (hp : ab_hp h) : mc sc sp 1658 11 (d + 2) [.ref 182] h (mc_P [(182, 4, 4), (182, 11, 14), (182, 17, 17)] h none) := mc_q tr_next (iv := none) (by decide +kernel) hsc (show 2 ≤ d + 2 by omega) (ar_0 hp)
theorem c_bad (hsc : ab_osc sc) {x : Int32} (h1 : 1 ≤ x.toInt) (h2 : x.toInt ≤ 4) (hp : ab_hp h) : mc sc sp 1687 11 (d + 1) [.ref 182, .int x] h (mc_P [(182, 15, 16)] h (some (0, 0))) := mc_q tr_bad (iv := some (0, 0)) (by decide +kernel) hsc (show 1 ≤ d + 1 by omega) (ar_1 hp h1 h2)
theorem c_looks6 (hsc : ab_osc sc) {x y : Int32} (hx : x.toInt = 6) (h1 : 0 ≤ y.toInt) (h2 : y.toInt ≤ 10) (hp : ab_hp h) : mc sc sp 1730 11 (d + 2) [.ref 182, .int x, .int y] h (mc_B [(182, 15, 16), (182, 18, 18)] h 182 18 0 9) := mc_qo tr_looks6 (by decide) (by decide +kernel) hsc (show 2 ≤ d + 2 by omega) (ar_2 hp (by rw [hx]; decide) (by rw [hx]; decide) h1 h2)
theorem c_takes60 (hsc : ab_osc sc) {x y : Int32} (hx : x.toInt = 1) (hy : y.toInt = 60) (hp : ab_hp h) : mc sc sp 1695 11 (d + 3) [.ref 182, .int x, .int y] h (mc_B [(182, 4, 4), (182, 11, 18)] h 182 18 1 60) := mc_qo tr_takes60 (by decide) (by decide +kernel) hsc (show 3 ≤ d + 3 by omega) (ar_2 hp (by rw [hx]; decide) (by rw [hx]; decide) (by rw [hy]; decide) (by rw [hy]; decide))
theorem c_sign59 (hsc : ab_osc sc) {x : Int32} (hx : x.toInt = 59) (hp : ab_hp h) : mc sc sp 1734 11 (d + 3) [.ref 182, .int x] h (mc_P [(182, 4, 4), (182, 11, 17)] h (some (0, 1))) := mc_q tr_sign59 (iv := some (0, 1)) (by decide +kernel) hsc (show 3 ≤ d + 3 by omega) (ar_1 hp (by rw [hx]; decide) (by rw [hx]; decide))
theorem c_tries (hsc : ab_osc sc) (hp : ab_hp h) : mc sc sp 1938 11 (d + 1) [.ref 182] h (mc_P [(191, 0, 36)] h none) := mc_q tr_tries (iv := none) (by decide +kernel) hsc (show 1 ≤ d + 1 by omega) (ar_0 hp)
theorem c_does0 (hsc : ab_osc sc) {x y : Int32} (h1 : 0 ≤ x.toInt) (h2 : x.toInt ≤ 3) (h3 : 0 ≤ y.toInt) (h4 : y.toInt ≤ 9) (hp : ab_hp h) : mc sc sp 2065 11 (d + 13) [.ref 182, .int x, .int y] h (mc_P [(182, 22, 22), (184, 90, 125), (189, 0, 9)] h (some (0, 41))) := mc_q tr_does0 (iv := some (0, 41)) (by decide +kernel) hsc (show 11 ≤ d + 13 by omega) (ar_2 hp h1 h2 h3 h4)
theorem c_does4 (hsc : ab_osc sc) {x y : Int32} (h1 : 4 ≤ x.toInt) (h2 : x.toInt ≤ 4) (h3 : 1 ≤ y.toInt) (h4 : y.toInt ≤ 60) (hp : ab_hp h) : mc sc sp 2065 11 (d + 13) [.ref 182, .int x, .int y] h (mc_P [(182, 22, 22), (184, 89, 111), (184, 118, 125), (189, 0, 9)] h (some (0, 41))) := mc_q tr_does4 (iv := some (0, 41)) (by decide +kernel) hsc (show 13 ≤ d + 13 by omega) (ar_2 hp h1 h2 h3 h4)
end KO
/-- a line that was read -/
def PR (a b : Int) : Prop := ((0 ≤ a ∧ a ≤ 3) ∧ 0 ≤ b ∧ b ≤ 9) ∨ (a = 4 ∧ 1 ≤ b ∧ b ≤ 60)
abbrev MBL : ab_M := [(182, 4, 4), (182, 11, 18), (186, 0, 134)]
theorem gq_rd : ckn 135 (fun i => ckq 186 (0 + i) (-2147483648) 2147483647) = true := by decide +kernel
theorem gb_told {h : eg_H} (hp : ab_hp0 h) : 0 ≤ (hv h 182 41).toInt ∧ (hv h 182 41).toInt ≤ 40 := by
  obtain ⟨rg, g1, g2⟩ : ∃ rg, ab_get 182 = some (111, rg) ∧ ab_sl rg 41 = some (.inl (0, 40)) := ⟨_, rfl, by decide +kernel⟩
  exact (hv_slot hp g1 g2).2

theorem ml_1658 : (eg_md 1658).2.2.1 = 4 := by decide +kernel
theorem rt_1658 : (eg_md 1658).2.2.2 = none := by decide +kernel
theorem ml_1676 : (eg_md 1676).2.2.1 = 3 := by decide +kernel
theorem rt_1676 : (eg_md 1676).2.2.2 = some .boolean := by decide +kernel
theorem ml_1687 : (eg_md 1687).2.2.1 = 2 := by decide +kernel
theorem rt_1687 : (eg_md 1687).2.2.2 = some .boolean := by decide +kernel
theorem ml_1695 : (eg_md 1695).2.2.1 = 3 := by decide +kernel
theorem rt_1695 : (eg_md 1695).2.2.2 = some .boolean := by decide +kernel
theorem ml_1730 : (eg_md 1730).2.2.1 = 3 := by decide +kernel
theorem rt_1730 : (eg_md 1730).2.2.2 = some .boolean := by decide +kernel
theorem ml_2061 : (eg_md 2061).2.2.1 = 4 := by decide +kernel
theorem rt_2061 : (eg_md 2061).2.2.2 = some .boolean := by decide +kernel
theorem ci_2061_0 : ab_at 2061 0 (.iconst 2) 1 = true := by decide +kernel
theorem ci_2061_1 : ab_at 2061 1 (.aload_n 0) 1 = true := by decide +kernel
theorem ci_2061_2 : ab_at 2061 2 (.getfield 434) 3 = true := by decide +kernel
theorem ci_2061_5 : ab_at 2061 5 (.imul) 1 = true := by decide +kernel
theorem ci_2061_6 : ab_at 2061 6 (.istore_n 1) 1 = true := by decide +kernel
theorem ci_2061_7 : ab_at 2061 7 (.aload_n 0) 1 = true := by decide +kernel
theorem ci_2061_8 : ab_at 2061 8 (.ldc2_w 119) 3 = true := by decide +kernel
theorem ci_2061_11 : ab_at 2061 11 (.invokevirtual 224) 3 = true := by decide +kernel
theorem ci_2061_14 : ab_at 2061 14 (.istore_n 2) 1 = true := by decide +kernel
theorem ci_2061_15 : ab_at 2061 15 (.iload_n 2) 1 = true := by decide +kernel
theorem ci_2061_16 : ab_at 2061 16 (.ifCond .ne 20) 3 = true := by decide +kernel
theorem ci_2061_19 : ab_at 2061 19 (.aload_n 0) 1 = true := by decide +kernel
theorem ci_2061_20 : ab_at 2061 20 (.bipush 6) 2 = true := by decide +kernel
theorem ci_2061_22 : ab_at 2061 22 (.aload_n 0) 1 = true := by decide +kernel
theorem ci_2061_23 : ab_at 2061 23 (.getfield 33) 3 = true := by decide +kernel
theorem ci_2061_26 : ab_at 2061 26 (.iconst 1) 1 = true := by decide +kernel
theorem ci_2061_27 : ab_at 2061 27 (.iaload) 1 = true := by decide +kernel
theorem ci_2061_28 : ab_at 2061 28 (.invokevirtual 209) 3 = true := by decide +kernel
theorem ci_2061_31 : ab_at 2061 31 (.ifCond .ne 5) 3 = true := by decide +kernel
theorem ci_2061_34 : ab_at 2061 34 (.iconst 0) 1 = true := by decide +kernel
theorem ci_2061_36 : ab_at 2061 36 (.aload_n 0) 1 = true := by decide +kernel
theorem ci_2061_37 : ab_at 2061 37 (.getfield 434) 3 = true := by decide +kernel
theorem ci_2061_40 : ab_at 2061 40 (.bipush 40) 2 = true := by decide +kernel
theorem ci_2061_42 : ab_at 2061 42 (.if_icmp .ne 9) 3 = true := by decide +kernel
theorem ci_2061_45 : ab_at 2061 45 (.aload_n 0) 1 = true := by decide +kernel
theorem ci_2061_46 : ab_at 2061 46 (.iconst 4) 1 = true := by decide +kernel
theorem ci_2061_47 : ab_at 2061 47 (.invokevirtual 184) 3 = true := by decide +kernel
theorem ci_2061_51 : ab_at 2061 51 (.aload_n 0) 1 = true := by decide +kernel
theorem ci_2061_52 : ab_at 2061 52 (.getfield 40) 3 = true := by decide +kernel
theorem ci_2061_55 : ab_at 2061 55 (.iload_n 1) 1 = true := by decide +kernel
theorem ci_2061_56 : ab_at 2061 56 (.iconst 1) 1 = true := by decide +kernel
theorem ci_2061_57 : ab_at 2061 57 (.iadd) 1 = true := by decide +kernel
theorem ci_2061_58 : ab_at 2061 58 (.aload_n 0) 1 = true := by decide +kernel
theorem ci_2061_59 : ab_at 2061 59 (.getfield 194) 3 = true := by decide +kernel
theorem ci_2061_62 : ab_at 2061 62 (.iastore) 1 = true := by decide +kernel
theorem ci_2061_63 : ab_at 2061 63 (.aload_n 0) 1 = true := by decide +kernel
theorem ci_2061_64 : ab_at 2061 64 (.invokevirtual 187) 3 = true := by decide +kernel
theorem ci_2061_67 : ab_at 2061 67 (.iload_n 2) 1 = true := by decide +kernel
theorem ci_2061_68 : ab_at 2061 68 (.ifCond .eq 36) 3 = true := by decide +kernel
theorem ci_2061_71 : ab_at 2061 71 (.aload_n 0) 1 = true := by decide +kernel
theorem ci_2061_72 : ab_at 2061 72 (.getfield 40) 3 = true := by decide +kernel
theorem ci_2061_75 : ab_at 2061 75 (.iload_n 1) 1 = true := by decide +kernel
theorem ci_2061_76 : ab_at 2061 76 (.iconst 4) 1 = true := by decide +kernel
theorem ci_2061_77 : ab_at 2061 77 (.iastore) 1 = true := by decide +kernel
theorem ci_2061_78 : ab_at 2061 78 (.aload_n 0) 1 = true := by decide +kernel
theorem ci_2061_79 : ab_at 2061 79 (.iconst 1) 1 = true := by decide +kernel
theorem ci_2061_80 : ab_at 2061 80 (.bipush 60) 2 = true := by decide +kernel
theorem ci_2061_82 : ab_at 2061 82 (.invokevirtual 197) 3 = true := by decide +kernel
theorem ci_2061_85 : ab_at 2061 85 (.ifCond .ne 5) 3 = true := by decide +kernel
theorem ci_2061_88 : ab_at 2061 88 (.iconst 0) 1 = true := by decide +kernel
theorem ci_2061_90 : ab_at 2061 90 (.aload_n 0) 1 = true := by decide +kernel
theorem ci_2061_91 : ab_at 2061 91 (.getfield 40) 3 = true := by decide +kernel
theorem ci_2061_94 : ab_at 2061 94 (.iload_n 1) 1 = true := by decide +kernel
theorem ci_2061_95 : ab_at 2061 95 (.iconst 1) 1 = true := by decide +kernel
theorem ci_2061_96 : ab_at 2061 96 (.iadd) 1 = true := by decide +kernel
theorem ci_2061_97 : ab_at 2061 97 (.aload_n 0) 1 = true := by decide +kernel
theorem ci_2061_98 : ab_at 2061 98 (.getfield 194) 3 = true := by decide +kernel
theorem ci_2061_101 : ab_at 2061 101 (.iastore) 1 = true := by decide +kernel
theorem ci_2061_102 : ab_at 2061 102 (.iconst 1) 1 = true := by decide +kernel
theorem ci_2061_104 : ab_at 2061 104 (.aload_n 0) 1 = true := by decide +kernel
theorem ci_2061_105 : ab_at 2061 105 (.ldc2_w 111) 3 = true := by decide +kernel
theorem ci_2061_108 : ab_at 2061 108 (.invokevirtual 224) 3 = true := by decide +kernel
theorem ci_2061_111 : ab_at 2061 111 (.ifCond .eq 7) 3 = true := by decide +kernel
theorem ci_2061_114 : ab_at 2061 114 (.iconst 0) 1 = true := by decide +kernel
theorem ci_2061_115 : ab_at 2061 115 (.goto 46) 3 = true := by decide +kernel
theorem ci_2061_118 : ab_at 2061 118 (.aload_n 0) 1 = true := by decide +kernel
theorem ci_2061_119 : ab_at 2061 119 (.ldc2_w 113) 3 = true := by decide +kernel
theorem ci_2061_122 : ab_at 2061 122 (.invokevirtual 224) 3 = true := by decide +kernel
theorem ci_2061_125 : ab_at 2061 125 (.ifCond .eq 7) 3 = true := by decide +kernel
theorem ci_2061_128 : ab_at 2061 128 (.iconst 1) 1 = true := by decide +kernel
theorem ci_2061_129 : ab_at 2061 129 (.goto 32) 3 = true := by decide +kernel
theorem ci_2061_132 : ab_at 2061 132 (.aload_n 0) 1 = true := by decide +kernel
theorem ci_2061_133 : ab_at 2061 133 (.ldc2_w 115) 3 = true := by decide +kernel
theorem ci_2061_136 : ab_at 2061 136 (.invokevirtual 224) 3 = true := by decide +kernel
theorem ci_2061_139 : ab_at 2061 139 (.ifCond .eq 7) 3 = true := by decide +kernel
theorem ci_2061_142 : ab_at 2061 142 (.iconst 2) 1 = true := by decide +kernel
theorem ci_2061_143 : ab_at 2061 143 (.goto 18) 3 = true := by decide +kernel
theorem ci_2061_146 : ab_at 2061 146 (.aload_n 0) 1 = true := by decide +kernel
theorem ci_2061_147 : ab_at 2061 147 (.ldc2_w 117) 3 = true := by decide +kernel
theorem ci_2061_150 : ab_at 2061 150 (.invokevirtual 224) 3 = true := by decide +kernel
theorem ci_2061_153 : ab_at 2061 153 (.ifCond .eq 7) 3 = true := by decide +kernel
theorem ci_2061_156 : ab_at 2061 156 (.iconst 3) 1 = true := by decide +kernel
theorem ci_2061_157 : ab_at 2061 157 (.goto 4) 3 = true := by decide +kernel
theorem ci_2061_160 : ab_at 2061 160 (.iconst (-1)) 1 = true := by decide +kernel
theorem ci_2061_161 : ab_at 2061 161 (.istore_n 3) 1 = true := by decide +kernel
theorem ci_2061_162 : ab_at 2061 162 (.iload_n 3) 1 = true := by decide +kernel
theorem ci_2061_163 : ab_at 2061 163 (.ifCond .ge 9) 3 = true := by decide +kernel
theorem ci_2061_166 : ab_at 2061 166 (.aload_n 0) 1 = true := by decide +kernel
theorem ci_2061_167 : ab_at 2061 167 (.iconst 1) 1 = true := by decide +kernel
theorem ci_2061_168 : ab_at 2061 168 (.invokevirtual 184) 3 = true := by decide +kernel
theorem ci_2061_172 : ab_at 2061 172 (.aload_n 0) 1 = true := by decide +kernel
theorem ci_2061_173 : ab_at 2061 173 (.getfield 40) 3 = true := by decide +kernel
theorem ci_2061_176 : ab_at 2061 176 (.iload_n 1) 1 = true := by decide +kernel
theorem ci_2061_177 : ab_at 2061 177 (.iload_n 3) 1 = true := by decide +kernel
theorem ci_2061_178 : ab_at 2061 178 (.iastore) 1 = true := by decide +kernel
theorem ci_2061_179 : ab_at 2061 179 (.aload_n 0) 1 = true := by decide +kernel
theorem ci_2061_180 : ab_at 2061 180 (.invokevirtual 187) 3 = true := by decide +kernel
theorem ci_2061_183 : ab_at 2061 183 (.iconst 1) 1 = true := by decide +kernel
def BLP (h : eg_H) (t : Nat) (vo : Option Value) (h' : eg_H) : Prop := ab_hp h' ∧ ab_fr MBL h' h ∧ (∀ j, j < 2 * t → hv h' 186 j = hv h 186 j) ∧ ∃ r : Int32, vo = some (.int r) ∧ (r.toInt = 0 ∨ (r.toInt = 1 ∧ t < 40 ∧ PR (hv h' 186 (2 * t)).toInt (hv h' 186 (2 * t + 1)).toInt))
theorem bl_A {sc : List Value} {sp d : Nat} (hsc : ab_osc sc) {h c : eg_H} {t : Nat} {xt r11 : Int32} {rd : Nat → Int32} (hxt : xt.toInt = ((2 * t : Nat) : Int)) (ht9 : t ≤ 40) (hp : ab_hp c) (hf : ab_fr MBL c h) (ht : (hv c 182 41).toInt = (t : Int)) (hlow : ∀ j, j < 2 * t → hv c 186 j = hv h 186 j) (hrd : ∀ j, hv c 186 j = rd j) {ls : eg_L} (l0 : eg_find 0 ls = some (.ref 182)) (l1 : eg_find 1 ls = some (.int xt)) (l2 : eg_find 2 ls = some (.int r11)) (b16 : r11.toInt ≠ 0) : hs sc sp 2061 11 (d + 4) (fun pc' _ st' h' => ∃ ik vo, ab_ret 2061 pc' = some ik ∧ eg_rv (eg_md 2061).2.2.2 ik st' = some vo ∧ BLP h t vo h') 36 ls [] c := by
  refine hs_aload_n ci_2061_36 l0 ?_
  refine hs_gfi 41 ci_2061_37 (by decide +kernel) hp.1 ?_
  refine hs_bipush ci_2061_40 ?_
  refine hs_ic (t := 51) ci_2061_42 rfl (fun b42 => ?_) (fun b42 => ?_)
  · simp only [hs_cd, ab_not] at b42
    have ht40 : t < 40 := by have : (Int8.ofInt 40).toInt32.toInt = 40 := rfl; omega
    refine hs_aload_n ci_2061_51 l0 ?_
    refine hs_gfr 8 186 ci_2061_52 (by decide +kernel) hp.1 ?_
    refine hs_iload_n ci_2061_55 l1 ?_
    refine hs_iconst ci_2061_56 ?_
    refine hs_iadd ci_2061_57 ?_
    refine hs_aload_n ci_2061_58 l0 ?_
    refine hs_gfi 18 ci_2061_59 (by decide +kernel) hp.1 ?_
    refine hs_ias1 (0 + (2 * t + 1)) ci_2061_62 ((i32_add hxt (b := 1) rfl (by omega) (by omega)).trans (by omega)) (ckq_v gq_rd (2 * t + 1) (by omega)) hp.1 (ab_ige _) (ab_ile _) ?_
    intro k4 w9
    replace hf := (w9.fr (M := MBL) (in3 (by omega) (by omega))).tr hf
    replace hp : ab_hp k4 := ⟨w9.1, hp.2.set (by unfold ab_pr; rfl) w9.2⟩
    replace ht : (hv k4 182 41).toInt = (t : Int) := by rw [w9.v, if_neg (fun e => absurd e.1 (by decide))]; exact ht
    replace hlow : ∀ j, j < 2 * t → hv k4 186 j = hv h 186 j := fun j hj => by
      rw [w9.v, if_neg (by omega)]; exact hlow j hj
    have q62 := (w9.v 186 (2 * t + 1)).trans (if_pos ⟨rfl, by omega⟩)
    have p62 : ∀ j, ¬ j = 2 * t + 1 → hv k4 186 j = rd j := fun j hj => by
      rw [w9.v, if_neg (by omega)]; exact hrd j
    obtain ⟨rd, hrd⟩ : ∃ rd : Nat → Int32, ∀ j, hv k4 186 j = rd j := ⟨_, fun j => rfl⟩
    rw [hrd] at q62
    replace p62 := fun j hj => (hrd j).symm.trans (p62 j hj)
    clear w9
    refine hs_aload_n ci_2061_63 l0 ?_
    refine hs_cv 1658 11 0 ci_2061_64 (by decide +kernel) (by decide +kernel) hp.1 rfl (by rw [ml_1658]; rfl) (c_next hsc hp) ?_
    rintro v9 k5 ⟨hp2, f2, e8⟩
    rw [e8]
    clear e8 v9
    simp only [Option.toList, List.cons_append, List.nil_append]
    replace ht : (hv k5 182 41).toInt = (t : Int) := by rw [hv_fr f2 (by rfl)]; exact ht
    replace hlow : ∀ j, j < 2 * t → hv k5 186 j = hv h 186 j := fun j hj => (hv_fr f2 (by rfl)).trans (hlow j hj)
    replace hrd : ∀ j, hv k5 186 j = rd j := fun j => (hv_fr f2 (by rfl)).trans (hrd j)
    replace hf := (fr_sub (M := MBL) (by decide +kernel) f2).tr hf
    replace hp := hp2
    clear hp2
    refine hs_iload_n ci_2061_67 l2 ?_
    refine hs_if (t := 104) ci_2061_68 rfl (fun b68 => ?_) (fun b68 => ?_)
    · simp only [hs_cd, ab_not] at b68
      omega
    · simp only [hs_cd, ab_not] at b68
      refine hs_aload_n ci_2061_71 l0 ?_
      refine hs_gfr 8 186 ci_2061_72 (by decide +kernel) hp.1 ?_
      refine hs_iload_n ci_2061_75 l1 ?_
      refine hs_iconst ci_2061_76 ?_
      refine hs_ias1 (0 + (2 * t)) ci_2061_77 (hxt.trans (by omega)) (ckq_v gq_rd (2 * t) (by omega)) hp.1 (ab_ige _) (ab_ile _) ?_
      intro k6 w9
      replace hf := (w9.fr (M := MBL) (in3 (by omega) (by omega))).tr hf
      replace hp : ab_hp k6 := ⟨w9.1, hp.2.set (by unfold ab_pr; rfl) w9.2⟩
      replace ht : (hv k6 182 41).toInt = (t : Int) := by rw [w9.v, if_neg (fun e => absurd e.1 (by decide))]; exact ht
      replace hlow : ∀ j, j < 2 * t → hv k6 186 j = hv h 186 j := fun j hj => by
        rw [w9.v, if_neg (by omega)]; exact hlow j hj
      have q77 := (w9.v 186 (2 * t)).trans (if_pos ⟨rfl, by omega⟩)
      have p77 : ∀ j, ¬ j = 2 * t → hv k6 186 j = rd j := fun j hj => by
        rw [w9.v, if_neg (by omega)]; exact hrd j
      obtain ⟨rd, hrd⟩ : ∃ rd : Nat → Int32, ∀ j, hv k6 186 j = rd j := ⟨_, fun j => rfl⟩
      rw [hrd] at q77
      replace p77 := fun j hj => (hrd j).symm.trans (p77 j hj)
      clear w9
      refine hs_aload_n ci_2061_78 l0 ?_
      refine hs_iconst ci_2061_79 ?_
      refine hs_bipush ci_2061_80 ?_
      refine hs_cv 1695 11 2 ci_2061_82 (by decide +kernel) (by decide +kernel) hp.1 rfl (by rw [ml_1695]; rfl) (c_takes60 hsc rfl rfl hp) ?_
      rintro v9 k7 ⟨hp2, f2, r82, e8, hr82⟩
      rw [e8]
      clear e8 v9
      simp only [Option.toList, List.cons_append, List.nil_append]
      replace ht : (hv k7 182 41).toInt = (t : Int) := by rw [hv_fr f2 (by rfl)]; exact ht
      replace hlow : ∀ j, j < 2 * t → hv k7 186 j = hv h 186 j := fun j hj => (hv_fr f2 (by rfl)).trans (hlow j hj)
      replace hrd : ∀ j, hv k7 186 j = rd j := fun j => (hv_fr f2 (by rfl)).trans (hrd j)
      replace hf := (fr_sub (M := MBL) (by decide +kernel) f2).tr hf
      replace hp := hp2
      clear hp2
      refine hs_if (t := 90) ci_2061_85 rfl (fun b85 => ?_) (fun b85 => ?_)
      · simp only [hs_cd, ab_not] at b85
        refine hs_aload_n ci_2061_90 l0 ?_
        refine hs_gfr 8 186 ci_2061_91 (by decide +kernel) hp.1 ?_
        refine hs_iload_n ci_2061_94 l1 ?_
        refine hs_iconst ci_2061_95 ?_
        refine hs_iadd ci_2061_96 ?_
        refine hs_aload_n ci_2061_97 l0 ?_
        refine hs_gfi 18 ci_2061_98 (by decide +kernel) hp.1 ?_
        refine hs_ias1 (0 + (2 * t + 1)) ci_2061_101 ((i32_add hxt (b := 1) rfl (by omega) (by omega)).trans (by omega)) (ckq_v gq_rd (2 * t + 1) (by omega)) hp.1 (ab_ige _) (ab_ile _) ?_
        intro k8 w9
        replace hf := (w9.fr (M := MBL) (in3 (by omega) (by omega))).tr hf
        replace hp : ab_hp k8 := ⟨w9.1, hp.2.set (by unfold ab_pr; rfl) w9.2⟩
        replace ht : (hv k8 182 41).toInt = (t : Int) := by rw [w9.v, if_neg (fun e => absurd e.1 (by decide))]; exact ht
        replace hlow : ∀ j, j < 2 * t → hv k8 186 j = hv h 186 j := fun j hj => by
          rw [w9.v, if_neg (by omega)]; exact hlow j hj
        have q101 := (w9.v 186 (2 * t + 1)).trans (if_pos ⟨rfl, by omega⟩)
        have p101 : ∀ j, ¬ j = 2 * t + 1 → hv k8 186 j = rd j := fun j hj => by
          rw [w9.v, if_neg (by omega)]; exact hrd j
        obtain ⟨rd, hrd⟩ : ∃ rd : Nat → Int32, ∀ j, hv k8 186 j = rd j := ⟨_, fun j => rfl⟩
        rw [hrd] at q101
        replace p101 := fun j hj => (hrd j).symm.trans (p101 j hj)
        clear w9
        refine hs_iconst ci_2061_102 ?_
        exact hs_k ⟨3, some (.int _), by decide +kernel, by rw [rt_2061]; rfl, hp, hf, hlow, _, rfl, Or.inr ⟨rfl, ht40, by
          rw [hrd, hrd]
          have e1 := p101 (2 * t) (by omega)
          rw [e1, q77, q101]
          have : (Int32.ofInt 4).toInt = 4 := rfl
          exact Or.inr ⟨this, by omega, by omega⟩⟩⟩
      · simp only [hs_cd, ab_not] at b85
        refine hs_iconst ci_2061_88 ?_
        exact hs_k ⟨3, some (.int _), by decide +kernel, by rw [rt_2061]; rfl, hp, hf, hlow, _, rfl, Or.inl rfl⟩
  · simp only [hs_cd, ab_not] at b42
    refine hs_aload_n ci_2061_45 l0 ?_
    refine hs_iconst ci_2061_46 ?_
    refine hs_cv 1687 11 1 ci_2061_47 (by decide +kernel) (by decide +kernel) hp.1 rfl (by rw [ml_1687]; rfl) (c_bad hsc (by decide) (by decide) hp) ?_
    rintro v9 k3 ⟨hp2, f2, r47, e8, r47a, r47b⟩
    rw [e8]
    clear e8 v9
    simp only [Option.toList, List.cons_append, List.nil_append]
    replace ht : (hv k3 182 41).toInt = (t : Int) := by rw [hv_fr f2 (by rfl)]; exact ht
    replace hlow : ∀ j, j < 2 * t → hv k3 186 j = hv h 186 j := fun j hj => (hv_fr f2 (by rfl)).trans (hlow j hj)
    replace hrd : ∀ j, hv k3 186 j = rd j := fun j => (hv_fr f2 (by rfl)).trans (hrd j)
    replace hf := (fr_sub (M := MBL) (by decide +kernel) f2).tr hf
    replace hp := hp2
    clear hp2
    obtain rfl : r47 = 0 := Int32.toInt_inj.mp (by show r47.toInt = 0; omega)
    exact hs_k ⟨3, some (.int 0), by decide +kernel, by rw [rt_2061]; rfl, hp, hf, hlow, 0, rfl, Or.inl rfl⟩
theorem bl_B {sc : List Value} {sp d : Nat} (hsc : ab_osc sc) {h c : eg_H} {t : Nat} {xt r11 : Int32} {rd : Nat → Int32} (hxt : xt.toInt = ((2 * t : Nat) : Int)) (ht9 : t ≤ 40) (hp : ab_hp c) (hf : ab_fr MBL c h) (ht : (hv c 182 41).toInt = (t : Int)) (hlow : ∀ j, j < 2 * t → hv c 186 j = hv h 186 j) (hrd : ∀ j, hv c 186 j = rd j) {ls : eg_L} (l0 : eg_find 0 ls = some (.ref 182)) (l1 : eg_find 1 ls = some (.int xt)) (l2 : eg_find 2 ls = some (.int r11)) (b16 : r11.toInt = 0) (hg : 0 ≤ (hv c 182 18).toInt ∧ (hv c 182 18).toInt ≤ 9) : hs sc sp 2061 11 (d + 4) (fun pc' _ st' h' => ∃ ik vo, ab_ret 2061 pc' = some ik ∧ eg_rv (eg_md 2061).2.2.2 ik st' = some vo ∧ BLP h t vo h') 36 ls [] c := by
  refine hs_aload_n ci_2061_36 l0 ?_
  refine hs_gfi 41 ci_2061_37 (by decide +kernel) hp.1 ?_
  refine hs_bipush ci_2061_40 ?_
  refine hs_ic (t := 51) ci_2061_42 rfl (fun b42 => ?_) (fun b42 => ?_)
  · simp only [hs_cd, ab_not] at b42
    have ht40 : t < 40 := by have : (Int8.ofInt 40).toInt32.toInt = 40 := rfl; omega
    refine hs_aload_n ci_2061_51 l0 ?_
    refine hs_gfr 8 186 ci_2061_52 (by decide +kernel) hp.1 ?_
    refine hs_iload_n ci_2061_55 l1 ?_
    refine hs_iconst ci_2061_56 ?_
    refine hs_iadd ci_2061_57 ?_
    refine hs_aload_n ci_2061_58 l0 ?_
    refine hs_gfi 18 ci_2061_59 (by decide +kernel) hp.1 ?_
    refine hs_ias1 (0 + (2 * t + 1)) ci_2061_62 ((i32_add hxt (b := 1) rfl (by omega) (by omega)).trans (by omega)) (ckq_v gq_rd (2 * t + 1) (by omega)) hp.1 (ab_ige _) (ab_ile _) ?_
    intro k4 w9
    replace hf := (w9.fr (M := MBL) (in3 (by omega) (by omega))).tr hf
    replace hp : ab_hp k4 := ⟨w9.1, hp.2.set (by unfold ab_pr; rfl) w9.2⟩
    replace ht : (hv k4 182 41).toInt = (t : Int) := by rw [w9.v, if_neg (fun e => absurd e.1 (by decide))]; exact ht
    replace hlow : ∀ j, j < 2 * t → hv k4 186 j = hv h 186 j := fun j hj => by
      rw [w9.v, if_neg (by omega)]; exact hlow j hj
    have q62 := (w9.v 186 (2 * t + 1)).trans (if_pos ⟨rfl, by omega⟩)
    have p62 : ∀ j, ¬ j = 2 * t + 1 → hv k4 186 j = rd j := fun j hj => by
      rw [w9.v, if_neg (by omega)]; exact hrd j
    obtain ⟨rd, hrd⟩ : ∃ rd : Nat → Int32, ∀ j, hv k4 186 j = rd j := ⟨_, fun j => rfl⟩
    rw [hrd] at q62
    replace p62 := fun j hj => (hrd j).symm.trans (p62 j hj)
    clear w9
    refine hs_aload_n ci_2061_63 l0 ?_
    refine hs_cv 1658 11 0 ci_2061_64 (by decide +kernel) (by decide +kernel) hp.1 rfl (by rw [ml_1658]; rfl) (c_next hsc hp) ?_
    rintro v9 k5 ⟨hp2, f2, e8⟩
    rw [e8]
    clear e8 v9
    simp only [Option.toList, List.cons_append, List.nil_append]
    replace ht : (hv k5 182 41).toInt = (t : Int) := by rw [hv_fr f2 (by rfl)]; exact ht
    replace hlow : ∀ j, j < 2 * t → hv k5 186 j = hv h 186 j := fun j hj => (hv_fr f2 (by rfl)).trans (hlow j hj)
    replace hrd : ∀ j, hv k5 186 j = rd j := fun j => (hv_fr f2 (by rfl)).trans (hrd j)
    replace hf := (fr_sub (M := MBL) (by decide +kernel) f2).tr hf
    replace hp := hp2
    clear hp2
    refine hs_iload_n ci_2061_67 l2 ?_
    refine hs_if (t := 104) ci_2061_68 rfl (fun b68 => ?_) (fun b68 => ?_)
    · simp only [hs_cd, ab_not] at b68
      refine hs_aload_n ci_2061_104 l0 ?_
      refine hs_ldc2 ci_2061_105 (by decide +kernel) (fun v9 => ?_)
      refine hs_cv 1676 11 1 ci_2061_108 (by decide +kernel) (by decide +kernel) hp.1 rfl (by rw [ml_1676]; rfl) (c_isWord hsc _ hp) ?_
      rintro v9 k12 ⟨hp2, f2, r108, e8, r108a, r108b⟩
      rw [e8]
      clear e8 v9
      simp only [Option.toList, List.cons_append, List.nil_append]
      replace ht : (hv k12 182 41).toInt = (t : Int) := by rw [hv_fr f2 (by rfl)]; exact ht
      replace hlow : ∀ j, j < 2 * t → hv k12 186 j = hv h 186 j := fun j hj => (hv_fr f2 (by rfl)).trans (hlow j hj)
      replace hrd : ∀ j, hv k12 186 j = rd j := fun j => (hv_fr f2 (by rfl)).trans (hrd j)
      replace hf := (fr_sub (M := MBL) (by decide +kernel) f2).tr hf
      replace hp := hp2
      clear hp2
      refine hs_if (t := 118) ci_2061_111 rfl (fun b111 => ?_) (fun b111 => ?_)
      · simp only [hs_cd, ab_not] at b111
        refine hs_aload_n ci_2061_118 l0 ?_
        refine hs_ldc2 ci_2061_119 (by decide +kernel) (fun v9 => ?_)
        refine hs_cv 1676 11 1 ci_2061_122 (by decide +kernel) (by decide +kernel) hp.1 rfl (by rw [ml_1676]; rfl) (c_isWord hsc _ hp) ?_
        rintro v9 k13 ⟨hp2, f2, r122, e8, r122a, r122b⟩
        rw [e8]
        clear e8 v9
        simp only [Option.toList, List.cons_append, List.nil_append]
        replace ht : (hv k13 182 41).toInt = (t : Int) := by rw [hv_fr f2 (by rfl)]; exact ht
        replace hlow : ∀ j, j < 2 * t → hv k13 186 j = hv h 186 j := fun j hj => (hv_fr f2 (by rfl)).trans (hlow j hj)
        replace hrd : ∀ j, hv k13 186 j = rd j := fun j => (hv_fr f2 (by rfl)).trans (hrd j)
        replace hf := (fr_sub (M := MBL) (by decide +kernel) f2).tr hf
        replace hp := hp2
        clear hp2
        refine hs_if (t := 132) ci_2061_125 rfl (fun b125 => ?_) (fun b125 => ?_)
        · simp only [hs_cd, ab_not] at b125
          refine hs_aload_n ci_2061_132 l0 ?_
          refine hs_ldc2 ci_2061_133 (by decide +kernel) (fun v9 => ?_)
          refine hs_cv 1676 11 1 ci_2061_136 (by decide +kernel) (by decide +kernel) hp.1 rfl (by rw [ml_1676]; rfl) (c_isWord hsc _ hp) ?_
          rintro v9 k14 ⟨hp2, f2, r136, e8, r136a, r136b⟩
          rw [e8]
          clear e8 v9
          simp only [Option.toList, List.cons_append, List.nil_append]
          replace ht : (hv k14 182 41).toInt = (t : Int) := by rw [hv_fr f2 (by rfl)]; exact ht
          replace hlow : ∀ j, j < 2 * t → hv k14 186 j = hv h 186 j := fun j hj => (hv_fr f2 (by rfl)).trans (hlow j hj)
          replace hrd : ∀ j, hv k14 186 j = rd j := fun j => (hv_fr f2 (by rfl)).trans (hrd j)
          replace hf := (fr_sub (M := MBL) (by decide +kernel) f2).tr hf
          replace hp := hp2
          clear hp2
          refine hs_if (t := 146) ci_2061_139 rfl (fun b139 => ?_) (fun b139 => ?_)
          · simp only [hs_cd, ab_not] at b139
            refine hs_aload_n ci_2061_146 l0 ?_
            refine hs_ldc2 ci_2061_147 (by decide +kernel) (fun v9 => ?_)
            refine hs_cv 1676 11 1 ci_2061_150 (by decide +kernel) (by decide +kernel) hp.1 rfl (by rw [ml_1676]; rfl) (c_isWord hsc _ hp) ?_
            rintro v9 k15 ⟨hp2, f2, r150, e8, r150a, r150b⟩
            rw [e8]
            clear e8 v9
            simp only [Option.toList, List.cons_append, List.nil_append]
            replace ht : (hv k15 182 41).toInt = (t : Int) := by rw [hv_fr f2 (by rfl)]; exact ht
            replace hlow : ∀ j, j < 2 * t → hv k15 186 j = hv h 186 j := fun j hj => (hv_fr f2 (by rfl)).trans (hlow j hj)
            replace hrd : ∀ j, hv k15 186 j = rd j := fun j => (hv_fr f2 (by rfl)).trans (hrd j)
            replace hf := (fr_sub (M := MBL) (by decide +kernel) f2).tr hf
            replace hp := hp2
            clear hp2
            refine hs_if (t := 160) ci_2061_153 rfl (fun b153 => ?_) (fun b153 => ?_)
            · simp only [hs_cd, ab_not] at b153
              refine hs_iconst ci_2061_160 ?_
              refine hs_istore_n ci_2061_161 (by decide +kernel) ?_
              intro ls9 q9
              replace l0 := q9.2 0 _ (by decide) rfl l0
              replace l1 := q9.2 1 _ (by decide) rfl l1
              replace l2 := q9.2 2 _ (by decide) rfl l2
              have l3 := q9.1
              clear q9
              refine hs_iload_n ci_2061_162 l3 ?_
              refine hs_if (t := 172) ci_2061_163 rfl (fun b163 => ?_) (fun b163 => ?_)
              · simp only [hs_cd, ab_not] at b163
                refine hs_aload_n ci_2061_172 l0 ?_
                refine hs_gfr 8 186 ci_2061_173 (by decide +kernel) hp.1 ?_
                refine hs_iload_n ci_2061_176 l1 ?_
                refine hs_iload_n ci_2061_177 l3 ?_
                refine hs_ias1 (0 + (2 * t)) ci_2061_178 (hxt.trans (by omega)) (ckq_v gq_rd (2 * t) (by omega)) hp.1 (ab_ige _) (ab_ile _) ?_
                intro k10 w9
                replace hf := (w9.fr (M := MBL) (in3 (by omega) (by omega))).tr hf
                replace hp : ab_hp k10 := ⟨w9.1, hp.2.set (by unfold ab_pr; rfl) w9.2⟩
                replace ht : (hv k10 182 41).toInt = (t : Int) := by rw [w9.v, if_neg (fun e => absurd e.1 (by decide))]; exact ht
                replace hlow : ∀ j, j < 2 * t → hv k10 186 j = hv h 186 j := fun j hj => by
                  rw [w9.v, if_neg (by omega)]; exact hlow j hj
                have q178 := (w9.v 186 (2 * t)).trans (if_pos ⟨rfl, by omega⟩)
                have p178 : ∀ j, ¬ j = 2 * t → hv k10 186 j = rd j := fun j hj => by
                  rw [w9.v, if_neg (by omega)]; exact hrd j
                obtain ⟨rd, hrd⟩ : ∃ rd : Nat → Int32, ∀ j, hv k10 186 j = rd j := ⟨_, fun j => rfl⟩
                rw [hrd] at q178
                replace p178 := fun j hj => (hrd j).symm.trans (p178 j hj)
                clear w9
                refine hs_aload_n ci_2061_179 l0 ?_
                refine hs_cv 1658 11 0 ci_2061_180 (by decide +kernel) (by decide +kernel) hp.1 rfl (by rw [ml_1658]; rfl) (c_next hsc hp) ?_
                rintro v9 k11 ⟨hp2, f2, e8⟩
                rw [e8]
                clear e8 v9
                simp only [Option.toList, List.cons_append, List.nil_append]
                replace ht : (hv k11 182 41).toInt = (t : Int) := by rw [hv_fr f2 (by rfl)]; exact ht
                replace hlow : ∀ j, j < 2 * t → hv k11 186 j = hv h 186 j := fun j hj => (hv_fr f2 (by rfl)).trans (hlow j hj)
                replace hrd : ∀ j, hv k11 186 j = rd j := fun j => (hv_fr f2 (by rfl)).trans (hrd j)
                replace hf := (fr_sub (M := MBL) (by decide +kernel) f2).tr hf
                replace hp := hp2
                clear hp2
                refine hs_iconst ci_2061_183 ?_
                exact hs_k ⟨3, some (.int _), by decide +kernel, by rw [rt_2061]; rfl, hp, hf, hlow, _, rfl, Or.inr ⟨rfl, ht40, by
                  rw [hrd, hrd]
                  have e1 := p178 (2 * t + 1) (by omega)
                  rw [e1, q62, q178]
                  have c0 : (Int32.ofInt 0).toInt = 0 := rfl
                  have c1 : (Int32.ofInt 1).toInt = 1 := rfl
                  have c2 : (Int32.ofInt 2).toInt = 2 := rfl
                  have c3 : (Int32.ofInt 3).toInt = 3 := rfl
                  have c4 : (Int32.ofInt (-1)).toInt = -1 := rfl
                  exact Or.inl ⟨by omega, by omega, by omega⟩⟩⟩
              · simp only [hs_cd, ab_not] at b163
                refine hs_aload_n ci_2061_166 l0 ?_
                refine hs_iconst ci_2061_167 ?_
                refine hs_cv 1687 11 1 ci_2061_168 (by decide +kernel) (by decide +kernel) hp.1 rfl (by rw [ml_1687]; rfl) (c_bad hsc (by decide) (by decide) hp) ?_
                rintro v9 k9 ⟨hp2, f2, r168, e8, r168a, r168b⟩
                rw [e8]
                clear e8 v9
                simp only [Option.toList, List.cons_append, List.nil_append]
                replace ht : (hv k9 182 41).toInt = (t : Int) := by rw [hv_fr f2 (by rfl)]; exact ht
                replace hlow : ∀ j, j < 2 * t → hv k9 186 j = hv h 186 j := fun j hj => (hv_fr f2 (by rfl)).trans (hlow j hj)
                replace hrd : ∀ j, hv k9 186 j = rd j := fun j => (hv_fr f2 (by rfl)).trans (hrd j)
                replace hf := (fr_sub (M := MBL) (by decide +kernel) f2).tr hf
                replace hp := hp2
                clear hp2
                obtain rfl : r168 = 0 := Int32.toInt_inj.mp (by show r168.toInt = 0; omega)
                exact hs_k ⟨3, some (.int 0), by decide +kernel, by rw [rt_2061]; rfl, hp, hf, hlow, 0, rfl, Or.inl rfl⟩
            · simp only [hs_cd, ab_not] at b153
              refine hs_iconst ci_2061_156 ?_
              refine hs_goto (t := 161) ci_2061_157 rfl ?_
              refine hs_istore_n ci_2061_161 (by decide +kernel) ?_
              intro ls9 q9
              replace l0 := q9.2 0 _ (by decide) rfl l0
              replace l1 := q9.2 1 _ (by decide) rfl l1
              replace l2 := q9.2 2 _ (by decide) rfl l2
              have l3 := q9.1
              clear q9
              refine hs_iload_n ci_2061_162 l3 ?_
              refine hs_if (t := 172) ci_2061_163 rfl (fun b163 => ?_) (fun b163 => ?_)
              · simp only [hs_cd, ab_not] at b163
                refine hs_aload_n ci_2061_172 l0 ?_
                refine hs_gfr 8 186 ci_2061_173 (by decide +kernel) hp.1 ?_
                refine hs_iload_n ci_2061_176 l1 ?_
                refine hs_iload_n ci_2061_177 l3 ?_
                refine hs_ias1 (0 + (2 * t)) ci_2061_178 (hxt.trans (by omega)) (ckq_v gq_rd (2 * t) (by omega)) hp.1 (ab_ige _) (ab_ile _) ?_
                intro k10 w9
                replace hf := (w9.fr (M := MBL) (in3 (by omega) (by omega))).tr hf
                replace hp : ab_hp k10 := ⟨w9.1, hp.2.set (by unfold ab_pr; rfl) w9.2⟩
                replace ht : (hv k10 182 41).toInt = (t : Int) := by rw [w9.v, if_neg (fun e => absurd e.1 (by decide))]; exact ht
                replace hlow : ∀ j, j < 2 * t → hv k10 186 j = hv h 186 j := fun j hj => by
                  rw [w9.v, if_neg (by omega)]; exact hlow j hj
                have q178 := (w9.v 186 (2 * t)).trans (if_pos ⟨rfl, by omega⟩)
                have p178 : ∀ j, ¬ j = 2 * t → hv k10 186 j = rd j := fun j hj => by
                  rw [w9.v, if_neg (by omega)]; exact hrd j
                obtain ⟨rd, hrd⟩ : ∃ rd : Nat → Int32, ∀ j, hv k10 186 j = rd j := ⟨_, fun j => rfl⟩
                rw [hrd] at q178
                replace p178 := fun j hj => (hrd j).symm.trans (p178 j hj)
                clear w9
                refine hs_aload_n ci_2061_179 l0 ?_
                refine hs_cv 1658 11 0 ci_2061_180 (by decide +kernel) (by decide +kernel) hp.1 rfl (by rw [ml_1658]; rfl) (c_next hsc hp) ?_
                rintro v9 k11 ⟨hp2, f2, e8⟩
                rw [e8]
                clear e8 v9
                simp only [Option.toList, List.cons_append, List.nil_append]
                replace ht : (hv k11 182 41).toInt = (t : Int) := by rw [hv_fr f2 (by rfl)]; exact ht
                replace hlow : ∀ j, j < 2 * t → hv k11 186 j = hv h 186 j := fun j hj => (hv_fr f2 (by rfl)).trans (hlow j hj)
                replace hrd : ∀ j, hv k11 186 j = rd j := fun j => (hv_fr f2 (by rfl)).trans (hrd j)
                replace hf := (fr_sub (M := MBL) (by decide +kernel) f2).tr hf
                replace hp := hp2
                clear hp2
                refine hs_iconst ci_2061_183 ?_
                exact hs_k ⟨3, some (.int _), by decide +kernel, by rw [rt_2061]; rfl, hp, hf, hlow, _, rfl, Or.inr ⟨rfl, ht40, by
                  rw [hrd, hrd]
                  have e1 := p178 (2 * t + 1) (by omega)
                  rw [e1, q62, q178]
                  have c0 : (Int32.ofInt 0).toInt = 0 := rfl
                  have c1 : (Int32.ofInt 1).toInt = 1 := rfl
                  have c2 : (Int32.ofInt 2).toInt = 2 := rfl
                  have c3 : (Int32.ofInt 3).toInt = 3 := rfl
                  have c4 : (Int32.ofInt (-1)).toInt = -1 := rfl
                  exact Or.inl ⟨by omega, by omega, by omega⟩⟩⟩
              · simp only [hs_cd, ab_not] at b163
                refine hs_aload_n ci_2061_166 l0 ?_
                refine hs_iconst ci_2061_167 ?_
                refine hs_cv 1687 11 1 ci_2061_168 (by decide +kernel) (by decide +kernel) hp.1 rfl (by rw [ml_1687]; rfl) (c_bad hsc (by decide) (by decide) hp) ?_
                rintro v9 k9 ⟨hp2, f2, r168, e8, r168a, r168b⟩
                rw [e8]
                clear e8 v9
                simp only [Option.toList, List.cons_append, List.nil_append]
                replace ht : (hv k9 182 41).toInt = (t : Int) := by rw [hv_fr f2 (by rfl)]; exact ht
                replace hlow : ∀ j, j < 2 * t → hv k9 186 j = hv h 186 j := fun j hj => (hv_fr f2 (by rfl)).trans (hlow j hj)
                replace hrd : ∀ j, hv k9 186 j = rd j := fun j => (hv_fr f2 (by rfl)).trans (hrd j)
                replace hf := (fr_sub (M := MBL) (by decide +kernel) f2).tr hf
                replace hp := hp2
                clear hp2
                obtain rfl : r168 = 0 := Int32.toInt_inj.mp (by show r168.toInt = 0; omega)
                exact hs_k ⟨3, some (.int 0), by decide +kernel, by rw [rt_2061]; rfl, hp, hf, hlow, 0, rfl, Or.inl rfl⟩
          · simp only [hs_cd, ab_not] at b139
            refine hs_iconst ci_2061_142 ?_
            refine hs_goto (t := 161) ci_2061_143 rfl ?_
            refine hs_istore_n ci_2061_161 (by decide +kernel) ?_
            intro ls9 q9
            replace l0 := q9.2 0 _ (by decide) rfl l0
            replace l1 := q9.2 1 _ (by decide) rfl l1
            replace l2 := q9.2 2 _ (by decide) rfl l2
            have l3 := q9.1
            clear q9
            refine hs_iload_n ci_2061_162 l3 ?_
            refine hs_if (t := 172) ci_2061_163 rfl (fun b163 => ?_) (fun b163 => ?_)
            · simp only [hs_cd, ab_not] at b163
              refine hs_aload_n ci_2061_172 l0 ?_
              refine hs_gfr 8 186 ci_2061_173 (by decide +kernel) hp.1 ?_
              refine hs_iload_n ci_2061_176 l1 ?_
              refine hs_iload_n ci_2061_177 l3 ?_
              refine hs_ias1 (0 + (2 * t)) ci_2061_178 (hxt.trans (by omega)) (ckq_v gq_rd (2 * t) (by omega)) hp.1 (ab_ige _) (ab_ile _) ?_
              intro k10 w9
              replace hf := (w9.fr (M := MBL) (in3 (by omega) (by omega))).tr hf
              replace hp : ab_hp k10 := ⟨w9.1, hp.2.set (by unfold ab_pr; rfl) w9.2⟩
              replace ht : (hv k10 182 41).toInt = (t : Int) := by rw [w9.v, if_neg (fun e => absurd e.1 (by decide))]; exact ht
              replace hlow : ∀ j, j < 2 * t → hv k10 186 j = hv h 186 j := fun j hj => by
                rw [w9.v, if_neg (by omega)]; exact hlow j hj
              have q178 := (w9.v 186 (2 * t)).trans (if_pos ⟨rfl, by omega⟩)
              have p178 : ∀ j, ¬ j = 2 * t → hv k10 186 j = rd j := fun j hj => by
                rw [w9.v, if_neg (by omega)]; exact hrd j
              obtain ⟨rd, hrd⟩ : ∃ rd : Nat → Int32, ∀ j, hv k10 186 j = rd j := ⟨_, fun j => rfl⟩
              rw [hrd] at q178
              replace p178 := fun j hj => (hrd j).symm.trans (p178 j hj)
              clear w9
              refine hs_aload_n ci_2061_179 l0 ?_
              refine hs_cv 1658 11 0 ci_2061_180 (by decide +kernel) (by decide +kernel) hp.1 rfl (by rw [ml_1658]; rfl) (c_next hsc hp) ?_
              rintro v9 k11 ⟨hp2, f2, e8⟩
              rw [e8]
              clear e8 v9
              simp only [Option.toList, List.cons_append, List.nil_append]
              replace ht : (hv k11 182 41).toInt = (t : Int) := by rw [hv_fr f2 (by rfl)]; exact ht
              replace hlow : ∀ j, j < 2 * t → hv k11 186 j = hv h 186 j := fun j hj => (hv_fr f2 (by rfl)).trans (hlow j hj)
              replace hrd : ∀ j, hv k11 186 j = rd j := fun j => (hv_fr f2 (by rfl)).trans (hrd j)
              replace hf := (fr_sub (M := MBL) (by decide +kernel) f2).tr hf
              replace hp := hp2
              clear hp2
              refine hs_iconst ci_2061_183 ?_
              exact hs_k ⟨3, some (.int _), by decide +kernel, by rw [rt_2061]; rfl, hp, hf, hlow, _, rfl, Or.inr ⟨rfl, ht40, by
                rw [hrd, hrd]
                have e1 := p178 (2 * t + 1) (by omega)
                rw [e1, q62, q178]
                have c0 : (Int32.ofInt 0).toInt = 0 := rfl
                have c1 : (Int32.ofInt 1).toInt = 1 := rfl
                have c2 : (Int32.ofInt 2).toInt = 2 := rfl
                have c3 : (Int32.ofInt 3).toInt = 3 := rfl
                have c4 : (Int32.ofInt (-1)).toInt = -1 := rfl
                exact Or.inl ⟨by omega, by omega, by omega⟩⟩⟩
            · simp only [hs_cd, ab_not] at b163
              refine hs_aload_n ci_2061_166 l0 ?_
              refine hs_iconst ci_2061_167 ?_
              refine hs_cv 1687 11 1 ci_2061_168 (by decide +kernel) (by decide +kernel) hp.1 rfl (by rw [ml_1687]; rfl) (c_bad hsc (by decide) (by decide) hp) ?_
              rintro v9 k9 ⟨hp2, f2, r168, e8, r168a, r168b⟩
              rw [e8]
              clear e8 v9
              simp only [Option.toList, List.cons_append, List.nil_append]
              replace ht : (hv k9 182 41).toInt = (t : Int) := by rw [hv_fr f2 (by rfl)]; exact ht
              replace hlow : ∀ j, j < 2 * t → hv k9 186 j = hv h 186 j := fun j hj => (hv_fr f2 (by rfl)).trans (hlow j hj)
              replace hrd : ∀ j, hv k9 186 j = rd j := fun j => (hv_fr f2 (by rfl)).trans (hrd j)
              replace hf := (fr_sub (M := MBL) (by decide +kernel) f2).tr hf
              replace hp := hp2
              clear hp2
              obtain rfl : r168 = 0 := Int32.toInt_inj.mp (by show r168.toInt = 0; omega)
              exact hs_k ⟨3, some (.int 0), by decide +kernel, by rw [rt_2061]; rfl, hp, hf, hlow, 0, rfl, Or.inl rfl⟩
        · simp only [hs_cd, ab_not] at b125
          refine hs_iconst ci_2061_128 ?_
          refine hs_goto (t := 161) ci_2061_129 rfl ?_
          refine hs_istore_n ci_2061_161 (by decide +kernel) ?_
          intro ls9 q9
          replace l0 := q9.2 0 _ (by decide) rfl l0
          replace l1 := q9.2 1 _ (by decide) rfl l1
          replace l2 := q9.2 2 _ (by decide) rfl l2
          have l3 := q9.1
          clear q9
          refine hs_iload_n ci_2061_162 l3 ?_
          refine hs_if (t := 172) ci_2061_163 rfl (fun b163 => ?_) (fun b163 => ?_)
          · simp only [hs_cd, ab_not] at b163
            refine hs_aload_n ci_2061_172 l0 ?_
            refine hs_gfr 8 186 ci_2061_173 (by decide +kernel) hp.1 ?_
            refine hs_iload_n ci_2061_176 l1 ?_
            refine hs_iload_n ci_2061_177 l3 ?_
            refine hs_ias1 (0 + (2 * t)) ci_2061_178 (hxt.trans (by omega)) (ckq_v gq_rd (2 * t) (by omega)) hp.1 (ab_ige _) (ab_ile _) ?_
            intro k10 w9
            replace hf := (w9.fr (M := MBL) (in3 (by omega) (by omega))).tr hf
            replace hp : ab_hp k10 := ⟨w9.1, hp.2.set (by unfold ab_pr; rfl) w9.2⟩
            replace ht : (hv k10 182 41).toInt = (t : Int) := by rw [w9.v, if_neg (fun e => absurd e.1 (by decide))]; exact ht
            replace hlow : ∀ j, j < 2 * t → hv k10 186 j = hv h 186 j := fun j hj => by
              rw [w9.v, if_neg (by omega)]; exact hlow j hj
            have q178 := (w9.v 186 (2 * t)).trans (if_pos ⟨rfl, by omega⟩)
            have p178 : ∀ j, ¬ j = 2 * t → hv k10 186 j = rd j := fun j hj => by
              rw [w9.v, if_neg (by omega)]; exact hrd j
            obtain ⟨rd, hrd⟩ : ∃ rd : Nat → Int32, ∀ j, hv k10 186 j = rd j := ⟨_, fun j => rfl⟩
            rw [hrd] at q178
            replace p178 := fun j hj => (hrd j).symm.trans (p178 j hj)
            clear w9
            refine hs_aload_n ci_2061_179 l0 ?_
            refine hs_cv 1658 11 0 ci_2061_180 (by decide +kernel) (by decide +kernel) hp.1 rfl (by rw [ml_1658]; rfl) (c_next hsc hp) ?_
            rintro v9 k11 ⟨hp2, f2, e8⟩
            rw [e8]
            clear e8 v9
            simp only [Option.toList, List.cons_append, List.nil_append]
            replace ht : (hv k11 182 41).toInt = (t : Int) := by rw [hv_fr f2 (by rfl)]; exact ht
            replace hlow : ∀ j, j < 2 * t → hv k11 186 j = hv h 186 j := fun j hj => (hv_fr f2 (by rfl)).trans (hlow j hj)
            replace hrd : ∀ j, hv k11 186 j = rd j := fun j => (hv_fr f2 (by rfl)).trans (hrd j)
            replace hf := (fr_sub (M := MBL) (by decide +kernel) f2).tr hf
            replace hp := hp2
            clear hp2
            refine hs_iconst ci_2061_183 ?_
            exact hs_k ⟨3, some (.int _), by decide +kernel, by rw [rt_2061]; rfl, hp, hf, hlow, _, rfl, Or.inr ⟨rfl, ht40, by
              rw [hrd, hrd]
              have e1 := p178 (2 * t + 1) (by omega)
              rw [e1, q62, q178]
              have c0 : (Int32.ofInt 0).toInt = 0 := rfl
              have c1 : (Int32.ofInt 1).toInt = 1 := rfl
              have c2 : (Int32.ofInt 2).toInt = 2 := rfl
              have c3 : (Int32.ofInt 3).toInt = 3 := rfl
              have c4 : (Int32.ofInt (-1)).toInt = -1 := rfl
              exact Or.inl ⟨by omega, by omega, by omega⟩⟩⟩
          · simp only [hs_cd, ab_not] at b163
            refine hs_aload_n ci_2061_166 l0 ?_
            refine hs_iconst ci_2061_167 ?_
            refine hs_cv 1687 11 1 ci_2061_168 (by decide +kernel) (by decide +kernel) hp.1 rfl (by rw [ml_1687]; rfl) (c_bad hsc (by decide) (by decide) hp) ?_
            rintro v9 k9 ⟨hp2, f2, r168, e8, r168a, r168b⟩
            rw [e8]
            clear e8 v9
            simp only [Option.toList, List.cons_append, List.nil_append]
            replace ht : (hv k9 182 41).toInt = (t : Int) := by rw [hv_fr f2 (by rfl)]; exact ht
            replace hlow : ∀ j, j < 2 * t → hv k9 186 j = hv h 186 j := fun j hj => (hv_fr f2 (by rfl)).trans (hlow j hj)
            replace hrd : ∀ j, hv k9 186 j = rd j := fun j => (hv_fr f2 (by rfl)).trans (hrd j)
            replace hf := (fr_sub (M := MBL) (by decide +kernel) f2).tr hf
            replace hp := hp2
            clear hp2
            obtain rfl : r168 = 0 := Int32.toInt_inj.mp (by show r168.toInt = 0; omega)
            exact hs_k ⟨3, some (.int 0), by decide +kernel, by rw [rt_2061]; rfl, hp, hf, hlow, 0, rfl, Or.inl rfl⟩
      · simp only [hs_cd, ab_not] at b111
        refine hs_iconst ci_2061_114 ?_
        refine hs_goto (t := 161) ci_2061_115 rfl ?_
        refine hs_istore_n ci_2061_161 (by decide +kernel) ?_
        intro ls9 q9
        replace l0 := q9.2 0 _ (by decide) rfl l0
        replace l1 := q9.2 1 _ (by decide) rfl l1
        replace l2 := q9.2 2 _ (by decide) rfl l2
        have l3 := q9.1
        clear q9
        refine hs_iload_n ci_2061_162 l3 ?_
        refine hs_if (t := 172) ci_2061_163 rfl (fun b163 => ?_) (fun b163 => ?_)
        · simp only [hs_cd, ab_not] at b163
          refine hs_aload_n ci_2061_172 l0 ?_
          refine hs_gfr 8 186 ci_2061_173 (by decide +kernel) hp.1 ?_
          refine hs_iload_n ci_2061_176 l1 ?_
          refine hs_iload_n ci_2061_177 l3 ?_
          refine hs_ias1 (0 + (2 * t)) ci_2061_178 (hxt.trans (by omega)) (ckq_v gq_rd (2 * t) (by omega)) hp.1 (ab_ige _) (ab_ile _) ?_
          intro k10 w9
          replace hf := (w9.fr (M := MBL) (in3 (by omega) (by omega))).tr hf
          replace hp : ab_hp k10 := ⟨w9.1, hp.2.set (by unfold ab_pr; rfl) w9.2⟩
          replace ht : (hv k10 182 41).toInt = (t : Int) := by rw [w9.v, if_neg (fun e => absurd e.1 (by decide))]; exact ht
          replace hlow : ∀ j, j < 2 * t → hv k10 186 j = hv h 186 j := fun j hj => by
            rw [w9.v, if_neg (by omega)]; exact hlow j hj
          have q178 := (w9.v 186 (2 * t)).trans (if_pos ⟨rfl, by omega⟩)
          have p178 : ∀ j, ¬ j = 2 * t → hv k10 186 j = rd j := fun j hj => by
            rw [w9.v, if_neg (by omega)]; exact hrd j
          obtain ⟨rd, hrd⟩ : ∃ rd : Nat → Int32, ∀ j, hv k10 186 j = rd j := ⟨_, fun j => rfl⟩
          rw [hrd] at q178
          replace p178 := fun j hj => (hrd j).symm.trans (p178 j hj)
          clear w9
          refine hs_aload_n ci_2061_179 l0 ?_
          refine hs_cv 1658 11 0 ci_2061_180 (by decide +kernel) (by decide +kernel) hp.1 rfl (by rw [ml_1658]; rfl) (c_next hsc hp) ?_
          rintro v9 k11 ⟨hp2, f2, e8⟩
          rw [e8]
          clear e8 v9
          simp only [Option.toList, List.cons_append, List.nil_append]
          replace ht : (hv k11 182 41).toInt = (t : Int) := by rw [hv_fr f2 (by rfl)]; exact ht
          replace hlow : ∀ j, j < 2 * t → hv k11 186 j = hv h 186 j := fun j hj => (hv_fr f2 (by rfl)).trans (hlow j hj)
          replace hrd : ∀ j, hv k11 186 j = rd j := fun j => (hv_fr f2 (by rfl)).trans (hrd j)
          replace hf := (fr_sub (M := MBL) (by decide +kernel) f2).tr hf
          replace hp := hp2
          clear hp2
          refine hs_iconst ci_2061_183 ?_
          exact hs_k ⟨3, some (.int _), by decide +kernel, by rw [rt_2061]; rfl, hp, hf, hlow, _, rfl, Or.inr ⟨rfl, ht40, by
            rw [hrd, hrd]
            have e1 := p178 (2 * t + 1) (by omega)
            rw [e1, q62, q178]
            have c0 : (Int32.ofInt 0).toInt = 0 := rfl
            have c1 : (Int32.ofInt 1).toInt = 1 := rfl
            have c2 : (Int32.ofInt 2).toInt = 2 := rfl
            have c3 : (Int32.ofInt 3).toInt = 3 := rfl
            have c4 : (Int32.ofInt (-1)).toInt = -1 := rfl
            exact Or.inl ⟨by omega, by omega, by omega⟩⟩⟩
        · simp only [hs_cd, ab_not] at b163
          refine hs_aload_n ci_2061_166 l0 ?_
          refine hs_iconst ci_2061_167 ?_
          refine hs_cv 1687 11 1 ci_2061_168 (by decide +kernel) (by decide +kernel) hp.1 rfl (by rw [ml_1687]; rfl) (c_bad hsc (by decide) (by decide) hp) ?_
          rintro v9 k9 ⟨hp2, f2, r168, e8, r168a, r168b⟩
          rw [e8]
          clear e8 v9
          simp only [Option.toList, List.cons_append, List.nil_append]
          replace ht : (hv k9 182 41).toInt = (t : Int) := by rw [hv_fr f2 (by rfl)]; exact ht
          replace hlow : ∀ j, j < 2 * t → hv k9 186 j = hv h 186 j := fun j hj => (hv_fr f2 (by rfl)).trans (hlow j hj)
          replace hrd : ∀ j, hv k9 186 j = rd j := fun j => (hv_fr f2 (by rfl)).trans (hrd j)
          replace hf := (fr_sub (M := MBL) (by decide +kernel) f2).tr hf
          replace hp := hp2
          clear hp2
          obtain rfl : r168 = 0 := Int32.toInt_inj.mp (by show r168.toInt = 0; omega)
          exact hs_k ⟨3, some (.int 0), by decide +kernel, by rw [rt_2061]; rfl, hp, hf, hlow, 0, rfl, Or.inl rfl⟩
    · simp only [hs_cd, ab_not] at b68
      omega
  · simp only [hs_cd, ab_not] at b42
    refine hs_aload_n ci_2061_45 l0 ?_
    refine hs_iconst ci_2061_46 ?_
    refine hs_cv 1687 11 1 ci_2061_47 (by decide +kernel) (by decide +kernel) hp.1 rfl (by rw [ml_1687]; rfl) (c_bad hsc (by decide) (by decide) hp) ?_
    rintro v9 k3 ⟨hp2, f2, r47, e8, r47a, r47b⟩
    rw [e8]
    clear e8 v9
    simp only [Option.toList, List.cons_append, List.nil_append]
    replace ht : (hv k3 182 41).toInt = (t : Int) := by rw [hv_fr f2 (by rfl)]; exact ht
    replace hlow : ∀ j, j < 2 * t → hv k3 186 j = hv h 186 j := fun j hj => (hv_fr f2 (by rfl)).trans (hlow j hj)
    replace hrd : ∀ j, hv k3 186 j = rd j := fun j => (hv_fr f2 (by rfl)).trans (hrd j)
    replace hf := (fr_sub (M := MBL) (by decide +kernel) f2).tr hf
    replace hp := hp2
    clear hp2
    obtain rfl : r47 = 0 := Int32.toInt_inj.mp (by show r47.toInt = 0; omega)
    exact hs_k ⟨3, some (.int 0), by decide +kernel, by rw [rt_2061]; rfl, hp, hf, hlow, 0, rfl, Or.inl rfl⟩
theorem c_bookLine {sc : List Value} {sp d : Nat} (hsc : ab_osc sc) {h : eg_H} {t : Nat} (ht : (hv h 182 41).toInt = (t : Int)) (hp : ab_hp h) : mc sc sp 2061 11 (d + 4) [.ref 182] h (BLP h t) := by
  have l0 : eg_find 0 (eg_args 0 [.ref 182]) = some (.ref 182) := rfl
  have ht9 : t ≤ 40 := by have := gb_told hp.1; omega
  have hf : ab_fr MBL h h := ab_fr.rf
  have hlow : ∀ j, j < 2 * t → hv h 186 j = hv h 186 j := fun j _ => rfl
  obtain ⟨rd, hrd⟩ : ∃ rd : Nat → Int32, ∀ j, hv h 186 j = rd j := ⟨_, fun j => rfl⟩
  unfold mc
  refine hs_iconst ci_2061_0 ?_
  refine hs_aload_n ci_2061_1 l0 ?_
  refine hs_gfi 41 ci_2061_2 (by decide +kernel) hp.1 ?_
  refine hs_imul ci_2061_5 ?_
  have hxt : (Int32.ofInt 2 * hv h 182 41).toInt = ((2 * t : Nat) : Int) := (i32_mul (a := 2) rfl ht (by omega) (by omega)).trans (by omega)
  generalize hxt0 : Int32.ofInt 2 * hv h 182 41 = xt at hxt
  refine hs_istore_n ci_2061_6 (by decide +kernel) ?_
  intro ls9 q9
  replace l0 := q9.2 0 _ (by decide) rfl l0
  have l1 := q9.1
  clear q9
  refine hs_aload_n ci_2061_7 l0 ?_
  refine hs_ldc2 ci_2061_8 (by decide +kernel) (fun v9 => ?_)
  refine hs_cv 1676 11 1 ci_2061_11 (by decide +kernel) (by decide +kernel) hp.1 rfl (by rw [ml_1676]; rfl) (c_isWord hsc _ hp) ?_
  rintro v9 k1 ⟨hp2, f2, r11, e8, r11a, r11b⟩
  rw [e8]
  clear e8 v9
  simp only [Option.toList, List.cons_append, List.nil_append]
  replace ht : (hv k1 182 41).toInt = (t : Int) := by rw [hv_fr f2 (by rfl)]; exact ht
  replace hlow : ∀ j, j < 2 * t → hv k1 186 j = hv h 186 j := fun j hj => (hv_fr f2 (by rfl)).trans (hlow j hj)
  replace hrd : ∀ j, hv k1 186 j = rd j := fun j => (hv_fr f2 (by rfl)).trans (hrd j)
  replace hf := (fr_sub (M := MBL) (by decide +kernel) f2).tr hf
  replace hp := hp2
  clear hp2
  refine hs_istore_n ci_2061_14 (by decide +kernel) ?_
  intro ls9 q9
  replace l0 := q9.2 0 _ (by decide) rfl l0
  replace l1 := q9.2 1 _ (by decide) rfl l1
  have l2 := q9.1
  clear q9
  refine hs_iload_n ci_2061_15 l2 ?_
  refine hs_if (t := 36) ci_2061_16 rfl (fun b16 => ?_) (fun b16 => ?_)
  · simp only [hs_cd, ab_not] at b16
    exact bl_A hsc hxt ht9 hp hf ht hlow hrd l0 l1 l2 b16
  · simp only [hs_cd, ab_not] at b16
    refine hs_aload_n ci_2061_19 l0 ?_
    refine hs_bipush ci_2061_20 ?_
    refine hs_aload_n ci_2061_22 l0 ?_
    refine hs_gfr 6 184 ci_2061_23 (by decide +kernel) hp.1 ?_
    refine hs_iconst ci_2061_26 ?_
    have g10 := gsl_b hp.1 gq_1
    simp only at g10
    refine hs_ial1 1 ci_2061_27 rfl gq_1 hp.1 ?_
    refine hs_cv 1730 11 2 ci_2061_28 (by decide +kernel) (by decide +kernel) hp.1 rfl (by rw [ml_1730]; rfl) (c_looks6 hsc rfl g10.1 g10.2 hp) ?_
    rintro v9 k2 ⟨hp2, f2, r28, e8, hr28⟩
    rw [e8]
    clear e8 v9
    simp only [Option.toList, List.cons_append, List.nil_append]
    replace ht : (hv k2 182 41).toInt = (t : Int) := by rw [hv_fr f2 (by rfl)]; exact ht
    replace hlow : ∀ j, j < 2 * t → hv k2 186 j = hv h 186 j := fun j hj => (hv_fr f2 (by rfl)).trans (hlow j hj)
    replace hrd : ∀ j, hv k2 186 j = rd j := fun j => (hv_fr f2 (by rfl)).trans (hrd j)
    replace hf := (fr_sub (M := MBL) (by decide +kernel) f2).tr hf
    replace hp := hp2
    clear hp2
    refine hs_if (t := 36) ci_2061_31 rfl (fun b31 => ?_) (fun b31 => ?_)
    · simp only [hs_cd, ab_not] at b31
      exact bl_B hsc hxt ht9 hp hf ht hlow hrd l0 l1 l2 b16 (by omega)
    · simp only [hs_cd, ab_not] at b31
      refine hs_iconst ci_2061_34 ?_
      exact hs_k ⟨3, some (.int _), by decide +kernel, by rw [rt_2061]; rfl, hp, hf, hlow, _, rfl, Or.inl rfl⟩
