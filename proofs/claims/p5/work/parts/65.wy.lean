/-! BY HAND: ways from door to door: no cell is walked twice -/
abbrev MW : ab_M := [(192, 0, 63), (193, 0, 63)]
def WI (h : eg_H) (m : Nat) : Prop := (∀ j, j < m → 0 ≤ (hv h 192 (hv h 193 j).toInt.toNat).toInt) ∧ m ≤ cn (fun c => decide (0 ≤ (hv h 192 c).toInt)) 64 ∧ ∀ c, c < 64 → (hv h 192 c).toInt ≤ (m : Int) - 1
theorem cn_lt {f : Nat → Bool} {r n : Nat} (hr : r < n) (h0 : f r = false) : cn f n < n := by
  have := cn_put (f := f) (g := fun j => bif Nat.beq j r then true else f j) (r := r) (n := n) (fun j hj hn => by
    have : Nat.beq j r = false := by
      cases hb : Nat.beq j r with
      | false => rfl
      | true => exact absurd (Nat.eq_of_beq_eq_true hb) hn
    rw [this]; rfl) hr h0 (by rw [Nat.beq_refl]; rfl)
  have := cn_le (fun j => bif Nat.beq j r then true else f j) n
  omega
theorem WI.le {h : eg_H} {m : Nat} (w : WI h m) : m ≤ 64 := Nat.le_trans w.2.1 (cn_le _ _)
theorem WI.same {h h2 : eg_H} {m : Nat} (w : WI h m) (e : ∀ a k, hv h2 a k = hv h a k) : WI h2 m := by
  obtain ⟨w1, w2, w3⟩ := w
  refine ⟨fun j hj => ?_, ?_, fun c hc => ?_⟩
  · rw [e, e]; exact w1 j hj
  · rw [cn_same (g := fun c => decide (0 ≤ (hv h2 192 c).toInt)) (fun c _ => by rw [e])]; exact w2
  · rw [e]; exact w3 c hc
theorem gq_st : ckn 64 (fun i => ckq 192 (0 + i) (-2147483648) 2147483647) = true := by decide +kernel
theorem gq_wk : ckn 64 (fun i => ckq 193 (0 + i) 0 63) = true := by decide +kernel
theorem gw {h : eg_H} (hp : ab_hp0 h) {i : Nat} (hi : i < 64) : 0 ≤ (hv h 193 (0 + i)).toInt ∧ (hv h 193 (0 + i)).toInt ≤ 63 := gsl_b hp (ckq_v gq_wk i hi)
/-- a cell more -/
theorem WI.put {h h1 h2 : eg_H} {m c : Nat} {v w : Int32} (wi : WI h m) (hc : c < 64) (hn : (hv h 192 c).toInt < 0) (hv0 : 0 ≤ v.toInt) (hvm : v.toInt ≤ (m : Int)) (hw : w.toInt = (c : Int)) (e1 : ∀ a k, hv h1 a k = if a = 192 ∧ k = 0 + c then v else hv h a k) (e2 : ∀ a k, hv h2 a k = if a = 193 ∧ k = 0 + m then w else hv h1 a k) : WI h2 (m + 1) := by
  obtain ⟨w1, w2, w3⟩ := wi
  have s1 : ∀ k, hv h2 192 k = if k = c then v else hv h 192 k := fun k => by
    rw [e2, if_neg (fun q => absurd q.1 (by decide)), e1]
    by_cases e : k = c
    · rw [if_pos ⟨rfl, by omega⟩, if_pos e]
    · rw [if_neg (by omega), if_neg e]
  have s2 : ∀ k, hv h2 193 k = if k = m then w else hv h 193 k := fun k => by
    rw [e2]
    by_cases e : k = m
    · rw [if_pos ⟨rfl, by omega⟩, if_pos e]
    · rw [if_neg (by omega), if_neg e, e1, if_neg (fun q => absurd q.1 (by decide))]
  refine ⟨fun j hj => ?_, ?_, fun k hk => ?_⟩
  · rw [s2]
    by_cases e : j = m
    · rw [if_pos e, s1, if_pos (by omega)]; exact hv0
    · rw [if_neg e, s1]
      split
      · exact hv0
      · exact w1 j (by omega)
  · have := cn_put (f := fun k => decide (0 ≤ (hv h 192 k).toInt)) (g := fun k => decide (0 ≤ (hv h2 192 k).toInt)) (r := c) (n := 64) (fun j _ hj => by rw [s1, if_neg hj]) hc (decide_eq_false (by omega)) (decide_eq_true (by rw [s1, if_pos rfl]; exact hv0))
    omega
  · rw [s1]
    split
    · omega
    · have := w3 k hk; omega
theorem c_isShut {sc : List Value} {sp d : Nat} (hsc : ab_osc sc) {h : eg_H} {x y : Int32} (h1 : 0 ≤ x.toInt) (h2 : x.toInt ≤ 7) (h3 : 0 ≤ y.toInt) (h4 : y.toInt ≤ 7) (hp : ab_hp h) : mc sc sp 1814 11 (d + 2) [.ref 182, .int x, .int y] h (mc_P [] h (some (0, 1))) := mc_q tr_isShut (iv := some (0, 1)) (by decide +kernel) hsc (show 2 ≤ d + 2 by omega) (ar_2 hp h1 h2 h3 h4)
theorem c_doorOf {sc : List Value} {sp d : Nat} (hsc : ab_osc sc) {h : eg_H} {x : Int32} (h1 : 0 ≤ x.toInt) (h2 : x.toInt ≤ 5) (hp : ab_hp h) : mc sc sp 1954 11 (d + 1) [.ref 182, .int x] h (mc_P [] h (some (0, 63))) := mc_q tr_doorOf (iv := some (0, 63)) (by decide +kernel) hsc (show 1 ≤ d + 1 by omega) (ar_1 hp h1 h2)

theorem ml_1814 : (eg_md 1814).2.2.1 = 4 := by decide +kernel
theorem rt_1814 : (eg_md 1814).2.2.2 = some .boolean := by decide +kernel
theorem ml_1954 : (eg_md 1954).2.2.1 = 2 := by decide +kernel
theorem rt_1954 : (eg_md 1954).2.2.2 = some .int := by decide +kernel
theorem ci_1950_0 : ab_at 1950 0 (.iconst 0) 1 = true := by decide +kernel
theorem ci_1950_1 : ab_at 1950 1 (.istore_n 3) 1 = true := by decide +kernel
theorem ci_1950_2 : ab_at 1950 2 (.iload_n 3) 1 = true := by decide +kernel
theorem ci_1950_3 : ab_at 1950 3 (.bipush 64) 2 = true := by decide +kernel
theorem ci_1950_5 : ab_at 1950 5 (.if_icmp .ge 16) 3 = true := by decide +kernel
theorem ci_1950_8 : ab_at 1950 8 (.aload_n 0) 1 = true := by decide +kernel
theorem ci_1950_9 : ab_at 1950 9 (.getfield 59) 3 = true := by decide +kernel
theorem ci_1950_12 : ab_at 1950 12 (.iload_n 3) 1 = true := by decide +kernel
theorem ci_1950_13 : ab_at 1950 13 (.iconst (-1)) 1 = true := by decide +kernel
theorem ci_1950_14 : ab_at 1950 14 (.iastore) 1 = true := by decide +kernel
theorem ci_1950_15 : ab_at 1950 15 (.iinc 3 1) 3 = true := by decide +kernel
theorem ci_1950_18 : ab_at 1950 18 (.goto (-16)) 3 = true := by decide +kernel
theorem ci_1950_21 : ab_at 1950 21 (.aload_n 0) 1 = true := by decide +kernel
theorem ci_1950_22 : ab_at 1950 22 (.iload_n 1) 1 = true := by decide +kernel
theorem ci_1950_23 : ab_at 1950 23 (.invokevirtual 375) 3 = true := by decide +kernel
theorem ci_1950_26 : ab_at 1950 26 (.istore_n 3) 1 = true := by decide +kernel
theorem ci_1950_27 : ab_at 1950 27 (.aload_n 0) 1 = true := by decide +kernel
theorem ci_1950_28 : ab_at 1950 28 (.iload_n 2) 1 = true := by decide +kernel
theorem ci_1950_29 : ab_at 1950 29 (.invokevirtual 375) 3 = true := by decide +kernel
theorem ci_1950_32 : ab_at 1950 32 (.istore 4) 2 = true := by decide +kernel
theorem ci_1950_34 : ab_at 1950 34 (.aload_n 0) 1 = true := by decide +kernel
theorem ci_1950_35 : ab_at 1950 35 (.getfield 59) 3 = true := by decide +kernel
theorem ci_1950_38 : ab_at 1950 38 (.iload_n 3) 1 = true := by decide +kernel
theorem ci_1950_39 : ab_at 1950 39 (.iconst 0) 1 = true := by decide +kernel
theorem ci_1950_40 : ab_at 1950 40 (.iastore) 1 = true := by decide +kernel
theorem ci_1950_41 : ab_at 1950 41 (.aload_n 0) 1 = true := by decide +kernel
theorem ci_1950_42 : ab_at 1950 42 (.getfield 62) 3 = true := by decide +kernel
theorem ci_1950_45 : ab_at 1950 45 (.iconst 0) 1 = true := by decide +kernel
theorem ci_1950_46 : ab_at 1950 46 (.iload_n 3) 1 = true := by decide +kernel
theorem ci_1950_47 : ab_at 1950 47 (.iastore) 1 = true := by decide +kernel
theorem ci_1950_48 : ab_at 1950 48 (.iconst 1) 1 = true := by decide +kernel
theorem ci_1950_49 : ab_at 1950 49 (.istore 5) 2 = true := by decide +kernel
theorem ci_1950_51 : ab_at 1950 51 (.iconst 0) 1 = true := by decide +kernel
theorem ci_1950_52 : ab_at 1950 52 (.istore 6) 2 = true := by decide +kernel
theorem ci_1950_54 : ab_at 1950 54 (.iload 6) 2 = true := by decide +kernel
theorem ci_1950_56 : ab_at 1950 56 (.iload 5) 2 = true := by decide +kernel
theorem ci_1950_58 : ab_at 1950 58 (.if_icmp .ge 204) 3 = true := by decide +kernel
theorem ci_1950_61 : ab_at 1950 61 (.iconst 0) 1 = true := by decide +kernel
theorem ci_1950_62 : ab_at 1950 62 (.istore 7) 2 = true := by decide +kernel
theorem ci_1950_64 : ab_at 1950 64 (.iload 7) 2 = true := by decide +kernel
theorem ci_1950_66 : ab_at 1950 66 (.iconst 4) 1 = true := by decide +kernel
theorem ci_1950_67 : ab_at 1950 67 (.if_icmp .ge 189) 3 = true := by decide +kernel
theorem ci_1950_70 : ab_at 1950 70 (.aload_n 0) 1 = true := by decide +kernel
theorem ci_1950_71 : ab_at 1950 71 (.getfield 62) 3 = true := by decide +kernel
theorem ci_1950_74 : ab_at 1950 74 (.iload 6) 2 = true := by decide +kernel
theorem ci_1950_76 : ab_at 1950 76 (.iaload) 1 = true := by decide +kernel
theorem ci_1950_77 : ab_at 1950 77 (.bipush 8) 2 = true := by decide +kernel
theorem ci_1950_79 : ab_at 1950 79 (.irem) 1 = true := by decide +kernel
theorem ci_1950_80 : ab_at 1950 80 (.iload 7) 2 = true := by decide +kernel
theorem ci_1950_82 : ab_at 1950 82 (.ifCond .ne 7) 3 = true := by decide +kernel
theorem ci_1950_85 : ab_at 1950 85 (.iconst 1) 1 = true := by decide +kernel
theorem ci_1950_86 : ab_at 1950 86 (.goto 14) 3 = true := by decide +kernel
theorem ci_1950_89 : ab_at 1950 89 (.iload 7) 2 = true := by decide +kernel
theorem ci_1950_91 : ab_at 1950 91 (.iconst 1) 1 = true := by decide +kernel
theorem ci_1950_92 : ab_at 1950 92 (.if_icmp .ne 7) 3 = true := by decide +kernel
theorem ci_1950_95 : ab_at 1950 95 (.iconst (-1)) 1 = true := by decide +kernel
theorem ci_1950_96 : ab_at 1950 96 (.goto 4) 3 = true := by decide +kernel
theorem ci_1950_99 : ab_at 1950 99 (.iconst 0) 1 = true := by decide +kernel
theorem ci_1950_100 : ab_at 1950 100 (.iadd) 1 = true := by decide +kernel
theorem ci_1950_101 : ab_at 1950 101 (.istore 8) 2 = true := by decide +kernel
theorem ci_1950_103 : ab_at 1950 103 (.aload_n 0) 1 = true := by decide +kernel
theorem ci_1950_104 : ab_at 1950 104 (.getfield 62) 3 = true := by decide +kernel
theorem ci_1950_107 : ab_at 1950 107 (.iload 6) 2 = true := by decide +kernel
theorem ci_1950_109 : ab_at 1950 109 (.iaload) 1 = true := by decide +kernel
theorem ci_1950_110 : ab_at 1950 110 (.bipush 8) 2 = true := by decide +kernel
theorem ci_1950_112 : ab_at 1950 112 (.idiv) 1 = true := by decide +kernel
theorem ci_1950_113 : ab_at 1950 113 (.iload 7) 2 = true := by decide +kernel
theorem ci_1950_115 : ab_at 1950 115 (.iconst 2) 1 = true := by decide +kernel
theorem ci_1950_116 : ab_at 1950 116 (.if_icmp .ne 7) 3 = true := by decide +kernel
theorem ci_1950_119 : ab_at 1950 119 (.iconst 1) 1 = true := by decide +kernel
theorem ci_1950_120 : ab_at 1950 120 (.goto 14) 3 = true := by decide +kernel
theorem ci_1950_123 : ab_at 1950 123 (.iload 7) 2 = true := by decide +kernel
theorem ci_1950_125 : ab_at 1950 125 (.iconst 3) 1 = true := by decide +kernel
theorem ci_1950_126 : ab_at 1950 126 (.if_icmp .ne 7) 3 = true := by decide +kernel
theorem ci_1950_129 : ab_at 1950 129 (.iconst (-1)) 1 = true := by decide +kernel
theorem ci_1950_130 : ab_at 1950 130 (.goto 4) 3 = true := by decide +kernel
theorem ci_1950_133 : ab_at 1950 133 (.iconst 0) 1 = true := by decide +kernel
theorem ci_1950_134 : ab_at 1950 134 (.iadd) 1 = true := by decide +kernel
theorem ci_1950_135 : ab_at 1950 135 (.istore 9) 2 = true := by decide +kernel
theorem ci_1950_137 : ab_at 1950 137 (.aload_n 0) 1 = true := by decide +kernel
theorem ci_1950_138 : ab_at 1950 138 (.iload 8) 2 = true := by decide +kernel
theorem ci_1950_140 : ab_at 1950 140 (.iload 9) 2 = true := by decide +kernel
theorem ci_1950_142 : ab_at 1950 142 (.invokevirtual 297) 3 = true := by decide +kernel
theorem ci_1950_145 : ab_at 1950 145 (.ifCond .eq 105) 3 = true := by decide +kernel
theorem ci_1950_148 : ab_at 1950 148 (.aload_n 0) 1 = true := by decide +kernel
theorem ci_1950_149 : ab_at 1950 149 (.getfield 59) 3 = true := by decide +kernel
theorem ci_1950_152 : ab_at 1950 152 (.bipush 8) 2 = true := by decide +kernel
theorem ci_1950_154 : ab_at 1950 154 (.iload 9) 2 = true := by decide +kernel
theorem ci_1950_156 : ab_at 1950 156 (.imul) 1 = true := by decide +kernel
theorem ci_1950_157 : ab_at 1950 157 (.iload 8) 2 = true := by decide +kernel
theorem ci_1950_159 : ab_at 1950 159 (.iadd) 1 = true := by decide +kernel
theorem ci_1950_160 : ab_at 1950 160 (.iaload) 1 = true := by decide +kernel
theorem ci_1950_161 : ab_at 1950 161 (.ifCond .lt 6) 3 = true := by decide +kernel
theorem ci_1950_164 : ab_at 1950 164 (.goto 86) 3 = true := by decide +kernel
theorem ci_1950_167 : ab_at 1950 167 (.bipush 8) 2 = true := by decide +kernel
theorem ci_1950_169 : ab_at 1950 169 (.iload 9) 2 = true := by decide +kernel
theorem ci_1950_171 : ab_at 1950 171 (.imul) 1 = true := by decide +kernel
theorem ci_1950_172 : ab_at 1950 172 (.iload 8) 2 = true := by decide +kernel
theorem ci_1950_174 : ab_at 1950 174 (.iadd) 1 = true := by decide +kernel
theorem ci_1950_175 : ab_at 1950 175 (.iload 4) 2 = true := by decide +kernel
theorem ci_1950_177 : ab_at 1950 177 (.if_icmp .eq 28) 3 = true := by decide +kernel
theorem ci_1950_180 : ab_at 1950 180 (.aload_n 0) 1 = true := by decide +kernel
theorem ci_1950_181 : ab_at 1950 181 (.iload 8) 2 = true := by decide +kernel
theorem ci_1950_183 : ab_at 1950 183 (.iload 9) 2 = true := by decide +kernel
theorem ci_1950_185 : ab_at 1950 185 (.invokevirtual 288) 3 = true := by decide +kernel
theorem ci_1950_188 : ab_at 1950 188 (.ifCond .ge 62) 3 = true := by decide +kernel
theorem ci_1950_191 : ab_at 1950 191 (.aload_n 0) 1 = true := by decide +kernel
theorem ci_1950_192 : ab_at 1950 192 (.iload 8) 2 = true := by decide +kernel
theorem ci_1950_194 : ab_at 1950 194 (.iload 9) 2 = true := by decide +kernel
theorem ci_1950_196 : ab_at 1950 196 (.invokevirtual 303) 3 = true := by decide +kernel
theorem ci_1950_199 : ab_at 1950 199 (.ifCond .eq 6) 3 = true := by decide +kernel
theorem ci_1950_202 : ab_at 1950 202 (.goto 48) 3 = true := by decide +kernel
theorem ci_1950_205 : ab_at 1950 205 (.aload_n 0) 1 = true := by decide +kernel
theorem ci_1950_206 : ab_at 1950 206 (.getfield 59) 3 = true := by decide +kernel
theorem ci_1950_209 : ab_at 1950 209 (.bipush 8) 2 = true := by decide +kernel
theorem ci_1950_211 : ab_at 1950 211 (.iload 9) 2 = true := by decide +kernel
theorem ci_1950_213 : ab_at 1950 213 (.imul) 1 = true := by decide +kernel
theorem ci_1950_214 : ab_at 1950 214 (.iload 8) 2 = true := by decide +kernel
theorem ci_1950_216 : ab_at 1950 216 (.iadd) 1 = true := by decide +kernel
theorem ci_1950_217 : ab_at 1950 217 (.aload_n 0) 1 = true := by decide +kernel
theorem ci_1950_218 : ab_at 1950 218 (.getfield 59) 3 = true := by decide +kernel
theorem ci_1950_221 : ab_at 1950 221 (.aload_n 0) 1 = true := by decide +kernel
theorem ci_1950_222 : ab_at 1950 222 (.getfield 62) 3 = true := by decide +kernel
theorem ci_1950_225 : ab_at 1950 225 (.iload 6) 2 = true := by decide +kernel
theorem ci_1950_227 : ab_at 1950 227 (.iaload) 1 = true := by decide +kernel
theorem ci_1950_228 : ab_at 1950 228 (.iaload) 1 = true := by decide +kernel
theorem ci_1950_229 : ab_at 1950 229 (.iconst 1) 1 = true := by decide +kernel
theorem ci_1950_230 : ab_at 1950 230 (.iadd) 1 = true := by decide +kernel
theorem ci_1950_231 : ab_at 1950 231 (.iastore) 1 = true := by decide +kernel
theorem ci_1950_232 : ab_at 1950 232 (.aload_n 0) 1 = true := by decide +kernel
theorem ci_1950_233 : ab_at 1950 233 (.getfield 62) 3 = true := by decide +kernel
theorem ci_1950_236 : ab_at 1950 236 (.iload 5) 2 = true := by decide +kernel
theorem ci_1950_238 : ab_at 1950 238 (.bipush 8) 2 = true := by decide +kernel
theorem ci_1950_240 : ab_at 1950 240 (.iload 9) 2 = true := by decide +kernel
theorem ci_1950_242 : ab_at 1950 242 (.imul) 1 = true := by decide +kernel
theorem ci_1950_243 : ab_at 1950 243 (.iload 8) 2 = true := by decide +kernel
theorem ci_1950_245 : ab_at 1950 245 (.iadd) 1 = true := by decide +kernel
theorem ci_1950_246 : ab_at 1950 246 (.iastore) 1 = true := by decide +kernel
theorem ci_1950_247 : ab_at 1950 247 (.iinc 5 1) 3 = true := by decide +kernel
theorem ci_1950_250 : ab_at 1950 250 (.iinc 7 1) 3 = true := by decide +kernel
theorem ci_1950_253 : ab_at 1950 253 (.goto (-189)) 3 = true := by decide +kernel
theorem ci_1950_256 : ab_at 1950 256 (.iinc 6 1) 3 = true := by decide +kernel
theorem ci_1950_259 : ab_at 1950 259 (.goto (-205)) 3 = true := by decide +kernel
theorem ci_1950_262 : ab_at 1950 262 (.aload_n 0) 1 = true := by decide +kernel
theorem ci_1950_263 : ab_at 1950 263 (.getfield 59) 3 = true := by decide +kernel
theorem ci_1950_266 : ab_at 1950 266 (.iload 4) 2 = true := by decide +kernel
theorem ci_1950_268 : ab_at 1950 268 (.iaload) 1 = true := by decide +kernel
theorem wy_137 {sc : List Value} {sp d : Nat} (hsc : ab_osc sc) {h0 h : eg_H} {m i : Nat} {xm xi last way : Int32} (hm : xm.toInt = (m : Int)) (hi : xi.toInt = (i : Int)) (him : i < m) (hp : ab_hp h) (hf : ab_fr MW h h0) (wi : WI h m) {ls : eg_L} (l0 : eg_find 0 ls = some (.ref 182)) (l4 : eg_find 4 ls = some (.int last)) (l5 : eg_find 5 ls = some (.int xm)) (l6 : eg_find 6 ls = some (.int xi)) (l7 : eg_find 7 ls = some (.int way)) {x y : Int32} (l8 : eg_find 8 ls = some (.int x)) (l9 : eg_find 9 ls = some (.int y)) : hs sc sp 1950 11 (d + 3) (fun pc' ls' st' h' => pc' = 64 ∧ st' = [] ∧ ab_hp h' ∧ ab_fr MW h' h0 ∧ (∃ (m' : Nat) (xm' : Int32), xm'.toInt = (m' : Int) ∧ i < m' ∧ WI h' m' ∧ eg_find 5 ls' = some (.int xm')) ∧ eg_find 0 ls' = some (.ref 182) ∧ eg_find 4 ls' = some (.int last) ∧ eg_find 6 ls' = some (.int xi) ∧ eg_find 7 ls' = some (.int (way + Int32.ofInt 1))) 137 ls [] h := by
  refine hs_aload_n ci_1950_137 l0 ?_
  refine hs_iload ci_1950_138 l8 ?_
  refine hs_iload ci_1950_140 l9 ?_
  refine hs_cv 1794 11 2 ci_1950_142 (by decide +kernel) (by decide +kernel) hp.1 rfl (by rw [ml_1794]; rfl) (c_isCell _ _ hp.1) ?_
  rintro v9 h9 ⟨e9, r1, e8, hr1⟩
  rw [e8, e9]
  clear e8 e9 v9 h9
  simp only [Option.toList, List.cons_append, List.nil_append]
  refine hs_if (t := 250) ci_1950_145 rfl (fun b145 => ?_) (fun b145 => ?_)
  · simp only [hs_cd, ab_not] at b145
    refine hs_iinc ci_1950_250 (by decide +kernel) l7 ?_
    intro ls9 q9
    replace l0 := q9.2 0 _ (by decide) rfl l0
    replace l4 := q9.2 4 _ (by decide) rfl l4
    replace l5 := q9.2 5 _ (by decide) rfl l5
    replace l6 := q9.2 6 _ (by decide) rfl l6
    replace l8 := q9.2 8 _ (by decide) rfl l8
    replace l9 := q9.2 9 _ (by decide) rfl l9
    have l7 := q9.1
    clear q9
    refine hs_goto (t := 64) ci_1950_253 rfl ?_
    exact hs_k ⟨rfl, rfl, hp, hf, ⟨m, xm, hm, him, wi, l5⟩, l0, l4, l6, l7⟩
  · simp only [hs_cd, ab_not] at b145
    have hxy : (0 ≤ x.toInt ∧ x.toInt ≤ 7) ∧ 0 ≤ y.toInt ∧ y.toInt ≤ 7 := by
      rcases hr1 with ⟨-, q⟩ | q
      · exact q
      · omega
    obtain ⟨c, hc⟩ : ∃ c : Nat, 8 * y.toInt + x.toInt = (c : Int) := ⟨(8 * y.toInt + x.toInt).toNat, by omega⟩
    have hc64 : c < 64 := by omega
    have hcx := (i32_add (i32_mul (x := (Int8.ofInt 8).toInt32) (a := 8) rfl (rfl : y.toInt = y.toInt) (by omega) (by omega)) (rfl : x.toInt = x.toInt) (by omega) (by omega)).trans hc
    refine hs_aload_n ci_1950_148 l0 ?_
    refine hs_gfr 26 192 ci_1950_149 (by decide +kernel) hp.1 ?_
    refine hs_bipush ci_1950_152 ?_
    refine hs_iload ci_1950_154 l9 ?_
    refine hs_imul ci_1950_156 ?_
    refine hs_iload ci_1950_157 l8 ?_
    refine hs_iadd ci_1950_159 ?_
    refine hs_ial1 (0 + c) ci_1950_160 (hcx.trans (by omega)) (ckq_v gq_st c hc64) hp.1 ?_
    refine hs_if (t := 167) ci_1950_161 rfl (fun b161 => ?_) (fun b161 => ?_)
    · simp only [hs_cd, ab_not] at b161
      refine hs_bipush ci_1950_167 ?_
      refine hs_iload ci_1950_169 l9 ?_
      refine hs_imul ci_1950_171 ?_
      refine hs_iload ci_1950_172 l8 ?_
      refine hs_iadd ci_1950_174 ?_
      refine hs_iload ci_1950_175 l4 ?_
      refine hs_ic (t := 205) ci_1950_177 rfl (fun b177 => ?_) (fun b177 => ?_)
      · simp only [hs_cd, ab_not] at b177
        refine hs_aload_n ci_1950_205 l0 ?_
        refine hs_gfr 26 192 ci_1950_206 (by decide +kernel) hp.1 ?_
        refine hs_bipush ci_1950_209 ?_
        refine hs_iload ci_1950_211 l9 ?_
        refine hs_imul ci_1950_213 ?_
        refine hs_iload ci_1950_214 l8 ?_
        refine hs_iadd ci_1950_216 ?_
        refine hs_aload_n ci_1950_217 l0 ?_
        refine hs_gfr 26 192 ci_1950_218 (by decide +kernel) hp.1 ?_
        refine hs_aload_n ci_1950_221 l0 ?_
        refine hs_gfr 27 193 ci_1950_222 (by decide +kernel) hp.1 ?_
        refine hs_iload ci_1950_225 l6 ?_
        have hi64 := wi.le
        have hgw := gw hp.1 (i := i) (by omega)
        refine hs_ial1 (0 + i) ci_1950_227 (hi.trans (by omega)) (ckq_v gq_wk i (by omega)) hp.1 ?_
        obtain ⟨wc, hwc⟩ : ∃ wc : Nat, (hv h 193 (0 + i)).toInt = (wc : Int) := ⟨(hv h 193 (0 + i)).toInt.toNat, by omega⟩
        refine hs_ial1 (0 + wc) ci_1950_228 (hwc.trans (by omega)) (ckq_v gq_st wc (by omega)) hp.1 ?_
        refine hs_iconst ci_1950_229 ?_
        refine hs_iadd ci_1950_230 ?_
        have a1 := wi.1 i (by omega)
        rw [show i = 0 + i by omega, hwc, show ((wc : Int)).toNat = wc by omega] at a1
        have a2 := wi.2.2 wc (by omega)
        have a3 : (hv h 192 (0 + wc) + Int32.ofInt 1).toInt = (hv h 192 (0 + wc)).toInt + 1 := i32_add rfl rfl (by rw [Nat.zero_add]; omega) (by rw [Nat.zero_add]; omega)
        rw [Nat.zero_add wc] at a3
        refine hs_ias1 (0 + c) ci_1950_231 (hcx.trans (by omega)) (ckq_v gq_st c hc64) hp.1 (ab_ige _) (ab_ile _) ?_
        intro h5 w5
        replace hf := (w5.fr (M := MW) (in1 (by omega) (by omega))).tr hf
        replace hp : ab_hp h5 := ⟨w5.1, hp.2.set (by unfold ab_pr; rfl) w5.2⟩
        refine hs_aload_n ci_1950_232 l0 ?_
        refine hs_gfr 27 193 ci_1950_233 (by decide +kernel) hp.1 ?_
        refine hs_iload ci_1950_236 l5 ?_
        refine hs_bipush ci_1950_238 ?_
        refine hs_iload ci_1950_240 l9 ?_
        refine hs_imul ci_1950_242 ?_
        refine hs_iload ci_1950_243 l8 ?_
        refine hs_iadd ci_1950_245 ?_
        have hneg : (hv h 192 c).toInt < 0 := by
          skip
          have := b161
          rw [Nat.zero_add] at this
          exact this
        have hm63 : m < 64 := by
          have t := cn_lt (f := fun c => decide (0 ≤ (hv h 192 c).toInt)) hc64 (decide_eq_false (by omega))
          have := wi.2.1
          omega
        refine hs_ias1 (0 + m) ci_1950_246 (hm.trans (by omega)) (ckq_v gq_wk m hm63) hp.1 (by show 0 ≤ _; omega) (by show _ ≤ 63; omega) ?_
        intro h6 w6
        replace hf := (w6.fr (M := MW) (in2 (by omega) (by omega) (fun _ => trivial))).tr hf
        replace hp : ab_hp h6 := ⟨w6.1, hp.2.set (by unfold ab_pr; rfl) w6.2⟩
        replace wi := wi.put (h1 := h5) (h2 := h6) hc64 hneg (by rw [Nat.zero_add, a3]; omega) (by rw [Nat.zero_add, a3]; omega) hcx (fun a k => w5.v a k) (fun a k => w6.v a k)
        refine hs_iinc ci_1950_247 (by decide +kernel) l5 ?_
        intro ls9 q9
        replace l0 := q9.2 0 _ (by decide) rfl l0
        replace l4 := q9.2 4 _ (by decide) rfl l4
        replace l6 := q9.2 6 _ (by decide) rfl l6
        replace l7 := q9.2 7 _ (by decide) rfl l7
        replace l8 := q9.2 8 _ (by decide) rfl l8
        replace l9 := q9.2 9 _ (by decide) rfl l9
        have l5 := q9.1
        clear q9
        refine hs_iinc ci_1950_250 (by decide +kernel) l7 ?_
        intro ls9 q9
        replace l0 := q9.2 0 _ (by decide) rfl l0
        replace l4 := q9.2 4 _ (by decide) rfl l4
        replace l5 := q9.2 5 _ (by decide) rfl l5
        replace l6 := q9.2 6 _ (by decide) rfl l6
        replace l8 := q9.2 8 _ (by decide) rfl l8
        replace l9 := q9.2 9 _ (by decide) rfl l9
        have l7 := q9.1
        clear q9
        refine hs_goto (t := 64) ci_1950_253 rfl ?_
        exact hs_k ⟨rfl, rfl, hp, hf, ⟨m + 1, xm + Int32.ofInt 1, by have := i32_add hm (y := Int32.ofInt 1) (b := 1) rfl (by omega) (by omega); rw [this]; omega, by omega, wi, l5⟩, l0, l4, l6, l7⟩
      · simp only [hs_cd, ab_not] at b177
        refine hs_aload_n ci_1950_180 l0 ?_
        refine hs_iload ci_1950_181 l8 ?_
        refine hs_iload ci_1950_183 l9 ?_
        refine hs_cv 1802 11 2 ci_1950_185 (by decide +kernel) (by decide +kernel) hp.1 rfl (by rw [ml_1802]; rfl) (c_treeAt hsc _ _ hp) ?_
        rintro v9 h2 ⟨hp2, f2, r2, e8, r21, r22⟩
        rw [e8]
        clear e8 v9
        simp only [Option.toList, List.cons_append, List.nil_append]
        replace wi := wi.same (fr_nil f2)
        have ev2 := fr_nil f2
        replace hf := fr_up f2 hf
        replace hp := hp2
        clear hp2 f2
        refine hs_if (t := 250) ci_1950_188 rfl (fun b188 => ?_) (fun b188 => ?_)
        · simp only [hs_cd, ab_not] at b188
          refine hs_iinc ci_1950_250 (by decide +kernel) l7 ?_
          intro ls9 q9
          replace l0 := q9.2 0 _ (by decide) rfl l0
          replace l4 := q9.2 4 _ (by decide) rfl l4
          replace l5 := q9.2 5 _ (by decide) rfl l5
          replace l6 := q9.2 6 _ (by decide) rfl l6
          replace l8 := q9.2 8 _ (by decide) rfl l8
          replace l9 := q9.2 9 _ (by decide) rfl l9
          have l7 := q9.1
          clear q9
          refine hs_goto (t := 64) ci_1950_253 rfl ?_
          exact hs_k ⟨rfl, rfl, hp, hf, ⟨m, xm, hm, him, wi, l5⟩, l0, l4, l6, l7⟩
        · simp only [hs_cd, ab_not] at b188
          refine hs_aload_n ci_1950_191 l0 ?_
          refine hs_iload ci_1950_192 l8 ?_
          refine hs_iload ci_1950_194 l9 ?_
          refine hs_cv 1814 11 2 ci_1950_196 (by decide +kernel) (by decide +kernel) hp.1 rfl (by rw [ml_1814]; rfl) (c_isShut hsc hxy.1.1 hxy.1.2 hxy.2.1 hxy.2.2 hp) ?_
          rintro v9 h3 ⟨hp2, f2, r3, e8, r31, r32⟩
          rw [e8]
          clear e8 v9
          simp only [Option.toList, List.cons_append, List.nil_append]
          replace wi := wi.same (fr_nil f2)
          have ev3 := fr_nil f2
          replace hf := fr_up f2 hf
          replace hp := hp2
          clear hp2 f2
          refine hs_if (t := 205) ci_1950_199 rfl (fun b199 => ?_) (fun b199 => ?_)
          · simp only [hs_cd, ab_not] at b199
            refine hs_aload_n ci_1950_205 l0 ?_
            refine hs_gfr 26 192 ci_1950_206 (by decide +kernel) hp.1 ?_
            refine hs_bipush ci_1950_209 ?_
            refine hs_iload ci_1950_211 l9 ?_
            refine hs_imul ci_1950_213 ?_
            refine hs_iload ci_1950_214 l8 ?_
            refine hs_iadd ci_1950_216 ?_
            refine hs_aload_n ci_1950_217 l0 ?_
            refine hs_gfr 26 192 ci_1950_218 (by decide +kernel) hp.1 ?_
            refine hs_aload_n ci_1950_221 l0 ?_
            refine hs_gfr 27 193 ci_1950_222 (by decide +kernel) hp.1 ?_
            refine hs_iload ci_1950_225 l6 ?_
            have hi64 := wi.le
            have hgw := gw hp.1 (i := i) (by omega)
            refine hs_ial1 (0 + i) ci_1950_227 (hi.trans (by omega)) (ckq_v gq_wk i (by omega)) hp.1 ?_
            obtain ⟨wc, hwc⟩ : ∃ wc : Nat, (hv h3 193 (0 + i)).toInt = (wc : Int) := ⟨(hv h3 193 (0 + i)).toInt.toNat, by omega⟩
            refine hs_ial1 (0 + wc) ci_1950_228 (hwc.trans (by omega)) (ckq_v gq_st wc (by omega)) hp.1 ?_
            refine hs_iconst ci_1950_229 ?_
            refine hs_iadd ci_1950_230 ?_
            have a1 := wi.1 i (by omega)
            rw [show i = 0 + i by omega, hwc, show ((wc : Int)).toNat = wc by omega] at a1
            have a2 := wi.2.2 wc (by omega)
            have a3 : (hv h3 192 (0 + wc) + Int32.ofInt 1).toInt = (hv h3 192 (0 + wc)).toInt + 1 := i32_add rfl rfl (by rw [Nat.zero_add]; omega) (by rw [Nat.zero_add]; omega)
            rw [Nat.zero_add wc] at a3
            refine hs_ias1 (0 + c) ci_1950_231 (hcx.trans (by omega)) (ckq_v gq_st c hc64) hp.1 (ab_ige _) (ab_ile _) ?_
            intro h5 w5
            replace hf := (w5.fr (M := MW) (in1 (by omega) (by omega))).tr hf
            replace hp : ab_hp h5 := ⟨w5.1, hp.2.set (by unfold ab_pr; rfl) w5.2⟩
            refine hs_aload_n ci_1950_232 l0 ?_
            refine hs_gfr 27 193 ci_1950_233 (by decide +kernel) hp.1 ?_
            refine hs_iload ci_1950_236 l5 ?_
            refine hs_bipush ci_1950_238 ?_
            refine hs_iload ci_1950_240 l9 ?_
            refine hs_imul ci_1950_242 ?_
            refine hs_iload ci_1950_243 l8 ?_
            refine hs_iadd ci_1950_245 ?_
            have hneg : (hv h3 192 c).toInt < 0 := by
              rw [ev3, ev2]
              have := b161
              rw [Nat.zero_add] at this
              exact this
            have hm63 : m < 64 := by
              have t := cn_lt (f := fun c => decide (0 ≤ (hv h3 192 c).toInt)) hc64 (decide_eq_false (by omega))
              have := wi.2.1
              omega
            refine hs_ias1 (0 + m) ci_1950_246 (hm.trans (by omega)) (ckq_v gq_wk m hm63) hp.1 (by show 0 ≤ _; omega) (by show _ ≤ 63; omega) ?_
            intro h6 w6
            replace hf := (w6.fr (M := MW) (in2 (by omega) (by omega) (fun _ => trivial))).tr hf
            replace hp : ab_hp h6 := ⟨w6.1, hp.2.set (by unfold ab_pr; rfl) w6.2⟩
            replace wi := wi.put (h1 := h5) (h2 := h6) hc64 hneg (by rw [Nat.zero_add, a3]; omega) (by rw [Nat.zero_add, a3]; omega) hcx (fun a k => w5.v a k) (fun a k => w6.v a k)
            refine hs_iinc ci_1950_247 (by decide +kernel) l5 ?_
            intro ls9 q9
            replace l0 := q9.2 0 _ (by decide) rfl l0
            replace l4 := q9.2 4 _ (by decide) rfl l4
            replace l6 := q9.2 6 _ (by decide) rfl l6
            replace l7 := q9.2 7 _ (by decide) rfl l7
            replace l8 := q9.2 8 _ (by decide) rfl l8
            replace l9 := q9.2 9 _ (by decide) rfl l9
            have l5 := q9.1
            clear q9
            refine hs_iinc ci_1950_250 (by decide +kernel) l7 ?_
            intro ls9 q9
            replace l0 := q9.2 0 _ (by decide) rfl l0
            replace l4 := q9.2 4 _ (by decide) rfl l4
            replace l5 := q9.2 5 _ (by decide) rfl l5
            replace l6 := q9.2 6 _ (by decide) rfl l6
            replace l8 := q9.2 8 _ (by decide) rfl l8
            replace l9 := q9.2 9 _ (by decide) rfl l9
            have l7 := q9.1
            clear q9
            refine hs_goto (t := 64) ci_1950_253 rfl ?_
            exact hs_k ⟨rfl, rfl, hp, hf, ⟨m + 1, xm + Int32.ofInt 1, by have := i32_add hm (y := Int32.ofInt 1) (b := 1) rfl (by omega) (by omega); rw [this]; omega, by omega, wi, l5⟩, l0, l4, l6, l7⟩
          · simp only [hs_cd, ab_not] at b199
            refine hs_goto (t := 250) ci_1950_202 rfl ?_
            refine hs_iinc ci_1950_250 (by decide +kernel) l7 ?_
            intro ls9 q9
            replace l0 := q9.2 0 _ (by decide) rfl l0
            replace l4 := q9.2 4 _ (by decide) rfl l4
            replace l5 := q9.2 5 _ (by decide) rfl l5
            replace l6 := q9.2 6 _ (by decide) rfl l6
            replace l8 := q9.2 8 _ (by decide) rfl l8
            replace l9 := q9.2 9 _ (by decide) rfl l9
            have l7 := q9.1
            clear q9
            refine hs_goto (t := 64) ci_1950_253 rfl ?_
            exact hs_k ⟨rfl, rfl, hp, hf, ⟨m, xm, hm, him, wi, l5⟩, l0, l4, l6, l7⟩
    · simp only [hs_cd, ab_not] at b161
      refine hs_goto (t := 250) ci_1950_164 rfl ?_
      refine hs_iinc ci_1950_250 (by decide +kernel) l7 ?_
      intro ls9 q9
      replace l0 := q9.2 0 _ (by decide) rfl l0
      replace l4 := q9.2 4 _ (by decide) rfl l4
      replace l5 := q9.2 5 _ (by decide) rfl l5
      replace l6 := q9.2 6 _ (by decide) rfl l6
      replace l8 := q9.2 8 _ (by decide) rfl l8
      replace l9 := q9.2 9 _ (by decide) rfl l9
      have l7 := q9.1
      clear q9
      refine hs_goto (t := 64) ci_1950_253 rfl ?_
      exact hs_k ⟨rfl, rfl, hp, hf, ⟨m, xm, hm, him, wi, l5⟩, l0, l4, l6, l7⟩
theorem wy_103 {sc : List Value} {sp d : Nat} (hsc : ab_osc sc) {h0 h : eg_H} {m i : Nat} {xm xi last way : Int32} (hm : xm.toInt = (m : Int)) (hi : xi.toInt = (i : Int)) (him : i < m) (hp : ab_hp h) (hf : ab_fr MW h h0) (wi : WI h m) {ls : eg_L} (l0 : eg_find 0 ls = some (.ref 182)) (l4 : eg_find 4 ls = some (.int last)) (l5 : eg_find 5 ls = some (.int xm)) (l6 : eg_find 6 ls = some (.int xi)) (l7 : eg_find 7 ls = some (.int way)) {x : Int32} (l8 : eg_find 8 ls = some (.int x)) : hs sc sp 1950 11 (d + 3) (fun pc' ls' st' h' => pc' = 64 ∧ st' = [] ∧ ab_hp h' ∧ ab_fr MW h' h0 ∧ (∃ (m' : Nat) (xm' : Int32), xm'.toInt = (m' : Int) ∧ i < m' ∧ WI h' m' ∧ eg_find 5 ls' = some (.int xm')) ∧ eg_find 0 ls' = some (.ref 182) ∧ eg_find 4 ls' = some (.int last) ∧ eg_find 6 ls' = some (.int xi) ∧ eg_find 7 ls' = some (.int (way + Int32.ofInt 1))) 103 ls [] h := by
  refine hs_aload_n ci_1950_103 l0 ?_
  refine hs_gfr 27 193 ci_1950_104 (by decide +kernel) hp.1 ?_
  refine hs_iload ci_1950_107 l6 ?_
  have hi64 := wi.le
  refine hs_ial1 (0 + i) ci_1950_109 (hi.trans (by omega)) (ckq_v gq_wk i (by omega)) hp.1 ?_
  refine hs_bipush ci_1950_110 ?_
  refine hs_idiv ci_1950_112 (by decide) ?_
  refine hs_iload ci_1950_113 l7 ?_
  refine hs_iconst ci_1950_115 ?_
  refine hs_ic (t := 123) ci_1950_116 rfl (fun b116 => ?_) (fun b116 => ?_)
  · simp only [hs_cd, ab_not] at b116
    refine hs_iload ci_1950_123 l7 ?_
    refine hs_iconst ci_1950_125 ?_
    refine hs_ic (t := 133) ci_1950_126 rfl (fun b126 => ?_) (fun b126 => ?_)
    · simp only [hs_cd, ab_not] at b126
      refine hs_iconst ci_1950_133 ?_
      refine hs_iadd ci_1950_134 ?_
      refine hs_istore ci_1950_135 (by decide +kernel) ?_
      intro ls9 q9
      replace l0 := q9.2 0 _ (by decide) rfl l0
      replace l4 := q9.2 4 _ (by decide) rfl l4
      replace l5 := q9.2 5 _ (by decide) rfl l5
      replace l6 := q9.2 6 _ (by decide) rfl l6
      replace l7 := q9.2 7 _ (by decide) rfl l7
      replace l8 := q9.2 8 _ (by decide) rfl l8
      have l9 := q9.1
      clear q9
      exact wy_137 hsc hm hi him hp hf wi l0 l4 l5 l6 l7 l8 l9
    · simp only [hs_cd, ab_not] at b126
      refine hs_iconst ci_1950_129 ?_
      refine hs_goto (t := 134) ci_1950_130 rfl ?_
      refine hs_iadd ci_1950_134 ?_
      refine hs_istore ci_1950_135 (by decide +kernel) ?_
      intro ls9 q9
      replace l0 := q9.2 0 _ (by decide) rfl l0
      replace l4 := q9.2 4 _ (by decide) rfl l4
      replace l5 := q9.2 5 _ (by decide) rfl l5
      replace l6 := q9.2 6 _ (by decide) rfl l6
      replace l7 := q9.2 7 _ (by decide) rfl l7
      replace l8 := q9.2 8 _ (by decide) rfl l8
      have l9 := q9.1
      clear q9
      exact wy_137 hsc hm hi him hp hf wi l0 l4 l5 l6 l7 l8 l9
  · simp only [hs_cd, ab_not] at b116
    refine hs_iconst ci_1950_119 ?_
    refine hs_goto (t := 134) ci_1950_120 rfl ?_
    refine hs_iadd ci_1950_134 ?_
    refine hs_istore ci_1950_135 (by decide +kernel) ?_
    intro ls9 q9
    replace l0 := q9.2 0 _ (by decide) rfl l0
    replace l4 := q9.2 4 _ (by decide) rfl l4
    replace l5 := q9.2 5 _ (by decide) rfl l5
    replace l6 := q9.2 6 _ (by decide) rfl l6
    replace l7 := q9.2 7 _ (by decide) rfl l7
    replace l8 := q9.2 8 _ (by decide) rfl l8
    have l9 := q9.1
    clear q9
    exact wy_137 hsc hm hi him hp hf wi l0 l4 l5 l6 l7 l8 l9
theorem wy_70 {sc : List Value} {sp d : Nat} (hsc : ab_osc sc) {h0 h : eg_H} {m i : Nat} {xm xi last way : Int32} (hm : xm.toInt = (m : Int)) (hi : xi.toInt = (i : Int)) (him : i < m) (hp : ab_hp h) (hf : ab_fr MW h h0) (wi : WI h m) {ls : eg_L} (l0 : eg_find 0 ls = some (.ref 182)) (l4 : eg_find 4 ls = some (.int last)) (l5 : eg_find 5 ls = some (.int xm)) (l6 : eg_find 6 ls = some (.int xi)) (l7 : eg_find 7 ls = some (.int way)) : hs sc sp 1950 11 (d + 3) (fun pc' ls' st' h' => pc' = 64 ∧ st' = [] ∧ ab_hp h' ∧ ab_fr MW h' h0 ∧ (∃ (m' : Nat) (xm' : Int32), xm'.toInt = (m' : Int) ∧ i < m' ∧ WI h' m' ∧ eg_find 5 ls' = some (.int xm')) ∧ eg_find 0 ls' = some (.ref 182) ∧ eg_find 4 ls' = some (.int last) ∧ eg_find 6 ls' = some (.int xi) ∧ eg_find 7 ls' = some (.int (way + Int32.ofInt 1))) 70 ls [] h := by
  refine hs_aload_n ci_1950_70 l0 ?_
  refine hs_gfr 27 193 ci_1950_71 (by decide +kernel) hp.1 ?_
  refine hs_iload ci_1950_74 l6 ?_
  have hi64 := wi.le
  refine hs_ial1 (0 + i) ci_1950_76 (hi.trans (by omega)) (ckq_v gq_wk i (by omega)) hp.1 ?_
  refine hs_bipush ci_1950_77 ?_
  refine hs_irem ci_1950_79 (by decide) ?_
  refine hs_iload ci_1950_80 l7 ?_
  refine hs_if (t := 89) ci_1950_82 rfl (fun b82 => ?_) (fun b82 => ?_)
  · simp only [hs_cd, ab_not] at b82
    refine hs_iload ci_1950_89 l7 ?_
    refine hs_iconst ci_1950_91 ?_
    refine hs_ic (t := 99) ci_1950_92 rfl (fun b92 => ?_) (fun b92 => ?_)
    · simp only [hs_cd, ab_not] at b92
      refine hs_iconst ci_1950_99 ?_
      refine hs_iadd ci_1950_100 ?_
      refine hs_istore ci_1950_101 (by decide +kernel) ?_
      intro ls9 q9
      replace l0 := q9.2 0 _ (by decide) rfl l0
      replace l4 := q9.2 4 _ (by decide) rfl l4
      replace l5 := q9.2 5 _ (by decide) rfl l5
      replace l6 := q9.2 6 _ (by decide) rfl l6
      replace l7 := q9.2 7 _ (by decide) rfl l7
      have l8 := q9.1
      clear q9
      exact wy_103 hsc hm hi him hp hf wi l0 l4 l5 l6 l7 l8
    · simp only [hs_cd, ab_not] at b92
      refine hs_iconst ci_1950_95 ?_
      refine hs_goto (t := 100) ci_1950_96 rfl ?_
      refine hs_iadd ci_1950_100 ?_
      refine hs_istore ci_1950_101 (by decide +kernel) ?_
      intro ls9 q9
      replace l0 := q9.2 0 _ (by decide) rfl l0
      replace l4 := q9.2 4 _ (by decide) rfl l4
      replace l5 := q9.2 5 _ (by decide) rfl l5
      replace l6 := q9.2 6 _ (by decide) rfl l6
      replace l7 := q9.2 7 _ (by decide) rfl l7
      have l8 := q9.1
      clear q9
      exact wy_103 hsc hm hi him hp hf wi l0 l4 l5 l6 l7 l8
  · simp only [hs_cd, ab_not] at b82
    refine hs_iconst ci_1950_85 ?_
    refine hs_goto (t := 100) ci_1950_86 rfl ?_
    refine hs_iadd ci_1950_100 ?_
    refine hs_istore ci_1950_101 (by decide +kernel) ?_
    intro ls9 q9
    replace l0 := q9.2 0 _ (by decide) rfl l0
    replace l4 := q9.2 4 _ (by decide) rfl l4
    replace l5 := q9.2 5 _ (by decide) rfl l5
    replace l6 := q9.2 6 _ (by decide) rfl l6
    replace l7 := q9.2 7 _ (by decide) rfl l7
    have l8 := q9.1
    clear q9
    exact wy_103 hsc hm hi him hp hf wi l0 l4 l5 l6 l7 l8
theorem wy_in {sc : List Value} {sp d : Nat} (hsc : ab_osc sc) {h0 : eg_H} {i : Nat} {xi last : Int32} (hi : xi.toInt = (i : Int)) (r : Nat) : ∀ (w : Nat) (way : Int32) (m : Nat) (xm : Int32) (ls : eg_L) (h : eg_H), w + r = 4 → way.toInt = (w : Int) → xm.toInt = (m : Int) → i < m → ab_hp h → ab_fr MW h h0 → WI h m → eg_find 0 ls = some (.ref 182) → eg_find 4 ls = some (.int last) → eg_find 5 ls = some (.int xm) → eg_find 6 ls = some (.int xi) → eg_find 7 ls = some (.int way) → hs sc sp 1950 11 (d + 3) (fun pc' ls' st' h' => pc' = 256 ∧ st' = [] ∧ ab_hp h' ∧ ab_fr MW h' h0 ∧ (∃ (m' : Nat) (xm' : Int32), xm'.toInt = (m' : Int) ∧ i < m' ∧ WI h' m' ∧ eg_find 5 ls' = some (.int xm')) ∧ eg_find 0 ls' = some (.ref 182) ∧ eg_find 4 ls' = some (.int last) ∧ eg_find 6 ls' = some (.int xi)) 64 ls [] h := by
  induction r with
  | zero =>
    intro w way m xm ls h hw hway hm him hp hf wi l0 l4 l5 l6 l7
    have e4 : (Int32.ofInt 4).toInt = 4 := rfl
    refine hs_iload ci_1950_64 l7 ?_
    refine hs_iconst ci_1950_66 ?_
    refine hs_ic (t := 256) ci_1950_67 rfl (fun b67 => ?_) (fun b67 => ?_)
    · simp only [hs_cd, ab_not] at b67
      exact hs_k ⟨rfl, rfl, hp, hf, ⟨m, xm, hm, him, wi, l5⟩, l0, l4, l6⟩
    · simp only [hs_cd, ab_not] at b67
      omega
  | succ r ih =>
    intro w way m xm ls h hw hway hm him hp hf wi l0 l4 l5 l6 l7
    have e4 : (Int32.ofInt 4).toInt = 4 := rfl
    refine hs_iload ci_1950_64 l7 ?_
    refine hs_iconst ci_1950_66 ?_
    refine hs_ic (t := 256) ci_1950_67 rfl (fun b67 => ?_) (fun b67 => ?_)
    · simp only [hs_cd, ab_not] at b67
      omega
    · simp only [hs_cd, ab_not] at b67
      refine (wy_70 hsc hm hi him hp hf wi l0 l4 l5 l6 l7).bind ?_
      rintro pc' ls' st' h' ⟨rfl, rfl, hp, hf, ⟨m', xm', hm, him, wi, l5⟩, l0, l4, l6, l7⟩
      exact ih (w + 1) _ _ _ _ _ (by omega) (by have := i32_add hway (y := Int32.ofInt 1) (b := 1) rfl (by omega) (by omega); rw [this]; omega) hm him hp hf wi l0 l4 l5 l6 l7
theorem wy_out {sc : List Value} {sp d : Nat} (hsc : ab_osc sc) {h0 : eg_H} {last : Int32} {la : Nat} (hla : last.toInt = (la : Int)) (hl64 : la < 64) (r : Nat) : ∀ (i : Nat) (xi : Int32) (m : Nat) (xm : Int32) (ls : eg_L) (h : eg_H), i + r = 65 → xi.toInt = (i : Int) → xm.toInt = (m : Int) → ab_hp h → ab_fr MW h h0 → WI h m → eg_find 0 ls = some (.ref 182) → eg_find 4 ls = some (.int last) → eg_find 5 ls = some (.int xm) → eg_find 6 ls = some (.int xi) → hs sc sp 1950 11 (d + 3) (fun pc' _ st' h' => pc' = 269 ∧ (∃ t : Int32, st' = [.int t]) ∧ ab_hp h' ∧ ab_fr MW h' h0) 54 ls [] h := by
  induction r with
  | zero =>
    intro i xi m xm ls h hr hi hm hp hf wi l0 l4 l5 l6
    have hml := wi.le
    refine hs_iload ci_1950_54 l6 ?_
    refine hs_iload ci_1950_56 l5 ?_
    refine hs_ic (t := 262) ci_1950_58 rfl (fun b58 => ?_) (fun b58 => ?_)
    · simp only [hs_cd, ab_not] at b58
      refine hs_aload_n ci_1950_262 l0 ?_
      refine hs_gfr 26 192 ci_1950_263 (by decide +kernel) hp.1 ?_
      refine hs_iload ci_1950_266 l4 ?_
      refine hs_ial1 (0 + la) ci_1950_268 (hla.trans (by omega)) (ckq_v gq_st la hl64) hp.1 ?_
      exact hs_k ⟨rfl, ⟨_, rfl⟩, hp, hf⟩
    · simp only [hs_cd, ab_not] at b58
      omega
  | succ r ih =>
    intro i xi m xm ls h hr hi hm hp hf wi l0 l4 l5 l6
    have hml := wi.le
    refine hs_iload ci_1950_54 l6 ?_
    refine hs_iload ci_1950_56 l5 ?_
    refine hs_ic (t := 262) ci_1950_58 rfl (fun b58 => ?_) (fun b58 => ?_)
    · simp only [hs_cd, ab_not] at b58
      refine hs_aload_n ci_1950_262 l0 ?_
      refine hs_gfr 26 192 ci_1950_263 (by decide +kernel) hp.1 ?_
      refine hs_iload ci_1950_266 l4 ?_
      refine hs_ial1 (0 + la) ci_1950_268 (hla.trans (by omega)) (ckq_v gq_st la hl64) hp.1 ?_
      exact hs_k ⟨rfl, ⟨_, rfl⟩, hp, hf⟩
    · simp only [hs_cd, ab_not] at b58
      refine hs_iconst ci_1950_61 ?_
      refine hs_istore ci_1950_62 (by decide +kernel) ?_
      intro ls9 q9
      replace l0 := q9.2 0 _ (by decide) rfl l0
      replace l4 := q9.2 4 _ (by decide) rfl l4
      replace l5 := q9.2 5 _ (by decide) rfl l5
      replace l6 := q9.2 6 _ (by decide) rfl l6
      have l7 := q9.1
      clear q9
      refine (wy_in hsc hi 4 0 _ _ _ _ _ rfl rfl hm (by omega) hp hf wi l0 l4 l5 l6 l7).bind ?_
      rintro pc' ls' st' h' ⟨rfl, rfl, hp, hf, ⟨m', xm', hm, him, wi, l5⟩, l0, l4, l6⟩
      refine hs_iinc ci_1950_256 (by decide +kernel) l6 ?_
      intro ls9 q9
      replace l0 := q9.2 0 _ (by decide) rfl l0
      replace l4 := q9.2 4 _ (by decide) rfl l4
      replace l5 := q9.2 5 _ (by decide) rfl l5
      have l6 := q9.1
      clear q9
      refine hs_goto (t := 54) ci_1950_259 rfl ?_
      exact ih (i + 1) _ _ _ _ _ (by omega) (by have := i32_add hi (y := Int32.ofInt 1) (b := 1) rfl (by omega) (by omega); rw [this]; omega) hm hp hf wi l0 l4 l5 l6
theorem wy_ini {sc : List Value} {sp d : Nat} {h0 : eg_H} {x1 x2 : Int32} (r : Nat) : ∀ (i : Nat) (xi : Int32) (ls : eg_L) (h : eg_H), i + r = 64 → xi.toInt = (i : Int) → ab_hp h → ab_fr MW h h0 → (∀ j, j < i → (hv h 192 j).toInt = -1) → eg_find 0 ls = some (.ref 182) → eg_find 1 ls = some (.int x1) → eg_find 2 ls = some (.int x2) → eg_find 3 ls = some (.int xi) → hs sc sp 1950 11 d (fun pc' ls' st' h' => pc' = 21 ∧ st' = [] ∧ ab_hp h' ∧ ab_fr MW h' h0 ∧ (∀ j, j < 64 → (hv h' 192 j).toInt = -1) ∧ eg_find 0 ls' = some (.ref 182) ∧ eg_find 1 ls' = some (.int x1) ∧ eg_find 2 ls' = some (.int x2)) 2 ls [] h := by
  induction r with
  | zero =>
    intro i xi ls h hr hi hp hf hz l0 l1 l2 l3
    have e4 : (Int8.ofInt 64).toInt32.toInt = 64 := rfl
    refine hs_iload_n ci_1950_2 l3 ?_
    refine hs_bipush ci_1950_3 ?_
    refine hs_ic (t := 21) ci_1950_5 rfl (fun b5 => ?_) (fun b5 => ?_)
    · simp only [hs_cd, ab_not] at b5
      exact hs_k ⟨rfl, rfl, hp, hf, fun j hj => hz j (by omega), l0, l1, l2⟩
    · simp only [hs_cd, ab_not] at b5
      omega
  | succ r ih =>
    intro i xi ls h hr hi hp hf hz l0 l1 l2 l3
    have e4 : (Int8.ofInt 64).toInt32.toInt = 64 := rfl
    refine hs_iload_n ci_1950_2 l3 ?_
    refine hs_bipush ci_1950_3 ?_
    refine hs_ic (t := 21) ci_1950_5 rfl (fun b5 => ?_) (fun b5 => ?_)
    · simp only [hs_cd, ab_not] at b5
      omega
    · simp only [hs_cd, ab_not] at b5
      refine hs_aload_n ci_1950_8 l0 ?_
      refine hs_gfr 26 192 ci_1950_9 (by decide +kernel) hp.1 ?_
      refine hs_iload_n ci_1950_12 l3 ?_
      refine hs_iconst ci_1950_13 ?_
      refine hs_ias1 (0 + i) ci_1950_14 (hi.trans (by omega)) (ckq_v gq_st i (by omega)) hp.1 (ab_ige _) (ab_ile _) ?_
      intro h5 w5
      replace hf := (w5.fr (M := MW) (in1 (by omega) (by omega))).tr hf
      replace hp : ab_hp h5 := ⟨w5.1, hp.2.set (by unfold ab_pr; rfl) w5.2⟩
      replace hz : ∀ j, j < i + 1 → (hv h5 192 j).toInt = -1 := fun j hj => by
        rw [w5.v]
        by_cases e : j = i
        · rw [if_pos ⟨rfl, by omega⟩]; rfl
        · rw [if_neg (by omega)]; exact hz j (by omega)
      refine hs_iinc ci_1950_15 (by decide +kernel) l3 ?_
      intro ls9 q9
      replace l0 := q9.2 0 _ (by decide) rfl l0
      replace l1 := q9.2 1 _ (by decide) rfl l1
      replace l2 := q9.2 2 _ (by decide) rfl l2
      have l3 := q9.1
      clear q9
      refine hs_goto (t := 2) ci_1950_18 rfl ?_
      exact ih (i + 1) _ _ _ (by omega) (by have := i32_add hi (y := Int32.ofInt 1) (b := 1) rfl (by omega) (by omega); rw [this]; omega) hp hf hz l0 l1 l2 l3
def sm_wayOf : ab_Q := (1950, 11, 0, 8, (4, [(2, .ofNat 0, .ofNat 5, false, none), (3, .ofNat 0, .ofNat 5, false, none)], [(0, .inr 184), (1, .inl (2, .ofNat 0)), (2, .inl (3, .ofNat 0))], [], []), [(192, 0, 63), (193, 0, 63)], [(269, (5, [(4, .negSucc 2147483647, .ofNat 2147483647, false, none)], [], [.inl (4, .ofNat 0)], []))], none)
theorem tr_wayOf : ab_Tr sm_wayOf := tr_hand (by decide +kernel) (fun sc sp hsc dq hdq ν ls st h hr => by
  have l0 := hr.ref 0 182 (by rfl)
  obtain ⟨x1, l1, hx1⟩ := hr.int 1 (by rfl)
  obtain ⟨x2, l2, hx2⟩ := hr.int 2 (by rfl)
  have hx1 : x1.toInt = ν 2 + 0 := hx1
  have hx2 : x2.toInt = ν 3 + 0 := hx2
  have hb1 : 0 ≤ ν 2 ∧ ν 2 ≤ 5 := hr.bnd 2 (by rfl)
  have hb2 : 0 ≤ ν 3 ∧ ν 3 ≤ 5 := hr.bnd 3 (by rfl)
  obtain rfl : st = [] := hr.2.2.2.1
  have hp : ab_hp h := hr.2.2.2.2.2
  have hdq : 8 ≤ dq := hdq
  obtain ⟨d, rfl⟩ : ∃ d, dq = d + 3 := ⟨dq - 3, by omega⟩
  show hs sc sp 1950 11 (d + 3) _ 0 ls [] h
  refine hs_iconst ci_1950_0 ?_
  refine hs_istore_n ci_1950_1 (by decide +kernel) ?_
  intro ls9 q9
  replace l0 := q9.2 0 _ (by decide) rfl l0
  replace l1 := q9.2 1 _ (by decide) rfl l1
  replace l2 := q9.2 2 _ (by decide) rfl l2
  have l3 := q9.1
  clear q9
  refine (wy_ini (h0 := h) (d := d + 3) 64 0 _ _ _ rfl rfl hp ab_fr.rf (fun j hj => nomatch hj) l0 l1 l2 l3).bind ?_
  rintro pc' ls' st' h' ⟨rfl, rfl, hp, hf, hz, l0, l1, l2⟩
  refine hs_aload_n ci_1950_21 l0 ?_
  refine hs_iload_n ci_1950_22 l1 ?_
  refine hs_cv 1954 11 1 ci_1950_23 (by decide +kernel) (by decide +kernel) hp.1 rfl (by rw [ml_1954]; rfl) (c_doorOf hsc (by omega) (by omega) hp) ?_
  rintro v9 h2 ⟨hp2, f2, q1, e8, q1a, q1b⟩
  rw [e8]
  clear e8 v9
  simp only [Option.toList, List.cons_append, List.nil_append]
  replace hz : ∀ j, j < 64 → (hv h2 192 j).toInt = -1 := fun j hj => by rw [fr_nil f2]; exact hz j hj
  replace hf := fr_up f2 hf
  replace hp := hp2
  clear hp2 f2
  refine hs_istore_n ci_1950_26 (by decide +kernel) ?_
  intro ls9 q9
  replace l0 := q9.2 0 _ (by decide) rfl l0
  replace l1 := q9.2 1 _ (by decide) rfl l1
  replace l2 := q9.2 2 _ (by decide) rfl l2
  have l3 := q9.1
  clear q9
  refine hs_aload_n ci_1950_27 l0 ?_
  refine hs_iload_n ci_1950_28 l2 ?_
  refine hs_cv 1954 11 1 ci_1950_29 (by decide +kernel) (by decide +kernel) hp.1 rfl (by rw [ml_1954]; rfl) (c_doorOf hsc (by omega) (by omega) hp) ?_
  rintro v9 h3 ⟨hp2, f2, q2, e8, q2a, q2b⟩
  rw [e8]
  clear e8 v9
  simp only [Option.toList, List.cons_append, List.nil_append]
  replace hz : ∀ j, j < 64 → (hv h3 192 j).toInt = -1 := fun j hj => by rw [fr_nil f2]; exact hz j hj
  replace hf := fr_up f2 hf
  replace hp := hp2
  clear hp2 f2
  refine hs_istore ci_1950_32 (by decide +kernel) ?_
  intro ls9 q9
  replace l0 := q9.2 0 _ (by decide) rfl l0
  replace l1 := q9.2 1 _ (by decide) rfl l1
  replace l2 := q9.2 2 _ (by decide) rfl l2
  replace l3 := q9.2 3 _ (by decide) rfl l3
  have l4 := q9.1
  clear q9
  refine hs_aload_n ci_1950_34 l0 ?_
  refine hs_gfr 26 192 ci_1950_35 (by decide +kernel) hp.1 ?_
  refine hs_iload_n ci_1950_38 l3 ?_
  refine hs_iconst ci_1950_39 ?_
  obtain ⟨c, hc⟩ : ∃ c : Nat, q1.toInt = (c : Int) := ⟨q1.toInt.toNat, by omega⟩
  have hc64 : c < 64 := by omega
  refine hs_ias1 (0 + c) ci_1950_40 (hc.trans (by omega)) (ckq_v gq_st c hc64) hp.1 (ab_ige _) (ab_ile _) ?_
  intro h5 w5
  replace hf := (w5.fr (M := MW) (in1 (by omega) (by omega))).tr hf
  replace hp : ab_hp h5 := ⟨w5.1, hp.2.set (by unfold ab_pr; rfl) w5.2⟩
  refine hs_aload_n ci_1950_41 l0 ?_
  refine hs_gfr 27 193 ci_1950_42 (by decide +kernel) hp.1 ?_
  refine hs_iconst ci_1950_45 ?_
  refine hs_iload_n ci_1950_46 l3 ?_
  refine hs_ias1 (0 + 0) ci_1950_47 rfl (ckq_v gq_wk 0 (by omega)) hp.1 (by show 0 ≤ q1.toInt; omega) (by show q1.toInt ≤ 63; omega) ?_
  intro h6 w6
  replace hf := (w6.fr (M := MW) (in2 (by omega) (by omega) (fun _ => trivial))).tr hf
  replace hp : ab_hp h6 := ⟨w6.1, hp.2.set (by unfold ab_pr; rfl) w6.2⟩
  have wi0 : WI h3 0 := ⟨(fun j hj => nomatch hj), Nat.zero_le _, fun k hk => by have := hz k hk; omega⟩
  have wi := wi0.put (h1 := h5) (h2 := h6) hc64 (by have := hz c hc64; omega) (by decide) (by decide) hc (fun a k => w5.v a k) (fun a k => w6.v a k)
  refine hs_iconst ci_1950_48 ?_
  refine hs_istore ci_1950_49 (by decide +kernel) ?_
  intro ls9 q9
  replace l0 := q9.2 0 _ (by decide) rfl l0
  replace l1 := q9.2 1 _ (by decide) rfl l1
  replace l2 := q9.2 2 _ (by decide) rfl l2
  replace l3 := q9.2 3 _ (by decide) rfl l3
  replace l4 := q9.2 4 _ (by decide) rfl l4
  have l5 := q9.1
  clear q9
  refine hs_iconst ci_1950_51 ?_
  refine hs_istore ci_1950_52 (by decide +kernel) ?_
  intro ls9 q9
  replace l0 := q9.2 0 _ (by decide) rfl l0
  replace l1 := q9.2 1 _ (by decide) rfl l1
  replace l2 := q9.2 2 _ (by decide) rfl l2
  replace l3 := q9.2 3 _ (by decide) rfl l3
  replace l4 := q9.2 4 _ (by decide) rfl l4
  replace l5 := q9.2 5 _ (by decide) rfl l5
  have l6 := q9.1
  clear q9
  obtain ⟨la, hla⟩ : ∃ la : Nat, q2.toInt = (la : Int) := ⟨q2.toInt.toNat, by omega⟩
  refine hs.mono (wy_out hsc hla (by omega) 65 0 _ 1 _ _ _ rfl rfl rfl hp hf wi l0 l4 l5 l6) ?_
  rintro pc' ls' st' h' ⟨rfl, ⟨t, rfl⟩, hp', hf'⟩
  exact ⟨_, List.mem_cons_self, rfl, _, en_int hr.1 (ab_ige t) (ab_ile t) hp', ab_upd_ext, hf'⟩)
