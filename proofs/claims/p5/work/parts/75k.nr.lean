/-! BY HAND: the reference's next token: letters and digits -/
theorem ci_1658_181 : ab_at 1658 181 (.aload_n 0) 1 = true := by decide +kernel
theorem ci_1658_182 : ab_at 1658 182 (.invokevirtual 148) 3 = true := by decide +kernel
theorem ci_1658_185 : ab_at 1658 185 (.invokestatic 161) 3 = true := by decide +kernel
theorem ci_1658_188 : ab_at 1658 188 (.ifCond .ne 13) 3 = true := by decide +kernel
theorem ci_1658_191 : ab_at 1658 191 (.aload_n 0) 1 = true := by decide +kernel
theorem ci_1658_192 : ab_at 1658 192 (.invokevirtual 148) 3 = true := by decide +kernel
theorem ci_1658_195 : ab_at 1658 195 (.invokestatic 165) 3 = true := by decide +kernel
theorem ci_1658_198 : ab_at 1658 198 (.ifCond .eq 100) 3 = true := by decide +kernel
theorem ci_1658_201 : ab_at 1658 201 (.iload_n 3) 1 = true := by decide +kernel
theorem ci_1658_202 : ab_at 1658 202 (.ifCond .eq 18) 3 = true := by decide +kernel
theorem ci_1658_205 : ab_at 1658 205 (.aload_n 0) 1 = true := by decide +kernel
theorem ci_1658_206 : ab_at 1658 206 (.invokevirtual 148) 3 = true := by decide +kernel
theorem ci_1658_209 : ab_at 1658 209 (.invokestatic 161) 3 = true := by decide +kernel
theorem ci_1658_212 : ab_at 1658 212 (.iload_n 2) 1 = true := by decide +kernel
theorem ci_1658_213 : ab_at 1658 213 (.if_icmp .ne 7) 3 = true := by decide +kernel
theorem ci_1658_216 : ab_at 1658 216 (.iconst 1) 1 = true := by decide +kernel
theorem ci_1658_217 : ab_at 1658 217 (.goto 4) 3 = true := by decide +kernel
theorem ci_1658_220 : ab_at 1658 220 (.iconst 0) 1 = true := by decide +kernel
theorem ci_1658_221 : ab_at 1658 221 (.istore_n 3) 1 = true := by decide +kernel
theorem ci_1658_222 : ab_at 1658 222 (.aload_n 0) 1 = true := by decide +kernel
theorem ci_1658_223 : ab_at 1658 223 (.getfield 155) 3 = true := by decide +kernel
theorem ci_1658_226 : ab_at 1658 226 (.bipush 7) 2 = true := by decide +kernel
theorem ci_1658_228 : ab_at 1658 228 (.if_icmp .ge 20) 3 = true := by decide +kernel
theorem ci_1658_231 : ab_at 1658 231 (.aload_n 0) 1 = true := by decide +kernel
theorem ci_1658_232 : ab_at 1658 232 (.aload_n 0) 1 = true := by decide +kernel
theorem ci_1658_233 : ab_at 1658 233 (.getfield 171) 3 = true := by decide +kernel
theorem ci_1658_236 : ab_at 1658 236 (.bipush 8) 2 = true := by decide +kernel
theorem ci_1658_238 : ab_at 1658 238 (.lshl) 1 = true := by decide +kernel
theorem ci_1658_239 : ab_at 1658 239 (.aload_n 0) 1 = true := by decide +kernel
theorem ci_1658_240 : ab_at 1658 240 (.invokevirtual 148) 3 = true := by decide +kernel
theorem ci_1658_243 : ab_at 1658 243 (.i2l) 1 = true := by decide +kernel
theorem ci_1658_244 : ab_at 1658 244 (.lor) 1 = true := by decide +kernel
theorem ci_1658_245 : ab_at 1658 245 (.putfield 171) 3 = true := by decide +kernel
theorem ci_1658_248 : ab_at 1658 248 (.aload_n 0) 1 = true := by decide +kernel
theorem ci_1658_249 : ab_at 1658 249 (.getfield 155) 3 = true := by decide +kernel
theorem ci_1658_252 : ab_at 1658 252 (.iconst 3) 1 = true := by decide +kernel
theorem ci_1658_253 : ab_at 1658 253 (.if_icmp .ge 22) 3 = true := by decide +kernel
theorem ci_1658_256 : ab_at 1658 256 (.aload_n 0) 1 = true := by decide +kernel
theorem ci_1658_257 : ab_at 1658 257 (.bipush 10) 2 = true := by decide +kernel
theorem ci_1658_259 : ab_at 1658 259 (.aload_n 0) 1 = true := by decide +kernel
theorem ci_1658_260 : ab_at 1658 260 (.getfield 168) 3 = true := by decide +kernel
theorem ci_1658_263 : ab_at 1658 263 (.imul) 1 = true := by decide +kernel
theorem ci_1658_264 : ab_at 1658 264 (.aload_n 0) 1 = true := by decide +kernel
theorem ci_1658_265 : ab_at 1658 265 (.invokevirtual 148) 3 = true := by decide +kernel
theorem ci_1658_268 : ab_at 1658 268 (.iadd) 1 = true := by decide +kernel
theorem ci_1658_269 : ab_at 1658 269 (.bipush 48) 2 = true := by decide +kernel
theorem ci_1658_271 : ab_at 1658 271 (.isub) 1 = true := by decide +kernel
theorem ci_1658_272 : ab_at 1658 272 (.putfield 168) 3 = true := by decide +kernel
theorem ci_1658_298 : ab_at 1658 298 (.aload_n 0) 1 = true := by decide +kernel
theorem ml_1665 : (eg_md 1665).2.2.1 = 1 := by decide +kernel
theorem ml_1668 : (eg_md 1668).2.2.1 = 1 := by decide +kernel
theorem kB_8 : (Int8.ofInt (8)).toInt32.toInt = 8 := by decide +kernel
theorem bv_nn {x : BitVec 64} {a : Int} (hx : x.toInt = a) (h0 : 0 ≤ a) : (x.toNat : Int) = a := by
  have e := BitVec.toInt_eq_toNat_cond x
  have hl := x.isLt
  split at e <;> omega
theorem i64_shl8 {x : Int64} {c : Int32} {a b : Int} (hx : x.toInt = a) (h0 : 0 ≤ a) (h1 : a < 281474976710656) (hc : c.toInt = b) (hb0 : 0 ≤ b) (hb : b < 256) : (x <<< ((Int8.ofInt 8).toInt32.toInt64 &&& 63) ||| c.toInt64).toInt = a * 256 + b := by
  have e1 : (x <<< ((Int8.ofInt 8).toInt32.toInt64 &&& 63) ||| c.toInt64).toInt = (x.toBitVec <<< (8 : Nat) ||| c.toInt64.toBitVec).toInt := rfl
  have hX : (x.toBitVec.toNat : Int) = a := bv_nn hx h0
  have hC : (c.toInt64.toBitVec.toNat : Int) = b := bv_nn ((i64_of32 c).trans hc) hb0
  have hcl : c.toInt64.toBitVec.toNat < 2 ^ 8 := by
    have : c.toInt64.toBitVec.toNat < 256 := by omega
    exact this
  have e2 : (x.toBitVec <<< (8 : Nat) ||| c.toInt64.toBitVec).toNat = x.toBitVec.toNat * 256 + c.toInt64.toBitVec.toNat := by
    rw [BitVec.toNat_or, BitVec.toNat_shiftLeft]
    have e3 : x.toBitVec.toNat <<< 8 = x.toBitVec.toNat * 256 := by rw [Nat.shiftLeft_eq]
    have e4 : x.toBitVec.toNat <<< 8 % 2 ^ 64 = x.toBitVec.toNat <<< 8 := by
      rw [e3]
      exact Nat.mod_eq_of_lt (by omega)
    rw [e4, ← Nat.shiftLeft_add_eq_or_of_lt hcl, e3]
  rw [e1, BitVec.toInt_eq_toNat_cond, e2, if_pos (by omega)]
  omega
theorem pw_256 {k : Nat} (h : k ≤ 6) : (256 : Int) ^ k ≤ 281474976710656 := by
  have : k = 0 ∨ k = 1 ∨ k = 2 ∨ k = 3 ∨ k = 4 ∨ k = 5 ∨ k = 6 := by omega
  rcases this with rfl | rfl | rfl | rfl | rfl | rfl | rfl <;> decide
theorem tx_256_b {B : Nat → Int} {q : Nat} (hB : ∀ k, 0 ≤ B k ∧ B k < 256) : ∀ k, 0 ≤ tx_256 B q k ∧ tx_256 B q k < 256 ^ k
  | 0 => ⟨Int.le_refl _, show (0 : Int) < 1 by decide⟩
  | k + 1 => by
    obtain ⟨i1, i2⟩ := tx_256_b (q := q) hB k
    obtain ⟨b1, b2⟩ := hB (q + k)
    unfold tx_256
    rw [Int.pow_succ]
    exact ⟨by omega, by omega⟩
/-- a number of at most three bytes stays small -/
theorem tx_10_s {B : Nat → Int} {q : Nat} (hB : ∀ k, 0 ≤ B k ∧ B k < 256) : ∀ k, k ≤ 3 → -20000 ≤ tx_10 B q k * 2 ∧ tx_10 B q k * 2 ≤ 50000
  | 0, _ => by
    show -20000 ≤ (0 : Int) * 2 ∧ (0 : Int) * 2 ≤ 50000
    decide
  | 1, _ => by
    obtain ⟨b1, b2⟩ := hB (q + 0)
    simp only [tx_10]
    omega
  | 2, _ => by
    obtain ⟨b1, b2⟩ := hB (q + 0)
    obtain ⟨b3, b4⟩ := hB (q + 1)
    simp only [tx_10]
    omega
  | 3, _ => by
    obtain ⟨b1, b2⟩ := hB (q + 0)
    obtain ⟨b3, b4⟩ := hB (q + 1)
    obtain ⟨b5, b6⟩ := hB (q + 2)
    simp only [tx_10]
    omega
  | k + 4, h => by omega
/-- ahead of the byte i of a run that began at q -/
def nr_B (h h1 : eg_H) (q i : Nat) : Prop := ab_hp h1 ∧ ab_fr MNX h1 h ∧ (hv h1 182 4).toInt = (i : Int) ∧ (hv h1 182 12).toInt = (q : Int) ∧ q ≤ i ∧ i ≤ nN h ∧ (∀ r, q ≤ r → r < i → tx_r (bM h r))
def nr_W (h h1 : eg_H) (q k : Nat) : Prop := (hl h1 182 17).toInt = tx_256 (bM h) q (min k 7)
def nr_N (h h1 : eg_H) (q k : Nat) : Prop := (hv h1 182 14).toInt = tx_10 (bM h) q (min k 3)
def nr_S (h1 : eg_H) (k : Nat) : Prop := (hv h1 182 13).toInt = (k : Int)
/-- whether all bytes are as the first one -/
def nr_A (h : eg_H) (q i : Nat) (s a : Int32) : Prop := ((s.toInt = 1 ∧ tx_l (bM h q)) ∨ (s.toInt = 0 ∧ ¬ tx_l (bM h q))) ∧ ((a.toInt = 1 ∧ ∀ r, q ≤ r → r < i → (tx_l (bM h r) ↔ tx_l (bM h q))) ∨ (a.toInt = 0 ∧ ¬ ∀ r, q ≤ r → r < i → (tx_l (bM h r) ↔ tx_l (bM h q))))
theorem nr_peek {h h1 : eg_H} {q i : Nat} (b : nr_B h h1 q i) {r : Int32} (hr : ((hv h1 182 4).toInt < (hv h1 182 3).toInt ∧ r.toInt = bM h1 (hv h1 182 4).toInt.toNat) ∨ ((hv h1 182 3).toInt ≤ (hv h1 182 4).toInt ∧ r.toInt = -1)) (hN : 0 ≤ (hv h 182 3).toInt) : (i < nN h ∧ r.toInt = bM h i) ∨ (i = nN h ∧ r.toInt = -1) := by
  obtain ⟨b1, b2, b3, b4, b5, b6, b7⟩ := b
  rw [nN_fr b2, bM_fr b2] at hr
  have hNN : nN h = (hv h 182 3).toInt.toNat := rfl
  have e : (hv h1 182 4).toInt.toNat = i := by omega
  rw [e] at hr
  rcases hr with ⟨g1, g2⟩ | ⟨g1, g2⟩
  · exact Or.inl ⟨by omega, g2⟩
  · exact Or.inr ⟨by omega, g2⟩
theorem nr_a {sc : List Value} {sp d : Nat} {h : eg_H} {h1 : eg_H} {q i : Nat} {ls : eg_L} (hN : 0 ≤ (hv h 182 3).toInt) (b : nr_B h h1 q i) (l0 : eg_find 0 ls = some (.ref 182)) : hs sc sp 1658 11 (d + 1) (fun pc' ls' st' h' => ls' = ls ∧ st' = [] ∧ h' = h1 ∧ ((pc' = 201 ∧ i < nN h ∧ tx_r (bM h i)) ∨ (pc' = 298 ∧ (i < nN h → ¬ tx_r (bM h i))))) 181 ls [] h1 := by
  have hp := b.1.1
  refine hs_aload_n ci_1658_181 l0 ?_
  refine hs_cv 1662 11 0 ci_1658_182 (by decide +kernel) (by decide +kernel) hp rfl (by rw [ml_1662]; rfl) (k_peek b.1) ?_
  rintro v9 h9 ⟨e9, r1, e8, hr1⟩
  rw [e8, e9]
  clear e8 e9 v9 h9
  replace hr1 := nr_peek b hr1 hN
  simp only [Option.toList, List.cons_append, List.nil_append]
  refine hs_cs 1665 11 1 ci_1658_185 (by decide +kernel) rfl (by rw [ml_1665]; rfl) (k_sml r1) ?_
  rintro v9 h9 ⟨e9, s1, e8, hq1⟩
  rw [e8, e9]
  clear e8 e9 v9 h9
  simp only [Option.toList, List.cons_append, List.nil_append]
  refine hs_if (t := 201) ci_1658_188 rfl (fun b188 => ?_) (fun b188 => ?_)
  · simp only [hs_cd, ab_not] at b188
    refine hs_k ⟨rfl, rfl, rfl, Or.inl ⟨rfl, ?_⟩⟩
    rcases hr1 with ⟨g1, g2⟩ | ⟨g1, g2⟩
    · refine ⟨g1, ?_⟩
      rcases hq1 with ⟨-, g3⟩ | ⟨g3, -⟩
      · rw [g2] at g3
        exact Or.inl g3
      · omega
    · rcases hq1 with ⟨-, g3, g4⟩ | ⟨g3, -⟩
      · omega
      · omega
  · simp only [hs_cd, ab_not] at b188
    refine hs_aload_n ci_1658_191 l0 ?_
    refine hs_cv 1662 11 0 ci_1658_192 (by decide +kernel) (by decide +kernel) hp rfl (by rw [ml_1662]; rfl) (k_peek b.1) ?_
    rintro v9 h9 ⟨e9, r2, e8, hr2⟩
    rw [e8, e9]
    clear e8 e9 v9 h9
    replace hr2 := nr_peek b hr2 hN
    simp only [Option.toList, List.cons_append, List.nil_append]
    refine hs_cs 1668 11 1 ci_1658_195 (by decide +kernel) rfl (by rw [ml_1668]; rfl) (k_dig r2) ?_
    rintro v9 h9 ⟨e9, s2, e8, hq2⟩
    rw [e8, e9]
    clear e8 e9 v9 h9
    simp only [Option.toList, List.cons_append, List.nil_append]
    refine hs_if (t := 298) ci_1658_198 rfl (fun b198 => ?_) (fun b198 => ?_)
    · simp only [hs_cd, ab_not] at b198
      refine hs_k ⟨rfl, rfl, rfl, Or.inr ⟨rfl, fun g => ?_⟩⟩
      rintro (g1 | g1)
      · rcases hr1 with ⟨-, g2⟩ | ⟨g2, -⟩
        · rcases hq1 with ⟨g3, -⟩ | ⟨-, g3⟩
          · omega
          · exact g3 (by rw [g2]; exact g1)
        · omega
      · rcases hr2 with ⟨-, g2⟩ | ⟨g2, -⟩
        · rcases hq2 with ⟨g3, -⟩ | ⟨-, g3⟩
          · omega
          · exact g3 (by rw [g2]; exact g1)
        · omega
    · simp only [hs_cd, ab_not] at b198
      refine hs_k ⟨rfl, rfl, rfl, Or.inl ⟨rfl, ?_⟩⟩
      rcases hr2 with ⟨g1, g2⟩ | ⟨g1, g2⟩
      · refine ⟨g1, ?_⟩
        rcases hq2 with ⟨-, g3⟩ | ⟨g3, -⟩
        · rw [g2] at g3
          exact Or.inr g3
        · omega
      · rcases hq2 with ⟨-, g3, g4⟩ | ⟨g3, -⟩
        · omega
        · omega
theorem nr_b {sc : List Value} {sp d : Nat} {h : eg_H} {h1 : eg_H} {q i : Nat} {ls : eg_L} {xc s a : Int32} (hN : 0 ≤ (hv h 182 3).toInt) (b : nr_B h h1 q i) (hi : i < nN h) (A : nr_A h q i s a) (l0 : eg_find 0 ls = some (.ref 182)) (l1 : eg_find 1 ls = some (.int xc)) (l2 : eg_find 2 ls = some (.int s)) (l3 : eg_find 3 ls = some (.int a)) : hs sc sp 1658 11 (d + 1) (fun pc' ls' st' h' => pc' = 222 ∧ st' = [] ∧ h' = h1 ∧ ∃ a' : Int32, nr_A h q (i + 1) s a' ∧ eg_find 0 ls' = some (.ref 182) ∧ eg_find 1 ls' = some (.int xc) ∧ eg_find 2 ls' = some (.int s) ∧ eg_find 3 ls' = some (.int a')) 201 ls [] h1 := by
  have hp := b.1.1
  have bb := b
  obtain ⟨-, -, -, -, hqi, -, -⟩ := bb
  refine hs_iload_n ci_1658_201 l3 ?_
  refine hs_if (t := 220) ci_1658_202 rfl (fun b202 => ?_) (fun b202 => ?_)
  · simp only [hs_cd, ab_not] at b202
    refine hs_iconst ci_1658_220 ?_
    refine hs_istore2_n ci_1658_221 (by decide +kernel) ?_
    intro ls9 q9
    replace l0 := q9.2 0 _ (by decide) (Or.inl rfl) l0
    replace l1 := q9.2 1 _ (by decide) (Or.inl rfl) l1
    replace l2 := q9.2 2 _ (by decide) (Or.inl rfl) l2
    have l3 := q9.1
    clear q9
    refine hs_k ⟨rfl, rfl, rfl, _, ⟨A.1, Or.inr ⟨by decide, fun g => ?_⟩⟩, l0, l1, l2, l3⟩
    rcases A.2 with ⟨g3, -⟩ | ⟨-, g3⟩
    · omega
    · exact g3 (fun r g1 g2 => g r g1 (by omega))
  · simp only [hs_cd, ab_not] at b202
    refine hs_aload_n ci_1658_205 l0 ?_
    refine hs_cv 1662 11 0 ci_1658_206 (by decide +kernel) (by decide +kernel) hp rfl (by rw [ml_1662]; rfl) (k_peek b.1) ?_
    rintro v9 h9 ⟨e9, r3, e8, hr3⟩
    rw [e8, e9]
    clear e8 e9 v9 h9
    replace hr3 := nr_peek b hr3 hN
    simp only [Option.toList, List.cons_append, List.nil_append]
    refine hs_cs 1665 11 1 ci_1658_209 (by decide +kernel) rfl (by rw [ml_1665]; rfl) (k_sml r3) ?_
    rintro v9 h9 ⟨e9, s3, e8, hq3⟩
    rw [e8, e9]
    clear e8 e9 v9 h9
    simp only [Option.toList, List.cons_append, List.nil_append]
    refine hs_iload_n ci_1658_212 l2 ?_
    refine hs_ic (t := 220) ci_1658_213 rfl (fun b213 => ?_) (fun b213 => ?_)
    · simp only [hs_cd, ab_not] at b213
      refine hs_iconst ci_1658_220 ?_
      refine hs_istore2_n ci_1658_221 (by decide +kernel) ?_
      intro ls9 q9
      replace l0 := q9.2 0 _ (by decide) (Or.inl rfl) l0
      replace l1 := q9.2 1 _ (by decide) (Or.inl rfl) l1
      replace l2 := q9.2 2 _ (by decide) (Or.inl rfl) l2
      have l3 := q9.1
      clear q9
      refine hs_k ⟨rfl, rfl, rfl, _, ⟨A.1, Or.inr ⟨by decide, fun g => ?_⟩⟩, l0, l1, l2, l3⟩
      have g9 := g i hqi (by omega)
      rcases hr3 with ⟨-, g4⟩ | ⟨g4, -⟩
      · rw [g4] at hq3
        rcases hq3 with ⟨g5, g6⟩ | ⟨g5, g6⟩ <;> rcases A.1 with ⟨g7, g8⟩ | ⟨g7, g8⟩
        · omega
        · exact g8 (g9.mp g6)
        · exact g6 (g9.mpr g8)
        · omega
      · omega
    · simp only [hs_cd, ab_not] at b213
      refine hs_iconst ci_1658_216 ?_
      refine hs_goto (t := 221) ci_1658_217 rfl ?_
      refine hs_istore2_n ci_1658_221 (by decide +kernel) ?_
      intro ls9 q9
      replace l0 := q9.2 0 _ (by decide) (Or.inl rfl) l0
      replace l1 := q9.2 1 _ (by decide) (Or.inl rfl) l1
      replace l2 := q9.2 2 _ (by decide) (Or.inl rfl) l2
      have l3 := q9.1
      clear q9
      refine hs_k ⟨rfl, rfl, rfl, _, ⟨A.1, Or.inl ⟨by decide, fun r g1 g2 => ?_⟩⟩, l0, l1, l2, l3⟩
      rcases A.2 with ⟨-, g3⟩ | ⟨g3, -⟩
      · by_cases e : r = i
        · subst e
          rcases hr3 with ⟨-, g4⟩ | ⟨g4, -⟩
          · rw [g4] at hq3
            rcases hq3 with ⟨g5, g6⟩ | ⟨g5, g6⟩ <;> rcases A.1 with ⟨g7, g8⟩ | ⟨g7, g8⟩
            · exact ⟨fun _ => g8, fun _ => g6⟩
            · omega
            · omega
            · exact ⟨fun w => absurd w g6, fun w => absurd w g8⟩
          · omega
        · exact g3 r g1 (by omega)
      · omega
theorem min7a {k : Nat} (h : k < 7) : min (k + 1) 7 = min k 7 + 1 ∧ min k 7 = k := by omega
theorem nr_c {sc : List Value} {sp d : Nat} {h : eg_H} {h1 : eg_H} {q i : Nat} {ls : eg_L} (hN : 0 ≤ (hv h 182 3).toInt) (b : nr_B h h1 q i) (hi : i < nN h) (hS : nr_S h1 (i - q)) (hW : nr_W h h1 q (i - q)) (hM : nr_N h h1 q (i - q)) (l0 : eg_find 0 ls = some (.ref 182)) : hs sc sp 1658 11 (d + 1) (fun pc' ls' st' h' => pc' = 248 ∧ st' = [] ∧ ls' = ls ∧ nr_B h h' q i ∧ nr_S h' (i - q) ∧ nr_W h h' q (i - q + 1) ∧ nr_N h h' q (i - q)) 222 ls [] h1 := by
  have hp := b.1.1
  have bb := b
  obtain ⟨b1, b2, b3, b4, hqi, b6, b7⟩ := bb
  have hS' : (hv h1 182 13).toInt = ((i - q : Nat) : Int) := hS
  refine hs_aload_n ci_1658_222 l0 ?_
  refine hs_gfi 13 ci_1658_223 (by decide +kernel) hp ?_
  refine hs_bipush ci_1658_226 ?_
  refine hs_ic (t := 248) ci_1658_228 rfl (fun b228 => ?_) (fun b228 => ?_)
  · simp only [hs_cd, ab_not, kB_7] at b228
    refine hs_k ⟨rfl, rfl, rfl, b, hS, ?_, hM⟩
    unfold nr_W at hW ⊢
    have e1 : min (i - q + 1) 7 = 7 := by omega
    have e2 : min (i - q) 7 = 7 := by omega
    rw [e1]
    rw [e2] at hW
    exact hW
  · simp only [hs_cd, ab_not, kB_7] at b228
    refine hs_aload_n ci_1658_231 l0 ?_
    refine hs_aload_n ci_1658_232 l0 ?_
    refine hs_gfl 17 ci_1658_233 (by decide +kernel) hp ?_
    refine hs_bipush ci_1658_236 ?_
    refine hs_lshl ci_1658_238 ?_
    refine hs_aload_n ci_1658_239 l0 ?_
    refine hs_cv 1662 11 0 ci_1658_240 (by decide +kernel) (by decide +kernel) hp rfl (by rw [ml_1662]; rfl) (k_peek b.1) ?_
    rintro v9 h9 ⟨e9, r4, e8, hr4⟩
    rw [e8, e9]
    clear e8 e9 v9 h9
    replace hr4 := nr_peek b hr4 hN
    simp only [Option.toList, List.cons_append, List.nil_append]
    refine hs_i2l ci_1658_243 ?_
    refine hs_lor ci_1658_244 ?_
    refine hs_pfl 17 ci_1658_245 (by decide +kernel) hp ?_
    intro h245 w245
    replace hp := w245.1
    have f245 : ab_fr MNX h245 h1 := w245.fr (M := MNX) rfl
    have g1 : ∀ j, j ≠ 17 → hv h245 182 j = hv h1 182 j := fun j hj => w245.i _ _ (by omega)
    refine hs_k ⟨rfl, rfl, rfl, ⟨⟨hp, b1.2.fr (M := MNX) (by decide +kernel) f245⟩, f245.tr b2, by rw [g1 4 (by omega)]; exact b3, by rw [g1 12 (by omega)]; exact b4, hqi, b6, b7⟩, by unfold nr_S; rw [g1 13 (by omega)]; exact hS, ?_, by unfold nr_N; rw [g1 14 (by omega)]; exact hM⟩
    obtain ⟨e1, e2⟩ := min7a (k := i - q) (by omega)
    unfold nr_W at hW ⊢
    rw [e1, e2, w245.v, if_pos ⟨rfl, rfl⟩]
    rw [e2] at hW
    have hB := bM_b h
    obtain ⟨t1, t2⟩ := tx_256_b (q := q) hB (i - q)
    have t3 := pw_256 (k := i - q) (by omega)
    rcases hr4 with ⟨-, g4⟩ | ⟨g4, -⟩
    · rw [i64_shl8 hW t1 (by omega) g4 (hB i).1 (hB i).2]
      have e5 : q + (i - q) = i := by omega
      show _ = tx_256 (bM h) q (i - q) * 256 + bM h (q + (i - q))
      rw [e5]
    · omega
theorem min3a {k : Nat} (h : k < 3) : min (k + 1) 3 = min k 3 + 1 ∧ min k 3 = k := by omega
theorem nr_d {sc : List Value} {sp d : Nat} {h : eg_H} {h1 : eg_H} {q i : Nat} {ls : eg_L} (hN : 0 ≤ (hv h 182 3).toInt) (b : nr_B h h1 q i) (hi : i < nN h) (hS : nr_S h1 (i - q)) (hW : nr_W h h1 q (i - q + 1)) (hM : nr_N h h1 q (i - q)) (l0 : eg_find 0 ls = some (.ref 182)) : hs sc sp 1658 11 (d + 1) (fun pc' ls' st' h' => pc' = 275 ∧ st' = [] ∧ ls' = ls ∧ nr_B h h' q i ∧ nr_S h' (i - q) ∧ nr_W h h' q (i - q + 1) ∧ nr_N h h' q (i - q + 1)) 248 ls [] h1 := by
  have hp := b.1.1
  have bb := b
  obtain ⟨b1, b2, b3, b4, hqi, b6, b7⟩ := bb
  have hS' : (hv h1 182 13).toInt = ((i - q : Nat) : Int) := hS
  refine hs_aload_n ci_1658_248 l0 ?_
  refine hs_gfi 13 ci_1658_249 (by decide +kernel) hp ?_
  refine hs_iconst ci_1658_252 ?_
  refine hs_ic (t := 275) ci_1658_253 rfl (fun b253 => ?_) (fun b253 => ?_)
  · simp only [hs_cd, ab_not, kI_3] at b253
    refine hs_k ⟨rfl, rfl, rfl, b, hS, hW, ?_⟩
    unfold nr_N at hM ⊢
    have e1 : min (i - q + 1) 3 = 3 := by omega
    have e2 : min (i - q) 3 = 3 := by omega
    rw [e1]
    rw [e2] at hM
    exact hM
  · simp only [hs_cd, ab_not, kI_3] at b253
    refine hs_aload_n ci_1658_256 l0 ?_
    refine hs_bipush ci_1658_257 ?_
    refine hs_aload_n ci_1658_259 l0 ?_
    refine hs_gfi 14 ci_1658_260 (by decide +kernel) hp ?_
    refine hs_imul ci_1658_263 ?_
    refine hs_aload_n ci_1658_264 l0 ?_
    refine hs_cv 1662 11 0 ci_1658_265 (by decide +kernel) (by decide +kernel) hp rfl (by rw [ml_1662]; rfl) (k_peek b.1) ?_
    rintro v9 h9 ⟨e9, r5, e8, hr5⟩
    rw [e8, e9]
    clear e8 e9 v9 h9
    replace hr5 := nr_peek b hr5 hN
    simp only [Option.toList, List.cons_append, List.nil_append]
    refine hs_iadd ci_1658_268 ?_
    refine hs_bipush ci_1658_269 ?_
    refine hs_isub ci_1658_271 ?_
    refine hs_pfi 14 (-2147483648) (2147483647) ci_1658_272 (by decide +kernel) hp (ab_ige _) (ab_ile _) ?_
    intro h272 w272
    replace hp := w272.1
    have f272 : ab_fr MNX h272 h1 := w272.fr (M := MNX) rfl
    have g1 : ∀ j, j ≠ 14 → hv h272 182 j = hv h1 182 j := fun j hj => by rw [w272.v, if_neg (by omega)]
    refine hs_k ⟨rfl, rfl, rfl, ⟨⟨hp, b1.2.fr (M := MNX) (by decide +kernel) f272⟩, f272.tr b2, by rw [g1 4 (by omega)]; exact b3, by rw [g1 12 (by omega)]; exact b4, hqi, b6, b7⟩, by unfold nr_S; rw [g1 13 (by omega)]; exact hS, by unfold nr_W; rw [w272.l _ _ (by omega)]; exact hW, ?_⟩
    obtain ⟨e1, e2⟩ := min3a (k := i - q) (by omega)
    unfold nr_N at hM ⊢
    rw [e1, e2, w272.v, if_pos ⟨rfl, rfl⟩]
    rw [e2] at hM
    have hB := bM_b h
    obtain ⟨t1, t2⟩ := tx_10_s (q := q) hB (i - q) (by omega)
    obtain ⟨u1, u2⟩ := hB i
    rcases hr5 with ⟨-, g4⟩ | ⟨g4, -⟩
    · have a1 : ((Int8.ofInt 10).toInt32 * hv h1 182 14).toInt = 10 * tx_10 (bM h) q (i - q) := i32_mul (by decide) hM (by omega) (by omega)
      have a2 := i32_add a1 g4 (by omega) (by omega)
      have a3 := i32_sub (y := (Int8.ofInt 48).toInt32) (b := 48) a2 (by decide) (by omega) (by omega)
      rw [a3]
      have e5 : q + (i - q) = i := by omega
      show _ = tx_10 (bM h) q (i - q) * 10 + (bM h (q + (i - q)) - 48)
      rw [e5]
      omega
    · omega
