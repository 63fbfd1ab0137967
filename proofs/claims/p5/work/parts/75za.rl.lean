/-! BY HAND: the reference's lines -/
theorem ci_1672_10 : ab_at 1672 10 (.aload_n 0) 1 = true := by decide +kernel
theorem ci_1672_11 : ab_at 1672 11 (.iconst 0) 1 = true := by decide +kernel
theorem ci_1672_12 : ab_at 1672 12 (.invokevirtual 228) 3 = true := by decide +kernel
theorem ci_1672_15 : ab_at 1672 15 (.ifCond .eq 29) 3 = true := by decide +kernel
theorem ci_1672_18 : ab_at 1672 18 (.aload_n 0) 1 = true := by decide +kernel
theorem ci_1672_19 : ab_at 1672 19 (.iconst 2) 1 = true := by decide +kernel
theorem ci_1672_20 : ab_at 1672 20 (.iconst 2) 1 = true := by decide +kernel
theorem ci_1672_21 : ab_at 1672 21 (.bipush 8) 2 = true := by decide +kernel
theorem ci_1672_23 : ab_at 1672 23 (.invokevirtual 218) 3 = true := by decide +kernel
theorem ci_1672_26 : ab_at 1672 26 (.ifCond .eq 18) 3 = true := by decide +kernel
theorem ci_1672_29 : ab_at 1672 29 (.aload_n 0) 1 = true := by decide +kernel
theorem ci_1672_30 : ab_at 1672 30 (.iconst 3) 1 = true := by decide +kernel
theorem ci_1672_31 : ab_at 1672 31 (.iconst 2) 1 = true := by decide +kernel
theorem ci_1672_32 : ab_at 1672 32 (.bipush 8) 2 = true := by decide +kernel
theorem ci_1672_34 : ab_at 1672 34 (.invokevirtual 218) 3 = true := by decide +kernel
theorem ci_1672_37 : ab_at 1672 37 (.ifCond .eq 7) 3 = true := by decide +kernel
theorem ci_1672_40 : ab_at 1672 40 (.iconst 1) 1 = true := by decide +kernel
theorem ci_1672_41 : ab_at 1672 41 (.goto 4) 3 = true := by decide +kernel
theorem ci_1672_44 : ab_at 1672 44 (.iconst 0) 1 = true := by decide +kernel
theorem ci_1672_56 : ab_at 1672 56 (.aload_n 0) 1 = true := by decide +kernel
theorem ci_1672_57 : ab_at 1672 57 (.getfield 37) 3 = true := by decide +kernel
theorem ci_1672_60 : ab_at 1672 60 (.iconst 0) 1 = true := by decide +kernel
theorem ci_1672_61 : ab_at 1672 61 (.iaload) 1 = true := by decide +kernel
theorem ci_1672_62 : ab_at 1672 62 (.istore_n 1) 1 = true := by decide +kernel
theorem ci_1672_63 : ab_at 1672 63 (.iload_n 1) 1 = true := by decide +kernel
theorem ci_1672_64 : ab_at 1672 64 (.bipush 6) 2 = true := by decide +kernel
theorem ci_1672_66 : ab_at 1672 66 (.if_icmp .ne 9) 3 = true := by decide +kernel
theorem ci_1672_69 : ab_at 1672 69 (.aload_n 0) 1 = true := by decide +kernel
theorem ci_1672_70 : ab_at 1672 70 (.iconst 4) 1 = true := by decide +kernel
theorem ci_1672_71 : ab_at 1672 71 (.invokevirtual 184) 3 = true := by decide +kernel
theorem ci_1672_75 : ab_at 1672 75 (.aload_n 0) 1 = true := by decide +kernel
theorem ci_1672_76 : ab_at 1672 76 (.dup) 1 = true := by decide +kernel
theorem ci_1672_77 : ab_at 1672 77 (.getfield 212) 3 = true := by decide +kernel
theorem ci_1672_80 : ab_at 1672 80 (.iconst 1) 1 = true := by decide +kernel
theorem ci_1672_81 : ab_at 1672 81 (.ior) 1 = true := by decide +kernel
theorem ci_1672_82 : ab_at 1672 82 (.putfield 212) 3 = true := by decide +kernel
theorem ci_1672_85 : ab_at 1672 85 (.aload_n 0) 1 = true := by decide +kernel
theorem ci_1672_86 : ab_at 1672 86 (.invokevirtual 187) 3 = true := by decide +kernel
theorem ci_1672_89 : ab_at 1672 89 (.aload_n 0) 1 = true := by decide +kernel
theorem ci_1672_90 : ab_at 1672 90 (.bipush 16) 2 = true := by decide +kernel
theorem ci_1672_92 : ab_at 1672 92 (.iload_n 1) 1 = true := by decide +kernel
theorem ci_1672_93 : ab_at 1672 93 (.iadd) 1 = true := by decide +kernel
theorem ci_1672_94 : ab_at 1672 94 (.invokevirtual 231) 3 = true := by decide +kernel
theorem ci_1672_97 : ab_at 1672 97 (.ifCond .eq 18) 3 = true := by decide +kernel
theorem ci_1672_100 : ab_at 1672 100 (.aload_n 0) 1 = true := by decide +kernel
theorem ci_1672_101 : ab_at 1672 101 (.bipush 7) 2 = true := by decide +kernel
theorem ci_1672_103 : ab_at 1672 103 (.iload_n 1) 1 = true := by decide +kernel
theorem ci_1672_104 : ab_at 1672 104 (.iadd) 1 = true := by decide +kernel
theorem ci_1672_105 : ab_at 1672 105 (.bipush 13) 2 = true := by decide +kernel
theorem ci_1672_107 : ab_at 1672 107 (.iload_n 1) 1 = true := by decide +kernel
theorem ci_1672_108 : ab_at 1672 108 (.iadd) 1 = true := by decide +kernel
theorem ci_1672_109 : ab_at 1672 109 (.invokevirtual 234) 3 = true := by decide +kernel
theorem ci_1672_112 : ab_at 1672 112 (.ifCond .ne 5) 3 = true := by decide +kernel
theorem ci_1672_115 : ab_at 1672 115 (.iconst 0) 1 = true := by decide +kernel
theorem ci_1672_117 : ab_at 1672 117 (.aload_n 0) 1 = true := by decide +kernel
theorem ci_1672_118 : ab_at 1672 118 (.getfield 37) 3 = true := by decide +kernel
theorem ci_1672_121 : ab_at 1672 121 (.iconst 0) 1 = true := by decide +kernel
theorem ci_1672_122 : ab_at 1672 122 (.dup2) 1 = true := by decide +kernel
theorem ci_1672_123 : ab_at 1672 123 (.iaload) 1 = true := by decide +kernel
theorem ci_1672_124 : ab_at 1672 124 (.iconst 1) 1 = true := by decide +kernel
theorem ci_1672_125 : ab_at 1672 125 (.iadd) 1 = true := by decide +kernel
theorem ci_1672_126 : ab_at 1672 126 (.iastore) 1 = true := by decide +kernel
theorem ci_1672_127 : ab_at 1672 127 (.iconst 1) 1 = true := by decide +kernel
theorem ci_1672_154 : ab_at 1672 154 (.aload_n 0) 1 = true := by decide +kernel
theorem ci_1672_155 : ab_at 1672 155 (.getfield 37) 3 = true := by decide +kernel
theorem ci_1672_158 : ab_at 1672 158 (.iconst 4) 1 = true := by decide +kernel
theorem ci_1672_159 : ab_at 1672 159 (.iaload) 1 = true := by decide +kernel
theorem ci_1672_160 : ab_at 1672 160 (.bipush 8) 2 = true := by decide +kernel
theorem ci_1672_162 : ab_at 1672 162 (.if_icmp .ne 9) 3 = true := by decide +kernel
theorem ci_1672_165 : ab_at 1672 165 (.aload_n 0) 1 = true := by decide +kernel
theorem ci_1672_166 : ab_at 1672 166 (.iconst 4) 1 = true := by decide +kernel
theorem ci_1672_167 : ab_at 1672 167 (.invokevirtual 184) 3 = true := by decide +kernel
theorem ci_1672_171 : ab_at 1672 171 (.aload_n 0) 1 = true := by decide +kernel
theorem ci_1672_172 : ab_at 1672 172 (.invokevirtual 187) 3 = true := by decide +kernel
theorem ci_1672_175 : ab_at 1672 175 (.aload_n 0) 1 = true := by decide +kernel
theorem ci_1672_176 : ab_at 1672 176 (.bipush 22) 2 = true := by decide +kernel
theorem ci_1672_178 : ab_at 1672 178 (.aload_n 0) 1 = true := by decide +kernel
theorem ci_1672_179 : ab_at 1672 179 (.getfield 37) 3 = true := by decide +kernel
theorem ci_1672_182 : ab_at 1672 182 (.iconst 1) 1 = true := by decide +kernel
theorem ci_1672_183 : ab_at 1672 183 (.iaload) 1 = true := by decide +kernel
theorem ci_1672_184 : ab_at 1672 184 (.invokevirtual 240) 3 = true := by decide +kernel
theorem ci_1672_187 : ab_at 1672 187 (.ifCond .ne 5) 3 = true := by decide +kernel
theorem ci_1672_190 : ab_at 1672 190 (.iconst 0) 1 = true := by decide +kernel
theorem ci_1672_192 : ab_at 1672 192 (.aload_n 0) 1 = true := by decide +kernel
theorem ci_1672_193 : ab_at 1672 193 (.getfield 194) 3 = true := by decide +kernel
theorem ci_1672_196 : ab_at 1672 196 (.istore_n 1) 1 = true := by decide +kernel
theorem ci_1672_197 : ab_at 1672 197 (.aload_n 0) 1 = true := by decide +kernel
theorem ci_1672_198 : ab_at 1672 198 (.bipush 22) 2 = true := by decide +kernel
theorem ci_1672_200 : ab_at 1672 200 (.aload_n 0) 1 = true := by decide +kernel
theorem ci_1672_201 : ab_at 1672 201 (.getfield 37) 3 = true := by decide +kernel
theorem ci_1672_204 : ab_at 1672 204 (.iconst 1) 1 = true := by decide +kernel
theorem ci_1672_205 : ab_at 1672 205 (.iaload) 1 = true := by decide +kernel
theorem ci_1672_206 : ab_at 1672 206 (.invokevirtual 209) 3 = true := by decide +kernel
theorem ci_1672_209 : ab_at 1672 209 (.ifCond .ne 5) 3 = true := by decide +kernel
theorem ci_1672_212 : ab_at 1672 212 (.iconst 0) 1 = true := by decide +kernel
theorem ci_1672_214 : ab_at 1672 214 (.aload_n 0) 1 = true := by decide +kernel
theorem ci_1672_215 : ab_at 1672 215 (.getfield 194) 3 = true := by decide +kernel
theorem ci_1672_218 : ab_at 1672 218 (.iload_n 1) 1 = true := by decide +kernel
theorem ci_1672_219 : ab_at 1672 219 (.if_icmp .eq 22) 3 = true := by decide +kernel
theorem ci_1672_222 : ab_at 1672 222 (.aload_n 0) 1 = true := by decide +kernel
theorem ci_1672_223 : ab_at 1672 223 (.getfield 37) 3 = true := by decide +kernel
theorem ci_1672_226 : ab_at 1672 226 (.bipush 79) 2 = true := by decide +kernel
theorem ci_1672_228 : ab_at 1672 228 (.iload_n 1) 1 = true := by decide +kernel
theorem ci_1672_229 : ab_at 1672 229 (.iadd) 1 = true := by decide +kernel
theorem ci_1672_230 : ab_at 1672 230 (.iaload) 1 = true := by decide +kernel
theorem ci_1672_231 : ab_at 1672 231 (.aload_n 0) 1 = true := by decide +kernel
theorem ci_1672_232 : ab_at 1672 232 (.getfield 194) 3 = true := by decide +kernel
theorem ci_1672_235 : ab_at 1672 235 (.invokestatic 215) 3 = true := by decide +kernel
theorem ci_1672_238 : ab_at 1672 238 (.ifCond .eq 9) 3 = true := by decide +kernel
theorem ci_1672_241 : ab_at 1672 241 (.aload_n 0) 1 = true := by decide +kernel
theorem ci_1672_242 : ab_at 1672 242 (.iconst 3) 1 = true := by decide +kernel
theorem ci_1672_243 : ab_at 1672 243 (.invokevirtual 184) 3 = true := by decide +kernel
theorem ci_1672_247 : ab_at 1672 247 (.aload_n 0) 1 = true := by decide +kernel
theorem ci_1672_248 : ab_at 1672 248 (.getfield 37) 3 = true := by decide +kernel
theorem ci_1672_251 : ab_at 1672 251 (.bipush 79) 2 = true := by decide +kernel
theorem ci_1672_253 : ab_at 1672 253 (.iload_n 1) 1 = true := by decide +kernel
theorem ci_1672_254 : ab_at 1672 254 (.iadd) 1 = true := by decide +kernel
theorem ci_1672_255 : ab_at 1672 255 (.dup2) 1 = true := by decide +kernel
theorem ci_1672_256 : ab_at 1672 256 (.iaload) 1 = true := by decide +kernel
theorem ci_1672_257 : ab_at 1672 257 (.iconst 1) 1 = true := by decide +kernel
theorem ci_1672_258 : ab_at 1672 258 (.aload_n 0) 1 = true := by decide +kernel
theorem ci_1672_259 : ab_at 1672 259 (.getfield 194) 3 = true := by decide +kernel
theorem ci_1672_262 : ab_at 1672 262 (.ishl) 1 = true := by decide +kernel
theorem ci_1672_263 : ab_at 1672 263 (.ior) 1 = true := by decide +kernel
theorem ci_1672_264 : ab_at 1672 264 (.iastore) 1 = true := by decide +kernel
theorem ci_1672_265 : ab_at 1672 265 (.aload_n 0) 1 = true := by decide +kernel
theorem ci_1672_266 : ab_at 1672 266 (.getfield 37) 3 = true := by decide +kernel
theorem ci_1672_269 : ab_at 1672 269 (.bipush 79) 2 = true := by decide +kernel
theorem ci_1672_271 : ab_at 1672 271 (.aload_n 0) 1 = true := by decide +kernel
theorem ci_1672_272 : ab_at 1672 272 (.getfield 194) 3 = true := by decide +kernel
theorem ci_1672_275 : ab_at 1672 275 (.iadd) 1 = true := by decide +kernel
theorem ci_1672_276 : ab_at 1672 276 (.dup2) 1 = true := by decide +kernel
theorem ci_1672_277 : ab_at 1672 277 (.iaload) 1 = true := by decide +kernel
theorem ci_1672_278 : ab_at 1672 278 (.iconst 1) 1 = true := by decide +kernel
theorem ci_1672_279 : ab_at 1672 279 (.iload_n 1) 1 = true := by decide +kernel
theorem ci_1672_280 : ab_at 1672 280 (.ishl) 1 = true := by decide +kernel
theorem ci_1672_281 : ab_at 1672 281 (.ior) 1 = true := by decide +kernel
theorem ci_1672_282 : ab_at 1672 282 (.iastore) 1 = true := by decide +kernel
theorem ci_1672_283 : ab_at 1672 283 (.aload_n 0) 1 = true := by decide +kernel
theorem ci_1672_284 : ab_at 1672 284 (.getfield 37) 3 = true := by decide +kernel
theorem ci_1672_287 : ab_at 1672 287 (.iconst 4) 1 = true := by decide +kernel
theorem ci_1672_288 : ab_at 1672 288 (.dup2) 1 = true := by decide +kernel
theorem ci_1672_289 : ab_at 1672 289 (.iaload) 1 = true := by decide +kernel
theorem ci_1672_290 : ab_at 1672 290 (.iconst 1) 1 = true := by decide +kernel
theorem ci_1672_291 : ab_at 1672 291 (.iadd) 1 = true := by decide +kernel
theorem ci_1672_292 : ab_at 1672 292 (.iastore) 1 = true := by decide +kernel
theorem ci_1672_293 : ab_at 1672 293 (.aload_n 0) 1 = true := by decide +kernel
theorem ci_1672_294 : ab_at 1672 294 (.invokevirtual 187) 3 = true := by decide +kernel
theorem ci_1672_297 : ab_at 1672 297 (.iconst 1) 1 = true := by decide +kernel
theorem ci_1672_309 : ab_at 1672 309 (.aload_n 0) 1 = true := by decide +kernel
theorem ci_1672_310 : ab_at 1672 310 (.iconst 1) 1 = true := by decide +kernel
theorem ci_1672_311 : ab_at 1672 311 (.invokevirtual 228) 3 = true := by decide +kernel
theorem ci_1672_314 : ab_at 1672 314 (.ifCond .eq 18) 3 = true := by decide +kernel
theorem ci_1672_317 : ab_at 1672 317 (.aload_n 0) 1 = true := by decide +kernel
theorem ci_1672_318 : ab_at 1672 318 (.iconst 5) 1 = true := by decide +kernel
theorem ci_1672_319 : ab_at 1672 319 (.iconst 0) 1 = true := by decide +kernel
theorem ci_1672_320 : ab_at 1672 320 (.bipush 9) 2 = true := by decide +kernel
theorem ci_1672_322 : ab_at 1672 322 (.invokevirtual 218) 3 = true := by decide +kernel
theorem ci_1672_325 : ab_at 1672 325 (.ifCond .eq 7) 3 = true := by decide +kernel
theorem ci_1672_328 : ab_at 1672 328 (.iconst 1) 1 = true := by decide +kernel
theorem ci_1672_329 : ab_at 1672 329 (.goto 4) 3 = true := by decide +kernel
theorem ci_1672_332 : ab_at 1672 332 (.iconst 0) 1 = true := by decide +kernel
theorem ci_1672_344 : ab_at 1672 344 (.aload_n 0) 1 = true := by decide +kernel
theorem ci_1672_345 : ab_at 1672 345 (.iconst 2) 1 = true := by decide +kernel
theorem ci_1672_346 : ab_at 1672 346 (.invokevirtual 228) 3 = true := by decide +kernel
theorem ci_1672_349 : ab_at 1672 349 (.ifCond .eq 19) 3 = true := by decide +kernel
theorem ci_1672_352 : ab_at 1672 352 (.aload_n 0) 1 = true := by decide +kernel
theorem ci_1672_353 : ab_at 1672 353 (.bipush 6) 2 = true := by decide +kernel
theorem ci_1672_355 : ab_at 1672 355 (.iconst 0) 1 = true := by decide +kernel
theorem ci_1672_356 : ab_at 1672 356 (.bipush 12) 2 = true := by decide +kernel
theorem ci_1672_358 : ab_at 1672 358 (.invokevirtual 218) 3 = true := by decide +kernel
theorem ci_1672_361 : ab_at 1672 361 (.ifCond .eq 7) 3 = true := by decide +kernel
theorem ci_1672_364 : ab_at 1672 364 (.iconst 1) 1 = true := by decide +kernel
theorem ci_1672_365 : ab_at 1672 365 (.goto 4) 3 = true := by decide +kernel
theorem ci_1672_368 : ab_at 1672 368 (.iconst 0) 1 = true := by decide +kernel
theorem ml_1680 : (eg_md 1680).2.2.1 = 2 := by decide +kernel
theorem ml_1702 : (eg_md 1702).2.2.1 = 2 := by decide +kernel
theorem ml_1714 : (eg_md 1714).2.2.1 = 3 := by decide +kernel
theorem ml_1726 : (eg_md 1726).2.2.1 = 3 := by decide +kernel
theorem kB_79 : (Int8.ofInt (79)).toInt32.toInt = 79 := by decide +kernel
theorem kI_5 : (Int32.ofInt (5)).toInt = 5 := by decide +kernel
abbrev MLM : ab_M := [(182, 4, 4), (182, 11, 18), (182, 20, 20), (185, 0, 88), (187, 16, 31)]
theorem fr_cs {M N : ab_M} {a0 f0 t0 : Nat} {h h' : eg_H} (hm : ab_inr N a0 f0 t0 = true) (ck : ab_subM N M = true) (f : ab_fr ((a0, f0, t0) :: M) h' h) : ab_fr N h' h := f.mono (fun a k hk => by
  unfold ab_inr
  cases e : (Nat.beq a a0 && Nat.ble f0 k && Nat.ble k t0) with
  | true =>
    rw [Bool.and_eq_true, Bool.and_eq_true, Nat.ble_eq, Nat.ble_eq] at e
    have e1 := Nat.eq_of_beq_eq_true e.1.1
    subst e1
    have := ab_inr_up hm e.1.2 e.2
    rw [this] at hk
    cases hk
  | false => exact ab_subM_ok ck hk)
theorem fr_c2 {M N : ab_M} {a0 f0 t0 a1 f1 t1 : Nat} {h h' : eg_H} (hm : ab_inr N a0 f0 t0 = true) (hm1 : ab_inr N a1 f1 t1 = true) (ck : ab_subM N M = true) (f : ab_fr ((a0, f0, t0) :: (a1, f1, t1) :: M) h' h) : ab_fr N h' h := f.mono (fun a k hk => by
  unfold ab_inr
  cases e : (Nat.beq a a0 && Nat.ble f0 k && Nat.ble k t0) with
  | true =>
    rw [Bool.and_eq_true, Bool.and_eq_true, Nat.ble_eq, Nat.ble_eq] at e
    have e1 := Nat.eq_of_beq_eq_true e.1.1
    subst e1
    have := ab_inr_up hm e.1.2 e.2
    rw [this] at hk
    cases hk
  | false =>
    show ab_inr ((a1, f1, t1) :: M) a k k = false
    unfold ab_inr
    cases e2 : (Nat.beq a a1 && Nat.ble f1 k && Nat.ble k t1) with
    | true =>
      rw [Bool.and_eq_true, Bool.and_eq_true, Nat.ble_eq, Nat.ble_eq] at e2
      have e1 := Nat.eq_of_beq_eq_true e2.1.1
      subst e1
      have := ab_inr_up hm1 e2.1.2 e2.2
      rw [this] at hk
      cases hk
    | false => exact ab_subM_ok ck hk)
theorem il_185 {q : Nat} (h : q ≤ 88) : ab_inr MLM 185 q q = true := ab_inr_up (k1 := 0) (k2 := 88) rfl (Nat.zero_le _) h
theorem il_187 {q : Nat} (h : 16 ≤ q ∧ q ≤ 31) : ab_inr MLM 187 q q = true := ab_inr_up (k1 := 16) (k2 := 31) rfl h.1 h.2
theorem fb_o1 (a : Int32) (i : Nat) : fb (a ||| Int32.ofInt 1) i = true ↔ (fb a i = true ∨ i = 0) := by
  have e : Int32.ofInt 1 = Int32.ofInt 1 <<< (Int32.ofInt 0 &&& 31) := by decide
  rw [e]
  exact fb_oi (k := 0) kI_0 (by decide) i
theorem MP.scal {h h' : eg_H} {ps : PS} {f' : Nat → Int} (c : MP h ps) (e4 : f' 4 = ps.1 4) (e5 : f' 5 = ps.1 5) (s : (hv h' 185 0).toInt = f' 4 ∧ (hv h' 185 1).toInt = f' 5 ∧ (hv h' 185 2).toInt = f' 0 ∧ (hv h' 185 3).toInt = f' 1 ∧ (hv h' 185 4).toInt = f' 6 ∧ (hv h' 185 5).toInt = f' 2 ∧ (hv h' 185 6).toInt = f' 3) (o : ∀ q, 7 ≤ q → hv h' 185 q = hv h 185 q) (nm : ∀ q, hl h' 187 q = hl h 187 q) (b0 : (fb (hv h' 182 20) 0 = true ↔ (f' 7 ≠ 0 ∨ f' 4 ≠ 0 ∨ f' 5 ≠ 0)) ∧ (fb (hv h' 182 20) 1 = true ↔ f' 8 ≠ 0) ∧ (fb (hv h' 182 20) 2 = true ↔ f' 9 ≠ 0)) (b : (2 ≤ f' 0 ∧ f' 0 ≤ 8 ∧ 2 ≤ f' 1 ∧ f' 1 ≤ 8 ∧ 0 ≤ f' 6 ∧ f' 6 ≤ 8)) : MP h' (f', ps.2) := by
  obtain ⟨-, -, cm, cp, cc, c9⟩ := c
  refine ⟨s, b0, fun q hq => ?_, fun q hq => ?_, fun q hq r => ?_, ?_⟩
  · have hq : (q : Int) < f' 4 := hq
    rw [nm, o _ (by omega), o _ (by omega)]
    exact cm q (by omega)
  · have hq : (q : Int) < f' 5 := hq
    rw [nm, o _ (by omega), o _ (by omega), o _ (by omega)]
    exact cp q (by omega)
  · rw [o _ (by omega)]
    exact cc q hq r
  · show 2 ≤ f' 0 ∧ f' 0 ≤ 8 ∧ 2 ≤ f' 1 ∧ f' 1 ≤ 8 ∧ 0 ≤ f' 4 ∧ f' 4 ≤ 6 ∧ 0 ≤ f' 5 ∧ f' 5 ≤ 10 ∧ 0 ≤ f' 6 ∧ f' 6 ≤ 8
    omega
theorem MP.man {h h' : eg_H} {ps : PS} {c x y : Int} {k : Nat} (hc : MP h ps) (hm : ps.1 4 < 6) (ek : ps.1 4 = (k : Int)) (s0 : (hv h' 185 0).toInt = ps.1 4 + 1) (o : ∀ q, q ≠ 0 → q ≠ 7 + k → q ≠ 13 + k → hv h' 185 q = hv h 185 q) (sx : (hv h' 185 (7 + k)).toInt = x) (sy : (hv h' 185 (13 + k)).toInt = y) (nm : ∀ q, q ≠ 16 + k → hl h' 187 q = hl h 187 q) (sn : tx_co c (hl h' 187 (16 + k)).toInt) (b : ∀ i, fb (hv h' 182 20) i = true ↔ (fb (hv h 182 20) i = true ∨ i = 0)) : MP h' (uf ps.1 4 (ps.1 4 + 1), ug (ug (ug ps.2 0 (ps.1 4).toNat c) 1 (ps.1 4).toNat x) 2 (ps.1 4).toNat y) := by
  obtain ⟨⟨c0, c1, c2, c3, c4, c5, c6⟩, ⟨cb0, cb1, cb2⟩, cm, cp, cc, c9⟩ := hc
  have ek2 : (ps.1 4).toNat = k := by omega
  rw [ek2]
  refine ⟨⟨s0, ?_, ?_, ?_, ?_, ?_, ?_⟩, ⟨?_, ?_, ?_⟩, fun q hq => ?_, fun q hq => ?_, fun q hq r => ?_, ?_⟩
  · rw [o _ (by omega) (by omega) (by omega)]; exact c1
  · rw [o _ (by omega) (by omega) (by omega)]; exact c2
  · rw [o _ (by omega) (by omega) (by omega)]; exact c3
  · rw [o _ (by omega) (by omega) (by omega)]; exact c4
  · rw [o _ (by omega) (by omega) (by omega)]; exact c5
  · rw [o _ (by omega) (by omega) (by omega)]; exact c6
  · refine ⟨fun _ => Or.inr (Or.inl ?_), fun _ => (b 0).mpr (Or.inr rfl)⟩
    show ps.1 4 + 1 ≠ 0
    omega
  · refine (b 1).trans ⟨fun g => ?_, fun g => Or.inl (cb1.mpr g)⟩
    rcases g with g | g
    · exact cb1.mp g
    · exact absurd g (by decide)
  · refine (b 2).trans ⟨fun g => ?_, fun g => Or.inl (cb2.mpr g)⟩
    rcases g with g | g
    · exact cb2.mp g
    · exact absurd g (by decide)
  · have hq : (q : Int) < ps.1 4 + 1 := hq
    show tx_co (if 0 = 2 ∧ q = k then y else if 0 = 1 ∧ q = k then x else if 0 = 0 ∧ q = k then c else ps.2 0 q) (hl h' 187 (16 + q)).toInt ∧ (hv h' 185 (7 + q)).toInt = (if 1 = 2 ∧ q = k then y else if 1 = 1 ∧ q = k then x else if 1 = 0 ∧ q = k then c else ps.2 1 q) ∧ (hv h' 185 (13 + q)).toInt = (if 2 = 2 ∧ q = k then y else if 2 = 1 ∧ q = k then x else if 2 = 0 ∧ q = k then c else ps.2 2 q)
    by_cases e : q = k
    · subst e
      simp
      exact ⟨sn, sx, sy⟩
    · rw [nm _ (by omega), o _ (by omega) (by omega) (by omega), o _ (by omega) (by omega) (by omega)]
      simp only [e, and_false, if_false]
      exact cm q (by omega)
  · have hq : (q : Int) < ps.1 5 := hq
    rw [nm _ (by omega), o _ (by omega) (by omega) (by omega), o _ (by omega) (by omega) (by omega), o _ (by omega) (by omega) (by omega)]
    exact cp q hq
  · show _ ↔ ug (ug (ug ps.2 0 k c) 1 k x) 2 k y (10 + q) r ≠ 0
    rw [o _ (by omega) (by omega) (by omega), ug_n (by omega), ug_n (by omega), ug_n (by omega)]
    exact cc q hq r
  · show 2 ≤ ps.1 0 ∧ ps.1 0 ≤ 8 ∧ 2 ≤ ps.1 1 ∧ ps.1 1 ≤ 8 ∧ 0 ≤ ps.1 4 + 1 ∧ ps.1 4 + 1 ≤ 6 ∧ 0 ≤ ps.1 5 ∧ ps.1 5 ≤ 10 ∧ 0 ≤ ps.1 6 ∧ ps.1 6 ≤ 8
    omega
theorem MP.prom {h h' : eg_H} {ps : PS} {c gv x y : Int} {k : Nat} (hc : MP h ps) (hm : ps.1 5 < 10) (ek : ps.1 5 = (k : Int)) (s0 : (hv h' 185 1).toInt = ps.1 5 + 1) (o : ∀ q, q ≠ 1 → q ≠ 19 + k → q ≠ 29 + k → q ≠ 39 + k → q ≠ 49 + k → q ≠ 59 + k → q ≠ 69 + k → hv h' 185 q = hv h 185 q) (sg : (hv h' 185 (19 + k)).toInt = gv) (sx : (hv h' 185 (39 + k)).toInt = x) (sy : (hv h' 185 (49 + k)).toInt = y) (nm : ∀ q, q ≠ 22 + k → hl h' 187 q = hl h 187 q) (sn : tx_co c (hl h' 187 (22 + k)).toInt) (b : ∀ i, fb (hv h' 182 20) i = true ↔ (fb (hv h 182 20) i = true ∨ i = 0)) : MP h' (uf ps.1 5 (ps.1 5 + 1), ug (ug (ug (ug ps.2 3 (ps.1 5).toNat c) 4 (ps.1 5).toNat gv) 6 (ps.1 5).toNat x) 7 (ps.1 5).toNat y) := by
  obtain ⟨⟨c0, c1, c2, c3, c4, c5, c6⟩, ⟨cb0, cb1, cb2⟩, cm, cp, cc, c9⟩ := hc
  have ek2 : (ps.1 5).toNat = k := by omega
  rw [ek2]
  have o2 : ∀ q, q ≠ 1 → (q < 19 ∨ 79 ≤ q) → hv h' 185 q = hv h 185 q := fun q q1 q2 => o q q1 (by omega) (by omega) (by omega) (by omega) (by omega) (by omega)
  refine ⟨⟨?_, s0, ?_, ?_, ?_, ?_, ?_⟩, ⟨?_, ?_, ?_⟩, fun q hq => ?_, fun q hq => ?_, fun q hq r => ?_, ?_⟩
  · rw [o2 _ (by omega) (by omega)]; exact c0
  · rw [o2 _ (by omega) (by omega)]; exact c2
  · rw [o2 _ (by omega) (by omega)]; exact c3
  · rw [o2 _ (by omega) (by omega)]; exact c4
  · rw [o2 _ (by omega) (by omega)]; exact c5
  · rw [o2 _ (by omega) (by omega)]; exact c6
  · refine ⟨fun _ => Or.inr (Or.inr ?_), fun _ => (b 0).mpr (Or.inr rfl)⟩
    show ps.1 5 + 1 ≠ 0
    omega
  · refine (b 1).trans ⟨fun g => ?_, fun g => Or.inl (cb1.mpr g)⟩
    rcases g with g | g
    · exact cb1.mp g
    · exact absurd g (by decide)
  · refine (b 2).trans ⟨fun g => ?_, fun g => Or.inl (cb2.mpr g)⟩
    rcases g with g | g
    · exact cb2.mp g
    · exact absurd g (by decide)
  · have hq : (q : Int) < ps.1 4 := hq
    rw [nm _ (by omega), o2 _ (by omega) (by omega), o2 _ (by omega) (by omega)]
    exact cm q hq
  · have hq : (q : Int) < ps.1 5 + 1 := hq
    show tx_co (if 3 = 7 ∧ q = k then y else if 3 = 6 ∧ q = k then x else if 3 = 4 ∧ q = k then gv else if 3 = 3 ∧ q = k then c else ps.2 3 q) (hl h' 187 (22 + q)).toInt ∧ (hv h' 185 (19 + q)).toInt = (if 4 = 7 ∧ q = k then y else if 4 = 6 ∧ q = k then x else if 4 = 4 ∧ q = k then gv else if 4 = 3 ∧ q = k then c else ps.2 4 q) ∧ (hv h' 185 (39 + q)).toInt = (if 6 = 7 ∧ q = k then y else if 6 = 6 ∧ q = k then x else if 6 = 4 ∧ q = k then gv else if 6 = 3 ∧ q = k then c else ps.2 6 q) ∧ (hv h' 185 (49 + q)).toInt = (if 7 = 7 ∧ q = k then y else if 7 = 6 ∧ q = k then x else if 7 = 4 ∧ q = k then gv else if 7 = 3 ∧ q = k then c else ps.2 7 q)
    by_cases e : q = k
    · subst e
      simp
      exact ⟨sn, sg, sx, sy⟩
    · rw [nm _ (by omega), o (19 + q) (by omega) (by omega) (by omega) (by omega) (by omega) (by omega) (by omega), o (39 + q) (by omega) (by omega) (by omega) (by omega) (by omega) (by omega) (by omega), o (49 + q) (by omega) (by omega) (by omega) (by omega) (by omega) (by omega) (by omega)]
      simp only [e, and_false, if_false]
      exact cp q (by omega)
  · show _ ↔ ug (ug (ug (ug ps.2 3 k c) 4 k gv) 6 k x) 7 k y (10 + q) r ≠ 0
    rw [o2 _ (by omega) (by omega), ug_n (by omega), ug_n (by omega), ug_n (by omega), ug_n (by omega)]
    exact cc q hq r
  · show 2 ≤ ps.1 0 ∧ ps.1 0 ≤ 8 ∧ 2 ≤ ps.1 1 ∧ ps.1 1 ≤ 8 ∧ 0 ≤ ps.1 4 ∧ ps.1 4 ≤ 6 ∧ 0 ≤ ps.1 5 + 1 ∧ ps.1 5 + 1 ≤ 10 ∧ 0 ≤ ps.1 6 ∧ ps.1 6 ≤ 8
    omega
theorem MP.clash {h h' : eg_H} {ps : PS} {p q : Nat} (hc : MP h ps) (h8 : ps.1 6 < 8) (s4 : (hv h' 185 4).toInt = ps.1 6 + 1) (o : ∀ i, i ≠ 4 → i < 79 → hv h' 185 i = hv h 185 i) (nm : ∀ i, hl h' 187 i = hl h 187 i) (e20 : hv h' 182 20 = hv h 182 20) (b : ∀ r, r < 10 → ∀ i, (fb (hv h' 185 (79 + r)) i = true ↔ (fb (hv h 185 (79 + r)) i = true ∨ (r = p ∧ i = q) ∨ (r = q ∧ i = p)))) : MP h' (uf ps.1 6 (ps.1 6 + 1), ug (ug ps.2 (10 + p) q 1) (10 + q) p 1) := by
  obtain ⟨⟨c0, c1, c2, c3, c4, c5, c6⟩, cb, cm, cp, cc, c9⟩ := hc
  have e2 : ∀ a, a < 10 → ∀ r, ug (ug ps.2 (10 + p) q 1) (10 + q) p 1 a r = ps.2 a r := fun a ha r => by rw [ug_n (by omega), ug_n (by omega)]
  have e20' := e2 0 (by decide)
  have e21 := e2 1 (by decide)
  have e22 := e2 2 (by decide)
  have e23 := e2 3 (by decide)
  have e24 := e2 4 (by decide)
  have e26 := e2 6 (by decide)
  have e27 := e2 7 (by decide)
  refine ⟨⟨?_, ?_, ?_, ?_, s4, ?_, ?_⟩, by rw [e20]; exact cb, fun r hr => ?_, fun r hr => ?_, fun r hr i => ?_, ?_⟩
  · rw [o _ (by omega) (by omega)]; exact c0
  · rw [o _ (by omega) (by omega)]; exact c1
  · rw [o _ (by omega) (by omega)]; exact c2
  · rw [o _ (by omega) (by omega)]; exact c3
  · rw [o _ (by omega) (by omega)]; exact c5
  · rw [o _ (by omega) (by omega)]; exact c6
  · have hr : (r : Int) < ps.1 4 := hr
    show tx_co (ug (ug ps.2 (10 + p) q 1) (10 + q) p 1 0 r) (hl h' 187 (16 + r)).toInt ∧ (hv h' 185 (7 + r)).toInt = ug (ug ps.2 (10 + p) q 1) (10 + q) p 1 1 r ∧ (hv h' 185 (13 + r)).toInt = ug (ug ps.2 (10 + p) q 1) (10 + q) p 1 2 r
    rw [nm, o _ (by omega) (by omega), o _ (by omega) (by omega), e20', e21, e22]
    exact cm r hr
  · have hr : (r : Int) < ps.1 5 := hr
    show tx_co (ug (ug ps.2 (10 + p) q 1) (10 + q) p 1 3 r) (hl h' 187 (22 + r)).toInt ∧ (hv h' 185 (19 + r)).toInt = ug (ug ps.2 (10 + p) q 1) (10 + q) p 1 4 r ∧ (hv h' 185 (39 + r)).toInt = ug (ug ps.2 (10 + p) q 1) (10 + q) p 1 6 r ∧ (hv h' 185 (49 + r)).toInt = ug (ug ps.2 (10 + p) q 1) (10 + q) p 1 7 r
    rw [nm, o (19 + r) (by omega) (by omega), o (39 + r) (by omega) (by omega), o (49 + r) (by omega) (by omega), e23, e24, e26, e27]
    exact cp r hr
  · refine (b r hr i).trans ?_
    have g := cc r hr i
    show _ ↔ ug (ug ps.2 (10 + p) q 1) (10 + q) p 1 (10 + r) i ≠ 0
    rw [ug_v, ug_v]
    by_cases e1 : r = q ∧ i = p
    · rw [if_pos (by omega)]
      exact ⟨fun _ => by decide, fun _ => Or.inr (Or.inr e1)⟩
    · rw [if_neg (by omega)]
      by_cases e3 : r = p ∧ i = q
      · rw [if_pos (by omega)]
        exact ⟨fun _ => by decide, fun _ => Or.inr (Or.inl e3)⟩
      · rw [if_neg (by omega)]
        constructor
        · rintro (g2 | g2 | g2)
          · exact g.mp g2
          · exact absurd g2 e3
          · exact absurd g2 e1
        · intro g2
          exact Or.inl (g.mpr g2)
  · show 2 ≤ ps.1 0 ∧ ps.1 0 ≤ 8 ∧ 2 ≤ ps.1 1 ∧ ps.1 1 ≤ 8 ∧ 0 ≤ ps.1 4 ∧ ps.1 4 ≤ 6 ∧ 0 ≤ ps.1 5 ∧ ps.1 5 ≤ 10 ∧ 0 ≤ ps.1 6 + 1 ∧ ps.1 6 + 1 ≤ 8
    omega
theorem sp_new_u {ps : PS} {t : tx_K} {a : Nat} : sp_new (uf ps.1 7 1, ps.2) t a = sp_new ps t a := rfl
theorem sp_old_u {ps : PS} {k : Nat} {t : tx_K} {a : Nat} : sp_old (uf ps.1 7 1, ps.2) k 4 t a = sp_old ps k 4 t a := rfl
theorem sp_cell_u {ps : PS} {t1 t2 : tx_K} {a1 a2 : Nat} : sp_cell (uf ps.1 7 1, ps.2) t1 a1 t2 a2 = sp_cell ps t1 a1 t2 a2 := rfl
section RH
variable {B : Nat → Int} {n lim : Nat} {tk : Nat → tx_K} {ta P : Nat → Nat} {sc : List Value} {sp d : Nat} {h : eg_H} {j : Nat} {ps : PS}
def lm_P (B : Nat → Int) (n lim : Nat) (tk : Nat → tx_K) (ta P : Nat → Nat) (h : eg_H) (x : Sum ER (PS × Nat)) (vo : Option Value) (h' : eg_H) : Prop := ab_hp h' ∧ ab_fr MLM h' h ∧ ∃ r : Int32, vo = some (.int r) ∧ ((∃ p j', x = .inr (p, j') ∧ r.toInt = 1 ∧ rt B n lim tk ta P h' j' ∧ MP h' p) ∨ (∃ k a, x = .inl (k, a) ∧ r.toInt = 0 ∧ flm h' k a))
theorem rt_1672 : (eg_md 1672).2.2.2 = some .boolean := by decide +kernel
theorem sg_grow {ls : eg_L} (ts : TS B n lim tk ta P) (hq : ab_hp h) (hw : rwok h) (hr : rt B n lim tk ta P h j) (hP : MP h ps) (l0 : eg_find 0 ls = some (.ref 182)) : hs sc sp 1672 11 (d + 1 + 1 + 1 + 1 + 1 + 1) (fun pc' _ st' h' => ∃ ik vo, ab_ret 1672 pc' = some ik ∧ eg_rv (eg_md 1672).2.2.2 ik st' = some vo ∧ lm_P B n lim tk ta P h (sp_grow tk ta ps (j + 1)) vo h') 309 ls [] h := by
  have hp := hq.1
  have hb9 := hP.2.2.2.2.2
  have ej : j + 1 - 1 = j := by omega

  refine hs_aload_n ci_1672_309 l0 ?_
  refine hs_iconst ci_1672_310 ?_
  refine hs_cv 1680 11 1 ci_1672_311 (by decide +kernel) (by decide +kernel) hp rfl (by rw [ml_1680]; rfl) (m_once (k := 1) kI_1 (by decide) ts hq hr) ?_
  rintro v9 hA ⟨qA, fA, rA, e8, hrA⟩
  rw [e8]
  clear e8 v9
  replace hp := qA.1
  simp only [Option.toList, List.cons_append, List.nil_append]
  refine hs_if (t := 332) ci_1672_314 rfl (fun b314 => ?_) (fun b314 => ?_)
  · simp only [hs_cd, ab_not] at b314
    refine hs_iconst ci_1672_332 ?_
    rcases hrA with ⟨y1, -⟩ | ⟨y1, y2, y3⟩
    · omega
    · refine hs_k ⟨3, some (.int (Int32.ofInt 0)), by decide +kernel, rv_b rt_1672 (Or.inl (by decide)), qA, fr_sub (by decide +kernel) fA, _, rfl, Or.inr ⟨3, ta j, ?_, by decide, y3⟩⟩
      unfold sp_grow
      rw [if_pos (hP.2.1.2.1.mp y2), ej]
  · simp only [hs_cd, ab_not] at b314
    obtain ⟨nb, bA, rA2⟩ : ¬ fb (hv h 182 20) 1 = true ∧ (∀ i, fb (hv hA 182 20) i = true ↔ (fb (hv h 182 20) i = true ∨ i = 1)) ∧ rt B n lim tk ta P hA (j + 1) := by
      rcases hrA with ⟨-, y⟩ | ⟨y, -⟩
      · exact y
      · omega
    clear hrA
    refine hs_aload_n ci_1672_317 l0 ?_
    refine hs_iconst ci_1672_318 ?_
    refine hs_iconst ci_1672_319 ?_
    refine hs_bipush ci_1672_320 ?_
    refine hs_cv 1691 11 3 ci_1672_322 (by decide +kernel) (by decide +kernel) hp rfl (by rw [ml_1691]; rfl) (m_puts (to := 5) 5 6 (-2147483648) 2147483647 (by decide +kernel) kI_5 (by decide) (by decide) (by decide) (ab_ige _) (ab_ile _) ts qA rA2) ?_
    rintro v9 hB ⟨qB, fB, rB, e8, hrB⟩
    rw [e8]
    clear e8 v9
    rw [kI_0, kB_9] at hrB
    replace hp := qB.1
    simp only [Option.toList, List.cons_append, List.nil_append]
    refine hs_if (t := 332) ci_1672_325 rfl (fun b325 => ?_) (fun b325 => ?_)
    · simp only [hs_cd, ab_not] at b325
      refine hs_iconst ci_1672_332 ?_
      rcases hrB with ⟨v, x, -, y2, -⟩ | ⟨k, a, y1, y2, y3⟩
      · omega
      · refine hs_k ⟨3, some (.int (Int32.ofInt 0)), by decide +kernel, rv_b rt_1672 (Or.inl (by decide)), qB, (fr_cs (il_185 (by decide)) (by decide +kernel) fB).tr (fr_sub (by decide +kernel) fA), _, rfl, Or.inr ⟨k, a, ?_, by decide, y3⟩⟩
        unfold sp_grow
        rw [if_neg (fun g => nb (hP.2.1.2.1.mpr g)), sbn_l y1]
    · simp only [hs_cd, ab_not] at b325
      refine hs_iconst ci_1672_328 ?_
      refine hs_goto (t := 333) ci_1672_329 rfl ?_
      obtain ⟨v, vx, hv1, hv2, hv3, rB2⟩ : ∃ v x, sp_num (tk (j + 1)) (ta (j + 1)) 0 9 = .inr v ∧ (∀ q, hv hB 185 q = if q = 5 then x else hv hA 185 q) ∧ x.toInt = v ∧ rt B n lim tk ta P hB ((j + 1) + 1) := by
        rcases hrB with ⟨v, x, y1, -, y3, y4, y5⟩ | ⟨k, a, -, y2, -⟩
        · exact ⟨v, x, y1, y3, y4, y5⟩
        · omega
      clear hrB
      have F : ab_fr MLM hB h := (fr_cs (il_185 (by decide)) (by decide +kernel) fB).tr (fr_sub (by decide +kernel) fA)
      refine hs_k ⟨3, some (.int (Int32.ofInt 1)), by decide +kernel, rv_b rt_1672 (Or.inr (by decide)), qB, F, _, rfl, Or.inl ⟨(uf (uf ps.1 8 1) 2 v, ps.2), j + 2, ?_, by decide, rB2, ?_⟩⟩
      · unfold sp_grow
        rw [if_neg (fun g => nb (hP.2.1.2.1.mpr g)), sbn_r hv1]
      · obtain ⟨⟨c0, c1, c2, c3, c4, c5, c6⟩, ⟨cb0, cb1, cb2⟩, cr9⟩ := hP
        have o9 : ∀ q, q ≠ 5 → hv hB 185 q = hv h 185 q := fun q hq => by rw [hv2 q, if_neg hq, hv_same (fA 185 q rfl)]
        have e20 : hv hB 182 20 = hv hA 182 20 := hv_same (fB 182 20 rfl)
        refine MP.scal (f' := uf (uf ps.1 8 1) 2 v) ⟨⟨c0, c1, c2, c3, c4, c5, c6⟩, ⟨cb0, cb1, cb2⟩, cr9⟩ rfl rfl ⟨?_, ?_, ?_, ?_, ?_, ?_, ?_⟩ (fun q hq => o9 q (by omega)) (fun q => by rw [hl_same (fB 187 q rfl), hl_same (fA 187 q rfl)]) ⟨?_, ?_, ?_⟩ ⟨hb9.1, hb9.2.1, hb9.2.2.1, hb9.2.2.2.1, hb9.2.2.2.2.2.2.2.2.1, hb9.2.2.2.2.2.2.2.2.2⟩
        · rw [o9 0 (by decide)]; exact c0
        · rw [o9 1 (by decide)]; exact c1
        · rw [o9 2 (by decide)]; exact c2
        · rw [o9 3 (by decide)]; exact c3
        · rw [o9 4 (by decide)]; exact c4
        · rw [hv2 5, if_pos rfl]; exact hv3
        · rw [o9 6 (by decide)]; exact c6
        · rw [e20]
          refine (bA 0).trans ⟨fun g => ?_, fun g => Or.inl (cb0.mpr g)⟩
          rcases g with g | g
          · exact cb0.mp g
          · exact absurd g (by decide)
        · rw [e20]
          exact ⟨fun _ => (show (1 : Int) ≠ 0 by decide), fun _ => (bA 1).mpr (Or.inr rfl)⟩
        · rw [e20]
          refine (bA 2).trans ⟨fun g => ?_, fun g => Or.inl (cb2.mpr g)⟩
          rcases g with g | g
          · exact cb2.mp g
          · exact absurd g (by decide)
theorem sg_stor {ls : eg_L} (ts : TS B n lim tk ta P) (hq : ab_hp h) (hw : rwok h) (hr : rt B n lim tk ta P h j) (hP : MP h ps) (l0 : eg_find 0 ls = some (.ref 182)) : hs sc sp 1672 11 (d + 1 + 1 + 1 + 1 + 1 + 1) (fun pc' _ st' h' => ∃ ik vo, ab_ret 1672 pc' = some ik ∧ eg_rv (eg_md 1672).2.2.2 ik st' = some vo ∧ lm_P B n lim tk ta P h (sp_stor tk ta ps (j + 1)) vo h') 344 ls [] h := by
  have hp := hq.1
  have hb9 := hP.2.2.2.2.2
  have ej : j + 1 - 1 = j := by omega

  refine hs_aload_n ci_1672_344 l0 ?_
  refine hs_iconst ci_1672_345 ?_
  refine hs_cv 1680 11 1 ci_1672_346 (by decide +kernel) (by decide +kernel) hp rfl (by rw [ml_1680]; rfl) (m_once (k := 2) kI_2 (by decide) ts hq hr) ?_
  rintro v9 hA ⟨qA, fA, rA, e8, hrA⟩
  rw [e8]
  clear e8 v9
  replace hp := qA.1
  simp only [Option.toList, List.cons_append, List.nil_append]
  refine hs_if (t := 368) ci_1672_349 rfl (fun b349 => ?_) (fun b349 => ?_)
  · simp only [hs_cd, ab_not] at b349
    refine hs_iconst ci_1672_368 ?_
    rcases hrA with ⟨y1, -⟩ | ⟨y1, y2, y3⟩
    · omega
    · refine hs_k ⟨3, some (.int (Int32.ofInt 0)), by decide +kernel, rv_b rt_1672 (Or.inl (by decide)), qA, fr_sub (by decide +kernel) fA, _, rfl, Or.inr ⟨3, ta j, ?_, by decide, y3⟩⟩
      unfold sp_stor
      rw [if_pos (hP.2.1.2.2.mp y2), ej]
  · simp only [hs_cd, ab_not] at b349
    obtain ⟨nb, bA, rA2⟩ : ¬ fb (hv h 182 20) 2 = true ∧ (∀ i, fb (hv hA 182 20) i = true ↔ (fb (hv h 182 20) i = true ∨ i = 2)) ∧ rt B n lim tk ta P hA (j + 1) := by
      rcases hrA with ⟨-, y⟩ | ⟨y, -⟩
      · exact y
      · omega
    clear hrA
    refine hs_aload_n ci_1672_352 l0 ?_
    refine hs_bipush ci_1672_353 ?_
    refine hs_iconst ci_1672_355 ?_
    refine hs_bipush ci_1672_356 ?_
    refine hs_cv 1691 11 3 ci_1672_358 (by decide +kernel) (by decide +kernel) hp rfl (by rw [ml_1691]; rfl) (m_puts (to := 6) 5 6 (-2147483648) 2147483647 (by decide +kernel) kB_6 (by decide) (by decide) (by decide) (ab_ige _) (ab_ile _) ts qA rA2) ?_
    rintro v9 hB ⟨qB, fB, rB, e8, hrB⟩
    rw [e8]
    clear e8 v9
    rw [kI_0, kB_12] at hrB
    replace hp := qB.1
    simp only [Option.toList, List.cons_append, List.nil_append]
    refine hs_if (t := 368) ci_1672_361 rfl (fun b361 => ?_) (fun b361 => ?_)
    · simp only [hs_cd, ab_not] at b361
      refine hs_iconst ci_1672_368 ?_
      rcases hrB with ⟨v, x, -, y2, -⟩ | ⟨k, a, y1, y2, y3⟩
      · omega
      · refine hs_k ⟨3, some (.int (Int32.ofInt 0)), by decide +kernel, rv_b rt_1672 (Or.inl (by decide)), qB, (fr_cs (il_185 (by decide)) (by decide +kernel) fB).tr (fr_sub (by decide +kernel) fA), _, rfl, Or.inr ⟨k, a, ?_, by decide, y3⟩⟩
        unfold sp_stor
        rw [if_neg (fun g => nb (hP.2.1.2.2.mpr g)), sbn_l y1]
    · simp only [hs_cd, ab_not] at b361
      refine hs_iconst ci_1672_364 ?_
      refine hs_goto (t := 369) ci_1672_365 rfl ?_
      obtain ⟨v, vx, hv1, hv2, hv3, rB2⟩ : ∃ v x, sp_num (tk (j + 1)) (ta (j + 1)) 0 12 = .inr v ∧ (∀ q, hv hB 185 q = if q = 6 then x else hv hA 185 q) ∧ x.toInt = v ∧ rt B n lim tk ta P hB ((j + 1) + 1) := by
        rcases hrB with ⟨v, x, y1, -, y3, y4, y5⟩ | ⟨k, a, -, y2, -⟩
        · exact ⟨v, x, y1, y3, y4, y5⟩
        · omega
      clear hrB
      have F : ab_fr MLM hB h := (fr_cs (il_185 (by decide)) (by decide +kernel) fB).tr (fr_sub (by decide +kernel) fA)
      refine hs_k ⟨3, some (.int (Int32.ofInt 1)), by decide +kernel, rv_b rt_1672 (Or.inr (by decide)), qB, F, _, rfl, Or.inl ⟨(uf (uf ps.1 9 1) 3 v, ps.2), j + 2, ?_, by decide, rB2, ?_⟩⟩
      · unfold sp_stor
        rw [if_neg (fun g => nb (hP.2.1.2.2.mpr g)), sbn_r hv1]
      · obtain ⟨⟨c0, c1, c2, c3, c4, c5, c6⟩, ⟨cb0, cb1, cb2⟩, cr9⟩ := hP
        have o9 : ∀ q, q ≠ 6 → hv hB 185 q = hv h 185 q := fun q hq => by rw [hv2 q, if_neg hq, hv_same (fA 185 q rfl)]
        have e20 : hv hB 182 20 = hv hA 182 20 := hv_same (fB 182 20 rfl)
        refine MP.scal (f' := uf (uf ps.1 9 1) 3 v) ⟨⟨c0, c1, c2, c3, c4, c5, c6⟩, ⟨cb0, cb1, cb2⟩, cr9⟩ rfl rfl ⟨?_, ?_, ?_, ?_, ?_, ?_, ?_⟩ (fun q hq => o9 q (by omega)) (fun q => by rw [hl_same (fB 187 q rfl), hl_same (fA 187 q rfl)]) ⟨?_, ?_, ?_⟩ ⟨hb9.1, hb9.2.1, hb9.2.2.1, hb9.2.2.2.1, hb9.2.2.2.2.2.2.2.2.1, hb9.2.2.2.2.2.2.2.2.2⟩
        · rw [o9 0 (by decide)]; exact c0
        · rw [o9 1 (by decide)]; exact c1
        · rw [o9 2 (by decide)]; exact c2
        · rw [o9 3 (by decide)]; exact c3
        · rw [o9 4 (by decide)]; exact c4
        · rw [o9 5 (by decide)]; exact c5
        · rw [hv2 6, if_pos rfl]; exact hv3
        · rw [e20]
          refine (bA 0).trans ⟨fun g => ?_, fun g => Or.inl (cb0.mpr g)⟩
          rcases g with g | g
          · exact cb0.mp g
          · exact absurd g (by decide)
        · rw [e20]
          refine (bA 1).trans ⟨fun g => ?_, fun g => Or.inl (cb1.mpr g)⟩
          rcases g with g | g
          · exact cb1.mp g
          · exact absurd g (by decide)
        · rw [e20]
          exact ⟨fun _ => (show (1 : Int) ≠ 0 by decide), fun _ => (bA 2).mpr (Or.inr rfl)⟩
theorem sg_size {ls : eg_L} (ts : TS B n lim tk ta P) (hq : ab_hp h) (hw : rwok h) (hr : rt B n lim tk ta P h j) (hP : MP h ps) (l0 : eg_find 0 ls = some (.ref 182)) : hs sc sp 1672 11 (d + 1 + 1 + 1 + 1 + 1 + 1) (fun pc' _ st' h' => ∃ ik vo, ab_ret 1672 pc' = some ik ∧ eg_rv (eg_md 1672).2.2.2 ik st' = some vo ∧ lm_P B n lim tk ta P h (sp_size tk ta ps (j + 1)) vo h') 10 ls [] h := by
  have hp := hq.1
  have hb9 := hP.2.2.2.2.2
  have ej : j + 1 - 1 = j := by omega

  refine hs_aload_n ci_1672_10 l0 ?_
  refine hs_iconst ci_1672_11 ?_
  refine hs_cv 1680 11 1 ci_1672_12 (by decide +kernel) (by decide +kernel) hp rfl (by rw [ml_1680]; rfl) (m_once (k := 0) kI_0 (by decide) ts hq hr) ?_
  rintro v9 hA ⟨qA, fA, rA, e8, hrA⟩
  rw [e8]
  clear e8 v9
  replace hp := qA.1
  simp only [Option.toList, List.cons_append, List.nil_append]
  refine hs_if (t := 44) ci_1672_15 rfl (fun b15 => ?_) (fun b15 => ?_)
  · simp only [hs_cd, ab_not] at b15
    refine hs_iconst ci_1672_44 ?_
    rcases hrA with ⟨y1, -⟩ | ⟨y1, y2, y3⟩
    · omega
    · refine hs_k ⟨3, some (.int (Int32.ofInt 0)), by decide +kernel, rv_b rt_1672 (Or.inl (by decide)), qA, fr_sub (by decide +kernel) fA, _, rfl, Or.inr ⟨3, ta j, ?_, by decide, y3⟩⟩
      unfold sp_size
      rw [if_pos (hP.2.1.1.mp y2), ej]
  · simp only [hs_cd, ab_not] at b15
    obtain ⟨nb, bA, rA2⟩ : ¬ fb (hv h 182 20) 0 = true ∧ (∀ i, fb (hv hA 182 20) i = true ↔ (fb (hv h 182 20) i = true ∨ i = 0)) ∧ rt B n lim tk ta P hA (j + 1) := by
      rcases hrA with ⟨-, y⟩ | ⟨y, -⟩
      · exact y
      · omega
    clear hrA
    refine hs_aload_n ci_1672_18 l0 ?_
    refine hs_iconst ci_1672_19 ?_
    refine hs_iconst ci_1672_20 ?_
    refine hs_bipush ci_1672_21 ?_
    refine hs_cv 1691 11 3 ci_1672_23 (by decide +kernel) (by decide +kernel) hp rfl (by rw [ml_1691]; rfl) (m_puts (to := 2) 2 3 0 8 (by decide +kernel) kI_2 (by decide) (by decide) (by decide) (by decide) (by decide) ts qA rA2) ?_
    rintro v9 hB ⟨qB, fB, rB, e8, hrB⟩
    rw [e8]
    clear e8 v9
    rw [kI_2, kB_8] at hrB
    replace hp := qB.1
    simp only [Option.toList, List.cons_append, List.nil_append]
    refine hs_if (t := 44) ci_1672_26 rfl (fun b26 => ?_) (fun b26 => ?_)
    · simp only [hs_cd, ab_not] at b26
      refine hs_iconst ci_1672_44 ?_
      rcases hrB with ⟨v, x, -, y2, -⟩ | ⟨k, a, y1, y2, y3⟩
      · omega
      · refine hs_k ⟨3, some (.int (Int32.ofInt 0)), by decide +kernel, rv_b rt_1672 (Or.inl (by decide)), qB, (fr_cs (il_185 (by decide)) (by decide +kernel) fB).tr (fr_sub (by decide +kernel) fA), _, rfl, Or.inr ⟨k, a, ?_, by decide, y3⟩⟩
        unfold sp_size
        rw [if_neg (fun g => nb (hP.2.1.1.mpr g)), sbn_l y1]
    · simp only [hs_cd, ab_not] at b26
      obtain ⟨w, wx, hw1, hw2, hw3, rB2⟩ : ∃ v x, sp_num (tk (j + 1)) (ta (j + 1)) 2 8 = .inr v ∧ (∀ q, hv hB 185 q = if q = 2 then x else hv hA 185 q) ∧ x.toInt = v ∧ rt B n lim tk ta P hB ((j + 1) + 1) := by
        rcases hrB with ⟨v, x, y1, -, y3, y4, y5⟩ | ⟨k, a, -, y2, -⟩
        · exact ⟨v, x, y1, y3, y4, y5⟩
        · omega
      clear hrB
      refine hs_aload_n ci_1672_29 l0 ?_
      refine hs_iconst ci_1672_30 ?_
      refine hs_iconst ci_1672_31 ?_
      refine hs_bipush ci_1672_32 ?_
      refine hs_cv 1691 11 3 ci_1672_34 (by decide +kernel) (by decide +kernel) hp rfl (by rw [ml_1691]; rfl) (m_puts (to := 3) 2 3 0 8 (by decide +kernel) kI_3 (by decide) (by decide) (by decide) (by decide) (by decide) ts qB rB2) ?_
      rintro v9 hC ⟨qC, fC, rC, e8, hrC⟩
      rw [e8]
      clear e8 v9
      rw [kI_2, kB_8] at hrC
      replace hp := qC.1
      simp only [Option.toList, List.cons_append, List.nil_append]
      refine hs_if (t := 44) ci_1672_37 rfl (fun b37 => ?_) (fun b37 => ?_)
      · simp only [hs_cd, ab_not] at b37
        refine hs_iconst ci_1672_44 ?_
        rcases hrC with ⟨v, x, -, y2, -⟩ | ⟨k, a, y1, y2, y3⟩
        · omega
        · refine hs_k ⟨3, some (.int (Int32.ofInt 0)), by decide +kernel, rv_b rt_1672 (Or.inl (by decide)), qC, (fr_cs (il_185 (by decide)) (by decide +kernel) fC).tr ((fr_cs (il_185 (by decide)) (by decide +kernel) fB).tr (fr_sub (by decide +kernel) fA)), _, rfl, Or.inr ⟨k, a, ?_, by decide, y3⟩⟩
          unfold sp_size
          rw [if_neg (fun g => nb (hP.2.1.1.mpr g)), sbn_r hw1, sbn_l y1]
      · simp only [hs_cd, ab_not] at b37
        refine hs_iconst ci_1672_40 ?_
        refine hs_goto (t := 45) ci_1672_41 rfl ?_
        obtain ⟨v, vx, hv1, hv2, hv3, rC2⟩ : ∃ v x, sp_num (tk (j + 1 + 1)) (ta (j + 1 + 1)) 2 8 = .inr v ∧ (∀ q, hv hC 185 q = if q = 3 then x else hv hB 185 q) ∧ x.toInt = v ∧ rt B n lim tk ta P hC ((j + 1 + 1) + 1) := by
          rcases hrC with ⟨v, x, y1, -, y3, y4, y5⟩ | ⟨k, a, -, y2, -⟩
          · exact ⟨v, x, y1, y3, y4, y5⟩
          · omega
        clear hrC
        have bw := sp_num_b hw1
        have bv := sp_num_b hv1
        have F : ab_fr MLM hC h := (fr_cs (il_185 (by decide)) (by decide +kernel) fC).tr ((fr_cs (il_185 (by decide)) (by decide +kernel) fB).tr (fr_sub (by decide +kernel) fA))
        have nz : ¬ (ps.1 7 ≠ 0 ∨ ps.1 4 ≠ 0 ∨ ps.1 5 ≠ 0) := fun g => nb (hP.2.1.1.mpr g)
        refine hs_k ⟨3, some (.int (Int32.ofInt 1)), by decide +kernel, rv_b rt_1672 (Or.inr (by decide)), qC, F, _, rfl, Or.inl ⟨(uf (uf (uf ps.1 7 1) 0 w) 1 v, ps.2), j + 3, ?_, by decide, rC2, ?_⟩⟩
        · unfold sp_size
          rw [if_neg nz, sbn_r hw1, sbn_r hv1]
        · obtain ⟨⟨c0, c1, c2, c3, c4, c5, c6⟩, ⟨cb0, cb1, cb2⟩, cr9⟩ := hP
          have o9 : ∀ q, q ≠ 2 → q ≠ 3 → hv hC 185 q = hv h 185 q := fun q q2 q3 => by rw [hv2 q, if_neg q3, hw2 q, if_neg q2, hv_same (fA 185 q rfl)]
          have e20 : hv hC 182 20 = hv hA 182 20 := by rw [hv_same (fC 182 20 rfl), hv_same (fB 182 20 rfl)]
          refine MP.scal (f' := uf (uf (uf ps.1 7 1) 0 w) 1 v) ⟨⟨c0, c1, c2, c3, c4, c5, c6⟩, ⟨cb0, cb1, cb2⟩, cr9⟩ rfl rfl ⟨?_, ?_, ?_, ?_, ?_, ?_, ?_⟩ (fun q hq => o9 q (by omega) (by omega)) (fun q => by rw [hl_same (fC 187 q rfl), hl_same (fB 187 q rfl), hl_same (fA 187 q rfl)]) ⟨?_, ?_, ?_⟩ ⟨bw.1, bw.2, bv.1, bv.2, hb9.2.2.2.2.2.2.2.2.1, hb9.2.2.2.2.2.2.2.2.2⟩
          · rw [o9 0 (by decide) (by decide)]; exact c0
          · rw [o9 1 (by decide) (by decide)]; exact c1
          · rw [hv2 2, if_neg (by decide), hw2 2, if_pos rfl]; exact hw3
          · rw [hv2 3, if_pos rfl]; exact hv3
          · rw [o9 4 (by decide) (by decide)]; exact c4
          · rw [o9 5 (by decide) (by decide)]; exact c5
          · rw [o9 6 (by decide) (by decide)]; exact c6
          · rw [e20]
            exact ⟨fun _ => Or.inl (show (1 : Int) ≠ 0 by decide), fun _ => (bA 0).mpr (Or.inr rfl)⟩
          · rw [e20]
            refine (bA 1).trans ⟨fun g => ?_, fun g => Or.inl (cb1.mpr g)⟩
            rcases g with g | g
            · exact cb1.mp g
            · exact absurd g (by decide)
          · rw [e20]
            refine (bA 2).trans ⟨fun g => ?_, fun g => Or.inl (cb2.mpr g)⟩
            rcases g with g | g
            · exact cb2.mp g
            · exact absurd g (by decide)
theorem sg_man {ls : eg_L} (ts : TS B n lim tk ta P) (hq : ab_hp h) (hw : rwok h) (hr : rt B n lim tk ta P h j) (hP : MP h ps) (l0 : eg_find 0 ls = some (.ref 182)) : hs sc sp 1672 11 (d + 1 + 1 + 1 + 1 + 1 + 1) (fun pc' _ st' h' => ∃ ik vo, ab_ret 1672 pc' = some ik ∧ eg_rv (eg_md 1672).2.2.2 ik st' = some vo ∧ lm_P B n lim tk ta P h (sp_man tk ta ps (j + 1)) vo h') 56 ls [] h := by
  have hp := hq.1
  have hb9 := hP.2.2.2.2.2
  have ej : j + 1 - 1 = j := by omega

  refine hs_aload_n ci_1672_56 l0 ?_
  refine hs_gfr 7 185 ci_1672_57 (by decide +kernel) hp ?_
  refine hs_iconst ci_1672_60 ?_
  refine hs_iaload 0 0 (0) (6) ci_1672_61 (by decide +kernel) hp (by decide) (by decide) (fun r61_1 r61_2 => ?_)
  refine hs_istore2_n ci_1672_62 (by decide +kernel) ?_
  intro ls9 q9
  replace l0 := q9.2 0 _ (by decide) (Or.inl rfl) l0
  have l1 := q9.1
  clear q9
  refine hs_iload_n ci_1672_63 l1 ?_
  refine hs_bipush ci_1672_64 ?_
  refine hs_ic (t := 75) ci_1672_66 rfl (fun b66 => ?_) (fun b66 => ?_)
  · simp only [hs_cd, ab_not, kB_6] at b66
    refine hs_aload_n ci_1672_75 l0 ?_
    refine hs_dup ci_1672_76 rfl ?_
    refine hs_gfi 20 ci_1672_77 (by decide +kernel) hp ?_
    refine hs_iconst ci_1672_80 ?_
    refine hs_ior ci_1672_81 ?_
    refine hs_pfi 20 (-2147483648) (2147483647) ci_1672_82 (by decide +kernel) hp (ab_ige _) (ab_ile _) ?_
    intro h82 w82
    replace hp := w82.1
    have f82 : ab_fr [(182, 20, 20)] h82 h := w82.fr rfl
    have q82 : ab_hp h82 := ⟨hp, hq.2.fr (M := [(182, 20, 20)]) (by decide +kernel) f82⟩
    have r82 : rt B n lim tk ta P h82 j := hr.fr f82 (fun _ => rfl) ⟨rfl, rfl, rfl, rfl, rfl, rfl, rfl⟩
    refine hs_aload_n ci_1672_85 l0 ?_
    refine hs_cv 1658 11 0 ci_1672_86 (by decide +kernel) (by decide +kernel) hp rfl (by rw [ml_1658]; rfl) (m_next ts q82 r82) ?_
    rintro v9 hA ⟨e8, qA, fA, rA⟩
    rw [e8]
    clear e8 v9
    replace hp := qA.1
    simp only [Option.toList, List.nil_append]
    obtain ⟨k, ek⟩ : ∃ k : Nat, ps.1 4 = (k : Int) := ⟨(ps.1 4).toNat, by omega⟩
    have ex : (hv h 185 (Int32.ofInt 0).toInt.toNat).toInt = (k : Int) := by rw [kN_0, hP.1.1]; exact ek
    have k6 : k < 6 := by
      have : ¬ ps.1 4 = 6 := fun g => b66 (by rw [ex]; omega)
      omega
    have e16 : ((Int8.ofInt 16).toInt32 + hv h 185 (Int32.ofInt 0).toInt.toNat).toInt = ((16 + k : Nat) : Int) := (i32_add kB_16 ex (by omega) (by omega)).trans (by omega)
    have e7 : ((Int8.ofInt 7).toInt32 + hv h 185 (Int32.ofInt 0).toInt.toNat).toInt = ((7 + k : Nat) : Int) := (i32_add kB_7 ex (by omega) (by omega)).trans (by omega)
    have e13 : ((Int8.ofInt 13).toInt32 + hv h 185 (Int32.ofInt 0).toInt.toNat).toInt = ((13 + k : Nat) : Int) := (i32_add kB_13 ex (by omega) (by omega)).trans (by omega)
    have wA : rwok hA := (hw.fr f82 (fun _ => rfl)).fr fA (fun _ => rfl)
    have bA : ∀ i, fb (hv hA 182 20) i = true ↔ (fb (hv h 182 20) i = true ∨ i = 0) := fun i => by
      rw [hv_same (fA 182 20 rfl), w82.v, if_pos ⟨rfl, rfl⟩]
      exact fb_o1 _ i
    have s5 : ∀ q, hv hA 185 q = hv h 185 q := fun q => by rw [hv_same (fA 185 q rfl), hv_same (f82 185 q rfl)]
    have s7 : ∀ q, hl hA 187 q = hl h 187 q := fun q => by rw [hl_same (fA 187 q rfl), hl_same (f82 187 q rfl)]
    have FA : ab_fr MLM hA h := (fr_sub (by decide +kernel) fA).tr (fr_sub (by decide +kernel) f82)
    refine hs_aload_n ci_1672_89 l0 ?_
    refine hs_bipush ci_1672_90 ?_
    refine hs_iload_n ci_1672_92 l1 ?_
    refine hs_iadd ci_1672_93 ?_
    have PA : MP hA (uf ps.1 7 1, ps.2) := hP.scal (f' := uf ps.1 7 1) rfl rfl (by rw [s5 0, s5 1, s5 2, s5 3, s5 4, s5 5, s5 6]; exact hP.1) (fun q _ => s5 q) s7 ⟨⟨fun _ => Or.inl (show (1 : Int) ≠ 0 by decide), fun _ => (bA 0).mpr (Or.inr rfl)⟩, (bA 1).trans ⟨fun g => by
      rcases g with g | g
      · exact hP.2.1.2.1.mp g
      · exact absurd g (by decide), fun g => Or.inl (hP.2.1.2.1.mpr g)⟩, (bA 2).trans ⟨fun g => by
      rcases g with g | g
      · exact hP.2.1.2.2.mp g
      · exact absurd g (by decide), fun g => Or.inl (hP.2.1.2.2.mpr g)⟩⟩ ⟨hb9.1, hb9.2.1, hb9.2.2.1, hb9.2.2.2.1, hb9.2.2.2.2.2.2.2.2.1, hb9.2.2.2.2.2.2.2.2.2⟩
    refine hs_cv 1702 11 1 ci_1672_94 (by decide +kernel) (by decide +kernel) hp rfl (by rw [ml_1702]; rfl) (m_fresh (ps := (uf ps.1 7 1, ps.2)) (to := 16 + k) e16 (by omega) ts qA wA rA PA) ?_
    rintro v9 hB ⟨qB, fB, rB, e8, hrB⟩
    rw [e8]
    clear e8 v9
    rw [sp_new_u] at hrB
    replace hp := qB.1
    simp only [Option.toList, List.cons_append, List.nil_append]
    refine hs_if (t := 115) ci_1672_97 rfl (fun b97 => ?_) (fun b97 => ?_)
    · simp only [hs_cd, ab_not] at b97
      refine hs_iconst ci_1672_115 ?_
      rcases hrB with ⟨c, w, -, y2, -⟩ | ⟨k, a, y1, y2, y3⟩
      · omega
      · refine hs_k ⟨3, some (.int (Int32.ofInt 0)), by decide +kernel, rv_b rt_1672 (Or.inl (by decide)), qB, (fr_cs (il_187 (by omega)) (by decide +kernel) fB).tr FA, _, rfl, Or.inr ⟨k, a, ?_, by decide, y3⟩⟩
        unfold sp_man
        rw [if_neg (by omega), sbn_l y1]
    · simp only [hs_cd, ab_not] at b97
      obtain ⟨c, w, hc1, hc2, hc3, rB2⟩ : ∃ c w, sp_new ps (tk (j + 1)) (ta (j + 1)) = .inr c ∧ (∀ q, hl hB 187 q = if q = 16 + k then w else hl hA 187 q) ∧ tx_co c w.toInt ∧ rt B n lim tk ta P hB (j + 1 + 1) := by
        rcases hrB with ⟨c, w, y1, -, y3, y4, y5⟩ | ⟨k, a, -, y2, -⟩
        · exact ⟨c, w, y1, y3, y4, y5⟩
        · omega
      clear hrB
      have PB : MP hB (uf ps.1 7 1, ps.2) := PA.up (fun q _ => hv_same (fB 185 q rfl)) (hv_same (fB 182 20 rfl)) (fun q hu => by
        rw [hc2 q, if_neg]
        intro e
        obtain ⟨r, hu | hu⟩ := hu
        · have h1 : (r : Int) < ps.1 4 := hu.1
          omega
        · omega)
      have FB : ab_fr MLM hB h := (fr_cs (il_187 (by omega)) (by decide +kernel) fB).tr FA
      refine hs_aload_n ci_1672_100 l0 ?_
      refine hs_bipush ci_1672_101 ?_
      refine hs_iload_n ci_1672_103 l1 ?_
      refine hs_iadd ci_1672_104 ?_
      refine hs_bipush ci_1672_105 ?_
      refine hs_iload_n ci_1672_107 l1 ?_
      refine hs_iadd ci_1672_108 ?_
      have nu : ¬ usd (uf ps.1 7 1, ps.2) (7 + k) := by
        rintro (g | g | ⟨r, ⟨g1, g2⟩ | ⟨g1, g2⟩⟩)
        · omega
        · omega
        · have g1 : (r : Int) < ps.1 4 := g1
          omega
        · omega
      refine hs_cv 1714 11 2 ci_1672_109 (by decide +kernel) (by decide +kernel) hp rfl (by rw [ml_1714]; rfl) (m_putsC (ps := (uf ps.1 7 1, ps.2)) (tx := 7 + k) (ty := 13 + k) 7 18 (by decide +kernel) (by decide +kernel) e7 e13 (by omega) (by omega) (by omega) (by omega) (by decide) (by omega) nu ts qB rB2 PB) ?_
      rintro v9 hC ⟨qC, fC, rC, e8, hrC⟩
      rw [e8]
      clear e8 v9
      rw [sp_cell_u] at hrC
      replace hp := qC.1
      simp only [Option.toList, List.cons_append, List.nil_append]
      refine hs_if (t := 117) ci_1672_112 rfl (fun b112 => ?_) (fun b112 => ?_)
      · simp only [hs_cd, ab_not] at b112
        obtain ⟨x, y, hx1, hx2, hx3, hx4, rC2⟩ : ∃ x y, sp_cell ps (tk (j + 1 + 1)) (ta (j + 1 + 1)) (tk (j + 1 + 1 + 1)) (ta (j + 1 + 1 + 1)) = .inr (x, y) ∧ (∀ q, q ≠ 7 + k → q ≠ 13 + k → hv hC 185 q = hv hB 185 q) ∧ (hv hC 185 (7 + k)).toInt = x ∧ (hv hC 185 (13 + k)).toInt = y ∧ rt B n lim tk ta P hC (j + 1 + 1 + 2) := by
          rcases hrC with ⟨x, y, y1, -, y3, y4, y5, y6⟩ | ⟨k, a, -, y2, -⟩
          · exact ⟨x, y, y1, y3, y4, y5, y6⟩
          · omega
        clear hrC
        have FC : ab_fr MLM hC h := (fr_c2 (il_185 (by omega)) (il_185 (by omega)) (by decide +kernel) fC).tr FB
        have eC : (hv hC 185 (Int32.ofInt 0).toInt.toNat).toInt = ps.1 4 := by rw [kN_0, hx2 0 (by omega) (by omega), hv_same (fB 185 0 rfl), s5 0]; exact hP.1.1
        refine hs_aload_n ci_1672_117 l0 ?_
        refine hs_gfr 7 185 ci_1672_118 (by decide +kernel) hp ?_
        refine hs_iconst ci_1672_121 ?_
        refine hs_d2 ci_1672_122 rfl ?_
        refine hs_iaload 0 0 (0) (6) ci_1672_123 (by decide +kernel) hp (by decide) (by decide) (fun r123_1 r123_2 => ?_)
        refine hs_iconst ci_1672_124 ?_
        refine hs_iadd ci_1672_125 ?_
        refine hs_iastore 0 0 (0) (6) ci_1672_126 (by decide +kernel) hp (by decide) (by decide) (by rw [i32_inc eC (by omega) (by omega)]; omega) (by rw [i32_inc eC (by omega) (by omega)]; omega) ?_
        intro h126 w126
        replace hp := w126.1
        refine hs_iconst ci_1672_127 ?_
        have f126 : ab_fr [(185, 0, 88)] h126 hC := w126.fr (ab_inr_up (k1 := 0) (k2 := 88) rfl (by decide) (by decide))
        have F : ab_fr MLM h126 h := (fr_sub (by decide +kernel) f126).tr FC
        rw [kN_0] at w126
        have n0 : ∀ q, q ≠ 0 → hv h126 185 q = hv hC 185 q := fun q hq => by rw [w126.v, if_neg (fun g => hq g.2)]
        refine hs_k ⟨3, some (.int (Int32.ofInt 1)), by decide +kernel, rv_b rt_1672 (Or.inr (by decide)), ⟨hp, hq.2.fr (M := MLM) (by decide +kernel) F⟩, F, _, rfl, Or.inl ⟨_, j + 4, ?_, by decide, rC2.fr f126 (fun _ => rfl) ⟨rfl, rfl, rfl, rfl, rfl, rfl, rfl⟩, hP.man (k := k) (c := c) (x := x) (y := y) (by omega) ek ?_ (fun q q1 q2 q3 => ?_) ?_ ?_ (fun q q1 => ?_) ?_ (fun i => ?_)⟩⟩
        · unfold sp_man
          rw [if_neg (by omega), sbn_r hc1, sbn_r hx1]
        · rw [w126.v, if_pos ⟨rfl, rfl⟩, ← kN_0, i32_inc eC (by omega) (by omega)]
        · rw [n0 q q1, hx2 q q2 q3, hv_same (fB 185 q rfl), s5 q]
        · rw [n0 _ (by omega)]; exact hx3
        · rw [n0 _ (by omega)]; exact hx4
        · rw [hl_same (f126 187 q rfl), hl_same (fC 187 q rfl), hc2 q, if_neg q1, s7 q]
        · rw [hl_same (f126 187 _ rfl), hl_same (fC 187 _ rfl), hc2 _, if_pos rfl]; exact hc3
        · rw [hv_same (f126 182 20 rfl), hv_same (fC 182 20 rfl), hv_same (fB 182 20 rfl)]
          exact bA i
      · simp only [hs_cd, ab_not] at b112
        refine hs_iconst ci_1672_115 ?_
        rcases hrC with ⟨x, y, -, y2, -⟩ | ⟨k, a, y1, y2, y3⟩
        · omega
        · refine hs_k ⟨3, some (.int (Int32.ofInt 0)), by decide +kernel, rv_b rt_1672 (Or.inl (by decide)), qC, (fr_c2 (il_185 (by omega)) (il_185 (by omega)) (by decide +kernel) fC).tr FB, _, rfl, Or.inr ⟨k, a, ?_, by decide, y3⟩⟩
          unfold sp_man
          rw [if_neg (by omega), sbn_r hc1, sbn_l y1]
  · simp only [hs_cd, ab_not, kB_6] at b66
    refine hs_aload_n ci_1672_69 l0 ?_
    refine hs_iconst ci_1672_70 ?_
    refine hs_cv 1687 11 1 ci_1672_71 (by decide +kernel) (by decide +kernel) hp rfl (by rw [ml_1687]; rfl) (m_bad (Int32.ofInt 4) (by decide) hq hr) ?_
    rintro v9 h2 ⟨r2, e8, hr2, q2, f2, g2⟩
    rw [e8]
    clear e8 v9
    replace hp := q2.1
    simp only [Option.toList, List.cons_append, List.nil_append]
    rw [kN_0] at b66
    have e0 := hP.1.1
    rw [kI_4] at g2
    refine hs_k ⟨3, some (.int r2), by decide +kernel, rv_b rt_1672 (Or.inl hr2), q2, fr_sub (by decide +kernel) f2, _, rfl, Or.inr ⟨4, ta j, ?_, hr2, g2⟩⟩
    unfold sp_man
    rw [if_pos (by omega), ej]
theorem sg_clash {ls : eg_L} (ts : TS B n lim tk ta P) (hq : ab_hp h) (hw : rwok h) (hr : rt B n lim tk ta P h j) (hP : MP h ps) (l0 : eg_find 0 ls = some (.ref 182)) : hs sc sp 1672 11 (d + 1 + 1 + 1 + 1 + 1 + 1) (fun pc' _ st' h' => ∃ ik vo, ab_ret 1672 pc' = some ik ∧ eg_rv (eg_md 1672).2.2.2 ik st' = some vo ∧ lm_P B n lim tk ta P h (sp_clash tk ta ps (j + 1)) vo h') 154 ls [] h := by
  have hp := hq.1
  have hb9 := hP.2.2.2.2.2
  have ej : j + 1 - 1 = j := by omega

  refine hs_aload_n ci_1672_154 l0 ?_
  refine hs_gfr 7 185 ci_1672_155 (by decide +kernel) hp ?_
  refine hs_iconst ci_1672_158 ?_
  refine hs_iaload 4 4 (0) (8) ci_1672_159 (by decide +kernel) hp (by decide) (by decide) (fun r159_1 r159_2 => ?_)
  refine hs_bipush ci_1672_160 ?_
  refine hs_ic (t := 171) ci_1672_162 rfl (fun b162 => ?_) (fun b162 => ?_)
  · simp only [hs_cd, ab_not, kB_8] at b162
    refine hs_aload_n ci_1672_171 l0 ?_
    refine hs_cv 1658 11 0 ci_1672_172 (by decide +kernel) (by decide +kernel) hp rfl (by rw [ml_1658]; rfl) (m_next ts hq hr) ?_
    rintro v9 hA ⟨e8, qA, fA, rA⟩
    rw [e8]
    clear e8 v9
    replace hp := qA.1
    simp only [Option.toList, List.nil_append]
    have s5 : ∀ q, hv hA 185 q = hv h 185 q := fun q => hv_same (fA 185 q rfl)
    have wA : rwok hA := hw.fr fA (fun _ => rfl)
    have PA : MP hA ps := hP.fr fA (fun _ => rfl) (fun _ => rfl) rfl
    have e1A : (hv hA 185 (Int32.ofInt 1).toInt.toNat).toInt = ((ps.1 5).toNat : Int) := by
      rw [kN_1, PA.1.2.1]
      omega
    have e6 : ¬ ps.1 6 = 8 := fun g => b162 (by rw [kN_4, hP.1.2.2.2.2.1, g])
    refine hs_aload_n ci_1672_175 l0 ?_
    refine hs_bipush ci_1672_176 ?_
    refine hs_aload_n ci_1672_178 l0 ?_
    refine hs_gfr 7 185 ci_1672_179 (by decide +kernel) hp ?_
    refine hs_iconst ci_1672_182 ?_
    refine hs_iaload 1 1 (0) (10) ci_1672_183 (by decide +kernel) hp (by decide) (by decide) (fun r183_1 r183_2 => ?_)
    refine hs_cv 1726 11 2 ci_1672_184 (by decide +kernel) (by decide +kernel) hp rfl (by rw [ml_1726]; rfl) (m_takesN (ps := ps) (fr := 22) (many := (ps.1 5).toNat) (k := 3) (nn := 5) kB_22 e1A (by omega) rfl (fun a ha => PA.sfp ha) ts qA wA rA) ?_
    rintro v9 hB ⟨qB, fB, rB, e8, hrB⟩
    rw [e8]
    clear e8 v9
    replace hp := qB.1
    simp only [Option.toList, List.cons_append, List.nil_append]
    refine hs_if (t := 192) ci_1672_187 rfl (fun b187 => ?_) (fun b187 => ?_)
    · simp only [hs_cd, ab_not] at b187
      obtain ⟨p, hp1, hp2, rB2⟩ : ∃ g, sp_old ps 3 5 (tk (j + 1)) (ta (j + 1)) = .inr g ∧ (hv hB 182 18).toInt = g ∧ rt B n lim tk ta P hB (j + 1 + 1) := by
        rcases hrB with ⟨g, y1, -, y3, y4⟩ | ⟨k, a, -, y2, -⟩
        · exact ⟨g, y1, y3, y4⟩
        · omega
      clear hrB
      have bp := sp_old_b hp1
      have wB : rwok hB := wA.fr fB (fun _ => rfl)
      have PB : MP hB ps := PA.fr fB (fun _ => rfl) (fun _ => rfl) rfl
      have e1B : (hv hB 185 (Int32.ofInt 1).toInt.toNat).toInt = ((ps.1 5).toNat : Int) := by
        rw [kN_1, PB.1.2.1]
        omega
      refine hs_aload_n ci_1672_192 l0 ?_
      refine hs_gfi 18 ci_1672_193 (by decide +kernel) hp ?_
      refine hs_istore2_n ci_1672_196 (by decide +kernel) ?_
      intro ls9 q9
      replace l0 := q9.2 0 _ (by decide) (Or.inl rfl) l0
      have l1 := q9.1
      clear q9
      refine hs_aload_n ci_1672_197 l0 ?_
      refine hs_bipush ci_1672_198 ?_
      refine hs_aload_n ci_1672_200 l0 ?_
      refine hs_gfr 7 185 ci_1672_201 (by decide +kernel) hp ?_
      refine hs_iconst ci_1672_204 ?_
      refine hs_iaload 1 1 (0) (10) ci_1672_205 (by decide +kernel) hp (by decide) (by decide) (fun r205_1 r205_2 => ?_)
      refine hs_cv 1730 11 2 ci_1672_206 (by decide +kernel) (by decide +kernel) hp rfl (by rw [ml_1730]; rfl) (m_looks (ps := ps) (fr := 22) (many := (ps.1 5).toNat) (k := 3) (nn := 5) kB_22 e1B (by omega) rfl (fun a ha => PB.sfp ha) qB wB rB2) ?_
      rintro v9 hC ⟨qC, fC, rC, e8, hrC⟩
      rw [e8]
      clear e8 v9
      replace hp := qC.1
      simp only [Option.toList, List.cons_append, List.nil_append]
      refine hs_if (t := 214) ci_1672_209 rfl (fun b209 => ?_) (fun b209 => ?_)
      · simp only [hs_cd, ab_not] at b209
        obtain ⟨q, hq1, hq2, rC2⟩ : ∃ g, sp_old ps 3 5 (tk (j + 1 + 1)) (ta (j + 1 + 1)) = .inr g ∧ (hv hC 182 18).toInt = g ∧ rt B n lim tk ta P hC (j + 1 + 1) := by
          rcases hrC with ⟨g, y1, -, y3, y4⟩ | ⟨k, a, -, y2, -⟩
          · exact ⟨g, y1, y3, y4⟩
          · omega
        clear hrC
        have bq := sp_old_b hq1
        have PC : MP hC ps := PB.fr fC (fun _ => rfl) (fun _ => rfl) rfl
        have FC : ab_fr MLM hC h := (fr_sub (by decide +kernel) fC).tr ((fr_sub (by decide +kernel) fB).tr (fr_sub (by decide +kernel) fA))
        have ep : (hv hB 182 18).toInt = ((p.toNat : Nat) : Int) := by omega
        have eq9 : (hv hC 182 18).toInt = ((q.toNat : Nat) : Int) := by omega
        have xp : ((Int8.ofInt 79).toInt32 + hv hB 182 18).toInt = 79 + (p.toNat : Int) := i32_add kB_79 ep (by omega) (by omega)
        have xq : ((Int8.ofInt 79).toInt32 + hv hC 182 18).toInt = 79 + (q.toNat : Int) := i32_add kB_79 eq9 (by omega) (by omega)
        have xp2 : ((Int8.ofInt 79).toInt32 + hv hB 182 18).toInt.toNat = 79 + p.toNat := by omega
        have xq2 : ((Int8.ofInt 79).toInt32 + hv hC 182 18).toInt.toNat = 79 + q.toNat := by omega
        refine hs_aload_n ci_1672_214 l0 ?_
        refine hs_gfi 18 ci_1672_215 (by decide +kernel) hp ?_
        refine hs_iload_n ci_1672_218 l1 ?_
        refine hs_ic (t := 241) ci_1672_219 rfl (fun b219 => ?_) (fun b219 => ?_)
        · simp only [hs_cd, ab_not] at b219
          refine hs_aload_n ci_1672_241 l0 ?_
          refine hs_iconst ci_1672_242 ?_
          refine hs_cv 1687 11 1 ci_1672_243 (by decide +kernel) (by decide +kernel) hp rfl (by rw [ml_1687]; rfl) (m_bad (Int32.ofInt 3) (by decide) qC rC2) ?_
          rintro v9 h2 ⟨r2, e8, hr2, q2, f2, g2⟩
          rw [e8]
          clear e8 v9
          replace hp := q2.1
          simp only [Option.toList, List.cons_append, List.nil_append]
          rw [kI_3] at g2
          refine hs_k ⟨3, some (.int r2), by decide +kernel, rv_b rt_1672 (Or.inl hr2), q2, (fr_sub (by decide +kernel) f2).tr FC, _, rfl, Or.inr ⟨3, ta (j + 1 + 1), ?_, hr2, g2⟩⟩
          unfold sp_clash
          rw [if_neg (by omega), sbn_r hp1, sbn_r hq1, if_pos (Or.inl (by omega))]
        · simp only [hs_cd, ab_not] at b219
          refine hs_aload_n ci_1672_222 l0 ?_
          refine hs_gfr 7 185 ci_1672_223 (by decide +kernel) hp ?_
          refine hs_bipush ci_1672_226 ?_
          refine hs_iload_n ci_1672_228 l1 ?_
          refine hs_iadd ci_1672_229 ?_
          refine hs_iaload 79 88 (-2147483648) (2147483647) ci_1672_230 (by decide +kernel) hp (by omega) (by omega) (fun r230_1 r230_2 => ?_)
          refine hs_aload_n ci_1672_231 l0 ?_
          refine hs_gfi 18 ci_1672_232 (by decide +kernel) hp ?_
          refine hs_cs 1683 11 2 ci_1672_235 (by decide +kernel) rfl (by rw [ml_1683]; rfl) (m_bit (hv hC 185 ((Int8.ofInt 79).toInt32 + hv hB 182 18).toInt.toNat) eq9 (by omega)) ?_
          rintro v9 h9 ⟨e9, rT, e8, hrT⟩
          rw [e8, e9]
          clear e8 e9 v9 h9
          rw [xp2] at hrT
          simp only [Option.toList, List.cons_append, List.nil_append]
          refine hs_if (t := 247) ci_1672_238 rfl (fun b238 => ?_) (fun b238 => ?_)
          · simp only [hs_cd, ab_not] at b238
            have nf : ¬ fb (hv hC 185 (79 + p.toNat)) q.toNat = true := by
              rcases hrT with ⟨y, -⟩ | ⟨-, y⟩
              · omega
              · exact y
            refine hs_aload_n ci_1672_247 l0 ?_
            refine hs_gfr 7 185 ci_1672_248 (by decide +kernel) hp ?_
            refine hs_bipush ci_1672_251 ?_
            refine hs_iload_n ci_1672_253 l1 ?_
            refine hs_iadd ci_1672_254 ?_
            refine hs_d2 ci_1672_255 rfl ?_
            refine hs_iaload 79 88 (-2147483648) (2147483647) ci_1672_256 (by decide +kernel) hp (by omega) (by omega) (fun r256_1 r256_2 => ?_)
            refine hs_iconst ci_1672_257 ?_
            refine hs_aload_n ci_1672_258 l0 ?_
            refine hs_gfi 18 ci_1672_259 (by decide +kernel) hp ?_
            refine hs_ishl ci_1672_262 ?_
            refine hs_ior ci_1672_263 ?_
            refine hs_iastore 79 88 (-2147483648) (2147483647) ci_1672_264 (by decide +kernel) hp (by omega) (by omega) (ab_ige _) (ab_ile _) ?_
            intro h264 w264
            replace hp := w264.1
            have f264 : ab_fr [(185, 0, 88)] h264 hC := w264.fr (ab_inr_up (k1 := 0) (k2 := 88) rfl (by omega) (by omega))
            have g18 : hv h264 182 18 = hv hC 182 18 := hv_same (f264 182 18 rfl)
            refine hs_aload_n ci_1672_265 l0 ?_
            refine hs_gfr 7 185 ci_1672_266 (by decide +kernel) hp ?_
            refine hs_bipush ci_1672_269 ?_
            refine hs_aload_n ci_1672_271 l0 ?_
            refine hs_gfi 18 ci_1672_272 (by decide +kernel) hp ?_
            refine hs_iadd ci_1672_275 ?_
            refine hs_d2 ci_1672_276 rfl ?_
            refine hs_iaload 79 88 (-2147483648) (2147483647) ci_1672_277 (by decide +kernel) hp (by rw [g18]; omega) (by rw [g18]; omega) (fun r277_1 r277_2 => ?_)
            refine hs_iconst ci_1672_278 ?_
            refine hs_iload_n ci_1672_279 l1 ?_
            refine hs_ishl ci_1672_280 ?_
            refine hs_ior ci_1672_281 ?_
            refine hs_iastore 79 88 (-2147483648) (2147483647) ci_1672_282 (by decide +kernel) hp (by rw [g18]; omega) (by rw [g18]; omega) (ab_ige _) (ab_ile _) ?_
            intro h282 w282
            replace hp := w282.1
            rw [xp2] at w264
            rw [g18, xq2] at w282
            have f282 : ab_fr [(185, 0, 88)] h282 h264 := w282.fr (ab_inr_up (k1 := 0) (k2 := 88) rfl (by omega) (by omega))
            have n4 : (hv h282 185 (Int32.ofInt 4).toInt.toNat).toInt = ps.1 6 := by rw [kN_4, w282.v, if_neg (by omega), w264.v, if_neg (by omega)]; exact PC.1.2.2.2.2.1
            refine hs_aload_n ci_1672_283 l0 ?_
            refine hs_gfr 7 185 ci_1672_284 (by decide +kernel) hp ?_
            refine hs_iconst ci_1672_287 ?_
            refine hs_d2 ci_1672_288 rfl ?_
            refine hs_iaload 4 4 (0) (8) ci_1672_289 (by decide +kernel) hp (by decide) (by decide) (fun r289_1 r289_2 => ?_)
            refine hs_iconst ci_1672_290 ?_
            refine hs_iadd ci_1672_291 ?_
            refine hs_iastore 4 4 (0) (8) ci_1672_292 (by decide +kernel) hp (by decide) (by decide) (by rw [i32_inc n4 (by omega) (by omega)]; omega) (by rw [i32_inc n4 (by omega) (by omega)]; omega) ?_
            intro h292 w292
            replace hp := w292.1
            have f292 : ab_fr [(185, 0, 88)] h292 h282 := w292.fr (ab_inr_up (k1 := 0) (k2 := 88) rfl (by decide) (by decide))
            rw [kN_4] at w292
            have fD : ab_fr [(185, 0, 88)] h292 hC := f292.tr (f282.tr f264)
            have q292 : ab_hp h292 := ⟨hp, qC.2.fr (M := [(185, 0, 88)]) (by decide +kernel) fD⟩
            have r292 : rt B n lim tk ta P h292 (j + 1 + 1) := rC2.fr fD (fun _ => rfl) ⟨rfl, rfl, rfl, rfl, rfl, rfl, rfl⟩
            refine hs_aload_n ci_1672_293 l0 ?_
            refine hs_cv 1658 11 0 ci_1672_294 (by decide +kernel) (by decide +kernel) hp rfl (by rw [ml_1658]; rfl) (m_next ts q292 r292) ?_
            rintro v9 hE ⟨e8, qE, fE, rE⟩
            rw [e8]
            clear e8 v9
            replace hp := qE.1
            simp only [Option.toList, List.nil_append]
            refine hs_iconst ci_1672_297 ?_
            have F : ab_fr MLM hE h := (fr_sub (by decide +kernel) fE).tr ((fr_sub (by decide +kernel) fD).tr FC)
            have hC0 : ∀ i, hv hC 185 i = hv h 185 i := fun i => by rw [hv_same (fC 185 i rfl), hv_same (fB 185 i rfl), hv_same (fA 185 i rfl)]
            refine hs_k ⟨3, some (.int (Int32.ofInt 1)), by decide +kernel, rv_b rt_1672 (Or.inr (by decide)), qE, F, _, rfl, Or.inl ⟨_, j + 3, ?_, by decide, rE, hP.clash (p := p.toNat) (q := q.toNat) (by omega) ?_ (fun i i1 i2 => ?_) (fun i => ?_) ?_ (fun r hr i => ?_)⟩⟩
            · unfold sp_clash
              rw [if_neg (by omega), sbn_r hp1, sbn_r hq1, if_neg]
              rintro (g | g)
              · omega
              · exact nf ((PC.2.2.2.2.1 p.toNat (by omega) q.toNat).mpr g)
            · rw [hv_same (fE 185 4 rfl), w292.v, if_pos ⟨rfl, rfl⟩, ← kN_4, i32_inc n4 (by omega) (by omega)]
            · rw [hv_same (fE 185 i rfl), w292.v, if_neg (fun g => i1 g.2), w282.v, if_neg (by omega), w264.v, if_neg (by omega), hC0]
            · rw [hl_same (fE 187 i rfl), hl_same (fD 187 i rfl), hl_same (fC 187 i rfl), hl_same (fB 187 i rfl), hl_same (fA 187 i rfl)]
            · rw [hv_same (fE 182 20 rfl), hv_same (fD 182 20 rfl), hv_same (fC 182 20 rfl), hv_same (fB 182 20 rfl), hv_same (fA 182 20 rfl)]
            · rw [hv_same (fE 185 _ rfl), w292.v, if_neg (by omega), w282.v, ← hC0]
              by_cases e1 : r = q.toNat
              · rw [if_pos ⟨rfl, by omega⟩, fb_oi ep (by omega), w264.v, if_neg (by omega), e1]
                constructor
                · rintro (g | g)
                  · exact Or.inl g
                  · exact Or.inr (Or.inr ⟨rfl, g⟩)
                · rintro (g | g | g)
                  · exact Or.inl g
                  · omega
                  · exact Or.inr g.2
              · rw [if_neg (by omega), w264.v]
                by_cases e2 : r = p.toNat
                · rw [if_pos ⟨rfl, by omega⟩, fb_oi eq9 (by omega), e2]
                  constructor
                  · rintro (g | g)
                    · exact Or.inl g
                    · exact Or.inr (Or.inl ⟨rfl, g⟩)
                  · rintro (g | g | g)
                    · exact Or.inl g
                    · exact Or.inr g.2
                    · omega
                · rw [if_neg (by omega)]
                  constructor
                  · intro g
                    exact Or.inl g
                  · rintro (g | g | g)
                    · exact g
                    · omega
                    · omega
          · simp only [hs_cd, ab_not] at b238
            refine hs_aload_n ci_1672_241 l0 ?_
            refine hs_iconst ci_1672_242 ?_
            refine hs_cv 1687 11 1 ci_1672_243 (by decide +kernel) (by decide +kernel) hp rfl (by rw [ml_1687]; rfl) (m_bad (Int32.ofInt 3) (by decide) qC rC2) ?_
            rintro v9 h2 ⟨r2, e8, hr2, q2, f2, g2⟩
            rw [e8]
            clear e8 v9
            replace hp := q2.1
            simp only [Option.toList, List.cons_append, List.nil_append]
            rw [kI_3] at g2
            refine hs_k ⟨3, some (.int r2), by decide +kernel, rv_b rt_1672 (Or.inl hr2), q2, (fr_sub (by decide +kernel) f2).tr FC, _, rfl, Or.inr ⟨3, ta (j + 1 + 1), ?_, hr2, g2⟩⟩
            unfold sp_clash
            rw [if_neg (by omega), sbn_r hp1, sbn_r hq1, if_pos (Or.inr ((PC.2.2.2.2.1 p.toNat (by omega) q.toNat).mp (by
              rcases hrT with ⟨-, y⟩ | ⟨y, -⟩
              · exact y
              · omega)))]
      · simp only [hs_cd, ab_not] at b209
        refine hs_iconst ci_1672_212 ?_
        rcases hrC with ⟨g, -, y2, -⟩ | ⟨k, a, y1, y2, y3⟩
        · omega
        · refine hs_k ⟨3, some (.int (Int32.ofInt 0)), by decide +kernel, rv_b rt_1672 (Or.inl (by decide)), qC, (fr_sub (by decide +kernel) fC).tr ((fr_sub (by decide +kernel) fB).tr (fr_sub (by decide +kernel) fA)), _, rfl, Or.inr ⟨k, a, ?_, by decide, y3⟩⟩
          unfold sp_clash
          rw [if_neg (by omega), sbn_r hp1, sbn_l y1]
    · simp only [hs_cd, ab_not] at b187
      refine hs_iconst ci_1672_190 ?_
      rcases hrB with ⟨g, -, y2, -⟩ | ⟨k, a, y1, y2, y3⟩
      · omega
      · refine hs_k ⟨3, some (.int (Int32.ofInt 0)), by decide +kernel, rv_b rt_1672 (Or.inl (by decide)), qB, (fr_sub (by decide +kernel) fB).tr (fr_sub (by decide +kernel) fA), _, rfl, Or.inr ⟨k, a, ?_, by decide, y3⟩⟩
        unfold sp_clash
        rw [if_neg (by omega), sbn_l y1]
  · simp only [hs_cd, ab_not, kB_8] at b162
    refine hs_aload_n ci_1672_165 l0 ?_
    refine hs_iconst ci_1672_166 ?_
    refine hs_cv 1687 11 1 ci_1672_167 (by decide +kernel) (by decide +kernel) hp rfl (by rw [ml_1687]; rfl) (m_bad (Int32.ofInt 4) (by decide) hq hr) ?_
    rintro v9 h2 ⟨r2, e8, hr2, q2, f2, g2⟩
    rw [e8]
    clear e8 v9
    replace hp := q2.1
    simp only [Option.toList, List.cons_append, List.nil_append]
    rw [kN_4] at b162
    have e0 := hP.1.2.2.2.2.1
    rw [kI_4] at g2
    refine hs_k ⟨3, some (.int r2), by decide +kernel, rv_b rt_1672 (Or.inl hr2), q2, fr_sub (by decide +kernel) f2, _, rfl, Or.inr ⟨4, ta j, ?_, hr2, g2⟩⟩
    unfold sp_clash
    rw [if_pos (by omega), ej]
end RH
