/-! BY HAND: a headland copied, with names and givers -/
theorem ci_835_58 : ab_at 835 58 (.iload_n 2) 1 = true := by decide +kernel
theorem ci_835_59 : ab_at 835 59 (.bipush 6) 2 = true := by decide +kernel
theorem ci_835_61 : ab_at 835 61 (.if_icmp .ge 45) 3 = true := by decide +kernel
theorem ci_835_64 : ab_at 835 64 (.aload_n 0) 1 = true := by decide +kernel
theorem ci_835_65 : ab_at 835 65 (.getfield 33) 3 = true := by decide +kernel
theorem ci_835_68 : ab_at 835 68 (.iload_n 2) 1 = true := by decide +kernel
theorem ci_835_69 : ab_at 835 69 (.aload_n 1) 1 = true := by decide +kernel
theorem ci_835_70 : ab_at 835 70 (.getfield 33) 3 = true := by decide +kernel
theorem ci_835_73 : ab_at 835 73 (.iload_n 2) 1 = true := by decide +kernel
theorem ci_835_74 : ab_at 835 74 (.laload) 1 = true := by decide +kernel
theorem ci_835_75 : ab_at 835 75 (.lastore) 1 = true := by decide +kernel
theorem ci_835_76 : ab_at 835 76 (.aload_n 0) 1 = true := by decide +kernel
theorem ci_835_77 : ab_at 835 77 (.getfield 37) 3 = true := by decide +kernel
theorem ci_835_80 : ab_at 835 80 (.iload_n 2) 1 = true := by decide +kernel
theorem ci_835_81 : ab_at 835 81 (.aload_n 1) 1 = true := by decide +kernel
theorem ci_835_82 : ab_at 835 82 (.getfield 37) 3 = true := by decide +kernel
theorem ci_835_85 : ab_at 835 85 (.iload_n 2) 1 = true := by decide +kernel
theorem ci_835_86 : ab_at 835 86 (.iaload) 1 = true := by decide +kernel
theorem ci_835_87 : ab_at 835 87 (.iastore) 1 = true := by decide +kernel
theorem ci_835_88 : ab_at 835 88 (.aload_n 0) 1 = true := by decide +kernel
theorem ci_835_89 : ab_at 835 89 (.getfield 41) 3 = true := by decide +kernel
theorem ci_835_92 : ab_at 835 92 (.iload_n 2) 1 = true := by decide +kernel
theorem ci_835_93 : ab_at 835 93 (.aload_n 1) 1 = true := by decide +kernel
theorem ci_835_94 : ab_at 835 94 (.getfield 41) 3 = true := by decide +kernel
theorem ci_835_97 : ab_at 835 97 (.iload_n 2) 1 = true := by decide +kernel
theorem ci_835_98 : ab_at 835 98 (.iaload) 1 = true := by decide +kernel
theorem ci_835_99 : ab_at 835 99 (.iastore) 1 = true := by decide +kernel
theorem ci_835_100 : ab_at 835 100 (.iinc 2 1) 3 = true := by decide +kernel
theorem ci_835_103 : ab_at 835 103 (.goto (-45)) 3 = true := by decide +kernel
theorem ci_835_106 : ab_at 835 106 (.iconst 0) 1 = true := by decide +kernel
theorem ci_835_107 : ab_at 835 107 (.istore_n 2) 1 = true := by decide +kernel
theorem ci_835_108 : ab_at 835 108 (.iload_n 2) 1 = true := by decide +kernel
theorem ci_835_109 : ab_at 835 109 (.bipush 10) 2 = true := by decide +kernel
theorem ci_835_111 : ab_at 835 111 (.if_icmp .ge 129) 3 = true := by decide +kernel
theorem ci_835_114 : ab_at 835 114 (.aload_n 0) 1 = true := by decide +kernel
theorem ci_835_115 : ab_at 835 115 (.getfield 44) 3 = true := by decide +kernel
theorem ci_835_118 : ab_at 835 118 (.iload_n 2) 1 = true := by decide +kernel
theorem ci_835_119 : ab_at 835 119 (.aload_n 1) 1 = true := by decide +kernel
theorem ci_835_120 : ab_at 835 120 (.getfield 44) 3 = true := by decide +kernel
theorem ci_835_123 : ab_at 835 123 (.iload_n 2) 1 = true := by decide +kernel
theorem ci_835_124 : ab_at 835 124 (.laload) 1 = true := by decide +kernel
theorem ci_835_125 : ab_at 835 125 (.lastore) 1 = true := by decide +kernel
theorem ci_835_126 : ab_at 835 126 (.aload_n 0) 1 = true := by decide +kernel
theorem ci_835_127 : ab_at 835 127 (.getfield 47) 3 = true := by decide +kernel
theorem ci_835_130 : ab_at 835 130 (.iload_n 2) 1 = true := by decide +kernel
theorem ci_835_131 : ab_at 835 131 (.aload_n 1) 1 = true := by decide +kernel
theorem ci_835_132 : ab_at 835 132 (.getfield 47) 3 = true := by decide +kernel
theorem ci_835_135 : ab_at 835 135 (.iload_n 2) 1 = true := by decide +kernel
theorem ci_835_136 : ab_at 835 136 (.iaload) 1 = true := by decide +kernel
theorem ci_835_137 : ab_at 835 137 (.iastore) 1 = true := by decide +kernel
theorem ci_835_138 : ab_at 835 138 (.aload_n 0) 1 = true := by decide +kernel
theorem ci_835_139 : ab_at 835 139 (.getfield 50) 3 = true := by decide +kernel
theorem ci_835_142 : ab_at 835 142 (.iload_n 2) 1 = true := by decide +kernel
theorem ci_835_143 : ab_at 835 143 (.aload_n 1) 1 = true := by decide +kernel
theorem ci_835_144 : ab_at 835 144 (.getfield 50) 3 = true := by decide +kernel
theorem ci_835_147 : ab_at 835 147 (.iload_n 2) 1 = true := by decide +kernel
theorem ci_835_148 : ab_at 835 148 (.iaload) 1 = true := by decide +kernel
theorem ci_835_149 : ab_at 835 149 (.iastore) 1 = true := by decide +kernel
theorem ci_835_150 : ab_at 835 150 (.aload_n 0) 1 = true := by decide +kernel
theorem ci_835_151 : ab_at 835 151 (.getfield 53) 3 = true := by decide +kernel
theorem ci_835_154 : ab_at 835 154 (.iload_n 2) 1 = true := by decide +kernel
theorem ci_835_155 : ab_at 835 155 (.aload_n 1) 1 = true := by decide +kernel
theorem ci_835_156 : ab_at 835 156 (.getfield 53) 3 = true := by decide +kernel
theorem ci_835_159 : ab_at 835 159 (.iload_n 2) 1 = true := by decide +kernel
theorem ci_835_160 : ab_at 835 160 (.iaload) 1 = true := by decide +kernel
theorem ci_835_161 : ab_at 835 161 (.iastore) 1 = true := by decide +kernel
theorem ci_835_162 : ab_at 835 162 (.aload_n 0) 1 = true := by decide +kernel
theorem ci_835_163 : ab_at 835 163 (.getfield 56) 3 = true := by decide +kernel
theorem ci_835_166 : ab_at 835 166 (.iload_n 2) 1 = true := by decide +kernel
theorem ci_835_167 : ab_at 835 167 (.aload_n 1) 1 = true := by decide +kernel
theorem ci_835_168 : ab_at 835 168 (.getfield 56) 3 = true := by decide +kernel
theorem ci_835_171 : ab_at 835 171 (.iload_n 2) 1 = true := by decide +kernel
theorem ci_835_172 : ab_at 835 172 (.iaload) 1 = true := by decide +kernel
theorem ci_835_173 : ab_at 835 173 (.iastore) 1 = true := by decide +kernel
theorem ci_835_174 : ab_at 835 174 (.aload_n 0) 1 = true := by decide +kernel
theorem ci_835_175 : ab_at 835 175 (.getfield 59) 3 = true := by decide +kernel
theorem ci_835_178 : ab_at 835 178 (.iload_n 2) 1 = true := by decide +kernel
theorem ci_835_179 : ab_at 835 179 (.aload_n 1) 1 = true := by decide +kernel
theorem ci_835_180 : ab_at 835 180 (.getfield 59) 3 = true := by decide +kernel
theorem ci_835_183 : ab_at 835 183 (.iload_n 2) 1 = true := by decide +kernel
theorem ci_835_184 : ab_at 835 184 (.iaload) 1 = true := by decide +kernel
theorem ci_835_185 : ab_at 835 185 (.iastore) 1 = true := by decide +kernel
theorem ci_835_186 : ab_at 835 186 (.aload_n 0) 1 = true := by decide +kernel
theorem ci_835_187 : ab_at 835 187 (.getfield 62) 3 = true := by decide +kernel
theorem ci_835_190 : ab_at 835 190 (.iload_n 2) 1 = true := by decide +kernel
theorem ci_835_191 : ab_at 835 191 (.aload_n 1) 1 = true := by decide +kernel
theorem ci_835_192 : ab_at 835 192 (.getfield 62) 3 = true := by decide +kernel
theorem ci_835_195 : ab_at 835 195 (.iload_n 2) 1 = true := by decide +kernel
theorem ci_835_196 : ab_at 835 196 (.iaload) 1 = true := by decide +kernel
theorem ci_835_197 : ab_at 835 197 (.iastore) 1 = true := by decide +kernel
theorem ci_835_198 : ab_at 835 198 (.aload_n 0) 1 = true := by decide +kernel
theorem ci_835_199 : ab_at 835 199 (.getfield 65) 3 = true := by decide +kernel
theorem ci_835_202 : ab_at 835 202 (.iload_n 2) 1 = true := by decide +kernel
theorem ci_835_203 : ab_at 835 203 (.aload_n 1) 1 = true := by decide +kernel
theorem ci_835_204 : ab_at 835 204 (.getfield 65) 3 = true := by decide +kernel
theorem ci_835_207 : ab_at 835 207 (.iload_n 2) 1 = true := by decide +kernel
theorem ci_835_208 : ab_at 835 208 (.iaload) 1 = true := by decide +kernel
theorem ci_835_209 : ab_at 835 209 (.iastore) 1 = true := by decide +kernel
theorem ci_835_210 : ab_at 835 210 (.aload_n 0) 1 = true := by decide +kernel
theorem ci_835_211 : ab_at 835 211 (.getfield 68) 3 = true := by decide +kernel
theorem ci_835_214 : ab_at 835 214 (.iload_n 2) 1 = true := by decide +kernel
theorem ci_835_215 : ab_at 835 215 (.aload_n 1) 1 = true := by decide +kernel
theorem ci_835_216 : ab_at 835 216 (.getfield 68) 3 = true := by decide +kernel
theorem ci_835_219 : ab_at 835 219 (.iload_n 2) 1 = true := by decide +kernel
theorem ci_835_220 : ab_at 835 220 (.iaload) 1 = true := by decide +kernel
theorem ci_835_221 : ab_at 835 221 (.iastore) 1 = true := by decide +kernel
theorem ci_835_222 : ab_at 835 222 (.aload_n 0) 1 = true := by decide +kernel
theorem ci_835_223 : ab_at 835 223 (.getfield 71) 3 = true := by decide +kernel
theorem ci_835_226 : ab_at 835 226 (.iload_n 2) 1 = true := by decide +kernel
theorem ci_835_227 : ab_at 835 227 (.aload_n 1) 1 = true := by decide +kernel
theorem ci_835_228 : ab_at 835 228 (.getfield 71) 3 = true := by decide +kernel
theorem ci_835_231 : ab_at 835 231 (.iload_n 2) 1 = true := by decide +kernel
theorem ci_835_232 : ab_at 835 232 (.iaload) 1 = true := by decide +kernel
theorem ci_835_233 : ab_at 835 233 (.iastore) 1 = true := by decide +kernel
theorem ci_835_234 : ab_at 835 234 (.iinc 2 1) 3 = true := by decide +kernel
theorem ci_835_237 : ab_at 835 237 (.goto (-129)) 3 = true := by decide +kernel
def cq_P (M : ab_M) (h : eg_H) (a b : Nat) (vo : Option Value) (h' : eg_H) : Prop := vo = none ∧ ab_hp h' ∧ ab_fr M h' h ∧ (∀ i, i < 7 → hv h' a i = hv h b i) ∧ (∀ k, k < 6 → hl h' (a + 1) k = hl h (b + 1) k) ∧ ∀ k, k < 10 → hl h' (a + 4) k = hl h (b + 4) k ∧ hv h' (a + 5) k = hv h (b + 5) k
theorem cq2_8_23 {sc : List Value} {sp d : Nat} {h : eg_H} (hqh : ab_hp h) : ∀ (n i : Nat) (x : Int32) (ls : eg_L) (h1 : eg_H), i + n = 10 → x.toInt = (i : Int) → eg_find 0 ls = some (.ref 8) → eg_find 1 ls = some (.ref 23) → eg_find 2 ls = some (.int x) → ab_hp0 h1 → ab_fr MC_8_23 h1 h → (∀ i, i < 7 → hv h1 8 i = hv h 23 i) → (∀ k, k < 6 → hl h1 9 k = hl h 24 k) → (∀ k, k < i → hl h1 12 k = hl h 27 k ∧ hv h1 13 k = hv h 28 k) → hs sc sp 835 1 d (fun pc' _ st' h' => ∃ ik vo, ab_ret 835 pc' = some ik ∧ eg_rv (eg_md 835).2.2.2 ik st' = some vo ∧ cq_P MC_8_23 h 8 23 vo h') 108 ls [] h1 := by
  intro n
  induction n with
  | zero =>
    intro i x ls h1 hi hx l0 l1 l2 hp f1 hS hN hG
    refine hs_iload_n ci_835_108 l2 ?_
    refine hs_bipush ci_835_109 ?_
    refine hs_ic (t := 240) ci_835_111 rfl (fun b111 => ?_) (fun b111 => ?_)
    · simp only [hs_cd, ab_not, kB_10] at b111
      exact hs_k ⟨5, none, by decide +kernel, by rw [rt_835]; rfl, rfl, ⟨hp, hqh.2.fr (M := MC_8_23) (by decide +kernel) f1⟩, f1, hS, hN, fun k hk => hG k (by omega)⟩
    · simp only [hs_cd, ab_not, kB_10] at b111
      omega
  | succ n ih =>
    intro i x ls h1 hi hx l0 l1 l2 hp f1 hS hN hG
    refine hs_iload_n ci_835_108 l2 ?_
    refine hs_bipush ci_835_109 ?_
    refine hs_ic (t := 240) ci_835_111 rfl (fun b111 => ?_) (fun b111 => ?_)
    · simp only [hs_cd, ab_not, kB_10] at b111
      omega
    · simp only [hs_cd, ab_not, kB_10] at b111
      refine hs_aload_n ci_835_114 l0 ?_
      refine hs_gfr 10 12 ci_835_115 (by decide +kernel) hp ?_
      refine hs_iload_n ci_835_118 l2 ?_
      refine hs_aload_n ci_835_119 l1 ?_
      refine hs_gfr 10 27 ci_835_120 (by decide +kernel) hp ?_
      refine hs_iload_n ci_835_123 l2 ?_
      refine hs_laload 10 ci_835_124 (by decide +kernel) hp (by omega) (by omega) ?_
      refine hs_lastore 10 ci_835_125 (by decide +kernel) hp (by omega) (by omega) ?_
      intro h125 w125
      replace hp := w125.1
      refine hs_aload_n ci_835_126 l0 ?_
      refine hs_gfr 11 13 ci_835_127 (by decide +kernel) hp ?_
      refine hs_iload_n ci_835_130 l2 ?_
      refine hs_aload_n ci_835_131 l1 ?_
      refine hs_gfr 11 28 ci_835_132 (by decide +kernel) hp ?_
      refine hs_iload_n ci_835_135 l2 ?_
      refine hs_iaload 0 9 (0) (5) ci_835_136 (by decide +kernel) hp (by omega) (by omega) (fun r136_1 r136_2 => ?_)
      refine hs_iastore 0 9 (0) (5) ci_835_137 (by decide +kernel) hp (by omega) (by omega) r136_1 r136_2 ?_
      intro h137 w137
      replace hp := w137.1
      refine hs_aload_n ci_835_138 l0 ?_
      refine hs_gfr 12 14 ci_835_139 (by decide +kernel) hp ?_
      refine hs_iload_n ci_835_142 l2 ?_
      refine hs_aload_n ci_835_143 l1 ?_
      refine hs_gfr 12 29 ci_835_144 (by decide +kernel) hp ?_
      refine hs_iload_n ci_835_147 l2 ?_
      refine hs_iaload 0 9 (0) (5) ci_835_148 (by decide +kernel) hp (by omega) (by omega) (fun r148_1 r148_2 => ?_)
      refine hs_iastore 0 9 (0) (5) ci_835_149 (by decide +kernel) hp (by omega) (by omega) r148_1 r148_2 ?_
      intro h149 w149
      replace hp := w149.1
      refine hs_aload_n ci_835_150 l0 ?_
      refine hs_gfr 13 15 ci_835_151 (by decide +kernel) hp ?_
      refine hs_iload_n ci_835_154 l2 ?_
      refine hs_aload_n ci_835_155 l1 ?_
      refine hs_gfr 13 30 ci_835_156 (by decide +kernel) hp ?_
      refine hs_iload_n ci_835_159 l2 ?_
      refine hs_iaload 0 9 (-2147483648) (2147483647) ci_835_160 (by decide +kernel) hp (by omega) (by omega) (fun r160_1 r160_2 => ?_)
      refine hs_iastore 0 9 (-2147483648) (2147483647) ci_835_161 (by decide +kernel) hp (by omega) (by omega) r160_1 r160_2 ?_
      intro h161 w161
      replace hp := w161.1
      refine hs_aload_n ci_835_162 l0 ?_
      refine hs_gfr 14 16 ci_835_163 (by decide +kernel) hp ?_
      refine hs_iload_n ci_835_166 l2 ?_
      refine hs_aload_n ci_835_167 l1 ?_
      refine hs_gfr 14 31 ci_835_168 (by decide +kernel) hp ?_
      refine hs_iload_n ci_835_171 l2 ?_
      refine hs_iaload 0 9 (-2147483648) (2147483647) ci_835_172 (by decide +kernel) hp (by omega) (by omega) (fun r172_1 r172_2 => ?_)
      refine hs_iastore 0 9 (-2147483648) (2147483647) ci_835_173 (by decide +kernel) hp (by omega) (by omega) r172_1 r172_2 ?_
      intro h173 w173
      replace hp := w173.1
      refine hs_aload_n ci_835_174 l0 ?_
      refine hs_gfr 15 17 ci_835_175 (by decide +kernel) hp ?_
      refine hs_iload_n ci_835_178 l2 ?_
      refine hs_aload_n ci_835_179 l1 ?_
      refine hs_gfr 15 32 ci_835_180 (by decide +kernel) hp ?_
      refine hs_iload_n ci_835_183 l2 ?_
      refine hs_iaload 0 9 (-2147483648) (2147483647) ci_835_184 (by decide +kernel) hp (by omega) (by omega) (fun r184_1 r184_2 => ?_)
      refine hs_iastore 0 9 (-2147483648) (2147483647) ci_835_185 (by decide +kernel) hp (by omega) (by omega) r184_1 r184_2 ?_
      intro h185 w185
      replace hp := w185.1
      refine hs_aload_n ci_835_186 l0 ?_
      refine hs_gfr 16 18 ci_835_187 (by decide +kernel) hp ?_
      refine hs_iload_n ci_835_190 l2 ?_
      refine hs_aload_n ci_835_191 l1 ?_
      refine hs_gfr 16 33 ci_835_192 (by decide +kernel) hp ?_
      refine hs_iload_n ci_835_195 l2 ?_
      refine hs_iaload 0 9 (-2147483648) (2147483647) ci_835_196 (by decide +kernel) hp (by omega) (by omega) (fun r196_1 r196_2 => ?_)
      refine hs_iastore 0 9 (-2147483648) (2147483647) ci_835_197 (by decide +kernel) hp (by omega) (by omega) r196_1 r196_2 ?_
      intro h197 w197
      replace hp := w197.1
      refine hs_aload_n ci_835_198 l0 ?_
      refine hs_gfr 17 19 ci_835_199 (by decide +kernel) hp ?_
      refine hs_iload_n ci_835_202 l2 ?_
      refine hs_aload_n ci_835_203 l1 ?_
      refine hs_gfr 17 34 ci_835_204 (by decide +kernel) hp ?_
      refine hs_iload_n ci_835_207 l2 ?_
      refine hs_iaload 0 9 (-2147483648) (2147483647) ci_835_208 (by decide +kernel) hp (by omega) (by omega) (fun r208_1 r208_2 => ?_)
      refine hs_iastore 0 9 (-2147483648) (2147483647) ci_835_209 (by decide +kernel) hp (by omega) (by omega) r208_1 r208_2 ?_
      intro h209 w209
      replace hp := w209.1
      refine hs_aload_n ci_835_210 l0 ?_
      refine hs_gfr 18 20 ci_835_211 (by decide +kernel) hp ?_
      refine hs_iload_n ci_835_214 l2 ?_
      refine hs_aload_n ci_835_215 l1 ?_
      refine hs_gfr 18 35 ci_835_216 (by decide +kernel) hp ?_
      refine hs_iload_n ci_835_219 l2 ?_
      refine hs_iaload 0 9 (-2147483648) (2147483647) ci_835_220 (by decide +kernel) hp (by omega) (by omega) (fun r220_1 r220_2 => ?_)
      refine hs_iastore 0 9 (-2147483648) (2147483647) ci_835_221 (by decide +kernel) hp (by omega) (by omega) r220_1 r220_2 ?_
      intro h221 w221
      replace hp := w221.1
      refine hs_aload_n ci_835_222 l0 ?_
      refine hs_gfr 19 21 ci_835_223 (by decide +kernel) hp ?_
      refine hs_iload_n ci_835_226 l2 ?_
      refine hs_aload_n ci_835_227 l1 ?_
      refine hs_gfr 19 36 ci_835_228 (by decide +kernel) hp ?_
      refine hs_iload_n ci_835_231 l2 ?_
      refine hs_iaload 0 9 (-2147483648) (2147483647) ci_835_232 (by decide +kernel) hp (by omega) (by omega) (fun r232_1 r232_2 => ?_)
      refine hs_iastore 0 9 (-2147483648) (2147483647) ci_835_233 (by decide +kernel) hp (by omega) (by omega) r232_1 r232_2 ?_
      intro h233 w233
      replace hp := w233.1
      refine hs_iinc2 ci_835_234 (by decide +kernel) l2 ?_
      intro ls9 q9
      replace l0 := q9.2 0 _ (by decide) (Or.inl rfl) l0
      replace l1 := q9.2 1 _ (by decide) (Or.inl rfl) l1
      have l2 := q9.1
      clear q9
      refine hs_goto (t := 108) ci_835_237 rfl ?_
      have ei : x.toInt.toNat = i := by omega
      rw [ei] at w125 w137
      have g125 : ab_fr [(12, 0, 9)] h125 h1 := w125.fr (ab_inr_up (k1 := 0) (k2 := 9) rfl (by omega) (by omega))
      have g137 : ab_fr [(13, 0, 9)] h137 h125 := w137.fr (ab_inr_up (k1 := 0) (k2 := 9) rfl (by omega) (by omega))
      have g149 : ab_fr [(14, 0, 9)] h149 h137 := w149.fr (ab_inr_up (k1 := 0) (k2 := 9) rfl (by omega) (by omega))
      have g161 : ab_fr [(15, 0, 9)] h161 h149 := w161.fr (ab_inr_up (k1 := 0) (k2 := 9) rfl (by omega) (by omega))
      have g173 : ab_fr [(16, 0, 9)] h173 h161 := w173.fr (ab_inr_up (k1 := 0) (k2 := 9) rfl (by omega) (by omega))
      have g185 : ab_fr [(17, 0, 9)] h185 h173 := w185.fr (ab_inr_up (k1 := 0) (k2 := 9) rfl (by omega) (by omega))
      have g197 : ab_fr [(18, 0, 9)] h197 h185 := w197.fr (ab_inr_up (k1 := 0) (k2 := 9) rfl (by omega) (by omega))
      have g209 : ab_fr [(19, 0, 9)] h209 h197 := w209.fr (ab_inr_up (k1 := 0) (k2 := 9) rfl (by omega) (by omega))
      have g221 : ab_fr [(20, 0, 9)] h221 h209 := w221.fr (ab_inr_up (k1 := 0) (k2 := 9) rfl (by omega) (by omega))
      have g233 : ab_fr [(21, 0, 9)] h233 h221 := w233.fr (ab_inr_up (k1 := 0) (k2 := 9) rfl (by omega) (by omega))
      have gR : ab_fr [(14, 0, 9), (15, 0, 9), (16, 0, 9), (17, 0, 9), (18, 0, 9), (19, 0, 9), (20, 0, 9), (21, 0, 9)] h233 h137 := (fr_sub (by decide +kernel) g233).tr ((fr_sub (by decide +kernel) g221).tr ((fr_sub (by decide +kernel) g209).tr ((fr_sub (by decide +kernel) g197).tr ((fr_sub (by decide +kernel) g185).tr ((fr_sub (by decide +kernel) g173).tr ((fr_sub (by decide +kernel) g161).tr (fr_sub (by decide +kernel) g149)))))))
      have F9 : ab_fr MC_8_23 h233 h := (fr_sub (by decide +kernel) gR).tr ((fr_sub (by decide +kernel) g137).tr ((fr_sub (by decide +kernel) g125).tr f1))
      refine ih (i + 1) _ _ _ (by omega) (i32_inc hx (by omega) (by omega)) l0 l1 l2 hp F9 (fun k hk => ?_) (fun k hk => ?_) (fun k hk => ?_)
      · rw [hv_same (gR 8 k rfl), hv_same (g137 8 k rfl), hv_same (g125 8 k rfl)]
        exact hS k hk
      · rw [hl_same (gR 9 k rfl), hl_same (g137 9 k rfl), hl_same (g125 9 k rfl)]
        exact hN k hk
      · have e1 : hl h233 12 k = hl h125 12 k := (hl_same (gR 12 k rfl)).trans (hl_same (g137 12 k rfl))
        have e2 : hv h233 13 k = hv h137 13 k := hv_same (gR 13 k rfl)
        by_cases e : k = i
        · subst e
          exact ⟨e1.trans (by rw [w125.v, if_pos ⟨rfl, rfl⟩, hl_same (f1 27 k rfl)]), e2.trans (by rw [w137.v, if_pos ⟨rfl, rfl⟩, hv_same (g125 28 k rfl), hv_same (f1 28 k rfl)])⟩
        · obtain ⟨c1, c2⟩ := hG k (by omega)
          exact ⟨e1.trans (by rw [w125.v, if_neg (fun g => e g.2)]; exact c1), e2.trans (by rw [w137.v, if_neg (fun g => e g.2), hv_same (g125 13 k rfl)]; exact c2)⟩
theorem cq1_8_23 {sc : List Value} {sp d : Nat} {h : eg_H} (hqh : ab_hp h) : ∀ (n i : Nat) (x : Int32) (ls : eg_L) (h1 : eg_H), i + n = 6 → x.toInt = (i : Int) → eg_find 0 ls = some (.ref 8) → eg_find 1 ls = some (.ref 23) → eg_find 2 ls = some (.int x) → ab_hp0 h1 → ab_fr MC_8_23 h1 h → (∀ i, i < 7 → hv h1 8 i = hv h 23 i) → (∀ k, k < i → hl h1 9 k = hl h 24 k) → hs sc sp 835 1 d (fun pc' _ st' h' => ∃ ik vo, ab_ret 835 pc' = some ik ∧ eg_rv (eg_md 835).2.2.2 ik st' = some vo ∧ cq_P MC_8_23 h 8 23 vo h') 58 ls [] h1 := by
  intro n
  induction n with
  | zero =>
    intro i x ls h1 hi hx l0 l1 l2 hp f1 hS hN
    refine hs_iload_n ci_835_58 l2 ?_
    refine hs_bipush ci_835_59 ?_
    refine hs_ic (t := 106) ci_835_61 rfl (fun b61 => ?_) (fun b61 => ?_)
    · simp only [hs_cd, ab_not, kB_6] at b61
      refine hs_iconst ci_835_106 ?_
      refine hs_istore2_n ci_835_107 (by decide +kernel) ?_
      intro ls9 q9
      replace l0 := q9.2 0 _ (by decide) (Or.inl rfl) l0
      replace l1 := q9.2 1 _ (by decide) (Or.inl rfl) l1
      have l2 := q9.1
      clear q9
      exact cq2_8_23 hqh 10 0 _ _ _ (by decide) kI_0 l0 l1 l2 hp f1 hS (fun k hk => hN k (by omega)) (fun k hk => by omega)
    · simp only [hs_cd, ab_not, kB_6] at b61
      omega
  | succ n ih =>
    intro i x ls h1 hi hx l0 l1 l2 hp f1 hS hN
    refine hs_iload_n ci_835_58 l2 ?_
    refine hs_bipush ci_835_59 ?_
    refine hs_ic (t := 106) ci_835_61 rfl (fun b61 => ?_) (fun b61 => ?_)
    · simp only [hs_cd, ab_not, kB_6] at b61
      omega
    · simp only [hs_cd, ab_not, kB_6] at b61
      refine hs_aload_n ci_835_64 l0 ?_
      refine hs_gfr 7 9 ci_835_65 (by decide +kernel) hp ?_
      refine hs_iload_n ci_835_68 l2 ?_
      refine hs_aload_n ci_835_69 l1 ?_
      refine hs_gfr 7 24 ci_835_70 (by decide +kernel) hp ?_
      refine hs_iload_n ci_835_73 l2 ?_
      refine hs_laload 6 ci_835_74 (by decide +kernel) hp (by omega) (by omega) ?_
      refine hs_lastore 6 ci_835_75 (by decide +kernel) hp (by omega) (by omega) ?_
      intro h75 w75
      replace hp := w75.1
      refine hs_aload_n ci_835_76 l0 ?_
      refine hs_gfr 8 10 ci_835_77 (by decide +kernel) hp ?_
      refine hs_iload_n ci_835_80 l2 ?_
      refine hs_aload_n ci_835_81 l1 ?_
      refine hs_gfr 8 25 ci_835_82 (by decide +kernel) hp ?_
      refine hs_iload_n ci_835_85 l2 ?_
      refine hs_iaload 0 5 (-2147483648) (2147483647) ci_835_86 (by decide +kernel) hp (by omega) (by omega) (fun r86_1 r86_2 => ?_)
      refine hs_iastore 0 5 (-2147483648) (2147483647) ci_835_87 (by decide +kernel) hp (by omega) (by omega) r86_1 r86_2 ?_
      intro h87 w87
      replace hp := w87.1
      refine hs_aload_n ci_835_88 l0 ?_
      refine hs_gfr 9 11 ci_835_89 (by decide +kernel) hp ?_
      refine hs_iload_n ci_835_92 l2 ?_
      refine hs_aload_n ci_835_93 l1 ?_
      refine hs_gfr 9 26 ci_835_94 (by decide +kernel) hp ?_
      refine hs_iload_n ci_835_97 l2 ?_
      refine hs_iaload 0 5 (-2147483648) (2147483647) ci_835_98 (by decide +kernel) hp (by omega) (by omega) (fun r98_1 r98_2 => ?_)
      refine hs_iastore 0 5 (-2147483648) (2147483647) ci_835_99 (by decide +kernel) hp (by omega) (by omega) r98_1 r98_2 ?_
      intro h99 w99
      replace hp := w99.1
      refine hs_iinc2 ci_835_100 (by decide +kernel) l2 ?_
      intro ls9 q9
      replace l0 := q9.2 0 _ (by decide) (Or.inl rfl) l0
      replace l1 := q9.2 1 _ (by decide) (Or.inl rfl) l1
      have l2 := q9.1
      clear q9
      refine hs_goto (t := 58) ci_835_103 rfl ?_
      have ei : x.toInt.toNat = i := by omega
      rw [ei] at w75
      have g75 : ab_fr [(9, 0, 5)] h75 h1 := w75.fr (ab_inr_up (k1 := 0) (k2 := 5) rfl (by omega) (by omega))
      have g87 : ab_fr [(10, 0, 5)] h87 h75 := w87.fr (ab_inr_up (k1 := 0) (k2 := 5) rfl (by omega) (by omega))
      have g99 : ab_fr [(11, 0, 5)] h99 h87 := w99.fr (ab_inr_up (k1 := 0) (k2 := 5) rfl (by omega) (by omega))
      have F9 : ab_fr MC_8_23 h99 h := (fr_sub (by decide +kernel) g99).tr ((fr_sub (by decide +kernel) g87).tr ((fr_sub (by decide +kernel) g75).tr f1))
      refine ih (i + 1) _ _ _ (by omega) (i32_inc hx (by omega) (by omega)) l0 l1 l2 hp F9 (fun k hk => ?_) (fun k hk => ?_)
      · rw [hv_same (g99 8 k rfl), hv_same (g87 8 k rfl), hv_same (g75 8 k rfl)]
        exact hS k hk
      · have e1 : hl h99 9 k = hl h75 9 k := (hl_same (g99 9 k rfl)).trans (hl_same (g87 9 k rfl))
        by_cases e : k = i
        · subst e
          exact e1.trans (by rw [w75.v, if_pos ⟨rfl, rfl⟩, hl_same (f1 24 k rfl)])
        · exact e1.trans (by rw [w75.v, if_neg (fun g => e g.2)]; exact hN k (by omega))
theorem k_cq_8_23 {sc : List Value} {sp d : Nat} {h : eg_H} (hq : ab_hp h) : mc sc sp 835 1 d [.ref 8, .ref 23] h (cq_P MC_8_23 h 8 23) := by
  have l0 : eg_find 0 (eg_args 0 [.ref 8, .ref 23]) = some (.ref 8) := rfl
  have l1 : eg_find 1 (eg_args 0 [.ref 8, .ref 23]) = some (.ref 23) := rfl
  have hp := hq.1
  unfold mc
  refine hs_aload_n ci_835_0 l0 ?_
  refine hs_aload_n ci_835_1 l1 ?_
  refine hs_gfi 0 ci_835_2 (by decide +kernel) hp ?_
  refine hs_pfi 0 (-2147483648) (2147483647) ci_835_5 (by decide +kernel) hp (ab_ige _) (ab_ile _) ?_
  intro h5 w5
  replace hp := w5.1
  refine hs_aload_n ci_835_8 l0 ?_
  refine hs_aload_n ci_835_9 l1 ?_
  refine hs_gfi 1 ci_835_10 (by decide +kernel) hp ?_
  refine hs_pfi 1 (-2147483648) (2147483647) ci_835_13 (by decide +kernel) hp (ab_ige _) (ab_ile _) ?_
  intro h13 w13
  replace hp := w13.1
  refine hs_aload_n ci_835_16 l0 ?_
  refine hs_aload_n ci_835_17 l1 ?_
  refine hs_gfi 2 ci_835_18 (by decide +kernel) hp ?_
  refine hs_pfi 2 (-2147483648) (2147483647) ci_835_21 (by decide +kernel) hp (ab_ige _) (ab_ile _) ?_
  intro h21 w21
  replace hp := w21.1
  refine hs_aload_n ci_835_24 l0 ?_
  refine hs_aload_n ci_835_25 l1 ?_
  refine hs_gfi 3 ci_835_26 (by decide +kernel) hp ?_
  refine hs_pfi 3 (-2147483648) (2147483647) ci_835_29 (by decide +kernel) hp (ab_ige _) (ab_ile _) ?_
  intro h29 w29
  replace hp := w29.1
  refine hs_aload_n ci_835_32 l0 ?_
  refine hs_aload_n ci_835_33 l1 ?_
  refine hs_gfi 4 ci_835_34 (by decide +kernel) hp ?_
  refine hs_pfi 4 (0) (6) ci_835_37 (by decide +kernel) hp (sb_0 (lo := .ofNat 0) (hi := .ofNat 6) hp (by decide +kernel)).1 (sb_0 (lo := .ofNat 0) (hi := .ofNat 6) hp (by decide +kernel)).2 ?_
  intro h37 w37
  replace hp := w37.1
  refine hs_aload_n ci_835_40 l0 ?_
  refine hs_aload_n ci_835_41 l1 ?_
  refine hs_gfi 5 ci_835_42 (by decide +kernel) hp ?_
  refine hs_pfi 5 (0) (10) ci_835_45 (by decide +kernel) hp (sb_0 (lo := .ofNat 0) (hi := .ofNat 10) hp (by decide +kernel)).1 (sb_0 (lo := .ofNat 0) (hi := .ofNat 10) hp (by decide +kernel)).2 ?_
  intro h45 w45
  replace hp := w45.1
  refine hs_aload_n ci_835_48 l0 ?_
  refine hs_aload_n ci_835_49 l1 ?_
  refine hs_gfi 6 ci_835_50 (by decide +kernel) hp ?_
  refine hs_pfi 6 (-2147483648) (2147483647) ci_835_53 (by decide +kernel) hp (ab_ige _) (ab_ile _) ?_
  intro h53 w53
  replace hp := w53.1
  refine hs_iconst ci_835_56 ?_
  refine hs_istore2_n ci_835_57 (by decide +kernel) ?_
  intro ls9 q9
  replace l0 := q9.2 0 _ (by decide) (Or.inl rfl) l0
  replace l1 := q9.2 1 _ (by decide) (Or.inl rfl) l1
  have l2 := q9.1
  clear q9
  have f5 : ab_fr [(8, 0, 6)] h5 h := w5.fr rfl
  have f13 : ab_fr [(8, 0, 6)] h13 h := (w13.fr rfl).tr f5
  have f21 : ab_fr [(8, 0, 6)] h21 h := (w21.fr rfl).tr f13
  have f29 : ab_fr [(8, 0, 6)] h29 h := (w29.fr rfl).tr f21
  have f37 : ab_fr [(8, 0, 6)] h37 h := (w37.fr rfl).tr f29
  have f45 : ab_fr [(8, 0, 6)] h45 h := (w45.fr rfl).tr f37
  have f53 : ab_fr [(8, 0, 6)] h53 h := (w53.fr rfl).tr f45
  have fM : ab_fr MC_8_23 h53 h := fr_sub (by decide +kernel) f53
  refine cq1_8_23 hq 6 0 _ _ _ (by decide) kI_0 l0 l1 l2 hp fM (fun i hi => ?_) (fun k hk => by omega)
  have hi2 : i = 0 ∨ i = 1 ∨ i = 2 ∨ i = 3 ∨ i = 4 ∨ i = 5 ∨ i = 6 := by omega
  rcases hi2 with rfl | rfl | rfl | rfl | rfl | rfl | rfl
  · rw [w53.v, if_neg (by decide), w45.v, if_neg (by decide), w37.v, if_neg (by decide), w29.v, if_neg (by decide), w21.v, if_neg (by decide), w13.v, if_neg (by decide), w5.v, if_pos ⟨rfl, rfl⟩]
  · rw [w53.v, if_neg (by decide), w45.v, if_neg (by decide), w37.v, if_neg (by decide), w29.v, if_neg (by decide), w21.v, if_neg (by decide), w13.v, if_pos ⟨rfl, rfl⟩, hv_same (f5 23 1 rfl)]
  · rw [w53.v, if_neg (by decide), w45.v, if_neg (by decide), w37.v, if_neg (by decide), w29.v, if_neg (by decide), w21.v, if_pos ⟨rfl, rfl⟩, hv_same (f13 23 2 rfl)]
  · rw [w53.v, if_neg (by decide), w45.v, if_neg (by decide), w37.v, if_neg (by decide), w29.v, if_pos ⟨rfl, rfl⟩, hv_same (f21 23 3 rfl)]
  · rw [w53.v, if_neg (by decide), w45.v, if_neg (by decide), w37.v, if_pos ⟨rfl, rfl⟩, hv_same (f29 23 4 rfl)]
  · rw [w53.v, if_neg (by decide), w45.v, if_pos ⟨rfl, rfl⟩, hv_same (f37 23 5 rfl)]
  · rw [w53.v, if_pos ⟨rfl, rfl⟩, hv_same (f45 23 6 rfl)]
theorem cq2_130_8 {sc : List Value} {sp d : Nat} {h : eg_H} (hqh : ab_hp h) : ∀ (n i : Nat) (x : Int32) (ls : eg_L) (h1 : eg_H), i + n = 10 → x.toInt = (i : Int) → eg_find 0 ls = some (.ref 130) → eg_find 1 ls = some (.ref 8) → eg_find 2 ls = some (.int x) → ab_hp0 h1 → ab_fr MC_130_8 h1 h → (∀ i, i < 7 → hv h1 130 i = hv h 8 i) → (∀ k, k < 6 → hl h1 131 k = hl h 9 k) → (∀ k, k < i → hl h1 134 k = hl h 12 k ∧ hv h1 135 k = hv h 13 k) → hs sc sp 835 1 d (fun pc' _ st' h' => ∃ ik vo, ab_ret 835 pc' = some ik ∧ eg_rv (eg_md 835).2.2.2 ik st' = some vo ∧ cq_P MC_130_8 h 130 8 vo h') 108 ls [] h1 := by
  intro n
  induction n with
  | zero =>
    intro i x ls h1 hi hx l0 l1 l2 hp f1 hS hN hG
    refine hs_iload_n ci_835_108 l2 ?_
    refine hs_bipush ci_835_109 ?_
    refine hs_ic (t := 240) ci_835_111 rfl (fun b111 => ?_) (fun b111 => ?_)
    · simp only [hs_cd, ab_not, kB_10] at b111
      exact hs_k ⟨5, none, by decide +kernel, by rw [rt_835]; rfl, rfl, ⟨hp, hqh.2.fr (M := MC_130_8) (by decide +kernel) f1⟩, f1, hS, hN, fun k hk => hG k (by omega)⟩
    · simp only [hs_cd, ab_not, kB_10] at b111
      omega
  | succ n ih =>
    intro i x ls h1 hi hx l0 l1 l2 hp f1 hS hN hG
    refine hs_iload_n ci_835_108 l2 ?_
    refine hs_bipush ci_835_109 ?_
    refine hs_ic (t := 240) ci_835_111 rfl (fun b111 => ?_) (fun b111 => ?_)
    · simp only [hs_cd, ab_not, kB_10] at b111
      omega
    · simp only [hs_cd, ab_not, kB_10] at b111
      refine hs_aload_n ci_835_114 l0 ?_
      refine hs_gfr 10 134 ci_835_115 (by decide +kernel) hp ?_
      refine hs_iload_n ci_835_118 l2 ?_
      refine hs_aload_n ci_835_119 l1 ?_
      refine hs_gfr 10 12 ci_835_120 (by decide +kernel) hp ?_
      refine hs_iload_n ci_835_123 l2 ?_
      refine hs_laload 10 ci_835_124 (by decide +kernel) hp (by omega) (by omega) ?_
      refine hs_lastore 10 ci_835_125 (by decide +kernel) hp (by omega) (by omega) ?_
      intro h125 w125
      replace hp := w125.1
      refine hs_aload_n ci_835_126 l0 ?_
      refine hs_gfr 11 135 ci_835_127 (by decide +kernel) hp ?_
      refine hs_iload_n ci_835_130 l2 ?_
      refine hs_aload_n ci_835_131 l1 ?_
      refine hs_gfr 11 13 ci_835_132 (by decide +kernel) hp ?_
      refine hs_iload_n ci_835_135 l2 ?_
      refine hs_iaload 0 9 (0) (5) ci_835_136 (by decide +kernel) hp (by omega) (by omega) (fun r136_1 r136_2 => ?_)
      refine hs_iastore 0 9 (0) (5) ci_835_137 (by decide +kernel) hp (by omega) (by omega) r136_1 r136_2 ?_
      intro h137 w137
      replace hp := w137.1
      refine hs_aload_n ci_835_138 l0 ?_
      refine hs_gfr 12 136 ci_835_139 (by decide +kernel) hp ?_
      refine hs_iload_n ci_835_142 l2 ?_
      refine hs_aload_n ci_835_143 l1 ?_
      refine hs_gfr 12 14 ci_835_144 (by decide +kernel) hp ?_
      refine hs_iload_n ci_835_147 l2 ?_
      refine hs_iaload 0 9 (0) (5) ci_835_148 (by decide +kernel) hp (by omega) (by omega) (fun r148_1 r148_2 => ?_)
      refine hs_iastore 0 9 (0) (5) ci_835_149 (by decide +kernel) hp (by omega) (by omega) r148_1 r148_2 ?_
      intro h149 w149
      replace hp := w149.1
      refine hs_aload_n ci_835_150 l0 ?_
      refine hs_gfr 13 137 ci_835_151 (by decide +kernel) hp ?_
      refine hs_iload_n ci_835_154 l2 ?_
      refine hs_aload_n ci_835_155 l1 ?_
      refine hs_gfr 13 15 ci_835_156 (by decide +kernel) hp ?_
      refine hs_iload_n ci_835_159 l2 ?_
      refine hs_iaload 0 9 (-2147483648) (2147483647) ci_835_160 (by decide +kernel) hp (by omega) (by omega) (fun r160_1 r160_2 => ?_)
      refine hs_iastore 0 9 (-2147483648) (2147483647) ci_835_161 (by decide +kernel) hp (by omega) (by omega) r160_1 r160_2 ?_
      intro h161 w161
      replace hp := w161.1
      refine hs_aload_n ci_835_162 l0 ?_
      refine hs_gfr 14 138 ci_835_163 (by decide +kernel) hp ?_
      refine hs_iload_n ci_835_166 l2 ?_
      refine hs_aload_n ci_835_167 l1 ?_
      refine hs_gfr 14 16 ci_835_168 (by decide +kernel) hp ?_
      refine hs_iload_n ci_835_171 l2 ?_
      refine hs_iaload 0 9 (-2147483648) (2147483647) ci_835_172 (by decide +kernel) hp (by omega) (by omega) (fun r172_1 r172_2 => ?_)
      refine hs_iastore 0 9 (-2147483648) (2147483647) ci_835_173 (by decide +kernel) hp (by omega) (by omega) r172_1 r172_2 ?_
      intro h173 w173
      replace hp := w173.1
      refine hs_aload_n ci_835_174 l0 ?_
      refine hs_gfr 15 139 ci_835_175 (by decide +kernel) hp ?_
      refine hs_iload_n ci_835_178 l2 ?_
      refine hs_aload_n ci_835_179 l1 ?_
      refine hs_gfr 15 17 ci_835_180 (by decide +kernel) hp ?_
      refine hs_iload_n ci_835_183 l2 ?_
      refine hs_iaload 0 9 (-2147483648) (2147483647) ci_835_184 (by decide +kernel) hp (by omega) (by omega) (fun r184_1 r184_2 => ?_)
      refine hs_iastore 0 9 (-2147483648) (2147483647) ci_835_185 (by decide +kernel) hp (by omega) (by omega) r184_1 r184_2 ?_
      intro h185 w185
      replace hp := w185.1
      refine hs_aload_n ci_835_186 l0 ?_
      refine hs_gfr 16 140 ci_835_187 (by decide +kernel) hp ?_
      refine hs_iload_n ci_835_190 l2 ?_
      refine hs_aload_n ci_835_191 l1 ?_
      refine hs_gfr 16 18 ci_835_192 (by decide +kernel) hp ?_
      refine hs_iload_n ci_835_195 l2 ?_
      refine hs_iaload 0 9 (-2147483648) (2147483647) ci_835_196 (by decide +kernel) hp (by omega) (by omega) (fun r196_1 r196_2 => ?_)
      refine hs_iastore 0 9 (-2147483648) (2147483647) ci_835_197 (by decide +kernel) hp (by omega) (by omega) r196_1 r196_2 ?_
      intro h197 w197
      replace hp := w197.1
      refine hs_aload_n ci_835_198 l0 ?_
      refine hs_gfr 17 141 ci_835_199 (by decide +kernel) hp ?_
      refine hs_iload_n ci_835_202 l2 ?_
      refine hs_aload_n ci_835_203 l1 ?_
      refine hs_gfr 17 19 ci_835_204 (by decide +kernel) hp ?_
      refine hs_iload_n ci_835_207 l2 ?_
      refine hs_iaload 0 9 (-2147483648) (2147483647) ci_835_208 (by decide +kernel) hp (by omega) (by omega) (fun r208_1 r208_2 => ?_)
      refine hs_iastore 0 9 (-2147483648) (2147483647) ci_835_209 (by decide +kernel) hp (by omega) (by omega) r208_1 r208_2 ?_
      intro h209 w209
      replace hp := w209.1
      refine hs_aload_n ci_835_210 l0 ?_
      refine hs_gfr 18 142 ci_835_211 (by decide +kernel) hp ?_
      refine hs_iload_n ci_835_214 l2 ?_
      refine hs_aload_n ci_835_215 l1 ?_
      refine hs_gfr 18 20 ci_835_216 (by decide +kernel) hp ?_
      refine hs_iload_n ci_835_219 l2 ?_
      refine hs_iaload 0 9 (-2147483648) (2147483647) ci_835_220 (by decide +kernel) hp (by omega) (by omega) (fun r220_1 r220_2 => ?_)
      refine hs_iastore 0 9 (-2147483648) (2147483647) ci_835_221 (by decide +kernel) hp (by omega) (by omega) r220_1 r220_2 ?_
      intro h221 w221
      replace hp := w221.1
      refine hs_aload_n ci_835_222 l0 ?_
      refine hs_gfr 19 143 ci_835_223 (by decide +kernel) hp ?_
      refine hs_iload_n ci_835_226 l2 ?_
      refine hs_aload_n ci_835_227 l1 ?_
      refine hs_gfr 19 21 ci_835_228 (by decide +kernel) hp ?_
      refine hs_iload_n ci_835_231 l2 ?_
      refine hs_iaload 0 9 (-2147483648) (2147483647) ci_835_232 (by decide +kernel) hp (by omega) (by omega) (fun r232_1 r232_2 => ?_)
      refine hs_iastore 0 9 (-2147483648) (2147483647) ci_835_233 (by decide +kernel) hp (by omega) (by omega) r232_1 r232_2 ?_
      intro h233 w233
      replace hp := w233.1
      refine hs_iinc2 ci_835_234 (by decide +kernel) l2 ?_
      intro ls9 q9
      replace l0 := q9.2 0 _ (by decide) (Or.inl rfl) l0
      replace l1 := q9.2 1 _ (by decide) (Or.inl rfl) l1
      have l2 := q9.1
      clear q9
      refine hs_goto (t := 108) ci_835_237 rfl ?_
      have ei : x.toInt.toNat = i := by omega
      rw [ei] at w125 w137
      have g125 : ab_fr [(134, 0, 9)] h125 h1 := w125.fr (ab_inr_up (k1 := 0) (k2 := 9) rfl (by omega) (by omega))
      have g137 : ab_fr [(135, 0, 9)] h137 h125 := w137.fr (ab_inr_up (k1 := 0) (k2 := 9) rfl (by omega) (by omega))
      have g149 : ab_fr [(136, 0, 9)] h149 h137 := w149.fr (ab_inr_up (k1 := 0) (k2 := 9) rfl (by omega) (by omega))
      have g161 : ab_fr [(137, 0, 9)] h161 h149 := w161.fr (ab_inr_up (k1 := 0) (k2 := 9) rfl (by omega) (by omega))
      have g173 : ab_fr [(138, 0, 9)] h173 h161 := w173.fr (ab_inr_up (k1 := 0) (k2 := 9) rfl (by omega) (by omega))
      have g185 : ab_fr [(139, 0, 9)] h185 h173 := w185.fr (ab_inr_up (k1 := 0) (k2 := 9) rfl (by omega) (by omega))
      have g197 : ab_fr [(140, 0, 9)] h197 h185 := w197.fr (ab_inr_up (k1 := 0) (k2 := 9) rfl (by omega) (by omega))
      have g209 : ab_fr [(141, 0, 9)] h209 h197 := w209.fr (ab_inr_up (k1 := 0) (k2 := 9) rfl (by omega) (by omega))
      have g221 : ab_fr [(142, 0, 9)] h221 h209 := w221.fr (ab_inr_up (k1 := 0) (k2 := 9) rfl (by omega) (by omega))
      have g233 : ab_fr [(143, 0, 9)] h233 h221 := w233.fr (ab_inr_up (k1 := 0) (k2 := 9) rfl (by omega) (by omega))
      have gR : ab_fr [(136, 0, 9), (137, 0, 9), (138, 0, 9), (139, 0, 9), (140, 0, 9), (141, 0, 9), (142, 0, 9), (143, 0, 9)] h233 h137 := (fr_sub (by decide +kernel) g233).tr ((fr_sub (by decide +kernel) g221).tr ((fr_sub (by decide +kernel) g209).tr ((fr_sub (by decide +kernel) g197).tr ((fr_sub (by decide +kernel) g185).tr ((fr_sub (by decide +kernel) g173).tr ((fr_sub (by decide +kernel) g161).tr (fr_sub (by decide +kernel) g149)))))))
      have F9 : ab_fr MC_130_8 h233 h := (fr_sub (by decide +kernel) gR).tr ((fr_sub (by decide +kernel) g137).tr ((fr_sub (by decide +kernel) g125).tr f1))
      refine ih (i + 1) _ _ _ (by omega) (i32_inc hx (by omega) (by omega)) l0 l1 l2 hp F9 (fun k hk => ?_) (fun k hk => ?_) (fun k hk => ?_)
      · rw [hv_same (gR 130 k rfl), hv_same (g137 130 k rfl), hv_same (g125 130 k rfl)]
        exact hS k hk
      · rw [hl_same (gR 131 k rfl), hl_same (g137 131 k rfl), hl_same (g125 131 k rfl)]
        exact hN k hk
      · have e1 : hl h233 134 k = hl h125 134 k := (hl_same (gR 134 k rfl)).trans (hl_same (g137 134 k rfl))
        have e2 : hv h233 135 k = hv h137 135 k := hv_same (gR 135 k rfl)
        by_cases e : k = i
        · subst e
          exact ⟨e1.trans (by rw [w125.v, if_pos ⟨rfl, rfl⟩, hl_same (f1 12 k rfl)]), e2.trans (by rw [w137.v, if_pos ⟨rfl, rfl⟩, hv_same (g125 13 k rfl), hv_same (f1 13 k rfl)])⟩
        · obtain ⟨c1, c2⟩ := hG k (by omega)
          exact ⟨e1.trans (by rw [w125.v, if_neg (fun g => e g.2)]; exact c1), e2.trans (by rw [w137.v, if_neg (fun g => e g.2), hv_same (g125 135 k rfl)]; exact c2)⟩
theorem cq1_130_8 {sc : List Value} {sp d : Nat} {h : eg_H} (hqh : ab_hp h) : ∀ (n i : Nat) (x : Int32) (ls : eg_L) (h1 : eg_H), i + n = 6 → x.toInt = (i : Int) → eg_find 0 ls = some (.ref 130) → eg_find 1 ls = some (.ref 8) → eg_find 2 ls = some (.int x) → ab_hp0 h1 → ab_fr MC_130_8 h1 h → (∀ i, i < 7 → hv h1 130 i = hv h 8 i) → (∀ k, k < i → hl h1 131 k = hl h 9 k) → hs sc sp 835 1 d (fun pc' _ st' h' => ∃ ik vo, ab_ret 835 pc' = some ik ∧ eg_rv (eg_md 835).2.2.2 ik st' = some vo ∧ cq_P MC_130_8 h 130 8 vo h') 58 ls [] h1 := by
  intro n
  induction n with
  | zero =>
    intro i x ls h1 hi hx l0 l1 l2 hp f1 hS hN
    refine hs_iload_n ci_835_58 l2 ?_
    refine hs_bipush ci_835_59 ?_
    refine hs_ic (t := 106) ci_835_61 rfl (fun b61 => ?_) (fun b61 => ?_)
    · simp only [hs_cd, ab_not, kB_6] at b61
      refine hs_iconst ci_835_106 ?_
      refine hs_istore2_n ci_835_107 (by decide +kernel) ?_
      intro ls9 q9
      replace l0 := q9.2 0 _ (by decide) (Or.inl rfl) l0
      replace l1 := q9.2 1 _ (by decide) (Or.inl rfl) l1
      have l2 := q9.1
      clear q9
      exact cq2_130_8 hqh 10 0 _ _ _ (by decide) kI_0 l0 l1 l2 hp f1 hS (fun k hk => hN k (by omega)) (fun k hk => by omega)
    · simp only [hs_cd, ab_not, kB_6] at b61
      omega
  | succ n ih =>
    intro i x ls h1 hi hx l0 l1 l2 hp f1 hS hN
    refine hs_iload_n ci_835_58 l2 ?_
    refine hs_bipush ci_835_59 ?_
    refine hs_ic (t := 106) ci_835_61 rfl (fun b61 => ?_) (fun b61 => ?_)
    · simp only [hs_cd, ab_not, kB_6] at b61
      omega
    · simp only [hs_cd, ab_not, kB_6] at b61
      refine hs_aload_n ci_835_64 l0 ?_
      refine hs_gfr 7 131 ci_835_65 (by decide +kernel) hp ?_
      refine hs_iload_n ci_835_68 l2 ?_
      refine hs_aload_n ci_835_69 l1 ?_
      refine hs_gfr 7 9 ci_835_70 (by decide +kernel) hp ?_
      refine hs_iload_n ci_835_73 l2 ?_
      refine hs_laload 6 ci_835_74 (by decide +kernel) hp (by omega) (by omega) ?_
      refine hs_lastore 6 ci_835_75 (by decide +kernel) hp (by omega) (by omega) ?_
      intro h75 w75
      replace hp := w75.1
      refine hs_aload_n ci_835_76 l0 ?_
      refine hs_gfr 8 132 ci_835_77 (by decide +kernel) hp ?_
      refine hs_iload_n ci_835_80 l2 ?_
      refine hs_aload_n ci_835_81 l1 ?_
      refine hs_gfr 8 10 ci_835_82 (by decide +kernel) hp ?_
      refine hs_iload_n ci_835_85 l2 ?_
      refine hs_iaload 0 5 (-2147483648) (2147483647) ci_835_86 (by decide +kernel) hp (by omega) (by omega) (fun r86_1 r86_2 => ?_)
      refine hs_iastore 0 5 (-2147483648) (2147483647) ci_835_87 (by decide +kernel) hp (by omega) (by omega) r86_1 r86_2 ?_
      intro h87 w87
      replace hp := w87.1
      refine hs_aload_n ci_835_88 l0 ?_
      refine hs_gfr 9 133 ci_835_89 (by decide +kernel) hp ?_
      refine hs_iload_n ci_835_92 l2 ?_
      refine hs_aload_n ci_835_93 l1 ?_
      refine hs_gfr 9 11 ci_835_94 (by decide +kernel) hp ?_
      refine hs_iload_n ci_835_97 l2 ?_
      refine hs_iaload 0 5 (-2147483648) (2147483647) ci_835_98 (by decide +kernel) hp (by omega) (by omega) (fun r98_1 r98_2 => ?_)
      refine hs_iastore 0 5 (-2147483648) (2147483647) ci_835_99 (by decide +kernel) hp (by omega) (by omega) r98_1 r98_2 ?_
      intro h99 w99
      replace hp := w99.1
      refine hs_iinc2 ci_835_100 (by decide +kernel) l2 ?_
      intro ls9 q9
      replace l0 := q9.2 0 _ (by decide) (Or.inl rfl) l0
      replace l1 := q9.2 1 _ (by decide) (Or.inl rfl) l1
      have l2 := q9.1
      clear q9
      refine hs_goto (t := 58) ci_835_103 rfl ?_
      have ei : x.toInt.toNat = i := by omega
      rw [ei] at w75
      have g75 : ab_fr [(131, 0, 5)] h75 h1 := w75.fr (ab_inr_up (k1 := 0) (k2 := 5) rfl (by omega) (by omega))
      have g87 : ab_fr [(132, 0, 5)] h87 h75 := w87.fr (ab_inr_up (k1 := 0) (k2 := 5) rfl (by omega) (by omega))
      have g99 : ab_fr [(133, 0, 5)] h99 h87 := w99.fr (ab_inr_up (k1 := 0) (k2 := 5) rfl (by omega) (by omega))
      have F9 : ab_fr MC_130_8 h99 h := (fr_sub (by decide +kernel) g99).tr ((fr_sub (by decide +kernel) g87).tr ((fr_sub (by decide +kernel) g75).tr f1))
      refine ih (i + 1) _ _ _ (by omega) (i32_inc hx (by omega) (by omega)) l0 l1 l2 hp F9 (fun k hk => ?_) (fun k hk => ?_)
      · rw [hv_same (g99 130 k rfl), hv_same (g87 130 k rfl), hv_same (g75 130 k rfl)]
        exact hS k hk
      · have e1 : hl h99 131 k = hl h75 131 k := (hl_same (g99 131 k rfl)).trans (hl_same (g87 131 k rfl))
        by_cases e : k = i
        · subst e
          exact e1.trans (by rw [w75.v, if_pos ⟨rfl, rfl⟩, hl_same (f1 9 k rfl)])
        · exact e1.trans (by rw [w75.v, if_neg (fun g => e g.2)]; exact hN k (by omega))
theorem k_cq_130_8 {sc : List Value} {sp d : Nat} {h : eg_H} (hq : ab_hp h) : mc sc sp 835 1 d [.ref 130, .ref 8] h (cq_P MC_130_8 h 130 8) := by
  have l0 : eg_find 0 (eg_args 0 [.ref 130, .ref 8]) = some (.ref 130) := rfl
  have l1 : eg_find 1 (eg_args 0 [.ref 130, .ref 8]) = some (.ref 8) := rfl
  have hp := hq.1
  unfold mc
  refine hs_aload_n ci_835_0 l0 ?_
  refine hs_aload_n ci_835_1 l1 ?_
  refine hs_gfi 0 ci_835_2 (by decide +kernel) hp ?_
  refine hs_pfi 0 (-2147483648) (2147483647) ci_835_5 (by decide +kernel) hp (ab_ige _) (ab_ile _) ?_
  intro h5 w5
  replace hp := w5.1
  refine hs_aload_n ci_835_8 l0 ?_
  refine hs_aload_n ci_835_9 l1 ?_
  refine hs_gfi 1 ci_835_10 (by decide +kernel) hp ?_
  refine hs_pfi 1 (-2147483648) (2147483647) ci_835_13 (by decide +kernel) hp (ab_ige _) (ab_ile _) ?_
  intro h13 w13
  replace hp := w13.1
  refine hs_aload_n ci_835_16 l0 ?_
  refine hs_aload_n ci_835_17 l1 ?_
  refine hs_gfi 2 ci_835_18 (by decide +kernel) hp ?_
  refine hs_pfi 2 (-2147483648) (2147483647) ci_835_21 (by decide +kernel) hp (ab_ige _) (ab_ile _) ?_
  intro h21 w21
  replace hp := w21.1
  refine hs_aload_n ci_835_24 l0 ?_
  refine hs_aload_n ci_835_25 l1 ?_
  refine hs_gfi 3 ci_835_26 (by decide +kernel) hp ?_
  refine hs_pfi 3 (-2147483648) (2147483647) ci_835_29 (by decide +kernel) hp (ab_ige _) (ab_ile _) ?_
  intro h29 w29
  replace hp := w29.1
  refine hs_aload_n ci_835_32 l0 ?_
  refine hs_aload_n ci_835_33 l1 ?_
  refine hs_gfi 4 ci_835_34 (by decide +kernel) hp ?_
  refine hs_pfi 4 (0) (6) ci_835_37 (by decide +kernel) hp (sb_0 (lo := .ofNat 0) (hi := .ofNat 6) hp (by decide +kernel)).1 (sb_0 (lo := .ofNat 0) (hi := .ofNat 6) hp (by decide +kernel)).2 ?_
  intro h37 w37
  replace hp := w37.1
  refine hs_aload_n ci_835_40 l0 ?_
  refine hs_aload_n ci_835_41 l1 ?_
  refine hs_gfi 5 ci_835_42 (by decide +kernel) hp ?_
  refine hs_pfi 5 (0) (10) ci_835_45 (by decide +kernel) hp (sb_0 (lo := .ofNat 0) (hi := .ofNat 10) hp (by decide +kernel)).1 (sb_0 (lo := .ofNat 0) (hi := .ofNat 10) hp (by decide +kernel)).2 ?_
  intro h45 w45
  replace hp := w45.1
  refine hs_aload_n ci_835_48 l0 ?_
  refine hs_aload_n ci_835_49 l1 ?_
  refine hs_gfi 6 ci_835_50 (by decide +kernel) hp ?_
  refine hs_pfi 6 (-2147483648) (2147483647) ci_835_53 (by decide +kernel) hp (ab_ige _) (ab_ile _) ?_
  intro h53 w53
  replace hp := w53.1
  refine hs_iconst ci_835_56 ?_
  refine hs_istore2_n ci_835_57 (by decide +kernel) ?_
  intro ls9 q9
  replace l0 := q9.2 0 _ (by decide) (Or.inl rfl) l0
  replace l1 := q9.2 1 _ (by decide) (Or.inl rfl) l1
  have l2 := q9.1
  clear q9
  have f5 : ab_fr [(130, 0, 6)] h5 h := w5.fr rfl
  have f13 : ab_fr [(130, 0, 6)] h13 h := (w13.fr rfl).tr f5
  have f21 : ab_fr [(130, 0, 6)] h21 h := (w21.fr rfl).tr f13
  have f29 : ab_fr [(130, 0, 6)] h29 h := (w29.fr rfl).tr f21
  have f37 : ab_fr [(130, 0, 6)] h37 h := (w37.fr rfl).tr f29
  have f45 : ab_fr [(130, 0, 6)] h45 h := (w45.fr rfl).tr f37
  have f53 : ab_fr [(130, 0, 6)] h53 h := (w53.fr rfl).tr f45
  have fM : ab_fr MC_130_8 h53 h := fr_sub (by decide +kernel) f53
  refine cq1_130_8 hq 6 0 _ _ _ (by decide) kI_0 l0 l1 l2 hp fM (fun i hi => ?_) (fun k hk => by omega)
  have hi2 : i = 0 ∨ i = 1 ∨ i = 2 ∨ i = 3 ∨ i = 4 ∨ i = 5 ∨ i = 6 := by omega
  rcases hi2 with rfl | rfl | rfl | rfl | rfl | rfl | rfl
  · rw [w53.v, if_neg (by decide), w45.v, if_neg (by decide), w37.v, if_neg (by decide), w29.v, if_neg (by decide), w21.v, if_neg (by decide), w13.v, if_neg (by decide), w5.v, if_pos ⟨rfl, rfl⟩]
  · rw [w53.v, if_neg (by decide), w45.v, if_neg (by decide), w37.v, if_neg (by decide), w29.v, if_neg (by decide), w21.v, if_neg (by decide), w13.v, if_pos ⟨rfl, rfl⟩, hv_same (f5 8 1 rfl)]
  · rw [w53.v, if_neg (by decide), w45.v, if_neg (by decide), w37.v, if_neg (by decide), w29.v, if_neg (by decide), w21.v, if_pos ⟨rfl, rfl⟩, hv_same (f13 8 2 rfl)]
  · rw [w53.v, if_neg (by decide), w45.v, if_neg (by decide), w37.v, if_neg (by decide), w29.v, if_pos ⟨rfl, rfl⟩, hv_same (f21 8 3 rfl)]
  · rw [w53.v, if_neg (by decide), w45.v, if_neg (by decide), w37.v, if_pos ⟨rfl, rfl⟩, hv_same (f29 8 4 rfl)]
  · rw [w53.v, if_neg (by decide), w45.v, if_pos ⟨rfl, rfl⟩, hv_same (f37 8 5 rfl)]
  · rw [w53.v, if_pos ⟨rfl, rfl⟩, hv_same (f45 8 6 rfl)]
theorem cq2_156_8 {sc : List Value} {sp d : Nat} {h : eg_H} (hqh : ab_hp h) : ∀ (n i : Nat) (x : Int32) (ls : eg_L) (h1 : eg_H), i + n = 10 → x.toInt = (i : Int) → eg_find 0 ls = some (.ref 156) → eg_find 1 ls = some (.ref 8) → eg_find 2 ls = some (.int x) → ab_hp0 h1 → ab_fr MC_156_8 h1 h → (∀ i, i < 7 → hv h1 156 i = hv h 8 i) → (∀ k, k < 6 → hl h1 157 k = hl h 9 k) → (∀ k, k < i → hl h1 160 k = hl h 12 k ∧ hv h1 161 k = hv h 13 k) → hs sc sp 835 1 d (fun pc' _ st' h' => ∃ ik vo, ab_ret 835 pc' = some ik ∧ eg_rv (eg_md 835).2.2.2 ik st' = some vo ∧ cq_P MC_156_8 h 156 8 vo h') 108 ls [] h1 := by
  intro n
  induction n with
  | zero =>
    intro i x ls h1 hi hx l0 l1 l2 hp f1 hS hN hG
    refine hs_iload_n ci_835_108 l2 ?_
    refine hs_bipush ci_835_109 ?_
    refine hs_ic (t := 240) ci_835_111 rfl (fun b111 => ?_) (fun b111 => ?_)
    · simp only [hs_cd, ab_not, kB_10] at b111
      exact hs_k ⟨5, none, by decide +kernel, by rw [rt_835]; rfl, rfl, ⟨hp, hqh.2.fr (M := MC_156_8) (by decide +kernel) f1⟩, f1, hS, hN, fun k hk => hG k (by omega)⟩
    · simp only [hs_cd, ab_not, kB_10] at b111
      omega
  | succ n ih =>
    intro i x ls h1 hi hx l0 l1 l2 hp f1 hS hN hG
    refine hs_iload_n ci_835_108 l2 ?_
    refine hs_bipush ci_835_109 ?_
    refine hs_ic (t := 240) ci_835_111 rfl (fun b111 => ?_) (fun b111 => ?_)
    · simp only [hs_cd, ab_not, kB_10] at b111
      omega
    · simp only [hs_cd, ab_not, kB_10] at b111
      refine hs_aload_n ci_835_114 l0 ?_
      refine hs_gfr 10 160 ci_835_115 (by decide +kernel) hp ?_
      refine hs_iload_n ci_835_118 l2 ?_
      refine hs_aload_n ci_835_119 l1 ?_
      refine hs_gfr 10 12 ci_835_120 (by decide +kernel) hp ?_
      refine hs_iload_n ci_835_123 l2 ?_
      refine hs_laload 10 ci_835_124 (by decide +kernel) hp (by omega) (by omega) ?_
      refine hs_lastore 10 ci_835_125 (by decide +kernel) hp (by omega) (by omega) ?_
      intro h125 w125
      replace hp := w125.1
      refine hs_aload_n ci_835_126 l0 ?_
      refine hs_gfr 11 161 ci_835_127 (by decide +kernel) hp ?_
      refine hs_iload_n ci_835_130 l2 ?_
      refine hs_aload_n ci_835_131 l1 ?_
      refine hs_gfr 11 13 ci_835_132 (by decide +kernel) hp ?_
      refine hs_iload_n ci_835_135 l2 ?_
      refine hs_iaload 0 9 (0) (5) ci_835_136 (by decide +kernel) hp (by omega) (by omega) (fun r136_1 r136_2 => ?_)
      refine hs_iastore 0 9 (0) (5) ci_835_137 (by decide +kernel) hp (by omega) (by omega) r136_1 r136_2 ?_
      intro h137 w137
      replace hp := w137.1
      refine hs_aload_n ci_835_138 l0 ?_
      refine hs_gfr 12 162 ci_835_139 (by decide +kernel) hp ?_
      refine hs_iload_n ci_835_142 l2 ?_
      refine hs_aload_n ci_835_143 l1 ?_
      refine hs_gfr 12 14 ci_835_144 (by decide +kernel) hp ?_
      refine hs_iload_n ci_835_147 l2 ?_
      refine hs_iaload 0 9 (0) (5) ci_835_148 (by decide +kernel) hp (by omega) (by omega) (fun r148_1 r148_2 => ?_)
      refine hs_iastore 0 9 (0) (5) ci_835_149 (by decide +kernel) hp (by omega) (by omega) r148_1 r148_2 ?_
      intro h149 w149
      replace hp := w149.1
      refine hs_aload_n ci_835_150 l0 ?_
      refine hs_gfr 13 163 ci_835_151 (by decide +kernel) hp ?_
      refine hs_iload_n ci_835_154 l2 ?_
      refine hs_aload_n ci_835_155 l1 ?_
      refine hs_gfr 13 15 ci_835_156 (by decide +kernel) hp ?_
      refine hs_iload_n ci_835_159 l2 ?_
      refine hs_iaload 0 9 (-2147483648) (2147483647) ci_835_160 (by decide +kernel) hp (by omega) (by omega) (fun r160_1 r160_2 => ?_)
      refine hs_iastore 0 9 (-2147483648) (2147483647) ci_835_161 (by decide +kernel) hp (by omega) (by omega) r160_1 r160_2 ?_
      intro h161 w161
      replace hp := w161.1
      refine hs_aload_n ci_835_162 l0 ?_
      refine hs_gfr 14 164 ci_835_163 (by decide +kernel) hp ?_
      refine hs_iload_n ci_835_166 l2 ?_
      refine hs_aload_n ci_835_167 l1 ?_
      refine hs_gfr 14 16 ci_835_168 (by decide +kernel) hp ?_
      refine hs_iload_n ci_835_171 l2 ?_
      refine hs_iaload 0 9 (-2147483648) (2147483647) ci_835_172 (by decide +kernel) hp (by omega) (by omega) (fun r172_1 r172_2 => ?_)
      refine hs_iastore 0 9 (-2147483648) (2147483647) ci_835_173 (by decide +kernel) hp (by omega) (by omega) r172_1 r172_2 ?_
      intro h173 w173
      replace hp := w173.1
      refine hs_aload_n ci_835_174 l0 ?_
      refine hs_gfr 15 165 ci_835_175 (by decide +kernel) hp ?_
      refine hs_iload_n ci_835_178 l2 ?_
      refine hs_aload_n ci_835_179 l1 ?_
      refine hs_gfr 15 17 ci_835_180 (by decide +kernel) hp ?_
      refine hs_iload_n ci_835_183 l2 ?_
      refine hs_iaload 0 9 (-2147483648) (2147483647) ci_835_184 (by decide +kernel) hp (by omega) (by omega) (fun r184_1 r184_2 => ?_)
      refine hs_iastore 0 9 (-2147483648) (2147483647) ci_835_185 (by decide +kernel) hp (by omega) (by omega) r184_1 r184_2 ?_
      intro h185 w185
      replace hp := w185.1
      refine hs_aload_n ci_835_186 l0 ?_
      refine hs_gfr 16 166 ci_835_187 (by decide +kernel) hp ?_
      refine hs_iload_n ci_835_190 l2 ?_
      refine hs_aload_n ci_835_191 l1 ?_
      refine hs_gfr 16 18 ci_835_192 (by decide +kernel) hp ?_
      refine hs_iload_n ci_835_195 l2 ?_
      refine hs_iaload 0 9 (-2147483648) (2147483647) ci_835_196 (by decide +kernel) hp (by omega) (by omega) (fun r196_1 r196_2 => ?_)
      refine hs_iastore 0 9 (-2147483648) (2147483647) ci_835_197 (by decide +kernel) hp (by omega) (by omega) r196_1 r196_2 ?_
      intro h197 w197
      replace hp := w197.1
      refine hs_aload_n ci_835_198 l0 ?_
      refine hs_gfr 17 167 ci_835_199 (by decide +kernel) hp ?_
      refine hs_iload_n ci_835_202 l2 ?_
      refine hs_aload_n ci_835_203 l1 ?_
      refine hs_gfr 17 19 ci_835_204 (by decide +kernel) hp ?_
      refine hs_iload_n ci_835_207 l2 ?_
      refine hs_iaload 0 9 (-2147483648) (2147483647) ci_835_208 (by decide +kernel) hp (by omega) (by omega) (fun r208_1 r208_2 => ?_)
      refine hs_iastore 0 9 (-2147483648) (2147483647) ci_835_209 (by decide +kernel) hp (by omega) (by omega) r208_1 r208_2 ?_
      intro h209 w209
      replace hp := w209.1
      refine hs_aload_n ci_835_210 l0 ?_
      refine hs_gfr 18 168 ci_835_211 (by decide +kernel) hp ?_
      refine hs_iload_n ci_835_214 l2 ?_
      refine hs_aload_n ci_835_215 l1 ?_
      refine hs_gfr 18 20 ci_835_216 (by decide +kernel) hp ?_
      refine hs_iload_n ci_835_219 l2 ?_
      refine hs_iaload 0 9 (-2147483648) (2147483647) ci_835_220 (by decide +kernel) hp (by omega) (by omega) (fun r220_1 r220_2 => ?_)
      refine hs_iastore 0 9 (-2147483648) (2147483647) ci_835_221 (by decide +kernel) hp (by omega) (by omega) r220_1 r220_2 ?_
      intro h221 w221
      replace hp := w221.1
      refine hs_aload_n ci_835_222 l0 ?_
      refine hs_gfr 19 169 ci_835_223 (by decide +kernel) hp ?_
      refine hs_iload_n ci_835_226 l2 ?_
      refine hs_aload_n ci_835_227 l1 ?_
      refine hs_gfr 19 21 ci_835_228 (by decide +kernel) hp ?_
      refine hs_iload_n ci_835_231 l2 ?_
      refine hs_iaload 0 9 (-2147483648) (2147483647) ci_835_232 (by decide +kernel) hp (by omega) (by omega) (fun r232_1 r232_2 => ?_)
      refine hs_iastore 0 9 (-2147483648) (2147483647) ci_835_233 (by decide +kernel) hp (by omega) (by omega) r232_1 r232_2 ?_
      intro h233 w233
      replace hp := w233.1
      refine hs_iinc2 ci_835_234 (by decide +kernel) l2 ?_
      intro ls9 q9
      replace l0 := q9.2 0 _ (by decide) (Or.inl rfl) l0
      replace l1 := q9.2 1 _ (by decide) (Or.inl rfl) l1
      have l2 := q9.1
      clear q9
      refine hs_goto (t := 108) ci_835_237 rfl ?_
      have ei : x.toInt.toNat = i := by omega
      rw [ei] at w125 w137
      have g125 : ab_fr [(160, 0, 9)] h125 h1 := w125.fr (ab_inr_up (k1 := 0) (k2 := 9) rfl (by omega) (by omega))
      have g137 : ab_fr [(161, 0, 9)] h137 h125 := w137.fr (ab_inr_up (k1 := 0) (k2 := 9) rfl (by omega) (by omega))
      have g149 : ab_fr [(162, 0, 9)] h149 h137 := w149.fr (ab_inr_up (k1 := 0) (k2 := 9) rfl (by omega) (by omega))
      have g161 : ab_fr [(163, 0, 9)] h161 h149 := w161.fr (ab_inr_up (k1 := 0) (k2 := 9) rfl (by omega) (by omega))
      have g173 : ab_fr [(164, 0, 9)] h173 h161 := w173.fr (ab_inr_up (k1 := 0) (k2 := 9) rfl (by omega) (by omega))
      have g185 : ab_fr [(165, 0, 9)] h185 h173 := w185.fr (ab_inr_up (k1 := 0) (k2 := 9) rfl (by omega) (by omega))
      have g197 : ab_fr [(166, 0, 9)] h197 h185 := w197.fr (ab_inr_up (k1 := 0) (k2 := 9) rfl (by omega) (by omega))
      have g209 : ab_fr [(167, 0, 9)] h209 h197 := w209.fr (ab_inr_up (k1 := 0) (k2 := 9) rfl (by omega) (by omega))
      have g221 : ab_fr [(168, 0, 9)] h221 h209 := w221.fr (ab_inr_up (k1 := 0) (k2 := 9) rfl (by omega) (by omega))
      have g233 : ab_fr [(169, 0, 9)] h233 h221 := w233.fr (ab_inr_up (k1 := 0) (k2 := 9) rfl (by omega) (by omega))
      have gR : ab_fr [(162, 0, 9), (163, 0, 9), (164, 0, 9), (165, 0, 9), (166, 0, 9), (167, 0, 9), (168, 0, 9), (169, 0, 9)] h233 h137 := (fr_sub (by decide +kernel) g233).tr ((fr_sub (by decide +kernel) g221).tr ((fr_sub (by decide +kernel) g209).tr ((fr_sub (by decide +kernel) g197).tr ((fr_sub (by decide +kernel) g185).tr ((fr_sub (by decide +kernel) g173).tr ((fr_sub (by decide +kernel) g161).tr (fr_sub (by decide +kernel) g149)))))))
      have F9 : ab_fr MC_156_8 h233 h := (fr_sub (by decide +kernel) gR).tr ((fr_sub (by decide +kernel) g137).tr ((fr_sub (by decide +kernel) g125).tr f1))
      refine ih (i + 1) _ _ _ (by omega) (i32_inc hx (by omega) (by omega)) l0 l1 l2 hp F9 (fun k hk => ?_) (fun k hk => ?_) (fun k hk => ?_)
      · rw [hv_same (gR 156 k rfl), hv_same (g137 156 k rfl), hv_same (g125 156 k rfl)]
        exact hS k hk
      · rw [hl_same (gR 157 k rfl), hl_same (g137 157 k rfl), hl_same (g125 157 k rfl)]
        exact hN k hk
      · have e1 : hl h233 160 k = hl h125 160 k := (hl_same (gR 160 k rfl)).trans (hl_same (g137 160 k rfl))
        have e2 : hv h233 161 k = hv h137 161 k := hv_same (gR 161 k rfl)
        by_cases e : k = i
        · subst e
          exact ⟨e1.trans (by rw [w125.v, if_pos ⟨rfl, rfl⟩, hl_same (f1 12 k rfl)]), e2.trans (by rw [w137.v, if_pos ⟨rfl, rfl⟩, hv_same (g125 13 k rfl), hv_same (f1 13 k rfl)])⟩
        · obtain ⟨c1, c2⟩ := hG k (by omega)
          exact ⟨e1.trans (by rw [w125.v, if_neg (fun g => e g.2)]; exact c1), e2.trans (by rw [w137.v, if_neg (fun g => e g.2), hv_same (g125 161 k rfl)]; exact c2)⟩
theorem cq1_156_8 {sc : List Value} {sp d : Nat} {h : eg_H} (hqh : ab_hp h) : ∀ (n i : Nat) (x : Int32) (ls : eg_L) (h1 : eg_H), i + n = 6 → x.toInt = (i : Int) → eg_find 0 ls = some (.ref 156) → eg_find 1 ls = some (.ref 8) → eg_find 2 ls = some (.int x) → ab_hp0 h1 → ab_fr MC_156_8 h1 h → (∀ i, i < 7 → hv h1 156 i = hv h 8 i) → (∀ k, k < i → hl h1 157 k = hl h 9 k) → hs sc sp 835 1 d (fun pc' _ st' h' => ∃ ik vo, ab_ret 835 pc' = some ik ∧ eg_rv (eg_md 835).2.2.2 ik st' = some vo ∧ cq_P MC_156_8 h 156 8 vo h') 58 ls [] h1 := by
  intro n
  induction n with
  | zero =>
    intro i x ls h1 hi hx l0 l1 l2 hp f1 hS hN
    refine hs_iload_n ci_835_58 l2 ?_
    refine hs_bipush ci_835_59 ?_
    refine hs_ic (t := 106) ci_835_61 rfl (fun b61 => ?_) (fun b61 => ?_)
    · simp only [hs_cd, ab_not, kB_6] at b61
      refine hs_iconst ci_835_106 ?_
      refine hs_istore2_n ci_835_107 (by decide +kernel) ?_
      intro ls9 q9
      replace l0 := q9.2 0 _ (by decide) (Or.inl rfl) l0
      replace l1 := q9.2 1 _ (by decide) (Or.inl rfl) l1
      have l2 := q9.1
      clear q9
      exact cq2_156_8 hqh 10 0 _ _ _ (by decide) kI_0 l0 l1 l2 hp f1 hS (fun k hk => hN k (by omega)) (fun k hk => by omega)
    · simp only [hs_cd, ab_not, kB_6] at b61
      omega
  | succ n ih =>
    intro i x ls h1 hi hx l0 l1 l2 hp f1 hS hN
    refine hs_iload_n ci_835_58 l2 ?_
    refine hs_bipush ci_835_59 ?_
    refine hs_ic (t := 106) ci_835_61 rfl (fun b61 => ?_) (fun b61 => ?_)
    · simp only [hs_cd, ab_not, kB_6] at b61
      omega
    · simp only [hs_cd, ab_not, kB_6] at b61
      refine hs_aload_n ci_835_64 l0 ?_
      refine hs_gfr 7 157 ci_835_65 (by decide +kernel) hp ?_
      refine hs_iload_n ci_835_68 l2 ?_
      refine hs_aload_n ci_835_69 l1 ?_
      refine hs_gfr 7 9 ci_835_70 (by decide +kernel) hp ?_
      refine hs_iload_n ci_835_73 l2 ?_
      refine hs_laload 6 ci_835_74 (by decide +kernel) hp (by omega) (by omega) ?_
      refine hs_lastore 6 ci_835_75 (by decide +kernel) hp (by omega) (by omega) ?_
      intro h75 w75
      replace hp := w75.1
      refine hs_aload_n ci_835_76 l0 ?_
      refine hs_gfr 8 158 ci_835_77 (by decide +kernel) hp ?_
      refine hs_iload_n ci_835_80 l2 ?_
      refine hs_aload_n ci_835_81 l1 ?_
      refine hs_gfr 8 10 ci_835_82 (by decide +kernel) hp ?_
      refine hs_iload_n ci_835_85 l2 ?_
      refine hs_iaload 0 5 (-2147483648) (2147483647) ci_835_86 (by decide +kernel) hp (by omega) (by omega) (fun r86_1 r86_2 => ?_)
      refine hs_iastore 0 5 (-2147483648) (2147483647) ci_835_87 (by decide +kernel) hp (by omega) (by omega) r86_1 r86_2 ?_
      intro h87 w87
      replace hp := w87.1
      refine hs_aload_n ci_835_88 l0 ?_
      refine hs_gfr 9 159 ci_835_89 (by decide +kernel) hp ?_
      refine hs_iload_n ci_835_92 l2 ?_
      refine hs_aload_n ci_835_93 l1 ?_
      refine hs_gfr 9 11 ci_835_94 (by decide +kernel) hp ?_
      refine hs_iload_n ci_835_97 l2 ?_
      refine hs_iaload 0 5 (-2147483648) (2147483647) ci_835_98 (by decide +kernel) hp (by omega) (by omega) (fun r98_1 r98_2 => ?_)
      refine hs_iastore 0 5 (-2147483648) (2147483647) ci_835_99 (by decide +kernel) hp (by omega) (by omega) r98_1 r98_2 ?_
      intro h99 w99
      replace hp := w99.1
      refine hs_iinc2 ci_835_100 (by decide +kernel) l2 ?_
      intro ls9 q9
      replace l0 := q9.2 0 _ (by decide) (Or.inl rfl) l0
      replace l1 := q9.2 1 _ (by decide) (Or.inl rfl) l1
      have l2 := q9.1
      clear q9
      refine hs_goto (t := 58) ci_835_103 rfl ?_
      have ei : x.toInt.toNat = i := by omega
      rw [ei] at w75
      have g75 : ab_fr [(157, 0, 5)] h75 h1 := w75.fr (ab_inr_up (k1 := 0) (k2 := 5) rfl (by omega) (by omega))
      have g87 : ab_fr [(158, 0, 5)] h87 h75 := w87.fr (ab_inr_up (k1 := 0) (k2 := 5) rfl (by omega) (by omega))
      have g99 : ab_fr [(159, 0, 5)] h99 h87 := w99.fr (ab_inr_up (k1 := 0) (k2 := 5) rfl (by omega) (by omega))
      have F9 : ab_fr MC_156_8 h99 h := (fr_sub (by decide +kernel) g99).tr ((fr_sub (by decide +kernel) g87).tr ((fr_sub (by decide +kernel) g75).tr f1))
      refine ih (i + 1) _ _ _ (by omega) (i32_inc hx (by omega) (by omega)) l0 l1 l2 hp F9 (fun k hk => ?_) (fun k hk => ?_)
      · rw [hv_same (g99 156 k rfl), hv_same (g87 156 k rfl), hv_same (g75 156 k rfl)]
        exact hS k hk
      · have e1 : hl h99 157 k = hl h75 157 k := (hl_same (g99 157 k rfl)).trans (hl_same (g87 157 k rfl))
        by_cases e : k = i
        · subst e
          exact e1.trans (by rw [w75.v, if_pos ⟨rfl, rfl⟩, hl_same (f1 9 k rfl)])
        · exact e1.trans (by rw [w75.v, if_neg (fun g => e g.2)]; exact hN k (by omega))
theorem k_cq_156_8 {sc : List Value} {sp d : Nat} {h : eg_H} (hq : ab_hp h) : mc sc sp 835 1 d [.ref 156, .ref 8] h (cq_P MC_156_8 h 156 8) := by
  have l0 : eg_find 0 (eg_args 0 [.ref 156, .ref 8]) = some (.ref 156) := rfl
  have l1 : eg_find 1 (eg_args 0 [.ref 156, .ref 8]) = some (.ref 8) := rfl
  have hp := hq.1
  unfold mc
  refine hs_aload_n ci_835_0 l0 ?_
  refine hs_aload_n ci_835_1 l1 ?_
  refine hs_gfi 0 ci_835_2 (by decide +kernel) hp ?_
  refine hs_pfi 0 (-2147483648) (2147483647) ci_835_5 (by decide +kernel) hp (ab_ige _) (ab_ile _) ?_
  intro h5 w5
  replace hp := w5.1
  refine hs_aload_n ci_835_8 l0 ?_
  refine hs_aload_n ci_835_9 l1 ?_
  refine hs_gfi 1 ci_835_10 (by decide +kernel) hp ?_
  refine hs_pfi 1 (-2147483648) (2147483647) ci_835_13 (by decide +kernel) hp (ab_ige _) (ab_ile _) ?_
  intro h13 w13
  replace hp := w13.1
  refine hs_aload_n ci_835_16 l0 ?_
  refine hs_aload_n ci_835_17 l1 ?_
  refine hs_gfi 2 ci_835_18 (by decide +kernel) hp ?_
  refine hs_pfi 2 (-2147483648) (2147483647) ci_835_21 (by decide +kernel) hp (ab_ige _) (ab_ile _) ?_
  intro h21 w21
  replace hp := w21.1
  refine hs_aload_n ci_835_24 l0 ?_
  refine hs_aload_n ci_835_25 l1 ?_
  refine hs_gfi 3 ci_835_26 (by decide +kernel) hp ?_
  refine hs_pfi 3 (-2147483648) (2147483647) ci_835_29 (by decide +kernel) hp (ab_ige _) (ab_ile _) ?_
  intro h29 w29
  replace hp := w29.1
  refine hs_aload_n ci_835_32 l0 ?_
  refine hs_aload_n ci_835_33 l1 ?_
  refine hs_gfi 4 ci_835_34 (by decide +kernel) hp ?_
  refine hs_pfi 4 (0) (6) ci_835_37 (by decide +kernel) hp (sb_0 (lo := .ofNat 0) (hi := .ofNat 6) hp (by decide +kernel)).1 (sb_0 (lo := .ofNat 0) (hi := .ofNat 6) hp (by decide +kernel)).2 ?_
  intro h37 w37
  replace hp := w37.1
  refine hs_aload_n ci_835_40 l0 ?_
  refine hs_aload_n ci_835_41 l1 ?_
  refine hs_gfi 5 ci_835_42 (by decide +kernel) hp ?_
  refine hs_pfi 5 (0) (10) ci_835_45 (by decide +kernel) hp (sb_0 (lo := .ofNat 0) (hi := .ofNat 10) hp (by decide +kernel)).1 (sb_0 (lo := .ofNat 0) (hi := .ofNat 10) hp (by decide +kernel)).2 ?_
  intro h45 w45
  replace hp := w45.1
  refine hs_aload_n ci_835_48 l0 ?_
  refine hs_aload_n ci_835_49 l1 ?_
  refine hs_gfi 6 ci_835_50 (by decide +kernel) hp ?_
  refine hs_pfi 6 (-2147483648) (2147483647) ci_835_53 (by decide +kernel) hp (ab_ige _) (ab_ile _) ?_
  intro h53 w53
  replace hp := w53.1
  refine hs_iconst ci_835_56 ?_
  refine hs_istore2_n ci_835_57 (by decide +kernel) ?_
  intro ls9 q9
  replace l0 := q9.2 0 _ (by decide) (Or.inl rfl) l0
  replace l1 := q9.2 1 _ (by decide) (Or.inl rfl) l1
  have l2 := q9.1
  clear q9
  have f5 : ab_fr [(156, 0, 6)] h5 h := w5.fr rfl
  have f13 : ab_fr [(156, 0, 6)] h13 h := (w13.fr rfl).tr f5
  have f21 : ab_fr [(156, 0, 6)] h21 h := (w21.fr rfl).tr f13
  have f29 : ab_fr [(156, 0, 6)] h29 h := (w29.fr rfl).tr f21
  have f37 : ab_fr [(156, 0, 6)] h37 h := (w37.fr rfl).tr f29
  have f45 : ab_fr [(156, 0, 6)] h45 h := (w45.fr rfl).tr f37
  have f53 : ab_fr [(156, 0, 6)] h53 h := (w53.fr rfl).tr f45
  have fM : ab_fr MC_156_8 h53 h := fr_sub (by decide +kernel) f53
  refine cq1_156_8 hq 6 0 _ _ _ (by decide) kI_0 l0 l1 l2 hp fM (fun i hi => ?_) (fun k hk => by omega)
  have hi2 : i = 0 ∨ i = 1 ∨ i = 2 ∨ i = 3 ∨ i = 4 ∨ i = 5 ∨ i = 6 := by omega
  rcases hi2 with rfl | rfl | rfl | rfl | rfl | rfl | rfl
  · rw [w53.v, if_neg (by decide), w45.v, if_neg (by decide), w37.v, if_neg (by decide), w29.v, if_neg (by decide), w21.v, if_neg (by decide), w13.v, if_neg (by decide), w5.v, if_pos ⟨rfl, rfl⟩]
  · rw [w53.v, if_neg (by decide), w45.v, if_neg (by decide), w37.v, if_neg (by decide), w29.v, if_neg (by decide), w21.v, if_neg (by decide), w13.v, if_pos ⟨rfl, rfl⟩, hv_same (f5 8 1 rfl)]
  · rw [w53.v, if_neg (by decide), w45.v, if_neg (by decide), w37.v, if_neg (by decide), w29.v, if_neg (by decide), w21.v, if_pos ⟨rfl, rfl⟩, hv_same (f13 8 2 rfl)]
  · rw [w53.v, if_neg (by decide), w45.v, if_neg (by decide), w37.v, if_neg (by decide), w29.v, if_pos ⟨rfl, rfl⟩, hv_same (f21 8 3 rfl)]
  · rw [w53.v, if_neg (by decide), w45.v, if_neg (by decide), w37.v, if_pos ⟨rfl, rfl⟩, hv_same (f29 8 4 rfl)]
  · rw [w53.v, if_neg (by decide), w45.v, if_pos ⟨rfl, rfl⟩, hv_same (f37 8 5 rfl)]
  · rw [w53.v, if_pos ⟨rfl, rfl⟩, hv_same (f45 8 6 rfl)]
theorem cq2_8_130 {sc : List Value} {sp d : Nat} {h : eg_H} (hqh : ab_hp h) : ∀ (n i : Nat) (x : Int32) (ls : eg_L) (h1 : eg_H), i + n = 10 → x.toInt = (i : Int) → eg_find 0 ls = some (.ref 8) → eg_find 1 ls = some (.ref 130) → eg_find 2 ls = some (.int x) → ab_hp0 h1 → ab_fr MC_8_130 h1 h → (∀ i, i < 7 → hv h1 8 i = hv h 130 i) → (∀ k, k < 6 → hl h1 9 k = hl h 131 k) → (∀ k, k < i → hl h1 12 k = hl h 134 k ∧ hv h1 13 k = hv h 135 k) → hs sc sp 835 1 d (fun pc' _ st' h' => ∃ ik vo, ab_ret 835 pc' = some ik ∧ eg_rv (eg_md 835).2.2.2 ik st' = some vo ∧ cq_P MC_8_130 h 8 130 vo h') 108 ls [] h1 := by
  intro n
  induction n with
  | zero =>
    intro i x ls h1 hi hx l0 l1 l2 hp f1 hS hN hG
    refine hs_iload_n ci_835_108 l2 ?_
    refine hs_bipush ci_835_109 ?_
    refine hs_ic (t := 240) ci_835_111 rfl (fun b111 => ?_) (fun b111 => ?_)
    · simp only [hs_cd, ab_not, kB_10] at b111
      exact hs_k ⟨5, none, by decide +kernel, by rw [rt_835]; rfl, rfl, ⟨hp, hqh.2.fr (M := MC_8_130) (by decide +kernel) f1⟩, f1, hS, hN, fun k hk => hG k (by omega)⟩
    · simp only [hs_cd, ab_not, kB_10] at b111
      omega
  | succ n ih =>
    intro i x ls h1 hi hx l0 l1 l2 hp f1 hS hN hG
    refine hs_iload_n ci_835_108 l2 ?_
    refine hs_bipush ci_835_109 ?_
    refine hs_ic (t := 240) ci_835_111 rfl (fun b111 => ?_) (fun b111 => ?_)
    · simp only [hs_cd, ab_not, kB_10] at b111
      omega
    · simp only [hs_cd, ab_not, kB_10] at b111
      refine hs_aload_n ci_835_114 l0 ?_
      refine hs_gfr 10 12 ci_835_115 (by decide +kernel) hp ?_
      refine hs_iload_n ci_835_118 l2 ?_
      refine hs_aload_n ci_835_119 l1 ?_
      refine hs_gfr 10 134 ci_835_120 (by decide +kernel) hp ?_
      refine hs_iload_n ci_835_123 l2 ?_
      refine hs_laload 10 ci_835_124 (by decide +kernel) hp (by omega) (by omega) ?_
      refine hs_lastore 10 ci_835_125 (by decide +kernel) hp (by omega) (by omega) ?_
      intro h125 w125
      replace hp := w125.1
      refine hs_aload_n ci_835_126 l0 ?_
      refine hs_gfr 11 13 ci_835_127 (by decide +kernel) hp ?_
      refine hs_iload_n ci_835_130 l2 ?_
      refine hs_aload_n ci_835_131 l1 ?_
      refine hs_gfr 11 135 ci_835_132 (by decide +kernel) hp ?_
      refine hs_iload_n ci_835_135 l2 ?_
      refine hs_iaload 0 9 (0) (5) ci_835_136 (by decide +kernel) hp (by omega) (by omega) (fun r136_1 r136_2 => ?_)
      refine hs_iastore 0 9 (0) (5) ci_835_137 (by decide +kernel) hp (by omega) (by omega) r136_1 r136_2 ?_
      intro h137 w137
      replace hp := w137.1
      refine hs_aload_n ci_835_138 l0 ?_
      refine hs_gfr 12 14 ci_835_139 (by decide +kernel) hp ?_
      refine hs_iload_n ci_835_142 l2 ?_
      refine hs_aload_n ci_835_143 l1 ?_
      refine hs_gfr 12 136 ci_835_144 (by decide +kernel) hp ?_
      refine hs_iload_n ci_835_147 l2 ?_
      refine hs_iaload 0 9 (0) (5) ci_835_148 (by decide +kernel) hp (by omega) (by omega) (fun r148_1 r148_2 => ?_)
      refine hs_iastore 0 9 (0) (5) ci_835_149 (by decide +kernel) hp (by omega) (by omega) r148_1 r148_2 ?_
      intro h149 w149
      replace hp := w149.1
      refine hs_aload_n ci_835_150 l0 ?_
      refine hs_gfr 13 15 ci_835_151 (by decide +kernel) hp ?_
      refine hs_iload_n ci_835_154 l2 ?_
      refine hs_aload_n ci_835_155 l1 ?_
      refine hs_gfr 13 137 ci_835_156 (by decide +kernel) hp ?_
      refine hs_iload_n ci_835_159 l2 ?_
      refine hs_iaload 0 9 (-2147483648) (2147483647) ci_835_160 (by decide +kernel) hp (by omega) (by omega) (fun r160_1 r160_2 => ?_)
      refine hs_iastore 0 9 (-2147483648) (2147483647) ci_835_161 (by decide +kernel) hp (by omega) (by omega) r160_1 r160_2 ?_
      intro h161 w161
      replace hp := w161.1
      refine hs_aload_n ci_835_162 l0 ?_
      refine hs_gfr 14 16 ci_835_163 (by decide +kernel) hp ?_
      refine hs_iload_n ci_835_166 l2 ?_
      refine hs_aload_n ci_835_167 l1 ?_
      refine hs_gfr 14 138 ci_835_168 (by decide +kernel) hp ?_
      refine hs_iload_n ci_835_171 l2 ?_
      refine hs_iaload 0 9 (-2147483648) (2147483647) ci_835_172 (by decide +kernel) hp (by omega) (by omega) (fun r172_1 r172_2 => ?_)
      refine hs_iastore 0 9 (-2147483648) (2147483647) ci_835_173 (by decide +kernel) hp (by omega) (by omega) r172_1 r172_2 ?_
      intro h173 w173
      replace hp := w173.1
      refine hs_aload_n ci_835_174 l0 ?_
      refine hs_gfr 15 17 ci_835_175 (by decide +kernel) hp ?_
      refine hs_iload_n ci_835_178 l2 ?_
      refine hs_aload_n ci_835_179 l1 ?_
      refine hs_gfr 15 139 ci_835_180 (by decide +kernel) hp ?_
      refine hs_iload_n ci_835_183 l2 ?_
      refine hs_iaload 0 9 (-2147483648) (2147483647) ci_835_184 (by decide +kernel) hp (by omega) (by omega) (fun r184_1 r184_2 => ?_)
      refine hs_iastore 0 9 (-2147483648) (2147483647) ci_835_185 (by decide +kernel) hp (by omega) (by omega) r184_1 r184_2 ?_
      intro h185 w185
      replace hp := w185.1
      refine hs_aload_n ci_835_186 l0 ?_
      refine hs_gfr 16 18 ci_835_187 (by decide +kernel) hp ?_
      refine hs_iload_n ci_835_190 l2 ?_
      refine hs_aload_n ci_835_191 l1 ?_
      refine hs_gfr 16 140 ci_835_192 (by decide +kernel) hp ?_
      refine hs_iload_n ci_835_195 l2 ?_
      refine hs_iaload 0 9 (-2147483648) (2147483647) ci_835_196 (by decide +kernel) hp (by omega) (by omega) (fun r196_1 r196_2 => ?_)
      refine hs_iastore 0 9 (-2147483648) (2147483647) ci_835_197 (by decide +kernel) hp (by omega) (by omega) r196_1 r196_2 ?_
      intro h197 w197
      replace hp := w197.1
      refine hs_aload_n ci_835_198 l0 ?_
      refine hs_gfr 17 19 ci_835_199 (by decide +kernel) hp ?_
      refine hs_iload_n ci_835_202 l2 ?_
      refine hs_aload_n ci_835_203 l1 ?_
      refine hs_gfr 17 141 ci_835_204 (by decide +kernel) hp ?_
      refine hs_iload_n ci_835_207 l2 ?_
      refine hs_iaload 0 9 (-2147483648) (2147483647) ci_835_208 (by decide +kernel) hp (by omega) (by omega) (fun r208_1 r208_2 => ?_)
      refine hs_iastore 0 9 (-2147483648) (2147483647) ci_835_209 (by decide +kernel) hp (by omega) (by omega) r208_1 r208_2 ?_
      intro h209 w209
      replace hp := w209.1
      refine hs_aload_n ci_835_210 l0 ?_
      refine hs_gfr 18 20 ci_835_211 (by decide +kernel) hp ?_
      refine hs_iload_n ci_835_214 l2 ?_
      refine hs_aload_n ci_835_215 l1 ?_
      refine hs_gfr 18 142 ci_835_216 (by decide +kernel) hp ?_
      refine hs_iload_n ci_835_219 l2 ?_
      refine hs_iaload 0 9 (-2147483648) (2147483647) ci_835_220 (by decide +kernel) hp (by omega) (by omega) (fun r220_1 r220_2 => ?_)
      refine hs_iastore 0 9 (-2147483648) (2147483647) ci_835_221 (by decide +kernel) hp (by omega) (by omega) r220_1 r220_2 ?_
      intro h221 w221
      replace hp := w221.1
      refine hs_aload_n ci_835_222 l0 ?_
      refine hs_gfr 19 21 ci_835_223 (by decide +kernel) hp ?_
      refine hs_iload_n ci_835_226 l2 ?_
      refine hs_aload_n ci_835_227 l1 ?_
      refine hs_gfr 19 143 ci_835_228 (by decide +kernel) hp ?_
      refine hs_iload_n ci_835_231 l2 ?_
      refine hs_iaload 0 9 (-2147483648) (2147483647) ci_835_232 (by decide +kernel) hp (by omega) (by omega) (fun r232_1 r232_2 => ?_)
      refine hs_iastore 0 9 (-2147483648) (2147483647) ci_835_233 (by decide +kernel) hp (by omega) (by omega) r232_1 r232_2 ?_
      intro h233 w233
      replace hp := w233.1
      refine hs_iinc2 ci_835_234 (by decide +kernel) l2 ?_
      intro ls9 q9
      replace l0 := q9.2 0 _ (by decide) (Or.inl rfl) l0
      replace l1 := q9.2 1 _ (by decide) (Or.inl rfl) l1
      have l2 := q9.1
      clear q9
      refine hs_goto (t := 108) ci_835_237 rfl ?_
      have ei : x.toInt.toNat = i := by omega
      rw [ei] at w125 w137
      have g125 : ab_fr [(12, 0, 9)] h125 h1 := w125.fr (ab_inr_up (k1 := 0) (k2 := 9) rfl (by omega) (by omega))
      have g137 : ab_fr [(13, 0, 9)] h137 h125 := w137.fr (ab_inr_up (k1 := 0) (k2 := 9) rfl (by omega) (by omega))
      have g149 : ab_fr [(14, 0, 9)] h149 h137 := w149.fr (ab_inr_up (k1 := 0) (k2 := 9) rfl (by omega) (by omega))
      have g161 : ab_fr [(15, 0, 9)] h161 h149 := w161.fr (ab_inr_up (k1 := 0) (k2 := 9) rfl (by omega) (by omega))
      have g173 : ab_fr [(16, 0, 9)] h173 h161 := w173.fr (ab_inr_up (k1 := 0) (k2 := 9) rfl (by omega) (by omega))
      have g185 : ab_fr [(17, 0, 9)] h185 h173 := w185.fr (ab_inr_up (k1 := 0) (k2 := 9) rfl (by omega) (by omega))
      have g197 : ab_fr [(18, 0, 9)] h197 h185 := w197.fr (ab_inr_up (k1 := 0) (k2 := 9) rfl (by omega) (by omega))
      have g209 : ab_fr [(19, 0, 9)] h209 h197 := w209.fr (ab_inr_up (k1 := 0) (k2 := 9) rfl (by omega) (by omega))
      have g221 : ab_fr [(20, 0, 9)] h221 h209 := w221.fr (ab_inr_up (k1 := 0) (k2 := 9) rfl (by omega) (by omega))
      have g233 : ab_fr [(21, 0, 9)] h233 h221 := w233.fr (ab_inr_up (k1 := 0) (k2 := 9) rfl (by omega) (by omega))
      have gR : ab_fr [(14, 0, 9), (15, 0, 9), (16, 0, 9), (17, 0, 9), (18, 0, 9), (19, 0, 9), (20, 0, 9), (21, 0, 9)] h233 h137 := (fr_sub (by decide +kernel) g233).tr ((fr_sub (by decide +kernel) g221).tr ((fr_sub (by decide +kernel) g209).tr ((fr_sub (by decide +kernel) g197).tr ((fr_sub (by decide +kernel) g185).tr ((fr_sub (by decide +kernel) g173).tr ((fr_sub (by decide +kernel) g161).tr (fr_sub (by decide +kernel) g149)))))))
      have F9 : ab_fr MC_8_130 h233 h := (fr_sub (by decide +kernel) gR).tr ((fr_sub (by decide +kernel) g137).tr ((fr_sub (by decide +kernel) g125).tr f1))
      refine ih (i + 1) _ _ _ (by omega) (i32_inc hx (by omega) (by omega)) l0 l1 l2 hp F9 (fun k hk => ?_) (fun k hk => ?_) (fun k hk => ?_)
      · rw [hv_same (gR 8 k rfl), hv_same (g137 8 k rfl), hv_same (g125 8 k rfl)]
        exact hS k hk
      · rw [hl_same (gR 9 k rfl), hl_same (g137 9 k rfl), hl_same (g125 9 k rfl)]
        exact hN k hk
      · have e1 : hl h233 12 k = hl h125 12 k := (hl_same (gR 12 k rfl)).trans (hl_same (g137 12 k rfl))
        have e2 : hv h233 13 k = hv h137 13 k := hv_same (gR 13 k rfl)
        by_cases e : k = i
        · subst e
          exact ⟨e1.trans (by rw [w125.v, if_pos ⟨rfl, rfl⟩, hl_same (f1 134 k rfl)]), e2.trans (by rw [w137.v, if_pos ⟨rfl, rfl⟩, hv_same (g125 135 k rfl), hv_same (f1 135 k rfl)])⟩
        · obtain ⟨c1, c2⟩ := hG k (by omega)
          exact ⟨e1.trans (by rw [w125.v, if_neg (fun g => e g.2)]; exact c1), e2.trans (by rw [w137.v, if_neg (fun g => e g.2), hv_same (g125 13 k rfl)]; exact c2)⟩
theorem cq1_8_130 {sc : List Value} {sp d : Nat} {h : eg_H} (hqh : ab_hp h) : ∀ (n i : Nat) (x : Int32) (ls : eg_L) (h1 : eg_H), i + n = 6 → x.toInt = (i : Int) → eg_find 0 ls = some (.ref 8) → eg_find 1 ls = some (.ref 130) → eg_find 2 ls = some (.int x) → ab_hp0 h1 → ab_fr MC_8_130 h1 h → (∀ i, i < 7 → hv h1 8 i = hv h 130 i) → (∀ k, k < i → hl h1 9 k = hl h 131 k) → hs sc sp 835 1 d (fun pc' _ st' h' => ∃ ik vo, ab_ret 835 pc' = some ik ∧ eg_rv (eg_md 835).2.2.2 ik st' = some vo ∧ cq_P MC_8_130 h 8 130 vo h') 58 ls [] h1 := by
  intro n
  induction n with
  | zero =>
    intro i x ls h1 hi hx l0 l1 l2 hp f1 hS hN
    refine hs_iload_n ci_835_58 l2 ?_
    refine hs_bipush ci_835_59 ?_
    refine hs_ic (t := 106) ci_835_61 rfl (fun b61 => ?_) (fun b61 => ?_)
    · simp only [hs_cd, ab_not, kB_6] at b61
      refine hs_iconst ci_835_106 ?_
      refine hs_istore2_n ci_835_107 (by decide +kernel) ?_
      intro ls9 q9
      replace l0 := q9.2 0 _ (by decide) (Or.inl rfl) l0
      replace l1 := q9.2 1 _ (by decide) (Or.inl rfl) l1
      have l2 := q9.1
      clear q9
      exact cq2_8_130 hqh 10 0 _ _ _ (by decide) kI_0 l0 l1 l2 hp f1 hS (fun k hk => hN k (by omega)) (fun k hk => by omega)
    · simp only [hs_cd, ab_not, kB_6] at b61
      omega
  | succ n ih =>
    intro i x ls h1 hi hx l0 l1 l2 hp f1 hS hN
    refine hs_iload_n ci_835_58 l2 ?_
    refine hs_bipush ci_835_59 ?_
    refine hs_ic (t := 106) ci_835_61 rfl (fun b61 => ?_) (fun b61 => ?_)
    · simp only [hs_cd, ab_not, kB_6] at b61
      omega
    · simp only [hs_cd, ab_not, kB_6] at b61
      refine hs_aload_n ci_835_64 l0 ?_
      refine hs_gfr 7 9 ci_835_65 (by decide +kernel) hp ?_
      refine hs_iload_n ci_835_68 l2 ?_
      refine hs_aload_n ci_835_69 l1 ?_
      refine hs_gfr 7 131 ci_835_70 (by decide +kernel) hp ?_
      refine hs_iload_n ci_835_73 l2 ?_
      refine hs_laload 6 ci_835_74 (by decide +kernel) hp (by omega) (by omega) ?_
      refine hs_lastore 6 ci_835_75 (by decide +kernel) hp (by omega) (by omega) ?_
      intro h75 w75
      replace hp := w75.1
      refine hs_aload_n ci_835_76 l0 ?_
      refine hs_gfr 8 10 ci_835_77 (by decide +kernel) hp ?_
      refine hs_iload_n ci_835_80 l2 ?_
      refine hs_aload_n ci_835_81 l1 ?_
      refine hs_gfr 8 132 ci_835_82 (by decide +kernel) hp ?_
      refine hs_iload_n ci_835_85 l2 ?_
      refine hs_iaload 0 5 (-2147483648) (2147483647) ci_835_86 (by decide +kernel) hp (by omega) (by omega) (fun r86_1 r86_2 => ?_)
      refine hs_iastore 0 5 (-2147483648) (2147483647) ci_835_87 (by decide +kernel) hp (by omega) (by omega) r86_1 r86_2 ?_
      intro h87 w87
      replace hp := w87.1
      refine hs_aload_n ci_835_88 l0 ?_
      refine hs_gfr 9 11 ci_835_89 (by decide +kernel) hp ?_
      refine hs_iload_n ci_835_92 l2 ?_
      refine hs_aload_n ci_835_93 l1 ?_
      refine hs_gfr 9 133 ci_835_94 (by decide +kernel) hp ?_
      refine hs_iload_n ci_835_97 l2 ?_
      refine hs_iaload 0 5 (-2147483648) (2147483647) ci_835_98 (by decide +kernel) hp (by omega) (by omega) (fun r98_1 r98_2 => ?_)
      refine hs_iastore 0 5 (-2147483648) (2147483647) ci_835_99 (by decide +kernel) hp (by omega) (by omega) r98_1 r98_2 ?_
      intro h99 w99
      replace hp := w99.1
      refine hs_iinc2 ci_835_100 (by decide +kernel) l2 ?_
      intro ls9 q9
      replace l0 := q9.2 0 _ (by decide) (Or.inl rfl) l0
      replace l1 := q9.2 1 _ (by decide) (Or.inl rfl) l1
      have l2 := q9.1
      clear q9
      refine hs_goto (t := 58) ci_835_103 rfl ?_
      have ei : x.toInt.toNat = i := by omega
      rw [ei] at w75
      have g75 : ab_fr [(9, 0, 5)] h75 h1 := w75.fr (ab_inr_up (k1 := 0) (k2 := 5) rfl (by omega) (by omega))
      have g87 : ab_fr [(10, 0, 5)] h87 h75 := w87.fr (ab_inr_up (k1 := 0) (k2 := 5) rfl (by omega) (by omega))
      have g99 : ab_fr [(11, 0, 5)] h99 h87 := w99.fr (ab_inr_up (k1 := 0) (k2 := 5) rfl (by omega) (by omega))
      have F9 : ab_fr MC_8_130 h99 h := (fr_sub (by decide +kernel) g99).tr ((fr_sub (by decide +kernel) g87).tr ((fr_sub (by decide +kernel) g75).tr f1))
      refine ih (i + 1) _ _ _ (by omega) (i32_inc hx (by omega) (by omega)) l0 l1 l2 hp F9 (fun k hk => ?_) (fun k hk => ?_)
      · rw [hv_same (g99 8 k rfl), hv_same (g87 8 k rfl), hv_same (g75 8 k rfl)]
        exact hS k hk
      · have e1 : hl h99 9 k = hl h75 9 k := (hl_same (g99 9 k rfl)).trans (hl_same (g87 9 k rfl))
        by_cases e : k = i
        · subst e
          exact e1.trans (by rw [w75.v, if_pos ⟨rfl, rfl⟩, hl_same (f1 131 k rfl)])
        · exact e1.trans (by rw [w75.v, if_neg (fun g => e g.2)]; exact hN k (by omega))
theorem k_cq_8_130 {sc : List Value} {sp d : Nat} {h : eg_H} (hq : ab_hp h) : mc sc sp 835 1 d [.ref 8, .ref 130] h (cq_P MC_8_130 h 8 130) := by
  have l0 : eg_find 0 (eg_args 0 [.ref 8, .ref 130]) = some (.ref 8) := rfl
  have l1 : eg_find 1 (eg_args 0 [.ref 8, .ref 130]) = some (.ref 130) := rfl
  have hp := hq.1
  unfold mc
  refine hs_aload_n ci_835_0 l0 ?_
  refine hs_aload_n ci_835_1 l1 ?_
  refine hs_gfi 0 ci_835_2 (by decide +kernel) hp ?_
  refine hs_pfi 0 (-2147483648) (2147483647) ci_835_5 (by decide +kernel) hp (ab_ige _) (ab_ile _) ?_
  intro h5 w5
  replace hp := w5.1
  refine hs_aload_n ci_835_8 l0 ?_
  refine hs_aload_n ci_835_9 l1 ?_
  refine hs_gfi 1 ci_835_10 (by decide +kernel) hp ?_
  refine hs_pfi 1 (-2147483648) (2147483647) ci_835_13 (by decide +kernel) hp (ab_ige _) (ab_ile _) ?_
  intro h13 w13
  replace hp := w13.1
  refine hs_aload_n ci_835_16 l0 ?_
  refine hs_aload_n ci_835_17 l1 ?_
  refine hs_gfi 2 ci_835_18 (by decide +kernel) hp ?_
  refine hs_pfi 2 (-2147483648) (2147483647) ci_835_21 (by decide +kernel) hp (ab_ige _) (ab_ile _) ?_
  intro h21 w21
  replace hp := w21.1
  refine hs_aload_n ci_835_24 l0 ?_
  refine hs_aload_n ci_835_25 l1 ?_
  refine hs_gfi 3 ci_835_26 (by decide +kernel) hp ?_
  refine hs_pfi 3 (-2147483648) (2147483647) ci_835_29 (by decide +kernel) hp (ab_ige _) (ab_ile _) ?_
  intro h29 w29
  replace hp := w29.1
  refine hs_aload_n ci_835_32 l0 ?_
  refine hs_aload_n ci_835_33 l1 ?_
  refine hs_gfi 4 ci_835_34 (by decide +kernel) hp ?_
  refine hs_pfi 4 (0) (6) ci_835_37 (by decide +kernel) hp (sb_0 (lo := .ofNat 0) (hi := .ofNat 6) hp (by decide +kernel)).1 (sb_0 (lo := .ofNat 0) (hi := .ofNat 6) hp (by decide +kernel)).2 ?_
  intro h37 w37
  replace hp := w37.1
  refine hs_aload_n ci_835_40 l0 ?_
  refine hs_aload_n ci_835_41 l1 ?_
  refine hs_gfi 5 ci_835_42 (by decide +kernel) hp ?_
  refine hs_pfi 5 (0) (10) ci_835_45 (by decide +kernel) hp (sb_0 (lo := .ofNat 0) (hi := .ofNat 10) hp (by decide +kernel)).1 (sb_0 (lo := .ofNat 0) (hi := .ofNat 10) hp (by decide +kernel)).2 ?_
  intro h45 w45
  replace hp := w45.1
  refine hs_aload_n ci_835_48 l0 ?_
  refine hs_aload_n ci_835_49 l1 ?_
  refine hs_gfi 6 ci_835_50 (by decide +kernel) hp ?_
  refine hs_pfi 6 (-2147483648) (2147483647) ci_835_53 (by decide +kernel) hp (ab_ige _) (ab_ile _) ?_
  intro h53 w53
  replace hp := w53.1
  refine hs_iconst ci_835_56 ?_
  refine hs_istore2_n ci_835_57 (by decide +kernel) ?_
  intro ls9 q9
  replace l0 := q9.2 0 _ (by decide) (Or.inl rfl) l0
  replace l1 := q9.2 1 _ (by decide) (Or.inl rfl) l1
  have l2 := q9.1
  clear q9
  have f5 : ab_fr [(8, 0, 6)] h5 h := w5.fr rfl
  have f13 : ab_fr [(8, 0, 6)] h13 h := (w13.fr rfl).tr f5
  have f21 : ab_fr [(8, 0, 6)] h21 h := (w21.fr rfl).tr f13
  have f29 : ab_fr [(8, 0, 6)] h29 h := (w29.fr rfl).tr f21
  have f37 : ab_fr [(8, 0, 6)] h37 h := (w37.fr rfl).tr f29
  have f45 : ab_fr [(8, 0, 6)] h45 h := (w45.fr rfl).tr f37
  have f53 : ab_fr [(8, 0, 6)] h53 h := (w53.fr rfl).tr f45
  have fM : ab_fr MC_8_130 h53 h := fr_sub (by decide +kernel) f53
  refine cq1_8_130 hq 6 0 _ _ _ (by decide) kI_0 l0 l1 l2 hp fM (fun i hi => ?_) (fun k hk => by omega)
  have hi2 : i = 0 ∨ i = 1 ∨ i = 2 ∨ i = 3 ∨ i = 4 ∨ i = 5 ∨ i = 6 := by omega
  rcases hi2 with rfl | rfl | rfl | rfl | rfl | rfl | rfl
  · rw [w53.v, if_neg (by decide), w45.v, if_neg (by decide), w37.v, if_neg (by decide), w29.v, if_neg (by decide), w21.v, if_neg (by decide), w13.v, if_neg (by decide), w5.v, if_pos ⟨rfl, rfl⟩]
  · rw [w53.v, if_neg (by decide), w45.v, if_neg (by decide), w37.v, if_neg (by decide), w29.v, if_neg (by decide), w21.v, if_neg (by decide), w13.v, if_pos ⟨rfl, rfl⟩, hv_same (f5 130 1 rfl)]
  · rw [w53.v, if_neg (by decide), w45.v, if_neg (by decide), w37.v, if_neg (by decide), w29.v, if_neg (by decide), w21.v, if_pos ⟨rfl, rfl⟩, hv_same (f13 130 2 rfl)]
  · rw [w53.v, if_neg (by decide), w45.v, if_neg (by decide), w37.v, if_neg (by decide), w29.v, if_pos ⟨rfl, rfl⟩, hv_same (f21 130 3 rfl)]
  · rw [w53.v, if_neg (by decide), w45.v, if_neg (by decide), w37.v, if_pos ⟨rfl, rfl⟩, hv_same (f29 130 4 rfl)]
  · rw [w53.v, if_neg (by decide), w45.v, if_pos ⟨rfl, rfl⟩, hv_same (f37 130 5 rfl)]
  · rw [w53.v, if_pos ⟨rfl, rfl⟩, hv_same (f45 130 6 rfl)]
theorem cq2_8_156 {sc : List Value} {sp d : Nat} {h : eg_H} (hqh : ab_hp h) : ∀ (n i : Nat) (x : Int32) (ls : eg_L) (h1 : eg_H), i + n = 10 → x.toInt = (i : Int) → eg_find 0 ls = some (.ref 8) → eg_find 1 ls = some (.ref 156) → eg_find 2 ls = some (.int x) → ab_hp0 h1 → ab_fr MC_8_156 h1 h → (∀ i, i < 7 → hv h1 8 i = hv h 156 i) → (∀ k, k < 6 → hl h1 9 k = hl h 157 k) → (∀ k, k < i → hl h1 12 k = hl h 160 k ∧ hv h1 13 k = hv h 161 k) → hs sc sp 835 1 d (fun pc' _ st' h' => ∃ ik vo, ab_ret 835 pc' = some ik ∧ eg_rv (eg_md 835).2.2.2 ik st' = some vo ∧ cq_P MC_8_156 h 8 156 vo h') 108 ls [] h1 := by
  intro n
  induction n with
  | zero =>
    intro i x ls h1 hi hx l0 l1 l2 hp f1 hS hN hG
    refine hs_iload_n ci_835_108 l2 ?_
    refine hs_bipush ci_835_109 ?_
    refine hs_ic (t := 240) ci_835_111 rfl (fun b111 => ?_) (fun b111 => ?_)
    · simp only [hs_cd, ab_not, kB_10] at b111
      exact hs_k ⟨5, none, by decide +kernel, by rw [rt_835]; rfl, rfl, ⟨hp, hqh.2.fr (M := MC_8_156) (by decide +kernel) f1⟩, f1, hS, hN, fun k hk => hG k (by omega)⟩
    · simp only [hs_cd, ab_not, kB_10] at b111
      omega
  | succ n ih =>
    intro i x ls h1 hi hx l0 l1 l2 hp f1 hS hN hG
    refine hs_iload_n ci_835_108 l2 ?_
    refine hs_bipush ci_835_109 ?_
    refine hs_ic (t := 240) ci_835_111 rfl (fun b111 => ?_) (fun b111 => ?_)
    · simp only [hs_cd, ab_not, kB_10] at b111
      omega
    · simp only [hs_cd, ab_not, kB_10] at b111
      refine hs_aload_n ci_835_114 l0 ?_
      refine hs_gfr 10 12 ci_835_115 (by decide +kernel) hp ?_
      refine hs_iload_n ci_835_118 l2 ?_
      refine hs_aload_n ci_835_119 l1 ?_
      refine hs_gfr 10 160 ci_835_120 (by decide +kernel) hp ?_
      refine hs_iload_n ci_835_123 l2 ?_
      refine hs_laload 10 ci_835_124 (by decide +kernel) hp (by omega) (by omega) ?_
      refine hs_lastore 10 ci_835_125 (by decide +kernel) hp (by omega) (by omega) ?_
      intro h125 w125
      replace hp := w125.1
      refine hs_aload_n ci_835_126 l0 ?_
      refine hs_gfr 11 13 ci_835_127 (by decide +kernel) hp ?_
      refine hs_iload_n ci_835_130 l2 ?_
      refine hs_aload_n ci_835_131 l1 ?_
      refine hs_gfr 11 161 ci_835_132 (by decide +kernel) hp ?_
      refine hs_iload_n ci_835_135 l2 ?_
      refine hs_iaload 0 9 (0) (5) ci_835_136 (by decide +kernel) hp (by omega) (by omega) (fun r136_1 r136_2 => ?_)
      refine hs_iastore 0 9 (0) (5) ci_835_137 (by decide +kernel) hp (by omega) (by omega) r136_1 r136_2 ?_
      intro h137 w137
      replace hp := w137.1
      refine hs_aload_n ci_835_138 l0 ?_
      refine hs_gfr 12 14 ci_835_139 (by decide +kernel) hp ?_
      refine hs_iload_n ci_835_142 l2 ?_
      refine hs_aload_n ci_835_143 l1 ?_
      refine hs_gfr 12 162 ci_835_144 (by decide +kernel) hp ?_
      refine hs_iload_n ci_835_147 l2 ?_
      refine hs_iaload 0 9 (0) (5) ci_835_148 (by decide +kernel) hp (by omega) (by omega) (fun r148_1 r148_2 => ?_)
      refine hs_iastore 0 9 (0) (5) ci_835_149 (by decide +kernel) hp (by omega) (by omega) r148_1 r148_2 ?_
      intro h149 w149
      replace hp := w149.1
      refine hs_aload_n ci_835_150 l0 ?_
      refine hs_gfr 13 15 ci_835_151 (by decide +kernel) hp ?_
      refine hs_iload_n ci_835_154 l2 ?_
      refine hs_aload_n ci_835_155 l1 ?_
      refine hs_gfr 13 163 ci_835_156 (by decide +kernel) hp ?_
      refine hs_iload_n ci_835_159 l2 ?_
      refine hs_iaload 0 9 (-2147483648) (2147483647) ci_835_160 (by decide +kernel) hp (by omega) (by omega) (fun r160_1 r160_2 => ?_)
      refine hs_iastore 0 9 (-2147483648) (2147483647) ci_835_161 (by decide +kernel) hp (by omega) (by omega) r160_1 r160_2 ?_
      intro h161 w161
      replace hp := w161.1
      refine hs_aload_n ci_835_162 l0 ?_
      refine hs_gfr 14 16 ci_835_163 (by decide +kernel) hp ?_
      refine hs_iload_n ci_835_166 l2 ?_
      refine hs_aload_n ci_835_167 l1 ?_
      refine hs_gfr 14 164 ci_835_168 (by decide +kernel) hp ?_
      refine hs_iload_n ci_835_171 l2 ?_
      refine hs_iaload 0 9 (-2147483648) (2147483647) ci_835_172 (by decide +kernel) hp (by omega) (by omega) (fun r172_1 r172_2 => ?_)
      refine hs_iastore 0 9 (-2147483648) (2147483647) ci_835_173 (by decide +kernel) hp (by omega) (by omega) r172_1 r172_2 ?_
      intro h173 w173
      replace hp := w173.1
      refine hs_aload_n ci_835_174 l0 ?_
      refine hs_gfr 15 17 ci_835_175 (by decide +kernel) hp ?_
      refine hs_iload_n ci_835_178 l2 ?_
      refine hs_aload_n ci_835_179 l1 ?_
      refine hs_gfr 15 165 ci_835_180 (by decide +kernel) hp ?_
      refine hs_iload_n ci_835_183 l2 ?_
      refine hs_iaload 0 9 (-2147483648) (2147483647) ci_835_184 (by decide +kernel) hp (by omega) (by omega) (fun r184_1 r184_2 => ?_)
      refine hs_iastore 0 9 (-2147483648) (2147483647) ci_835_185 (by decide +kernel) hp (by omega) (by omega) r184_1 r184_2 ?_
      intro h185 w185
      replace hp := w185.1
      refine hs_aload_n ci_835_186 l0 ?_
      refine hs_gfr 16 18 ci_835_187 (by decide +kernel) hp ?_
      refine hs_iload_n ci_835_190 l2 ?_
      refine hs_aload_n ci_835_191 l1 ?_
      refine hs_gfr 16 166 ci_835_192 (by decide +kernel) hp ?_
      refine hs_iload_n ci_835_195 l2 ?_
      refine hs_iaload 0 9 (-2147483648) (2147483647) ci_835_196 (by decide +kernel) hp (by omega) (by omega) (fun r196_1 r196_2 => ?_)
      refine hs_iastore 0 9 (-2147483648) (2147483647) ci_835_197 (by decide +kernel) hp (by omega) (by omega) r196_1 r196_2 ?_
      intro h197 w197
      replace hp := w197.1
      refine hs_aload_n ci_835_198 l0 ?_
      refine hs_gfr 17 19 ci_835_199 (by decide +kernel) hp ?_
      refine hs_iload_n ci_835_202 l2 ?_
      refine hs_aload_n ci_835_203 l1 ?_
      refine hs_gfr 17 167 ci_835_204 (by decide +kernel) hp ?_
      refine hs_iload_n ci_835_207 l2 ?_
      refine hs_iaload 0 9 (-2147483648) (2147483647) ci_835_208 (by decide +kernel) hp (by omega) (by omega) (fun r208_1 r208_2 => ?_)
      refine hs_iastore 0 9 (-2147483648) (2147483647) ci_835_209 (by decide +kernel) hp (by omega) (by omega) r208_1 r208_2 ?_
      intro h209 w209
      replace hp := w209.1
      refine hs_aload_n ci_835_210 l0 ?_
      refine hs_gfr 18 20 ci_835_211 (by decide +kernel) hp ?_
      refine hs_iload_n ci_835_214 l2 ?_
      refine hs_aload_n ci_835_215 l1 ?_
      refine hs_gfr 18 168 ci_835_216 (by decide +kernel) hp ?_
      refine hs_iload_n ci_835_219 l2 ?_
      refine hs_iaload 0 9 (-2147483648) (2147483647) ci_835_220 (by decide +kernel) hp (by omega) (by omega) (fun r220_1 r220_2 => ?_)
      refine hs_iastore 0 9 (-2147483648) (2147483647) ci_835_221 (by decide +kernel) hp (by omega) (by omega) r220_1 r220_2 ?_
      intro h221 w221
      replace hp := w221.1
      refine hs_aload_n ci_835_222 l0 ?_
      refine hs_gfr 19 21 ci_835_223 (by decide +kernel) hp ?_
      refine hs_iload_n ci_835_226 l2 ?_
      refine hs_aload_n ci_835_227 l1 ?_
      refine hs_gfr 19 169 ci_835_228 (by decide +kernel) hp ?_
      refine hs_iload_n ci_835_231 l2 ?_
      refine hs_iaload 0 9 (-2147483648) (2147483647) ci_835_232 (by decide +kernel) hp (by omega) (by omega) (fun r232_1 r232_2 => ?_)
      refine hs_iastore 0 9 (-2147483648) (2147483647) ci_835_233 (by decide +kernel) hp (by omega) (by omega) r232_1 r232_2 ?_
      intro h233 w233
      replace hp := w233.1
      refine hs_iinc2 ci_835_234 (by decide +kernel) l2 ?_
      intro ls9 q9
      replace l0 := q9.2 0 _ (by decide) (Or.inl rfl) l0
      replace l1 := q9.2 1 _ (by decide) (Or.inl rfl) l1
      have l2 := q9.1
      clear q9
      refine hs_goto (t := 108) ci_835_237 rfl ?_
      have ei : x.toInt.toNat = i := by omega
      rw [ei] at w125 w137
      have g125 : ab_fr [(12, 0, 9)] h125 h1 := w125.fr (ab_inr_up (k1 := 0) (k2 := 9) rfl (by omega) (by omega))
      have g137 : ab_fr [(13, 0, 9)] h137 h125 := w137.fr (ab_inr_up (k1 := 0) (k2 := 9) rfl (by omega) (by omega))
      have g149 : ab_fr [(14, 0, 9)] h149 h137 := w149.fr (ab_inr_up (k1 := 0) (k2 := 9) rfl (by omega) (by omega))
      have g161 : ab_fr [(15, 0, 9)] h161 h149 := w161.fr (ab_inr_up (k1 := 0) (k2 := 9) rfl (by omega) (by omega))
      have g173 : ab_fr [(16, 0, 9)] h173 h161 := w173.fr (ab_inr_up (k1 := 0) (k2 := 9) rfl (by omega) (by omega))
      have g185 : ab_fr [(17, 0, 9)] h185 h173 := w185.fr (ab_inr_up (k1 := 0) (k2 := 9) rfl (by omega) (by omega))
      have g197 : ab_fr [(18, 0, 9)] h197 h185 := w197.fr (ab_inr_up (k1 := 0) (k2 := 9) rfl (by omega) (by omega))
      have g209 : ab_fr [(19, 0, 9)] h209 h197 := w209.fr (ab_inr_up (k1 := 0) (k2 := 9) rfl (by omega) (by omega))
      have g221 : ab_fr [(20, 0, 9)] h221 h209 := w221.fr (ab_inr_up (k1 := 0) (k2 := 9) rfl (by omega) (by omega))
      have g233 : ab_fr [(21, 0, 9)] h233 h221 := w233.fr (ab_inr_up (k1 := 0) (k2 := 9) rfl (by omega) (by omega))
      have gR : ab_fr [(14, 0, 9), (15, 0, 9), (16, 0, 9), (17, 0, 9), (18, 0, 9), (19, 0, 9), (20, 0, 9), (21, 0, 9)] h233 h137 := (fr_sub (by decide +kernel) g233).tr ((fr_sub (by decide +kernel) g221).tr ((fr_sub (by decide +kernel) g209).tr ((fr_sub (by decide +kernel) g197).tr ((fr_sub (by decide +kernel) g185).tr ((fr_sub (by decide +kernel) g173).tr ((fr_sub (by decide +kernel) g161).tr (fr_sub (by decide +kernel) g149)))))))
      have F9 : ab_fr MC_8_156 h233 h := (fr_sub (by decide +kernel) gR).tr ((fr_sub (by decide +kernel) g137).tr ((fr_sub (by decide +kernel) g125).tr f1))
      refine ih (i + 1) _ _ _ (by omega) (i32_inc hx (by omega) (by omega)) l0 l1 l2 hp F9 (fun k hk => ?_) (fun k hk => ?_) (fun k hk => ?_)
      · rw [hv_same (gR 8 k rfl), hv_same (g137 8 k rfl), hv_same (g125 8 k rfl)]
        exact hS k hk
      · rw [hl_same (gR 9 k rfl), hl_same (g137 9 k rfl), hl_same (g125 9 k rfl)]
        exact hN k hk
      · have e1 : hl h233 12 k = hl h125 12 k := (hl_same (gR 12 k rfl)).trans (hl_same (g137 12 k rfl))
        have e2 : hv h233 13 k = hv h137 13 k := hv_same (gR 13 k rfl)
        by_cases e : k = i
        · subst e
          exact ⟨e1.trans (by rw [w125.v, if_pos ⟨rfl, rfl⟩, hl_same (f1 160 k rfl)]), e2.trans (by rw [w137.v, if_pos ⟨rfl, rfl⟩, hv_same (g125 161 k rfl), hv_same (f1 161 k rfl)])⟩
        · obtain ⟨c1, c2⟩ := hG k (by omega)
          exact ⟨e1.trans (by rw [w125.v, if_neg (fun g => e g.2)]; exact c1), e2.trans (by rw [w137.v, if_neg (fun g => e g.2), hv_same (g125 13 k rfl)]; exact c2)⟩
theorem cq1_8_156 {sc : List Value} {sp d : Nat} {h : eg_H} (hqh : ab_hp h) : ∀ (n i : Nat) (x : Int32) (ls : eg_L) (h1 : eg_H), i + n = 6 → x.toInt = (i : Int) → eg_find 0 ls = some (.ref 8) → eg_find 1 ls = some (.ref 156) → eg_find 2 ls = some (.int x) → ab_hp0 h1 → ab_fr MC_8_156 h1 h → (∀ i, i < 7 → hv h1 8 i = hv h 156 i) → (∀ k, k < i → hl h1 9 k = hl h 157 k) → hs sc sp 835 1 d (fun pc' _ st' h' => ∃ ik vo, ab_ret 835 pc' = some ik ∧ eg_rv (eg_md 835).2.2.2 ik st' = some vo ∧ cq_P MC_8_156 h 8 156 vo h') 58 ls [] h1 := by
  intro n
  induction n with
  | zero =>
    intro i x ls h1 hi hx l0 l1 l2 hp f1 hS hN
    refine hs_iload_n ci_835_58 l2 ?_
    refine hs_bipush ci_835_59 ?_
    refine hs_ic (t := 106) ci_835_61 rfl (fun b61 => ?_) (fun b61 => ?_)
    · simp only [hs_cd, ab_not, kB_6] at b61
      refine hs_iconst ci_835_106 ?_
      refine hs_istore2_n ci_835_107 (by decide +kernel) ?_
      intro ls9 q9
      replace l0 := q9.2 0 _ (by decide) (Or.inl rfl) l0
      replace l1 := q9.2 1 _ (by decide) (Or.inl rfl) l1
      have l2 := q9.1
      clear q9
      exact cq2_8_156 hqh 10 0 _ _ _ (by decide) kI_0 l0 l1 l2 hp f1 hS (fun k hk => hN k (by omega)) (fun k hk => by omega)
    · simp only [hs_cd, ab_not, kB_6] at b61
      omega
  | succ n ih =>
    intro i x ls h1 hi hx l0 l1 l2 hp f1 hS hN
    refine hs_iload_n ci_835_58 l2 ?_
    refine hs_bipush ci_835_59 ?_
    refine hs_ic (t := 106) ci_835_61 rfl (fun b61 => ?_) (fun b61 => ?_)
    · simp only [hs_cd, ab_not, kB_6] at b61
      omega
    · simp only [hs_cd, ab_not, kB_6] at b61
      refine hs_aload_n ci_835_64 l0 ?_
      refine hs_gfr 7 9 ci_835_65 (by decide +kernel) hp ?_
      refine hs_iload_n ci_835_68 l2 ?_
      refine hs_aload_n ci_835_69 l1 ?_
      refine hs_gfr 7 157 ci_835_70 (by decide +kernel) hp ?_
      refine hs_iload_n ci_835_73 l2 ?_
      refine hs_laload 6 ci_835_74 (by decide +kernel) hp (by omega) (by omega) ?_
      refine hs_lastore 6 ci_835_75 (by decide +kernel) hp (by omega) (by omega) ?_
      intro h75 w75
      replace hp := w75.1
      refine hs_aload_n ci_835_76 l0 ?_
      refine hs_gfr 8 10 ci_835_77 (by decide +kernel) hp ?_
      refine hs_iload_n ci_835_80 l2 ?_
      refine hs_aload_n ci_835_81 l1 ?_
      refine hs_gfr 8 158 ci_835_82 (by decide +kernel) hp ?_
      refine hs_iload_n ci_835_85 l2 ?_
      refine hs_iaload 0 5 (-2147483648) (2147483647) ci_835_86 (by decide +kernel) hp (by omega) (by omega) (fun r86_1 r86_2 => ?_)
      refine hs_iastore 0 5 (-2147483648) (2147483647) ci_835_87 (by decide +kernel) hp (by omega) (by omega) r86_1 r86_2 ?_
      intro h87 w87
      replace hp := w87.1
      refine hs_aload_n ci_835_88 l0 ?_
      refine hs_gfr 9 11 ci_835_89 (by decide +kernel) hp ?_
      refine hs_iload_n ci_835_92 l2 ?_
      refine hs_aload_n ci_835_93 l1 ?_
      refine hs_gfr 9 159 ci_835_94 (by decide +kernel) hp ?_
      refine hs_iload_n ci_835_97 l2 ?_
      refine hs_iaload 0 5 (-2147483648) (2147483647) ci_835_98 (by decide +kernel) hp (by omega) (by omega) (fun r98_1 r98_2 => ?_)
      refine hs_iastore 0 5 (-2147483648) (2147483647) ci_835_99 (by decide +kernel) hp (by omega) (by omega) r98_1 r98_2 ?_
      intro h99 w99
      replace hp := w99.1
      refine hs_iinc2 ci_835_100 (by decide +kernel) l2 ?_
      intro ls9 q9
      replace l0 := q9.2 0 _ (by decide) (Or.inl rfl) l0
      replace l1 := q9.2 1 _ (by decide) (Or.inl rfl) l1
      have l2 := q9.1
      clear q9
      refine hs_goto (t := 58) ci_835_103 rfl ?_
      have ei : x.toInt.toNat = i := by omega
      rw [ei] at w75
      have g75 : ab_fr [(9, 0, 5)] h75 h1 := w75.fr (ab_inr_up (k1 := 0) (k2 := 5) rfl (by omega) (by omega))
      have g87 : ab_fr [(10, 0, 5)] h87 h75 := w87.fr (ab_inr_up (k1 := 0) (k2 := 5) rfl (by omega) (by omega))
      have g99 : ab_fr [(11, 0, 5)] h99 h87 := w99.fr (ab_inr_up (k1 := 0) (k2 := 5) rfl (by omega) (by omega))
      have F9 : ab_fr MC_8_156 h99 h := (fr_sub (by decide +kernel) g99).tr ((fr_sub (by decide +kernel) g87).tr ((fr_sub (by decide +kernel) g75).tr f1))
      refine ih (i + 1) _ _ _ (by omega) (i32_inc hx (by omega) (by omega)) l0 l1 l2 hp F9 (fun k hk => ?_) (fun k hk => ?_)
      · rw [hv_same (g99 8 k rfl), hv_same (g87 8 k rfl), hv_same (g75 8 k rfl)]
        exact hS k hk
      · have e1 : hl h99 9 k = hl h75 9 k := (hl_same (g99 9 k rfl)).trans (hl_same (g87 9 k rfl))
        by_cases e : k = i
        · subst e
          exact e1.trans (by rw [w75.v, if_pos ⟨rfl, rfl⟩, hl_same (f1 157 k rfl)])
        · exact e1.trans (by rw [w75.v, if_neg (fun g => e g.2)]; exact hN k (by omega))
theorem k_cq_8_156 {sc : List Value} {sp d : Nat} {h : eg_H} (hq : ab_hp h) : mc sc sp 835 1 d [.ref 8, .ref 156] h (cq_P MC_8_156 h 8 156) := by
  have l0 : eg_find 0 (eg_args 0 [.ref 8, .ref 156]) = some (.ref 8) := rfl
  have l1 : eg_find 1 (eg_args 0 [.ref 8, .ref 156]) = some (.ref 156) := rfl
  have hp := hq.1
  unfold mc
  refine hs_aload_n ci_835_0 l0 ?_
  refine hs_aload_n ci_835_1 l1 ?_
  refine hs_gfi 0 ci_835_2 (by decide +kernel) hp ?_
  refine hs_pfi 0 (-2147483648) (2147483647) ci_835_5 (by decide +kernel) hp (ab_ige _) (ab_ile _) ?_
  intro h5 w5
  replace hp := w5.1
  refine hs_aload_n ci_835_8 l0 ?_
  refine hs_aload_n ci_835_9 l1 ?_
  refine hs_gfi 1 ci_835_10 (by decide +kernel) hp ?_
  refine hs_pfi 1 (-2147483648) (2147483647) ci_835_13 (by decide +kernel) hp (ab_ige _) (ab_ile _) ?_
  intro h13 w13
  replace hp := w13.1
  refine hs_aload_n ci_835_16 l0 ?_
  refine hs_aload_n ci_835_17 l1 ?_
  refine hs_gfi 2 ci_835_18 (by decide +kernel) hp ?_
  refine hs_pfi 2 (-2147483648) (2147483647) ci_835_21 (by decide +kernel) hp (ab_ige _) (ab_ile _) ?_
  intro h21 w21
  replace hp := w21.1
  refine hs_aload_n ci_835_24 l0 ?_
  refine hs_aload_n ci_835_25 l1 ?_
  refine hs_gfi 3 ci_835_26 (by decide +kernel) hp ?_
  refine hs_pfi 3 (-2147483648) (2147483647) ci_835_29 (by decide +kernel) hp (ab_ige _) (ab_ile _) ?_
  intro h29 w29
  replace hp := w29.1
  refine hs_aload_n ci_835_32 l0 ?_
  refine hs_aload_n ci_835_33 l1 ?_
  refine hs_gfi 4 ci_835_34 (by decide +kernel) hp ?_
  refine hs_pfi 4 (0) (6) ci_835_37 (by decide +kernel) hp (sb_0 (lo := .ofNat 0) (hi := .ofNat 6) hp (by decide +kernel)).1 (sb_0 (lo := .ofNat 0) (hi := .ofNat 6) hp (by decide +kernel)).2 ?_
  intro h37 w37
  replace hp := w37.1
  refine hs_aload_n ci_835_40 l0 ?_
  refine hs_aload_n ci_835_41 l1 ?_
  refine hs_gfi 5 ci_835_42 (by decide +kernel) hp ?_
  refine hs_pfi 5 (0) (10) ci_835_45 (by decide +kernel) hp (sb_0 (lo := .ofNat 0) (hi := .ofNat 10) hp (by decide +kernel)).1 (sb_0 (lo := .ofNat 0) (hi := .ofNat 10) hp (by decide +kernel)).2 ?_
  intro h45 w45
  replace hp := w45.1
  refine hs_aload_n ci_835_48 l0 ?_
  refine hs_aload_n ci_835_49 l1 ?_
  refine hs_gfi 6 ci_835_50 (by decide +kernel) hp ?_
  refine hs_pfi 6 (-2147483648) (2147483647) ci_835_53 (by decide +kernel) hp (ab_ige _) (ab_ile _) ?_
  intro h53 w53
  replace hp := w53.1
  refine hs_iconst ci_835_56 ?_
  refine hs_istore2_n ci_835_57 (by decide +kernel) ?_
  intro ls9 q9
  replace l0 := q9.2 0 _ (by decide) (Or.inl rfl) l0
  replace l1 := q9.2 1 _ (by decide) (Or.inl rfl) l1
  have l2 := q9.1
  clear q9
  have f5 : ab_fr [(8, 0, 6)] h5 h := w5.fr rfl
  have f13 : ab_fr [(8, 0, 6)] h13 h := (w13.fr rfl).tr f5
  have f21 : ab_fr [(8, 0, 6)] h21 h := (w21.fr rfl).tr f13
  have f29 : ab_fr [(8, 0, 6)] h29 h := (w29.fr rfl).tr f21
  have f37 : ab_fr [(8, 0, 6)] h37 h := (w37.fr rfl).tr f29
  have f45 : ab_fr [(8, 0, 6)] h45 h := (w45.fr rfl).tr f37
  have f53 : ab_fr [(8, 0, 6)] h53 h := (w53.fr rfl).tr f45
  have fM : ab_fr MC_8_156 h53 h := fr_sub (by decide +kernel) f53
  refine cq1_8_156 hq 6 0 _ _ _ (by decide) kI_0 l0 l1 l2 hp fM (fun i hi => ?_) (fun k hk => by omega)
  have hi2 : i = 0 ∨ i = 1 ∨ i = 2 ∨ i = 3 ∨ i = 4 ∨ i = 5 ∨ i = 6 := by omega
  rcases hi2 with rfl | rfl | rfl | rfl | rfl | rfl | rfl
  · rw [w53.v, if_neg (by decide), w45.v, if_neg (by decide), w37.v, if_neg (by decide), w29.v, if_neg (by decide), w21.v, if_neg (by decide), w13.v, if_neg (by decide), w5.v, if_pos ⟨rfl, rfl⟩]
  · rw [w53.v, if_neg (by decide), w45.v, if_neg (by decide), w37.v, if_neg (by decide), w29.v, if_neg (by decide), w21.v, if_neg (by decide), w13.v, if_pos ⟨rfl, rfl⟩, hv_same (f5 156 1 rfl)]
  · rw [w53.v, if_neg (by decide), w45.v, if_neg (by decide), w37.v, if_neg (by decide), w29.v, if_neg (by decide), w21.v, if_pos ⟨rfl, rfl⟩, hv_same (f13 156 2 rfl)]
  · rw [w53.v, if_neg (by decide), w45.v, if_neg (by decide), w37.v, if_neg (by decide), w29.v, if_pos ⟨rfl, rfl⟩, hv_same (f21 156 3 rfl)]
  · rw [w53.v, if_neg (by decide), w45.v, if_neg (by decide), w37.v, if_pos ⟨rfl, rfl⟩, hv_same (f29 156 4 rfl)]
  · rw [w53.v, if_neg (by decide), w45.v, if_pos ⟨rfl, rfl⟩, hv_same (f37 156 5 rfl)]
  · rw [w53.v, if_pos ⟨rfl, rfl⟩, hv_same (f45 156 6 rfl)]
