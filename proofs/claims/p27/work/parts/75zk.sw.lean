/-! BY HAND: how many sets can stand -/
theorem ci_1101_0 : ab_at 1101 0 (.aload_n 0) 1 = true := by decide +kernel
theorem ci_1101_1 : ab_at 1101 1 (.getfield 63) 3 = true := by decide +kernel
theorem ci_1101_4 : ab_at 1101 4 (.aload_n 0) 1 = true := by decide +kernel
theorem ci_1101_5 : ab_at 1101 5 (.getfield 18) 3 = true := by decide +kernel
theorem ci_1101_8 : ab_at 1101 8 (.invokevirtual 304) 3 = true := by decide +kernel
theorem ci_1101_11 : ab_at 1101 11 (.istore_n 1) 1 = true := by decide +kernel
theorem ci_1101_12 : ab_at 1101 12 (.aload_n 0) 1 = true := by decide +kernel
theorem ci_1101_13 : ab_at 1101 13 (.getfield 18) 3 = true := by decide +kernel
theorem ci_1101_16 : ab_at 1101 16 (.iconst 0) 1 = true := by decide +kernel
theorem ci_1101_17 : ab_at 1101 17 (.putfield 110) 3 = true := by decide +kernel
theorem ci_1101_20 : ab_at 1101 20 (.iload_n 1) 1 = true := by decide +kernel
theorem ci_1105_0 : ab_at 1105 0 (.aload_n 1) 1 = true := by decide +kernel
theorem ci_1105_1 : ab_at 1105 1 (.getfield 94) 3 = true := by decide +kernel
theorem ci_1105_4 : ab_at 1105 4 (.aload_n 0) 1 = true := by decide +kernel
theorem ci_1105_5 : ab_at 1105 5 (.getfield 34) 3 = true := by decide +kernel
theorem ci_1105_8 : ab_at 1105 8 (.getfield 84) 3 = true := by decide +kernel
theorem ci_1105_11 : ab_at 1105 11 (.if_icmp .ne 13) 3 = true := by decide +kernel
theorem ci_1105_14 : ab_at 1105 14 (.aload_n 0) 1 = true := by decide +kernel
theorem ci_1105_15 : ab_at 1105 15 (.getfield 34) 3 = true := by decide +kernel
theorem ci_1105_18 : ab_at 1105 18 (.getfield 84) 3 = true := by decide +kernel
theorem ci_1105_21 : ab_at 1105 21 (.ifCond .ne 5) 3 = true := by decide +kernel
theorem ci_1105_24 : ab_at 1105 24 (.iconst (-1)) 1 = true := by decide +kernel
theorem ci_1105_26 : ab_at 1105 26 (.iconst 1) 1 = true := by decide +kernel
theorem ci_1105_27 : ab_at 1105 27 (.istore_n 2) 1 = true := by decide +kernel
theorem ci_1105_28 : ab_at 1105 28 (.iconst 0) 1 = true := by decide +kernel
theorem ci_1105_29 : ab_at 1105 29 (.istore_n 3) 1 = true := by decide +kernel
theorem ci_1105_30 : ab_at 1105 30 (.iconst 0) 1 = true := by decide +kernel
theorem ci_1105_31 : ab_at 1105 31 (.istore 4) 2 = true := by decide +kernel
theorem ci_1105_33 : ab_at 1105 33 (.iconst 0) 1 = true := by decide +kernel
theorem ci_1105_34 : ab_at 1105 34 (.istore 5) 2 = true := by decide +kernel
theorem ci_1105_36 : ab_at 1105 36 (.iconst 0) 1 = true := by decide +kernel
theorem ci_1105_37 : ab_at 1105 37 (.istore 6) 2 = true := by decide +kernel
theorem ci_1105_39 : ab_at 1105 39 (.iload 6) 2 = true := by decide +kernel
theorem ci_1105_41 : ab_at 1105 41 (.aload_n 0) 1 = true := by decide +kernel
theorem ci_1105_42 : ab_at 1105 42 (.getfield 34) 3 = true := by decide +kernel
theorem ci_1105_45 : ab_at 1105 45 (.getfield 84) 3 = true := by decide +kernel
theorem ci_1105_48 : ab_at 1105 48 (.if_icmp .ge 76) 3 = true := by decide +kernel
theorem ci_1105_51 : ab_at 1105 51 (.aload_n 0) 1 = true := by decide +kernel
theorem ci_1105_52 : ab_at 1105 52 (.getfield 34) 3 = true := by decide +kernel
theorem ci_1105_55 : ab_at 1105 55 (.iload 6) 2 = true := by decide +kernel
theorem ci_1105_57 : ab_at 1105 57 (.invokevirtual 99) 3 = true := by decide +kernel
theorem ci_1105_60 : ab_at 1105 60 (.istore 7) 2 = true := by decide +kernel
theorem ci_1105_62 : ab_at 1105 62 (.iload 7) 2 = true := by decide +kernel
theorem ci_1105_64 : ab_at 1105 64 (.invokestatic 47) 3 = true := by decide +kernel
theorem ci_1105_67 : ab_at 1105 67 (.istore 8) 2 = true := by decide +kernel
theorem ci_1105_69 : ab_at 1105 69 (.aload_n 1) 1 = true := by decide +kernel
theorem ci_1105_70 : ab_at 1105 70 (.iload 6) 2 = true := by decide +kernel
theorem ci_1105_72 : ab_at 1105 72 (.invokevirtual 102) 3 = true := by decide +kernel
theorem ci_1105_75 : ab_at 1105 75 (.istore 9) 2 = true := by decide +kernel
theorem ci_1105_77 : ab_at 1105 77 (.iload 8) 2 = true := by decide +kernel
theorem ci_1105_79 : ab_at 1105 79 (.iload 9) 2 = true := by decide +kernel
theorem ci_1105_81 : ab_at 1105 81 (.invokestatic 105) 3 = true := by decide +kernel
theorem ci_1105_84 : ab_at 1105 84 (.istore 10) 2 = true := by decide +kernel
theorem ci_1105_86 : ab_at 1105 86 (.iload_n 2) 1 = true := by decide +kernel
theorem ci_1105_87 : ab_at 1105 87 (.iload 10) 2 = true := by decide +kernel
theorem ci_1105_89 : ab_at 1105 89 (.imul) 1 = true := by decide +kernel
theorem ci_1105_90 : ab_at 1105 90 (.istore_n 2) 1 = true := by decide +kernel
theorem ci_1105_91 : ab_at 1105 91 (.iload 9) 2 = true := by decide +kernel
theorem ci_1105_93 : ab_at 1105 93 (.iload 8) 2 = true := by decide +kernel
theorem ci_1105_95 : ab_at 1105 95 (.if_icmp .ne 8) 3 = true := by decide +kernel
theorem ci_1105_98 : ab_at 1105 98 (.iload_n 3) 1 = true := by decide +kernel
theorem ci_1105_99 : ab_at 1105 99 (.iload 7) 2 = true := by decide +kernel
theorem ci_1105_101 : ab_at 1105 101 (.ior) 1 = true := by decide +kernel
theorem ci_1105_102 : ab_at 1105 102 (.istore_n 3) 1 = true := by decide +kernel
theorem ci_1105_103 : ab_at 1105 103 (.iload 10) 2 = true := by decide +kernel
theorem ci_1105_105 : ab_at 1105 105 (.iload 5) 2 = true := by decide +kernel
theorem ci_1105_107 : ab_at 1105 107 (.if_icmp .le 11) 3 = true := by decide +kernel
theorem ci_1105_110 : ab_at 1105 110 (.iload 10) 2 = true := by decide +kernel
theorem ci_1105_112 : ab_at 1105 112 (.istore 5) 2 = true := by decide +kernel
theorem ci_1105_114 : ab_at 1105 114 (.iload 6) 2 = true := by decide +kernel
theorem ci_1105_116 : ab_at 1105 116 (.istore 4) 2 = true := by decide +kernel
theorem ci_1105_118 : ab_at 1105 118 (.iinc 6 1) 3 = true := by decide +kernel
theorem ci_1105_121 : ab_at 1105 121 (.goto (-82)) 3 = true := by decide +kernel
theorem ci_1105_124 : ab_at 1105 124 (.iload_n 2) 1 = true := by decide +kernel
theorem ci_1105_125 : ab_at 1105 125 (.ifCond .le 14) 3 = true := by decide +kernel
theorem ci_1105_128 : ab_at 1105 128 (.aload_n 0) 1 = true := by decide +kernel
theorem ci_1105_129 : ab_at 1105 129 (.iload_n 3) 1 = true := by decide +kernel
theorem ci_1105_130 : ab_at 1105 130 (.putfield 22) 3 = true := by decide +kernel
theorem ci_1105_133 : ab_at 1105 133 (.aload_n 0) 1 = true := by decide +kernel
theorem ci_1105_134 : ab_at 1105 134 (.iload 4) 2 = true := by decide +kernel
theorem ci_1105_136 : ab_at 1105 136 (.putfield 25) 3 = true := by decide +kernel
theorem ci_1105_139 : ab_at 1105 139 (.iload_n 2) 1 = true := by decide +kernel
theorem ci_1986_0 : ab_at 1986 0 (.aload_n 0) 1 = true := by decide +kernel
theorem ci_1986_1 : ab_at 1986 1 (.iconst 0) 1 = true := by decide +kernel
theorem ci_1986_2 : ab_at 1986 2 (.putfield 1) 3 = true := by decide +kernel
theorem ci_1986_5 : ab_at 1986 5 (.aload_n 0) 1 = true := by decide +kernel
theorem ci_1986_6 : ab_at 1986 6 (.sipush 940) 3 = true := by decide +kernel
theorem ci_1986_9 : ab_at 1986 9 (.invokevirtual 243) 3 = true := by decide +kernel
theorem ci_1986_12 : ab_at 1986 12 (.aload_n 0) 1 = true := by decide +kernel
theorem ci_1986_13 : ab_at 1986 13 (.getfield 18) 3 = true := by decide +kernel
theorem ci_1986_16 : ab_at 1986 16 (.ifCond .eq 16) 3 = true := by decide +kernel
theorem ci_1986_19 : ab_at 1986 19 (.aload_n 0) 1 = true := by decide +kernel
theorem ci_1986_20 : ab_at 1986 20 (.getfield 18) 3 = true := by decide +kernel
theorem ci_1986_23 : ab_at 1986 23 (.aload_n 0) 1 = true := by decide +kernel
theorem ci_1986_24 : ab_at 1986 24 (.getfield 33) 3 = true := by decide +kernel
theorem ci_1986_27 : ab_at 1986 27 (.iconst 0) 1 = true := by decide +kernel
theorem ci_1986_28 : ab_at 1986 28 (.iaload) 1 = true := by decide +kernel
theorem ci_1986_29 : ab_at 1986 29 (.if_icmp .eq 5) 3 = true := by decide +kernel
theorem ci_1986_32 : ab_at 1986 32 (.iconst (-1)) 1 = true := by decide +kernel
theorem ci_1986_34 : ab_at 1986 34 (.iconst 1) 1 = true := by decide +kernel
theorem ci_1986_35 : ab_at 1986 35 (.istore_n 1) 1 = true := by decide +kernel
theorem ci_1986_36 : ab_at 1986 36 (.iconst 0) 1 = true := by decide +kernel
theorem ci_1986_37 : ab_at 1986 37 (.istore_n 2) 1 = true := by decide +kernel
theorem ci_1986_38 : ab_at 1986 38 (.iconst 0) 1 = true := by decide +kernel
theorem ci_1986_39 : ab_at 1986 39 (.istore_n 3) 1 = true := by decide +kernel
theorem ci_1986_40 : ab_at 1986 40 (.iconst 0) 1 = true := by decide +kernel
theorem ci_1986_41 : ab_at 1986 41 (.istore 4) 2 = true := by decide +kernel
theorem ci_1986_43 : ab_at 1986 43 (.iconst 0) 1 = true := by decide +kernel
theorem ci_1986_44 : ab_at 1986 44 (.istore 5) 2 = true := by decide +kernel
theorem ci_1986_46 : ab_at 1986 46 (.iload 5) 2 = true := by decide +kernel
theorem ci_1986_48 : ab_at 1986 48 (.aload_n 0) 1 = true := by decide +kernel
theorem ci_1986_49 : ab_at 1986 49 (.getfield 33) 3 = true := by decide +kernel
theorem ci_1986_52 : ab_at 1986 52 (.iconst 0) 1 = true := by decide +kernel
theorem ci_1986_53 : ab_at 1986 53 (.iaload) 1 = true := by decide +kernel
theorem ci_1986_54 : ab_at 1986 54 (.if_icmp .ge 121) 3 = true := by decide +kernel
theorem ci_1986_57 : ab_at 1986 57 (.iconst 0) 1 = true := by decide +kernel
theorem ci_1986_58 : ab_at 1986 58 (.istore 6) 2 = true := by decide +kernel
theorem ci_1986_60 : ab_at 1986 60 (.iconst 0) 1 = true := by decide +kernel
theorem ci_1986_61 : ab_at 1986 61 (.istore 7) 2 = true := by decide +kernel
theorem ci_1986_63 : ab_at 1986 63 (.iload 7) 2 = true := by decide +kernel
theorem ci_1986_65 : ab_at 1986 65 (.aload_n 0) 1 = true := by decide +kernel
theorem ci_1986_66 : ab_at 1986 66 (.getfield 33) 3 = true := by decide +kernel
theorem ci_1986_69 : ab_at 1986 69 (.iconst 1) 1 = true := by decide +kernel
theorem ci_1986_70 : ab_at 1986 70 (.iaload) 1 = true := by decide +kernel
theorem ci_1986_71 : ab_at 1986 71 (.if_icmp .ge 37) 3 = true := by decide +kernel
theorem ci_1986_74 : ab_at 1986 74 (.iload 6) 2 = true := by decide +kernel
theorem ci_1986_76 : ab_at 1986 76 (.aload_n 0) 1 = true := by decide +kernel
theorem ci_1986_77 : ab_at 1986 77 (.getfield 33) 3 = true := by decide +kernel
theorem ci_1986_80 : ab_at 1986 80 (.bipush 19) 2 = true := by decide +kernel
theorem ci_1986_82 : ab_at 1986 82 (.iload 7) 2 = true := by decide +kernel
theorem ci_1986_84 : ab_at 1986 84 (.iadd) 1 = true := by decide +kernel
theorem ci_1986_85 : ab_at 1986 85 (.iaload) 1 = true := by decide +kernel
theorem ci_1986_86 : ab_at 1986 86 (.iload 5) 2 = true := by decide +kernel
theorem ci_1986_88 : ab_at 1986 88 (.if_icmp .ne 10) 3 = true := by decide +kernel
theorem ci_1986_91 : ab_at 1986 91 (.iconst 1) 1 = true := by decide +kernel
theorem ci_1986_92 : ab_at 1986 92 (.iload 7) 2 = true := by decide +kernel
theorem ci_1986_94 : ab_at 1986 94 (.ishl) 1 = true := by decide +kernel
theorem ci_1986_95 : ab_at 1986 95 (.goto 4) 3 = true := by decide +kernel
theorem ci_1986_98 : ab_at 1986 98 (.iconst 0) 1 = true := by decide +kernel
theorem ci_1986_99 : ab_at 1986 99 (.ior) 1 = true := by decide +kernel
theorem ci_1986_100 : ab_at 1986 100 (.istore 6) 2 = true := by decide +kernel
theorem ci_1986_102 : ab_at 1986 102 (.iinc 7 1) 3 = true := by decide +kernel
theorem ci_1986_105 : ab_at 1986 105 (.goto (-42)) 3 = true := by decide +kernel
theorem ci_1986_108 : ab_at 1986 108 (.iload 6) 2 = true := by decide +kernel
theorem ci_1986_110 : ab_at 1986 110 (.invokestatic 306) 3 = true := by decide +kernel
theorem ci_1986_113 : ab_at 1986 113 (.aload_n 0) 1 = true := by decide +kernel
theorem ci_1986_114 : ab_at 1986 114 (.iload 5) 2 = true := by decide +kernel
theorem ci_1986_116 : ab_at 1986 116 (.invokevirtual 394) 3 = true := by decide +kernel
theorem ci_1986_119 : ab_at 1986 119 (.invokestatic 397) 3 = true := by decide +kernel
theorem ci_1986_122 : ab_at 1986 122 (.istore 7) 2 = true := by decide +kernel
theorem ci_1986_124 : ab_at 1986 124 (.iload_n 1) 1 = true := by decide +kernel
theorem ci_1986_125 : ab_at 1986 125 (.iload 7) 2 = true := by decide +kernel
theorem ci_1986_127 : ab_at 1986 127 (.imul) 1 = true := by decide +kernel
theorem ci_1986_128 : ab_at 1986 128 (.istore_n 1) 1 = true := by decide +kernel
theorem ci_1986_129 : ab_at 1986 129 (.iload_n 2) 1 = true := by decide +kernel
theorem ci_1986_130 : ab_at 1986 130 (.aload_n 0) 1 = true := by decide +kernel
theorem ci_1986_131 : ab_at 1986 131 (.iload 5) 2 = true := by decide +kernel
theorem ci_1986_133 : ab_at 1986 133 (.invokevirtual 394) 3 = true := by decide +kernel
theorem ci_1986_136 : ab_at 1986 136 (.iload 6) 2 = true := by decide +kernel
theorem ci_1986_138 : ab_at 1986 138 (.invokestatic 306) 3 = true := by decide +kernel
theorem ci_1986_141 : ab_at 1986 141 (.if_icmp .ne 8) 3 = true := by decide +kernel
theorem ci_1986_144 : ab_at 1986 144 (.iload 6) 2 = true := by decide +kernel
theorem ci_1986_146 : ab_at 1986 146 (.goto 4) 3 = true := by decide +kernel
theorem ci_1986_149 : ab_at 1986 149 (.iconst 0) 1 = true := by decide +kernel
theorem ci_1986_150 : ab_at 1986 150 (.ior) 1 = true := by decide +kernel
theorem ci_1986_151 : ab_at 1986 151 (.istore_n 2) 1 = true := by decide +kernel
theorem ci_1986_152 : ab_at 1986 152 (.iload 7) 2 = true := by decide +kernel
theorem ci_1986_154 : ab_at 1986 154 (.iload 4) 2 = true := by decide +kernel
theorem ci_1986_156 : ab_at 1986 156 (.if_icmp .gt 6) 3 = true := by decide +kernel
theorem ci_1986_159 : ab_at 1986 159 (.goto 10) 3 = true := by decide +kernel
theorem ci_1986_162 : ab_at 1986 162 (.iload 7) 2 = true := by decide +kernel
theorem ci_1986_164 : ab_at 1986 164 (.istore 4) 2 = true := by decide +kernel
theorem ci_1986_166 : ab_at 1986 166 (.iload 5) 2 = true := by decide +kernel
theorem ci_1986_168 : ab_at 1986 168 (.istore_n 3) 1 = true := by decide +kernel
theorem ci_1986_169 : ab_at 1986 169 (.iinc 5 1) 3 = true := by decide +kernel
theorem ci_1986_172 : ab_at 1986 172 (.goto (-126)) 3 = true := by decide +kernel
theorem ci_1986_175 : ab_at 1986 175 (.iload_n 1) 1 = true := by decide +kernel
theorem ci_1986_176 : ab_at 1986 176 (.ifCond .ne 5) 3 = true := by decide +kernel
theorem ci_1986_179 : ab_at 1986 179 (.iconst 0) 1 = true := by decide +kernel
theorem ci_1986_181 : ab_at 1986 181 (.aload_n 0) 1 = true := by decide +kernel
theorem ci_1986_182 : ab_at 1986 182 (.iconst 1) 1 = true := by decide +kernel
theorem ci_1986_183 : ab_at 1986 183 (.putfield 400) 3 = true := by decide +kernel
theorem ci_1986_186 : ab_at 1986 186 (.aload_n 0) 1 = true := by decide +kernel
theorem ci_1986_187 : ab_at 1986 187 (.iload_n 2) 1 = true := by decide +kernel
theorem ci_1986_188 : ab_at 1986 188 (.putfield 403) 3 = true := by decide +kernel
theorem ci_1986_191 : ab_at 1986 191 (.aload_n 0) 1 = true := by decide +kernel
theorem ci_1986_192 : ab_at 1986 192 (.iload_n 3) 1 = true := by decide +kernel
theorem ci_1986_193 : ab_at 1986 193 (.putfield 406) 3 = true := by decide +kernel
theorem ci_1986_196 : ab_at 1986 196 (.iload_n 1) 1 = true := by decide +kernel
theorem ml_1066 : (eg_md 1066).2.2.1 = 1 := by decide +kernel
theorem ml_1105 : (eg_md 1105).2.2.1 = 11 := by decide +kernel
theorem ml_1109 : (eg_md 1109).2.2.1 = 4 := by decide +kernel
theorem ml_1113 : (eg_md 1113).2.2.1 = 4 := by decide +kernel
theorem ml_1829 : (eg_md 1829).2.2.1 = 3 := by decide +kernel
theorem ml_1990 : (eg_md 1990).2.2.1 = 2 := by decide +kernel
theorem ml_1993 : (eg_md 1993).2.2.1 = 4 := by decide +kernel
/-- man by man: how many, which surely, whom to ask, the most so far -/
def sw_n (H : Nat → Int32) (B : Nat → Int) : Nat → Int32 × Int32 × Int32 × Int32
  | 0 => (Int32.ofInt 1, Int32.ofInt 0, Int32.ofInt 0, Int32.ofInt 0)
  | m + 1 => ((sw_n H B m).1 * wy_n (Int32.ofNat (bs_n 10 (H m))) (Int32.ofNat (B m).toNat), if B m = (bs_n 10 (H m) : Int) then (sw_n H B m).2.1 ||| H m else (sw_n H B m).2.1, if (sw_n H B m).2.2.2.toInt < (wy_n (Int32.ofNat (bs_n 10 (H m))) (Int32.ofNat (B m).toNat)).toInt then Int32.ofNat m else (sw_n H B m).2.2.1, if (sw_n H B m).2.2.2.toInt < (wy_n (Int32.ofNat (bs_n 10 (H m))) (Int32.ofNat (B m).toNat)).toInt then wy_n (Int32.ofNat (bs_n 10 (H m))) (Int32.ofNat (B m).toNat) else (sw_n H B m).2.2.2)
theorem sw_same {H H' : Nat → Int32} {B B' : Nat → Int} : ∀ m, (∀ q, q < m → H q = H' q ∧ B q = B' q) → sw_n H B m = sw_n H' B' m
  | 0, _ => rfl
  | m + 1, h => by
    unfold sw_n
    rw [sw_same m (fun q hq => h q (by omega)), (h m (by omega)).1, (h m (by omega)).2]
/-- of the class's headland, and of the reference's -/
def hX (h : eg_H) (n m : Nat) : Int32 := gv_n (fun q => hv h 13 q) (Int32.ofNat m) n
def hM (h : eg_H) (n m : Nat) : Int32 := gv_n (fun q => hv h 184 (19 + q)) (Int32.ofNat m) n
theorem rt_1105 : (eg_md 1105).2.2.2 = some .int := by decide +kernel
theorem rt_1101 : (eg_md 1101).2.2.2 = some .int := by decide +kernel
theorem rt_1986 : (eg_md 1986).2.2.2 = some .int := by decide +kernel
theorem bA_b (h : eg_H) (k : Nat) : 0 ≤ bA h k ∧ bA h k < 256 := by
  unfold bA
  omega
def so_P (a k1 k2 : Nat) (h : eg_H) (len men : Int) (S : Int32 × Int32 × Int32 × Int32) (M : ab_M) (vo : Option Value) (h' : eg_H) : Prop := ab_hp h' ∧ ab_fr M h' h ∧ ∃ r : Int32, vo = some (.int r) ∧ ((len = men ∧ men ≠ 0 ∧ r.toInt = S.1.toInt ∧ (0 < S.1.toInt → hv h' a k1 = S.2.1 ∧ hv h' a k2 = S.2.2.1) ∧ (S.1.toInt = 0 → hv h' a k1 = hv h a k1 ∧ hv h' a k2 = hv h a k2)) ∨ (¬ (len = men ∧ men ≠ 0) ∧ r.toInt = -1 ∧ hv h' a k1 = hv h a k1 ∧ hv h' a k2 = hv h a k2))
theorem hv_i {x y : Int32} (h : x = y) : x.toInt = y.toInt := by rw [h]
theorem cs_lpX {sc : List Value} {sp d : Nat} {h : eg_H} (hq : ab_hp h) {n : Nat} (hn : (hv h 8 5).toInt = (n : Int)) (hn2 : n ≤ 10) {men : Int} (hm : (hv h 8 4).toInt = men) (hm6 : 0 < men ∧ men ≤ 6) (hlen : (hv h 1 1).toInt = men) : ∀ (f m : Nat) (x2 x3 x4 x5 x6 : Int32) (ls : eg_L), (m : Int) + (f : Int) = men → x6.toInt = (m : Int) → x2 = (sw_n (hX h n) (bA h) m).1 → x3 = (sw_n (hX h n) (bA h) m).2.1 → x4 = (sw_n (hX h n) (bA h) m).2.2.1 → x5 = (sw_n (hX h n) (bA h) m).2.2.2 → eg_find 0 ls = some (.ref 109) → eg_find 1 ls = some (.ref 1) → eg_find 2 ls = some (.int x2) → eg_find 3 ls = some (.int x3) → eg_find 4 ls = some (.int x4) → eg_find 5 ls = some (.int x5) → eg_find 6 ls = some (.int x6) → hs sc sp 1105 4 (d + 1) (fun pc' _ st' h' => ∃ ik vo, ab_ret 1105 pc' = some ik ∧ eg_rv (eg_md 1105).2.2.2 ik st' = some vo ∧ so_P 109 4 5 h (hv h 1 1).toInt men (sw_n (hX h n) (bA h) men.toNat) [(109, 4, 5)] vo h') 39 ls [] h := by
  have hp := hq.1
  intro f
  induction f with
  | zero =>
    intro m x2 x3 x4 x5 x6 ls hf hx e2 e3 e4 e5 l0 l1 l2 l3 l4 l5 l6
    have em : men.toNat = m := by omega
    refine hs_iload ci_1105_39 l6 ?_
    refine hs_aload_n ci_1105_41 l0 ?_
    refine hs_gfr 0 8 ci_1105_42 (by decide +kernel) hp ?_
    refine hs_gfi 4 ci_1105_45 (by decide +kernel) hp ?_
    refine hs_ic (t := 124) ci_1105_48 rfl (fun b48 => ?_) (fun b48 => ?_)
    · simp only [hs_cd, ab_not] at b48
      refine hs_iload_n ci_1105_124 l2 ?_
      refine hs_if (t := 139) ci_1105_125 rfl (fun b125 => ?_) (fun b125 => ?_)
      · simp only [hs_cd, ab_not] at b125
        refine hs_iload_n ci_1105_139 l2 ?_
        exact hs_k ⟨3, some (.int x2), by decide +kernel, by rw [rt_1105]; rfl, hq, ab_fr.rf, x2, rfl, Or.inl ⟨hlen, by omega, by rw [em, e2], fun g => by rw [em, ← e2] at g; omega, fun _ => ⟨rfl, rfl⟩⟩⟩
      · simp only [hs_cd, ab_not] at b125
        refine hs_aload_n ci_1105_128 l0 ?_
        refine hs_iload_n ci_1105_129 l3 ?_
        refine hs_pfi 4 (-2147483648) (2147483647) ci_1105_130 (by decide +kernel) hp (ab_ige _) (ab_ile _) ?_
        intro h130 w130
        replace hp := w130.1
        refine hs_aload_n ci_1105_133 l0 ?_
        refine hs_iload ci_1105_134 l4 ?_
        refine hs_pfi 5 (-2147483648) (2147483647) ci_1105_136 (by decide +kernel) hp (ab_ige _) (ab_ile _) ?_
        intro h136 w136
        replace hp := w136.1
        refine hs_iload_n ci_1105_139 l2 ?_
        have f130 : ab_fr [(109, 4, 5)] h130 h := w130.fr rfl
        have f136 : ab_fr [(109, 4, 5)] h136 h := (w136.fr rfl).tr f130
        refine hs_k ⟨3, some (.int x2), by decide +kernel, by rw [rt_1105]; rfl, ⟨hp, hq.2.fr (M := [(109, 4, 5)]) (by decide +kernel) f136⟩, f136, x2, rfl, Or.inl ⟨hlen, by omega, by rw [em, e2], fun g => ⟨?_, ?_⟩, fun g => by rw [em, ← e2] at g; omega⟩⟩
        · rw [em, w136.v, if_neg (by omega), w130.v, if_pos ⟨rfl, rfl⟩, e3]
        · rw [em, w136.v, if_pos ⟨rfl, rfl⟩, e4]
    · simp only [hs_cd, ab_not] at b48
      omega
  | succ f ih =>
    intro m x2 x3 x4 x5 x6 ls hf hx e2 e3 e4 e5 l0 l1 l2 l3 l4 l5 l6
    have exi : x6.toInt.toNat = m := by omega
    obtain rfl := i32_nat (x := x6) (n := m) (by omega) hx
    refine hs_iload ci_1105_39 l6 ?_
    refine hs_aload_n ci_1105_41 l0 ?_
    refine hs_gfr 0 8 ci_1105_42 (by decide +kernel) hp ?_
    refine hs_gfi 4 ci_1105_45 (by decide +kernel) hp ?_
    refine hs_ic (t := 124) ci_1105_48 rfl (fun b48 => ?_) (fun b48 => ?_)
    · simp only [hs_cd, ab_not] at b48
      omega
    · simp only [hs_cd, ab_not] at b48
      refine hs_aload_n ci_1105_51 l0 ?_
      refine hs_gfr 0 8 ci_1105_52 (by decide +kernel) hp ?_
      refine hs_iload ci_1105_55 l6 ?_
      refine hs_cv 1109 1 1 ci_1105_57 (by decide +kernel) (by decide +kernel) hp rfl (by rw [ml_1109]; rfl) (k_gv hq hn hn2) ?_
      rintro v9 h9 ⟨e9, e8⟩
      rw [e8, e9]
      clear e8 e9 v9 h9
      simp only [Option.toList, List.cons_append, List.nil_append]
      refine hs_istore2 ci_1105_60 (by decide +kernel) ?_
      intro ls9 q9
      replace l0 := q9.2 0 _ (by decide) (Or.inl rfl) l0
      replace l1 := q9.2 1 _ (by decide) (Or.inl rfl) l1
      replace l2 := q9.2 2 _ (by decide) (Or.inl rfl) l2
      replace l3 := q9.2 3 _ (by decide) (Or.inl rfl) l3
      replace l4 := q9.2 4 _ (by decide) (Or.inl rfl) l4
      replace l5 := q9.2 5 _ (by decide) (Or.inl rfl) l5
      replace l6 := q9.2 6 _ (by decide) (Or.inl rfl) l6
      have l7 := q9.1
      clear q9
      refine hs_iload ci_1105_62 l7 ?_
      refine hs_cs 1066 13 1 ci_1105_64 (by decide +kernel) rfl (by rw [ml_1066]; rfl) (k_bc (gv_b n hn2)) ?_
      rintro v9 h9 ⟨e9, r8, e8, hr8⟩
      rw [e8, e9]
      clear e8 e9 v9 h9
      obtain rfl := i32_nat (x := r8) (n := bs_n 10 (hX h n m)) (by have := (bc_v (x := hX h n m) (gv_b n hn2)).2.2; omega) hr8
      simp only [Option.toList, List.cons_append, List.nil_append]
      refine hs_istore2 ci_1105_67 (by decide +kernel) ?_
      intro ls9 q9
      replace l0 := q9.2 0 _ (by decide) (Or.inl rfl) l0
      replace l1 := q9.2 1 _ (by decide) (Or.inl rfl) l1
      replace l2 := q9.2 2 _ (by decide) (Or.inl rfl) l2
      replace l3 := q9.2 3 _ (by decide) (Or.inl rfl) l3
      replace l4 := q9.2 4 _ (by decide) (Or.inl rfl) l4
      replace l5 := q9.2 5 _ (by decide) (Or.inl rfl) l5
      replace l6 := q9.2 6 _ (by decide) (Or.inl rfl) l6
      replace l7 := q9.2 7 _ (by decide) (Or.inl rfl) l7
      have l8 := q9.1
      clear q9
      refine hs_aload_n ci_1105_69 l1 ?_
      refine hs_iload ci_1105_70 l6 ?_
      refine hs_cv 699 7 1 ci_1105_72 (by decide +kernel) (by decide +kernel) hp rfl (by rw [ml_699]; rfl) (k_byte _ hq) ?_
      rintro v9 h9 ⟨e9, r9, e8, hr9⟩
      rw [e8, e9]
      clear e8 e9 v9 h9
      have hb9 := bA_b h m
      have hr9 : r9.toInt = bA h m := by
        rcases hr9 with ⟨-, -, y⟩ | ⟨y, -⟩
        · rw [exi] at y
          exact y
        · omega
      obtain rfl := i32_nat (x := r9) (n := (bA h m).toNat) (by omega) (by omega)
      simp only [Option.toList, List.cons_append, List.nil_append]
      refine hs_istore2 ci_1105_75 (by decide +kernel) ?_
      intro ls9 q9
      replace l0 := q9.2 0 _ (by decide) (Or.inl rfl) l0
      replace l1 := q9.2 1 _ (by decide) (Or.inl rfl) l1
      replace l2 := q9.2 2 _ (by decide) (Or.inl rfl) l2
      replace l3 := q9.2 3 _ (by decide) (Or.inl rfl) l3
      replace l4 := q9.2 4 _ (by decide) (Or.inl rfl) l4
      replace l5 := q9.2 5 _ (by decide) (Or.inl rfl) l5
      replace l6 := q9.2 6 _ (by decide) (Or.inl rfl) l6
      replace l7 := q9.2 7 _ (by decide) (Or.inl rfl) l7
      replace l8 := q9.2 8 _ (by decide) (Or.inl rfl) l8
      have l9 := q9.1
      clear q9
      refine hs_iload ci_1105_77 l8 ?_
      refine hs_iload ci_1105_79 l9 ?_
      refine hs_cs 1113 4 2 ci_1105_81 (by decide +kernel) rfl (by rw [ml_1113]; rfl) (k_wy (by omega) (by omega)) ?_
      rintro v9 h9 ⟨e9, e8⟩
      rw [e8, e9]
      clear e8 e9 v9 h9
      simp only [Option.toList, List.cons_append, List.nil_append]
      refine hs_istore2 ci_1105_84 (by decide +kernel) ?_
      intro ls9 q9
      replace l0 := q9.2 0 _ (by decide) (Or.inl rfl) l0
      replace l1 := q9.2 1 _ (by decide) (Or.inl rfl) l1
      replace l2 := q9.2 2 _ (by decide) (Or.inl rfl) l2
      replace l3 := q9.2 3 _ (by decide) (Or.inl rfl) l3
      replace l4 := q9.2 4 _ (by decide) (Or.inl rfl) l4
      replace l5 := q9.2 5 _ (by decide) (Or.inl rfl) l5
      replace l6 := q9.2 6 _ (by decide) (Or.inl rfl) l6
      replace l7 := q9.2 7 _ (by decide) (Or.inl rfl) l7
      replace l8 := q9.2 8 _ (by decide) (Or.inl rfl) l8
      replace l9 := q9.2 9 _ (by decide) (Or.inl rfl) l9
      have l10 := q9.1
      clear q9
      refine hs_iload_n ci_1105_86 l2 ?_
      refine hs_iload ci_1105_87 l10 ?_
      refine hs_imul ci_1105_89 ?_
      refine hs_istore2_n ci_1105_90 (by decide +kernel) ?_
      intro ls9 q9
      replace l0 := q9.2 0 _ (by decide) (Or.inl rfl) l0
      replace l1 := q9.2 1 _ (by decide) (Or.inl rfl) l1
      replace l3 := q9.2 3 _ (by decide) (Or.inl rfl) l3
      replace l4 := q9.2 4 _ (by decide) (Or.inl rfl) l4
      replace l5 := q9.2 5 _ (by decide) (Or.inl rfl) l5
      replace l6 := q9.2 6 _ (by decide) (Or.inl rfl) l6
      replace l7 := q9.2 7 _ (by decide) (Or.inl rfl) l7
      replace l8 := q9.2 8 _ (by decide) (Or.inl rfl) l8
      replace l9 := q9.2 9 _ (by decide) (Or.inl rfl) l9
      replace l10 := q9.2 10 _ (by decide) (Or.inl rfl) l10
      have l2 := q9.1
      clear q9
      refine hs_iload ci_1105_91 l9 ?_
      refine hs_iload ci_1105_93 l8 ?_
      refine hs_ic (t := 103) ci_1105_95 rfl (fun b95 => ?_) (fun b95 => ?_)
      · simp only [hs_cd, ab_not] at b95
        refine hs_iload ci_1105_103 l10 ?_
        refine hs_iload ci_1105_105 l5 ?_
        refine hs_ic (t := 118) ci_1105_107 rfl (fun b107 => ?_) (fun b107 => ?_)
        · simp only [hs_cd, ab_not] at b107
          refine hs_iinc2 ci_1105_118 (by decide +kernel) l6 ?_
          intro ls9 q9
          replace l0 := q9.2 0 _ (by decide) (Or.inl rfl) l0
          replace l1 := q9.2 1 _ (by decide) (Or.inl rfl) l1
          replace l2 := q9.2 2 _ (by decide) (Or.inl rfl) l2
          replace l3 := q9.2 3 _ (by decide) (Or.inl rfl) l3
          replace l4 := q9.2 4 _ (by decide) (Or.inl rfl) l4
          replace l5 := q9.2 5 _ (by decide) (Or.inl rfl) l5
          replace l7 := q9.2 7 _ (by decide) (Or.inl rfl) l7
          replace l8 := q9.2 8 _ (by decide) (Or.inl rfl) l8
          replace l9 := q9.2 9 _ (by decide) (Or.inl rfl) l9
          replace l10 := q9.2 10 _ (by decide) (Or.inl rfl) l10
          have l6 := q9.1
          clear q9
          refine hs_goto (t := 39) ci_1105_121 rfl ?_
          have s9 := sm_n (bA h m).toNat (by omega)
          have s8 := sm_n (bs_n 10 (hX h n m)) (by have := (bc_v (x := hX h n m) (gv_b n hn2)).2.2; omega)
          have c1 : ¬ bA h m = (bs_n 10 (hX h n m) : Int) := by omega
          have c2 : ¬ (sw_n (hX h n) (bA h) m).2.2.2.toInt < (wy_n (Int32.ofNat (bs_n 10 (hX h n m))) (Int32.ofNat (bA h m).toNat)).toInt := by
            rw [← e5]
            omega
          exact ih (m + 1) _ _ _ _ _ _ (by omega) (i32_inc hx (by omega) (by omega)) (by rw [e2]; rfl) (e3.trans (if_neg c1).symm) (e4.trans (if_neg c2).symm) (e5.trans (if_neg c2).symm) l0 l1 l2 l3 l4 l5 l6
        · simp only [hs_cd, ab_not] at b107
          refine hs_iload ci_1105_110 l10 ?_
          refine hs_istore2 ci_1105_112 (by decide +kernel) ?_
          intro ls9 q9
          replace l0 := q9.2 0 _ (by decide) (Or.inl rfl) l0
          replace l1 := q9.2 1 _ (by decide) (Or.inl rfl) l1
          replace l2 := q9.2 2 _ (by decide) (Or.inl rfl) l2
          replace l3 := q9.2 3 _ (by decide) (Or.inl rfl) l3
          replace l4 := q9.2 4 _ (by decide) (Or.inl rfl) l4
          replace l6 := q9.2 6 _ (by decide) (Or.inl rfl) l6
          replace l7 := q9.2 7 _ (by decide) (Or.inl rfl) l7
          replace l8 := q9.2 8 _ (by decide) (Or.inl rfl) l8
          replace l9 := q9.2 9 _ (by decide) (Or.inl rfl) l9
          replace l10 := q9.2 10 _ (by decide) (Or.inl rfl) l10
          have l5 := q9.1
          clear q9
          refine hs_iload ci_1105_114 l6 ?_
          refine hs_istore2 ci_1105_116 (by decide +kernel) ?_
          intro ls9 q9
          replace l0 := q9.2 0 _ (by decide) (Or.inl rfl) l0
          replace l1 := q9.2 1 _ (by decide) (Or.inl rfl) l1
          replace l2 := q9.2 2 _ (by decide) (Or.inl rfl) l2
          replace l3 := q9.2 3 _ (by decide) (Or.inl rfl) l3
          replace l5 := q9.2 5 _ (by decide) (Or.inl rfl) l5
          replace l6 := q9.2 6 _ (by decide) (Or.inl rfl) l6
          replace l7 := q9.2 7 _ (by decide) (Or.inl rfl) l7
          replace l8 := q9.2 8 _ (by decide) (Or.inl rfl) l8
          replace l9 := q9.2 9 _ (by decide) (Or.inl rfl) l9
          replace l10 := q9.2 10 _ (by decide) (Or.inl rfl) l10
          have l4 := q9.1
          clear q9
          refine hs_iinc2 ci_1105_118 (by decide +kernel) l6 ?_
          intro ls9 q9
          replace l0 := q9.2 0 _ (by decide) (Or.inl rfl) l0
          replace l1 := q9.2 1 _ (by decide) (Or.inl rfl) l1
          replace l2 := q9.2 2 _ (by decide) (Or.inl rfl) l2
          replace l3 := q9.2 3 _ (by decide) (Or.inl rfl) l3
          replace l4 := q9.2 4 _ (by decide) (Or.inl rfl) l4
          replace l5 := q9.2 5 _ (by decide) (Or.inl rfl) l5
          replace l7 := q9.2 7 _ (by decide) (Or.inl rfl) l7
          replace l8 := q9.2 8 _ (by decide) (Or.inl rfl) l8
          replace l9 := q9.2 9 _ (by decide) (Or.inl rfl) l9
          replace l10 := q9.2 10 _ (by decide) (Or.inl rfl) l10
          have l6 := q9.1
          clear q9
          refine hs_goto (t := 39) ci_1105_121 rfl ?_
          have s9 := sm_n (bA h m).toNat (by omega)
          have s8 := sm_n (bs_n 10 (hX h n m)) (by have := (bc_v (x := hX h n m) (gv_b n hn2)).2.2; omega)
          have c1 : ¬ bA h m = (bs_n 10 (hX h n m) : Int) := by omega
          have c2 : (sw_n (hX h n) (bA h) m).2.2.2.toInt < (wy_n (Int32.ofNat (bs_n 10 (hX h n m))) (Int32.ofNat (bA h m).toNat)).toInt := by
            rw [← e5]
            omega
          exact ih (m + 1) _ _ _ _ _ _ (by omega) (i32_inc hx (by omega) (by omega)) (by rw [e2]; rfl) (e3.trans (if_neg c1).symm) ((if_pos c2).symm) ((if_pos c2).symm) l0 l1 l2 l3 l4 l5 l6
      · simp only [hs_cd, ab_not] at b95
        refine hs_iload_n ci_1105_98 l3 ?_
        refine hs_iload ci_1105_99 l7 ?_
        refine hs_ior ci_1105_101 ?_
        refine hs_istore2_n ci_1105_102 (by decide +kernel) ?_
        intro ls9 q9
        replace l0 := q9.2 0 _ (by decide) (Or.inl rfl) l0
        replace l1 := q9.2 1 _ (by decide) (Or.inl rfl) l1
        replace l2 := q9.2 2 _ (by decide) (Or.inl rfl) l2
        replace l4 := q9.2 4 _ (by decide) (Or.inl rfl) l4
        replace l5 := q9.2 5 _ (by decide) (Or.inl rfl) l5
        replace l6 := q9.2 6 _ (by decide) (Or.inl rfl) l6
        replace l7 := q9.2 7 _ (by decide) (Or.inl rfl) l7
        replace l8 := q9.2 8 _ (by decide) (Or.inl rfl) l8
        replace l9 := q9.2 9 _ (by decide) (Or.inl rfl) l9
        replace l10 := q9.2 10 _ (by decide) (Or.inl rfl) l10
        have l3 := q9.1
        clear q9
        refine hs_iload ci_1105_103 l10 ?_
        refine hs_iload ci_1105_105 l5 ?_
        refine hs_ic (t := 118) ci_1105_107 rfl (fun b107 => ?_) (fun b107 => ?_)
        · simp only [hs_cd, ab_not] at b107
          refine hs_iinc2 ci_1105_118 (by decide +kernel) l6 ?_
          intro ls9 q9
          replace l0 := q9.2 0 _ (by decide) (Or.inl rfl) l0
          replace l1 := q9.2 1 _ (by decide) (Or.inl rfl) l1
          replace l2 := q9.2 2 _ (by decide) (Or.inl rfl) l2
          replace l3 := q9.2 3 _ (by decide) (Or.inl rfl) l3
          replace l4 := q9.2 4 _ (by decide) (Or.inl rfl) l4
          replace l5 := q9.2 5 _ (by decide) (Or.inl rfl) l5
          replace l7 := q9.2 7 _ (by decide) (Or.inl rfl) l7
          replace l8 := q9.2 8 _ (by decide) (Or.inl rfl) l8
          replace l9 := q9.2 9 _ (by decide) (Or.inl rfl) l9
          replace l10 := q9.2 10 _ (by decide) (Or.inl rfl) l10
          have l6 := q9.1
          clear q9
          refine hs_goto (t := 39) ci_1105_121 rfl ?_
          have s9 := sm_n (bA h m).toNat (by omega)
          have s8 := sm_n (bs_n 10 (hX h n m)) (by have := (bc_v (x := hX h n m) (gv_b n hn2)).2.2; omega)
          have c1 : bA h m = (bs_n 10 (hX h n m) : Int) := by omega
          have c2 : ¬ (sw_n (hX h n) (bA h) m).2.2.2.toInt < (wy_n (Int32.ofNat (bs_n 10 (hX h n m))) (Int32.ofNat (bA h m).toNat)).toInt := by
            rw [← e5]
            omega
          exact ih (m + 1) _ _ _ _ _ _ (by omega) (i32_inc hx (by omega) (by omega)) (by rw [e2]; rfl) (by rw [e3]; exact (if_pos c1).symm) (e4.trans (if_neg c2).symm) (e5.trans (if_neg c2).symm) l0 l1 l2 l3 l4 l5 l6
        · simp only [hs_cd, ab_not] at b107
          refine hs_iload ci_1105_110 l10 ?_
          refine hs_istore2 ci_1105_112 (by decide +kernel) ?_
          intro ls9 q9
          replace l0 := q9.2 0 _ (by decide) (Or.inl rfl) l0
          replace l1 := q9.2 1 _ (by decide) (Or.inl rfl) l1
          replace l2 := q9.2 2 _ (by decide) (Or.inl rfl) l2
          replace l3 := q9.2 3 _ (by decide) (Or.inl rfl) l3
          replace l4 := q9.2 4 _ (by decide) (Or.inl rfl) l4
          replace l6 := q9.2 6 _ (by decide) (Or.inl rfl) l6
          replace l7 := q9.2 7 _ (by decide) (Or.inl rfl) l7
          replace l8 := q9.2 8 _ (by decide) (Or.inl rfl) l8
          replace l9 := q9.2 9 _ (by decide) (Or.inl rfl) l9
          replace l10 := q9.2 10 _ (by decide) (Or.inl rfl) l10
          have l5 := q9.1
          clear q9
          refine hs_iload ci_1105_114 l6 ?_
          refine hs_istore2 ci_1105_116 (by decide +kernel) ?_
          intro ls9 q9
          replace l0 := q9.2 0 _ (by decide) (Or.inl rfl) l0
          replace l1 := q9.2 1 _ (by decide) (Or.inl rfl) l1
          replace l2 := q9.2 2 _ (by decide) (Or.inl rfl) l2
          replace l3 := q9.2 3 _ (by decide) (Or.inl rfl) l3
          replace l5 := q9.2 5 _ (by decide) (Or.inl rfl) l5
          replace l6 := q9.2 6 _ (by decide) (Or.inl rfl) l6
          replace l7 := q9.2 7 _ (by decide) (Or.inl rfl) l7
          replace l8 := q9.2 8 _ (by decide) (Or.inl rfl) l8
          replace l9 := q9.2 9 _ (by decide) (Or.inl rfl) l9
          replace l10 := q9.2 10 _ (by decide) (Or.inl rfl) l10
          have l4 := q9.1
          clear q9
          refine hs_iinc2 ci_1105_118 (by decide +kernel) l6 ?_
          intro ls9 q9
          replace l0 := q9.2 0 _ (by decide) (Or.inl rfl) l0
          replace l1 := q9.2 1 _ (by decide) (Or.inl rfl) l1
          replace l2 := q9.2 2 _ (by decide) (Or.inl rfl) l2
          replace l3 := q9.2 3 _ (by decide) (Or.inl rfl) l3
          replace l4 := q9.2 4 _ (by decide) (Or.inl rfl) l4
          replace l5 := q9.2 5 _ (by decide) (Or.inl rfl) l5
          replace l7 := q9.2 7 _ (by decide) (Or.inl rfl) l7
          replace l8 := q9.2 8 _ (by decide) (Or.inl rfl) l8
          replace l9 := q9.2 9 _ (by decide) (Or.inl rfl) l9
          replace l10 := q9.2 10 _ (by decide) (Or.inl rfl) l10
          have l6 := q9.1
          clear q9
          refine hs_goto (t := 39) ci_1105_121 rfl ?_
          have s9 := sm_n (bA h m).toNat (by omega)
          have s8 := sm_n (bs_n 10 (hX h n m)) (by have := (bc_v (x := hX h n m) (gv_b n hn2)).2.2; omega)
          have c1 : bA h m = (bs_n 10 (hX h n m) : Int) := by omega
          have c2 : (sw_n (hX h n) (bA h) m).2.2.2.toInt < (wy_n (Int32.ofNat (bs_n 10 (hX h n m))) (Int32.ofNat (bA h m).toNat)).toInt := by
            rw [← e5]
            omega
          exact ih (m + 1) _ _ _ _ _ _ (by omega) (i32_inc hx (by omega) (by omega)) (by rw [e2]; rfl) (by rw [e3]; exact (if_pos c1).symm) ((if_pos c2).symm) ((if_pos c2).symm) l0 l1 l2 l3 l4 l5 l6
theorem k_cs {sc : List Value} {sp d : Nat} {h : eg_H} (hq : ab_hp h) {n : Nat} (hn : (hv h 8 5).toInt = (n : Int)) (hn2 : n ≤ 10) {men : Int} (hm : (hv h 8 4).toInt = men) (hm6 : 0 ≤ men ∧ men ≤ 6) : mc sc sp 1105 4 (d + 1) [.ref 109, .ref 1] h (so_P 109 4 5 h (hv h 1 1).toInt men (sw_n (hX h n) (bA h) men.toNat) [(109, 4, 5)]) := by
  have l0 : eg_find 0 (eg_args 0 [.ref 109, .ref 1]) = some (.ref 109) := rfl
  have l1 : eg_find 1 (eg_args 0 [.ref 109, .ref 1]) = some (.ref 1) := rfl
  have hp := hq.1
  unfold mc
  refine hs_aload_n ci_1105_0 l1 ?_
  refine hs_gfi 1 ci_1105_1 (by decide +kernel) hp ?_
  refine hs_aload_n ci_1105_4 l0 ?_
  refine hs_gfr 0 8 ci_1105_5 (by decide +kernel) hp ?_
  refine hs_gfi 4 ci_1105_8 (by decide +kernel) hp ?_
  refine hs_ic (t := 24) ci_1105_11 rfl (fun b11 => ?_) (fun b11 => ?_)
  · simp only [hs_cd, ab_not] at b11
    refine hs_iconst ci_1105_24 ?_
    exact hs_k ⟨3, some (.int (Int32.ofInt (-1))), by decide +kernel, by rw [rt_1105]; rfl, hq, ab_fr.rf, _, rfl, Or.inr ⟨by omega, kI_m1, rfl, rfl⟩⟩
  · simp only [hs_cd, ab_not] at b11
    refine hs_aload_n ci_1105_14 l0 ?_
    refine hs_gfr 0 8 ci_1105_15 (by decide +kernel) hp ?_
    refine hs_gfi 4 ci_1105_18 (by decide +kernel) hp ?_
    refine hs_if (t := 26) ci_1105_21 rfl (fun b21 => ?_) (fun b21 => ?_)
    · simp only [hs_cd, ab_not] at b21
      refine hs_iconst ci_1105_26 ?_
      refine hs_istore2_n ci_1105_27 (by decide +kernel) ?_
      intro ls9 q9
      replace l0 := q9.2 0 _ (by decide) (Or.inl rfl) l0
      replace l1 := q9.2 1 _ (by decide) (Or.inl rfl) l1
      have l2 := q9.1
      clear q9
      refine hs_iconst ci_1105_28 ?_
      refine hs_istore2_n ci_1105_29 (by decide +kernel) ?_
      intro ls9 q9
      replace l0 := q9.2 0 _ (by decide) (Or.inl rfl) l0
      replace l1 := q9.2 1 _ (by decide) (Or.inl rfl) l1
      replace l2 := q9.2 2 _ (by decide) (Or.inl rfl) l2
      have l3 := q9.1
      clear q9
      refine hs_iconst ci_1105_30 ?_
      refine hs_istore2 ci_1105_31 (by decide +kernel) ?_
      intro ls9 q9
      replace l0 := q9.2 0 _ (by decide) (Or.inl rfl) l0
      replace l1 := q9.2 1 _ (by decide) (Or.inl rfl) l1
      replace l2 := q9.2 2 _ (by decide) (Or.inl rfl) l2
      replace l3 := q9.2 3 _ (by decide) (Or.inl rfl) l3
      have l4 := q9.1
      clear q9
      refine hs_iconst ci_1105_33 ?_
      refine hs_istore2 ci_1105_34 (by decide +kernel) ?_
      intro ls9 q9
      replace l0 := q9.2 0 _ (by decide) (Or.inl rfl) l0
      replace l1 := q9.2 1 _ (by decide) (Or.inl rfl) l1
      replace l2 := q9.2 2 _ (by decide) (Or.inl rfl) l2
      replace l3 := q9.2 3 _ (by decide) (Or.inl rfl) l3
      replace l4 := q9.2 4 _ (by decide) (Or.inl rfl) l4
      have l5 := q9.1
      clear q9
      refine hs_iconst ci_1105_36 ?_
      refine hs_istore2 ci_1105_37 (by decide +kernel) ?_
      intro ls9 q9
      replace l0 := q9.2 0 _ (by decide) (Or.inl rfl) l0
      replace l1 := q9.2 1 _ (by decide) (Or.inl rfl) l1
      replace l2 := q9.2 2 _ (by decide) (Or.inl rfl) l2
      replace l3 := q9.2 3 _ (by decide) (Or.inl rfl) l3
      replace l4 := q9.2 4 _ (by decide) (Or.inl rfl) l4
      replace l5 := q9.2 5 _ (by decide) (Or.inl rfl) l5
      have l6 := q9.1
      clear q9
      exact cs_lpX hq hn hn2 hm (by omega) (by omega) men.toNat 0 _ _ _ _ _ _ (by omega) kI_0 rfl rfl rfl rfl l0 l1 l2 l3 l4 l5 l6
    · simp only [hs_cd, ab_not] at b21
      refine hs_iconst ci_1105_24 ?_
      exact hs_k ⟨3, some (.int (Int32.ofInt (-1))), by decide +kernel, by rw [rt_1105]; rfl, hq, ab_fr.rf, _, rfl, Or.inr ⟨by omega, kI_m1, rfl, rfl⟩⟩
theorem k_sworn {sc : List Value} {sp d : Nat} {h : eg_H} (hq : ab_hp h) {n : Nat} (hn : (hv h 8 5).toInt = (n : Int)) (hn2 : n ≤ 10) {men : Int} (hm : (hv h 8 4).toInt = men) (hm6 : 0 ≤ men ∧ men ≤ 6) : mc sc sp 1101 10 (d + 1 + 1) [.ref 0] h (fun vo h' => so_P 109 4 5 h (hv h 1 1).toInt men (sw_n (hX h n) (bA h) men.toNat) [(1, 1, 1), (109, 4, 5)] vo h' ∧ (hv h' 1 1).toInt = 0) := by
  have l0 : eg_find 0 (eg_args 0 [.ref 0]) = some (.ref 0) := rfl
  have hp := hq.1
  unfold mc
  refine hs_aload_n ci_1101_0 l0 ?_
  refine hs_gfr 7 109 ci_1101_1 (by decide +kernel) hp ?_
  refine hs_aload_n ci_1101_4 l0 ?_
  refine hs_gfr 0 1 ci_1101_5 (by decide +kernel) hp ?_
  refine hs_cv 1105 4 1 ci_1101_8 (by decide +kernel) (by decide +kernel) hp rfl (by rw [ml_1105]; rfl) (k_cs hq hn hn2 hm hm6) ?_
  rintro v9 hA ⟨qA, fA, rA, e8, hrA⟩
  rw [e8]
  clear e8 v9
  replace hp := qA.1
  simp only [Option.toList, List.cons_append, List.nil_append]
  refine hs_istore2_n ci_1101_11 (by decide +kernel) ?_
  intro ls9 q9
  replace l0 := q9.2 0 _ (by decide) (Or.inl rfl) l0
  have l1 := q9.1
  clear q9
  refine hs_aload_n ci_1101_12 l0 ?_
  refine hs_gfr 0 1 ci_1101_13 (by decide +kernel) hp ?_
  refine hs_iconst ci_1101_16 ?_
  refine hs_pfi 1 (0) (940) ci_1101_17 (by decide +kernel) hp (by decide) (by decide) ?_
  intro h17 w17
  replace hp := w17.1
  refine hs_iload_n ci_1101_20 l1 ?_
  have f17 : ab_fr [(1, 1, 1)] h17 hA := w17.fr rfl
  have F9 : ab_fr [(1, 1, 1), (109, 4, 5)] h17 h := (fr_sub (by decide +kernel) f17).tr (fr_sub (by decide +kernel) fA)
  refine hs_k ⟨3, some (.int rA), by decide +kernel, by rw [rt_1101]; rfl, ⟨⟨hp, hq.2.fr (M := [(1, 1, 1), (109, 4, 5)]) (by decide +kernel) F9⟩, F9, rA, rfl, ?_⟩, ?_⟩
  · rw [hv_same (f17 109 4 rfl), hv_same (f17 109 5 rfl)]
    exact hrA
  · rw [w17.v, if_pos ⟨rfl, rfl⟩]
    exact kI_0
def tw_P (h : eg_H) (vo : Option Value) (h' : eg_H) : Prop := vo = none ∧ ab_hp h' ∧ ab_fr [(182, 2, 5)] h' h ∧ hv h' 182 3 = hv h 182 2 ∧ (hv h' 182 2).toInt = 0
theorem m_tk {sc : List Value} {sp d : Nat} {h : eg_H} {x : Int32} (x1 : 0 ≤ x.toInt) (x2 : x.toInt ≤ 940) (hq : ab_hp h) : mc sc sp 1654 11 d [.ref 182, .int x] h (tw_P h) := by
  have l0 : eg_find 0 (eg_args 0 [.ref 182, .int x]) = some (.ref 182) := rfl
  have l1 : eg_find 1 (eg_args 0 [.ref 182, .int x]) = some (.int x) := rfl
  have hp := hq.1
  obtain ⟨-, b1, b2⟩ := sb_v (a := 182) (k := 2) (lo := .ofNat 0) (hi := .ofNat 940) hq (by decide +kernel)
  have b1 : (0 : Int) ≤ (hv h 182 2).toInt := b1
  have b2 : (hv h 182 2).toInt ≤ (940 : Int) := b2
  unfold mc
  refine hs_aload_n ci_1654_0 l0 ?_
  refine hs_aload_n ci_1654_1 l0 ?_
  refine hs_gfi 2 ci_1654_2 (by decide +kernel) hp ?_
  refine hs_pfi 3 (0) (940) ci_1654_5 (by decide +kernel) hp b1 b2 ?_
  intro h5 w5
  replace hp := w5.1
  refine hs_aload_n ci_1654_8 l0 ?_
  refine hs_iconst ci_1654_9 ?_
  refine hs_pfi 2 (0) (940) ci_1654_10 (by decide +kernel) hp (by decide) (by decide) ?_
  intro h10 w10
  replace hp := w10.1
  refine hs_aload_n ci_1654_13 l0 ?_
  refine hs_iconst ci_1654_14 ?_
  refine hs_pfi 4 (0) (940) ci_1654_15 (by decide +kernel) hp (by decide) (by decide) ?_
  intro h15 w15
  replace hp := w15.1
  refine hs_aload_n ci_1654_18 l0 ?_
  refine hs_iload_n ci_1654_19 l1 ?_
  refine hs_pfi 5 (0) (940) ci_1654_20 (by decide +kernel) hp x1 x2 ?_
  intro h20 w20
  replace hp := w20.1
  have f5 : ab_fr [(182, 2, 5)] h5 h := w5.fr rfl
  have f10 : ab_fr [(182, 2, 5)] h10 h := (w10.fr rfl).tr f5
  have f15 : ab_fr [(182, 2, 5)] h15 h := (w15.fr rfl).tr f10
  have f20 : ab_fr [(182, 2, 5)] h20 h := (w20.fr rfl).tr f15
  refine hs_k ⟨5, none, by decide +kernel, by rw [rt_1654]; rfl, rfl, ⟨hp, hq.2.fr (M := [(182, 2, 5)]) (by decide +kernel) f20⟩, f20, ?_, ?_⟩
  · rw [w20.v, if_neg (by omega), w15.v, if_neg (by omega), w10.v, if_neg (by omega), w5.v, if_pos ⟨rfl, rfl⟩]
  · rw [w20.v, if_neg (by omega), w15.v, if_neg (by omega), w10.v, if_pos ⟨rfl, rfl⟩]
    exact kI_0
def gm_E (h : eg_H) (n m : Nat) (x1 x2 x3 x4 x5 : Int32) (pc' : Nat) (ls' : eg_L) (st' : List Value) (h' : eg_H) : Prop := pc' = 108 ∧ st' = [] ∧ h' = h ∧ eg_find 0 ls' = some (.ref 182) ∧ eg_find 1 ls' = some (.int x1) ∧ eg_find 2 ls' = some (.int x2) ∧ eg_find 3 ls' = some (.int x3) ∧ eg_find 4 ls' = some (.int x4) ∧ eg_find 5 ls' = some (.int x5) ∧ eg_find 6 ls' = some (.int (hM h n m))
theorem gm_loop {sc : List Value} {sp d : Nat} {h : eg_H} (hq : ab_hp h) {n : Nat} (hn : (hv h 184 1).toInt = (n : Int)) (hn2 : n ≤ 10) {m : Nat} {x1 x2 x3 x4 x5 : Int32} (e5 : x5 = Int32.ofNat m) : ∀ (f p : Nat) (w x : Int32) (ls : eg_L), p + f = n → x.toInt = (p : Int) → w = gv_n (fun q => hv h 184 (19 + q)) (Int32.ofNat m) p → eg_find 0 ls = some (.ref 182) → eg_find 1 ls = some (.int x1) → eg_find 2 ls = some (.int x2) → eg_find 3 ls = some (.int x3) → eg_find 4 ls = some (.int x4) → eg_find 5 ls = some (.int x5) → eg_find 6 ls = some (.int w) → eg_find 7 ls = some (.int x) → hs sc sp 1986 11 d (gm_E h n m x1 x2 x3 x4 x5) 63 ls [] h := by
  have hp := hq.1
  intro f
  induction f with
  | zero =>
    intro p w x ls hf hx hw l0 l1 l2 l3 l4 l5 l6 l7
    refine hs_iload ci_1986_63 l7 ?_
    refine hs_aload_n ci_1986_65 l0 ?_
    refine hs_gfr 6 184 ci_1986_66 (by decide +kernel) hp ?_
    refine hs_iconst ci_1986_69 ?_
    refine hs_iaload 1 1 (0) (10) ci_1986_70 (by decide +kernel) hp (by decide) (by decide) (fun r70_1 r70_2 => ?_)
    refine hs_ic (t := 108) ci_1986_71 rfl (fun b71 => ?_) (fun b71 => ?_)
    · simp only [hs_cd, ab_not] at b71
      obtain rfl : p = n := by omega
      exact hs_k ⟨rfl, rfl, rfl, l0, l1, l2, l3, l4, l5, by rw [l6, hw]; rfl⟩
    · simp only [hs_cd, ab_not] at b71
      rw [kN_1] at b71
      omega
  | succ f ih =>
    intro p w x ls hf hx hw l0 l1 l2 l3 l4 l5 l6 l7
    have ex := i32_nat (x := x) (n := p) (by omega) hx
    refine hs_iload ci_1986_63 l7 ?_
    refine hs_aload_n ci_1986_65 l0 ?_
    refine hs_gfr 6 184 ci_1986_66 (by decide +kernel) hp ?_
    refine hs_iconst ci_1986_69 ?_
    refine hs_iaload 1 1 (0) (10) ci_1986_70 (by decide +kernel) hp (by decide) (by decide) (fun r70_1 r70_2 => ?_)
    refine hs_ic (t := 108) ci_1986_71 rfl (fun b71 => ?_) (fun b71 => ?_)
    · simp only [hs_cd, ab_not] at b71
      rw [kN_1] at b71
      omega
    · simp only [hs_cd, ab_not] at b71
      refine hs_iload ci_1986_74 l6 ?_
      refine hs_aload_n ci_1986_76 l0 ?_
      refine hs_gfr 6 184 ci_1986_77 (by decide +kernel) hp ?_
      refine hs_bipush ci_1986_80 ?_
      refine hs_iload ci_1986_82 l7 ?_
      refine hs_iadd ci_1986_84 ?_
      refine hs_iaload 19 28 (0) (5) ci_1986_85 (by decide +kernel) hp (by rw [i32_add kB_19 hx (by omega) (by omega)]; omega) (by rw [i32_add kB_19 hx (by omega) (by omega)]; omega) (fun r85_1 r85_2 => ?_)
      refine hs_iload ci_1986_86 l5 ?_
      refine hs_ic (t := 98) ci_1986_88 rfl (fun b88 => ?_) (fun b88 => ?_)
      · simp only [hs_cd, ab_not] at b88
        refine hs_iconst ci_1986_98 ?_
        refine hs_ior ci_1986_99 ?_
        refine hs_istore2 ci_1986_100 (by decide +kernel) ?_
        intro ls9 q9
        replace l0 := q9.2 0 _ (by decide) (Or.inl rfl) l0
        replace l1 := q9.2 1 _ (by decide) (Or.inl rfl) l1
        replace l2 := q9.2 2 _ (by decide) (Or.inl rfl) l2
        replace l3 := q9.2 3 _ (by decide) (Or.inl rfl) l3
        replace l4 := q9.2 4 _ (by decide) (Or.inl rfl) l4
        replace l5 := q9.2 5 _ (by decide) (Or.inl rfl) l5
        replace l7 := q9.2 7 _ (by decide) (Or.inl rfl) l7
        have l6 := q9.1
        clear q9
        refine hs_iinc2 ci_1986_102 (by decide +kernel) l7 ?_
        intro ls9 q9
        replace l0 := q9.2 0 _ (by decide) (Or.inl rfl) l0
        replace l1 := q9.2 1 _ (by decide) (Or.inl rfl) l1
        replace l2 := q9.2 2 _ (by decide) (Or.inl rfl) l2
        replace l3 := q9.2 3 _ (by decide) (Or.inl rfl) l3
        replace l4 := q9.2 4 _ (by decide) (Or.inl rfl) l4
        replace l5 := q9.2 5 _ (by decide) (Or.inl rfl) l5
        replace l6 := q9.2 6 _ (by decide) (Or.inl rfl) l6
        have l7 := q9.1
        clear q9
        refine hs_goto (t := 63) ci_1986_105 rfl ?_
        have ep : ((Int8.ofInt 19).toInt32 + x).toInt.toNat = 19 + p := by rw [i32_add kB_19 hx (by omega) (by omega)]; omega
        rw [ep, e5] at b88
        exact ih (p + 1) _ _ _ (by omega) (i32_inc hx (by omega) (by omega)) (by rw [or_z]; exact hw.trans (if_neg b88).symm) l0 l1 l2 l3 l4 l5 l6 l7
      · simp only [hs_cd, ab_not] at b88
        refine hs_iconst ci_1986_91 ?_
        refine hs_iload ci_1986_92 l7 ?_
        refine hs_ishl ci_1986_94 ?_
        refine hs_goto (t := 99) ci_1986_95 rfl ?_
        refine hs_ior ci_1986_99 ?_
        refine hs_istore2 ci_1986_100 (by decide +kernel) ?_
        intro ls9 q9
        replace l0 := q9.2 0 _ (by decide) (Or.inl rfl) l0
        replace l1 := q9.2 1 _ (by decide) (Or.inl rfl) l1
        replace l2 := q9.2 2 _ (by decide) (Or.inl rfl) l2
        replace l3 := q9.2 3 _ (by decide) (Or.inl rfl) l3
        replace l4 := q9.2 4 _ (by decide) (Or.inl rfl) l4
        replace l5 := q9.2 5 _ (by decide) (Or.inl rfl) l5
        replace l7 := q9.2 7 _ (by decide) (Or.inl rfl) l7
        have l6 := q9.1
        clear q9
        refine hs_iinc2 ci_1986_102 (by decide +kernel) l7 ?_
        intro ls9 q9
        replace l0 := q9.2 0 _ (by decide) (Or.inl rfl) l0
        replace l1 := q9.2 1 _ (by decide) (Or.inl rfl) l1
        replace l2 := q9.2 2 _ (by decide) (Or.inl rfl) l2
        replace l3 := q9.2 3 _ (by decide) (Or.inl rfl) l3
        replace l4 := q9.2 4 _ (by decide) (Or.inl rfl) l4
        replace l5 := q9.2 5 _ (by decide) (Or.inl rfl) l5
        replace l6 := q9.2 6 _ (by decide) (Or.inl rfl) l6
        have l7 := q9.1
        clear q9
        refine hs_goto (t := 63) ci_1986_105 rfl ?_
        have ep : ((Int8.ofInt 19).toInt32 + x).toInt.toNat = 19 + p := by rw [i32_add kB_19 hx (by omega) (by omega)]; omega
        rw [ep, e5] at b88
        exact ih (p + 1) _ _ _ (by omega) (i32_inc hx (by omega) (by omega)) (by rw [hw, ex]; exact (if_pos b88).symm) l0 l1 l2 l3 l4 l5 l6 l7
abbrev MSW : ab_M := [(182, 0, 0), (182, 2, 5), (182, 33, 35)]
theorem cs_lpM {sc : List Value} {sp d : Nat} {h : eg_H} {h0 : eg_H} {len : Int} (hq0 : ab_hp h0) (F : ab_fr [(182, 0, 0), (182, 2, 5)] h h0) (hq : ab_hp h) {n : Nat} (hn : (hv h 184 1).toInt = (n : Int)) (hn2 : n ≤ 10) {men : Int} (hm : (hv h 184 0).toInt = men) (hm6 : 0 < men ∧ men ≤ 6) (hlen : len = men) : ∀ (f m : Nat) (x1 x2 x3 x4 x5 : Int32) (ls : eg_L), (m : Int) + (f : Int) = men → x5.toInt = (m : Int) → x1 = (sw_n (hM h n) (bM h) m).1 → x2 = (sw_n (hM h n) (bM h) m).2.1 → x3 = (sw_n (hM h n) (bM h) m).2.2.1 → x4 = (sw_n (hM h n) (bM h) m).2.2.2 → eg_find 0 ls = some (.ref 182) → eg_find 1 ls = some (.int x1) → eg_find 2 ls = some (.int x2) → eg_find 3 ls = some (.int x3) → eg_find 4 ls = some (.int x4) → eg_find 5 ls = some (.int x5) → hs sc sp 1986 11 (d + 1) (fun pc' _ st' h' => ∃ ik vo, ab_ret 1986 pc' = some ik ∧ eg_rv (eg_md 1986).2.2.2 ik st' = some vo ∧ so_P 182 33 34 h0 len men (sw_n (hM h0 n) (bM h0) men.toNat) MSW vo h' ∧ (hv h' 182 35).toInt = (if (sw_n (hM h0 n) (bM h0) men.toNat).1.toInt = 0 then (hv h0 182 35).toInt else 1) ∧ (hv h' 182 2).toInt = (hv h 182 2).toInt) 46 ls [] h := by
  have hp := hq.1
  have eB : bM h = bM h0 := funext (fun k => by unfold bM; rw [hv_same (F 183 k rfl)])
  have eH : hM h n = hM h0 n := funext (fun m => gv_same n (fun q _ => hv_same (F 184 (19 + q) rfl)))
  intro f
  induction f with
  | zero =>
    intro m x1 x2 x3 x4 x5 ls hf hx e1 e2 e3 e4 l0 l1 l2 l3 l4 l5
    have em : men.toNat = m := by omega
    rw [eB, eH] at e1 e2 e3 e4
    refine hs_iload ci_1986_46 l5 ?_
    refine hs_aload_n ci_1986_48 l0 ?_
    refine hs_gfr 6 184 ci_1986_49 (by decide +kernel) hp ?_
    refine hs_iconst ci_1986_52 ?_
    refine hs_iaload 0 0 (0) (6) ci_1986_53 (by decide +kernel) hp (by decide) (by decide) (fun r53_1 r53_2 => ?_)
    refine hs_ic (t := 175) ci_1986_54 rfl (fun b54 => ?_) (fun b54 => ?_)
    · simp only [hs_cd, ab_not] at b54
      refine hs_iload_n ci_1986_175 l1 ?_
      refine hs_if (t := 181) ci_1986_176 rfl (fun b176 => ?_) (fun b176 => ?_)
      · simp only [hs_cd, ab_not] at b176
        refine hs_aload_n ci_1986_181 l0 ?_
        refine hs_iconst ci_1986_182 ?_
        refine hs_pfi 35 (0) (1) ci_1986_183 (by decide +kernel) hp (by decide) (by decide) ?_
        intro h183 w183
        replace hp := w183.1
        refine hs_aload_n ci_1986_186 l0 ?_
        refine hs_iload_n ci_1986_187 l2 ?_
        refine hs_pfi 33 (-2147483648) (2147483647) ci_1986_188 (by decide +kernel) hp (ab_ige _) (ab_ile _) ?_
        intro h188 w188
        replace hp := w188.1
        refine hs_aload_n ci_1986_191 l0 ?_
        refine hs_iload_n ci_1986_192 l3 ?_
        refine hs_pfi 34 (-2147483648) (2147483647) ci_1986_193 (by decide +kernel) hp (ab_ige _) (ab_ile _) ?_
        intro h193 w193
        replace hp := w193.1
        refine hs_iload_n ci_1986_196 l1 ?_
        have z : ¬ (sw_n (hM h0 n) (bM h0) men.toNat).1.toInt = 0 := by rw [em, ← e1]; exact b176
        have f193 : ab_fr [(182, 33, 35)] h193 h := (w193.fr rfl).tr ((w188.fr rfl).tr (w183.fr rfl))
        have F9 : ab_fr MSW h193 h0 := (fr_sub (by decide +kernel) f193).tr (fr_sub (by decide +kernel) F)
        refine hs_k ⟨3, some (.int x1), by decide +kernel, by rw [rt_1986]; rfl, ⟨⟨hp, hq.2.fr (M := [(182, 33, 35)]) (by decide +kernel) f193⟩, F9, _, rfl, Or.inl ⟨hlen, by omega, by rw [em, e1], fun _ => ⟨?_, ?_⟩, fun g => absurd g z⟩⟩, ?_, hv_i (hv_same (f193 182 2 rfl))⟩
        · rw [em, w193.v, if_neg (by omega), w188.v, if_pos ⟨rfl, rfl⟩, e2]
        · rw [em, w193.v, if_pos ⟨rfl, rfl⟩, e3]
        · rw [if_neg z, w193.v, if_neg (by omega), w188.v, if_neg (by omega), w183.v, if_pos ⟨rfl, rfl⟩]
          exact kI_1
      · simp only [hs_cd, ab_not] at b176
        refine hs_iconst ci_1986_179 ?_
        have z : (sw_n (hM h0 n) (bM h0) men.toNat).1.toInt = 0 := by rw [em, ← e1]; exact b176
        exact hs_k ⟨3, some (.int (Int32.ofInt 0)), by decide +kernel, by rw [rt_1986]; rfl, ⟨hq, fr_sub (by decide +kernel) F, _, rfl, Or.inl ⟨hlen, by omega, by rw [z]; exact kI_0, fun g => by omega, fun _ => ⟨hv_same (F 182 33 rfl), hv_same (F 182 34 rfl)⟩⟩⟩, by rw [if_pos z, hv_same (F 182 35 rfl)], rfl⟩
    · simp only [hs_cd, ab_not] at b54
      rw [kN_0] at b54
      omega
  | succ f ih =>
    intro m x1 x2 x3 x4 x5 ls hf hx e1 e2 e3 e4 l0 l1 l2 l3 l4 l5
    have exi : x5.toInt.toNat = m := by omega
    have ex5 := i32_nat (x := x5) (n := m) (by omega) hx
    have hb9 := bM_b h m
    have s9 := sm_n (bM h m).toNat (by omega)
    have b8 := (bc_v (x := hM h n m) (gv_b n hn2)).2.2
    have s8 := sm_n (bs_n 10 (hM h n m)) (by omega)
    refine hs_iload ci_1986_46 l5 ?_
    refine hs_aload_n ci_1986_48 l0 ?_
    refine hs_gfr 6 184 ci_1986_49 (by decide +kernel) hp ?_
    refine hs_iconst ci_1986_52 ?_
    refine hs_iaload 0 0 (0) (6) ci_1986_53 (by decide +kernel) hp (by decide) (by decide) (fun r53_1 r53_2 => ?_)
    refine hs_ic (t := 175) ci_1986_54 rfl (fun b54 => ?_) (fun b54 => ?_)
    · simp only [hs_cd, ab_not] at b54
      rw [kN_0] at b54
      omega
    · simp only [hs_cd, ab_not] at b54
      refine hs_iconst ci_1986_57 ?_
      refine hs_istore2 ci_1986_58 (by decide +kernel) ?_
      intro ls9 q9
      replace l0 := q9.2 0 _ (by decide) (Or.inl rfl) l0
      replace l1 := q9.2 1 _ (by decide) (Or.inl rfl) l1
      replace l2 := q9.2 2 _ (by decide) (Or.inl rfl) l2
      replace l3 := q9.2 3 _ (by decide) (Or.inl rfl) l3
      replace l4 := q9.2 4 _ (by decide) (Or.inl rfl) l4
      replace l5 := q9.2 5 _ (by decide) (Or.inl rfl) l5
      have l6 := q9.1
      clear q9
      refine hs_iconst ci_1986_60 ?_
      refine hs_istore2 ci_1986_61 (by decide +kernel) ?_
      intro ls9 q9
      replace l0 := q9.2 0 _ (by decide) (Or.inl rfl) l0
      replace l1 := q9.2 1 _ (by decide) (Or.inl rfl) l1
      replace l2 := q9.2 2 _ (by decide) (Or.inl rfl) l2
      replace l3 := q9.2 3 _ (by decide) (Or.inl rfl) l3
      replace l4 := q9.2 4 _ (by decide) (Or.inl rfl) l4
      replace l5 := q9.2 5 _ (by decide) (Or.inl rfl) l5
      replace l6 := q9.2 6 _ (by decide) (Or.inl rfl) l6
      have l7 := q9.1
      clear q9
      refine hs.bind (gm_loop hq hn hn2 ex5 n 0 _ _ _ (by omega) kI_0 rfl l0 l1 l2 l3 l4 l5 l6 l7) ?_
      clear l0 l1 l2 l3 l4 l5 l6 l7
      rintro pc' ls' st' h' ⟨rfl, rfl, eh, l0, l1, l2, l3, l4, l5, l6⟩
      rw [eh]
      clear eh h'
      refine hs_iload ci_1986_108 l6 ?_
      refine hs_cs 1829 11 1 ci_1986_110 (by decide +kernel) rfl (by rw [ml_1829]; rfl) (m_bt (gv_b n hn2)) ?_
      rintro v9 h9 ⟨e9, r8, e8, hr8⟩
      rw [e8, e9]
      clear e8 e9 v9 h9
      obtain rfl := i32_nat (x := r8) (n := bs_n 10 (hM h n m)) (by have := (bc_v (x := hM h n m) (gv_b n hn2)).2.2; omega) hr8
      simp only [Option.toList, List.cons_append, List.nil_append]
      refine hs_aload_n ci_1986_113 l0 ?_
      refine hs_iload ci_1986_114 l5 ?_
      refine hs_cv 1990 11 1 ci_1986_116 (by decide +kernel) (by decide +kernel) hp rfl (by rw [ml_1990]; rfl) (m_oct _ (by omega) (by omega) hq) ?_
      rintro v9 h9 ⟨e9, r9, e8, hr9⟩
      rw [e8, e9]
      clear e8 e9 v9 h9
      rw [exi] at hr9
      obtain rfl := i32_nat (x := r9) (n := (bM h m).toNat) (by omega) (by omega)
      simp only [Option.toList, List.cons_append, List.nil_append]
      refine hs_cs 1993 11 2 ci_1986_119 (by decide +kernel) rfl (by rw [ml_1993]; rfl) (m_wy (by omega) (by omega) (by omega) (by omega)) ?_
      rintro v9 h9 ⟨e9, e8⟩
      rw [e8, e9]
      clear e8 e9 v9 h9
      simp only [Option.toList, List.cons_append, List.nil_append]
      refine hs_istore2 ci_1986_122 (by decide +kernel) ?_
      intro ls9 q9
      replace l0 := q9.2 0 _ (by decide) (Or.inl rfl) l0
      replace l1 := q9.2 1 _ (by decide) (Or.inl rfl) l1
      replace l2 := q9.2 2 _ (by decide) (Or.inl rfl) l2
      replace l3 := q9.2 3 _ (by decide) (Or.inl rfl) l3
      replace l4 := q9.2 4 _ (by decide) (Or.inl rfl) l4
      replace l5 := q9.2 5 _ (by decide) (Or.inl rfl) l5
      replace l6 := q9.2 6 _ (by decide) (Or.inl rfl) l6
      have l7 := q9.1
      clear q9
      refine hs_iload_n ci_1986_124 l1 ?_
      refine hs_iload ci_1986_125 l7 ?_
      refine hs_imul ci_1986_127 ?_
      refine hs_istore2_n ci_1986_128 (by decide +kernel) ?_
      intro ls9 q9
      replace l0 := q9.2 0 _ (by decide) (Or.inl rfl) l0
      replace l2 := q9.2 2 _ (by decide) (Or.inl rfl) l2
      replace l3 := q9.2 3 _ (by decide) (Or.inl rfl) l3
      replace l4 := q9.2 4 _ (by decide) (Or.inl rfl) l4
      replace l5 := q9.2 5 _ (by decide) (Or.inl rfl) l5
      replace l6 := q9.2 6 _ (by decide) (Or.inl rfl) l6
      replace l7 := q9.2 7 _ (by decide) (Or.inl rfl) l7
      have l1 := q9.1
      clear q9
      refine hs_iload_n ci_1986_129 l2 ?_
      refine hs_aload_n ci_1986_130 l0 ?_
      refine hs_iload ci_1986_131 l5 ?_
      refine hs_cv 1990 11 1 ci_1986_133 (by decide +kernel) (by decide +kernel) hp rfl (by rw [ml_1990]; rfl) (m_oct _ (by omega) (by omega) hq) ?_
      rintro v9 h9 ⟨e9, r19, e8, hr19⟩
      rw [e8, e9]
      clear e8 e9 v9 h9
      rw [exi] at hr19
      simp only [Option.toList, List.cons_append, List.nil_append]
      refine hs_iload ci_1986_136 l6 ?_
      refine hs_cs 1829 11 1 ci_1986_138 (by decide +kernel) rfl (by rw [ml_1829]; rfl) (m_bt (gv_b n hn2)) ?_
      rintro v9 h9 ⟨e9, r18, e8, hr18⟩
      rw [e8, e9]
      clear e8 e9 v9 h9
      simp only [Option.toList, List.cons_append, List.nil_append]
      refine hs_ic (t := 149) ci_1986_141 rfl (fun b141 => ?_) (fun b141 => ?_)
      · simp only [hs_cd, ab_not] at b141
        refine hs_iconst ci_1986_149 ?_
        refine hs_ior ci_1986_150 ?_
        refine hs_istore2_n ci_1986_151 (by decide +kernel) ?_
        intro ls9 q9
        replace l0 := q9.2 0 _ (by decide) (Or.inl rfl) l0
        replace l1 := q9.2 1 _ (by decide) (Or.inl rfl) l1
        replace l3 := q9.2 3 _ (by decide) (Or.inl rfl) l3
        replace l4 := q9.2 4 _ (by decide) (Or.inl rfl) l4
        replace l5 := q9.2 5 _ (by decide) (Or.inl rfl) l5
        replace l6 := q9.2 6 _ (by decide) (Or.inl rfl) l6
        replace l7 := q9.2 7 _ (by decide) (Or.inl rfl) l7
        have l2 := q9.1
        clear q9
        refine hs_iload ci_1986_152 l7 ?_
        refine hs_iload ci_1986_154 l4 ?_
        refine hs_ic (t := 162) ci_1986_156 rfl (fun b156 => ?_) (fun b156 => ?_)
        · simp only [hs_cd, ab_not] at b156
          refine hs_iload ci_1986_162 l7 ?_
          refine hs_istore2 ci_1986_164 (by decide +kernel) ?_
          intro ls9 q9
          replace l0 := q9.2 0 _ (by decide) (Or.inl rfl) l0
          replace l1 := q9.2 1 _ (by decide) (Or.inl rfl) l1
          replace l2 := q9.2 2 _ (by decide) (Or.inl rfl) l2
          replace l3 := q9.2 3 _ (by decide) (Or.inl rfl) l3
          replace l5 := q9.2 5 _ (by decide) (Or.inl rfl) l5
          replace l6 := q9.2 6 _ (by decide) (Or.inl rfl) l6
          replace l7 := q9.2 7 _ (by decide) (Or.inl rfl) l7
          have l4 := q9.1
          clear q9
          refine hs_iload ci_1986_166 l5 ?_
          refine hs_istore2_n ci_1986_168 (by decide +kernel) ?_
          intro ls9 q9
          replace l0 := q9.2 0 _ (by decide) (Or.inl rfl) l0
          replace l1 := q9.2 1 _ (by decide) (Or.inl rfl) l1
          replace l2 := q9.2 2 _ (by decide) (Or.inl rfl) l2
          replace l4 := q9.2 4 _ (by decide) (Or.inl rfl) l4
          replace l5 := q9.2 5 _ (by decide) (Or.inl rfl) l5
          replace l6 := q9.2 6 _ (by decide) (Or.inl rfl) l6
          replace l7 := q9.2 7 _ (by decide) (Or.inl rfl) l7
          have l3 := q9.1
          clear q9
          refine hs_iinc2 ci_1986_169 (by decide +kernel) l5 ?_
          intro ls9 q9
          replace l0 := q9.2 0 _ (by decide) (Or.inl rfl) l0
          replace l1 := q9.2 1 _ (by decide) (Or.inl rfl) l1
          replace l2 := q9.2 2 _ (by decide) (Or.inl rfl) l2
          replace l3 := q9.2 3 _ (by decide) (Or.inl rfl) l3
          replace l4 := q9.2 4 _ (by decide) (Or.inl rfl) l4
          replace l6 := q9.2 6 _ (by decide) (Or.inl rfl) l6
          replace l7 := q9.2 7 _ (by decide) (Or.inl rfl) l7
          have l5 := q9.1
          clear q9
          refine hs_goto (t := 46) ci_1986_172 rfl ?_
          have c1 : ¬ bM h m = (bs_n 10 (hM h n m) : Int) := by omega
          have c2 : (sw_n (hM h n) (bM h) m).2.2.2.toInt < (wy_n (Int32.ofNat (bs_n 10 (hM h n m))) (Int32.ofNat (bM h m).toNat)).toInt := by
            rw [← e4]
            omega
          exact ih (m + 1) _ _ _ _ _ _ (by omega) (i32_inc hx (by omega) (by omega)) (by rw [e1]; rfl) (by rw [or_z]; exact e2.trans (if_neg c1).symm) (ex5.trans (if_pos c2).symm) ((if_pos c2).symm) l0 l1 l2 l3 l4 l5
        · simp only [hs_cd, ab_not] at b156
          refine hs_goto (t := 169) ci_1986_159 rfl ?_
          refine hs_iinc2 ci_1986_169 (by decide +kernel) l5 ?_
          intro ls9 q9
          replace l0 := q9.2 0 _ (by decide) (Or.inl rfl) l0
          replace l1 := q9.2 1 _ (by decide) (Or.inl rfl) l1
          replace l2 := q9.2 2 _ (by decide) (Or.inl rfl) l2
          replace l3 := q9.2 3 _ (by decide) (Or.inl rfl) l3
          replace l4 := q9.2 4 _ (by decide) (Or.inl rfl) l4
          replace l6 := q9.2 6 _ (by decide) (Or.inl rfl) l6
          replace l7 := q9.2 7 _ (by decide) (Or.inl rfl) l7
          have l5 := q9.1
          clear q9
          refine hs_goto (t := 46) ci_1986_172 rfl ?_
          have c1 : ¬ bM h m = (bs_n 10 (hM h n m) : Int) := by omega
          have c2 : ¬ (sw_n (hM h n) (bM h) m).2.2.2.toInt < (wy_n (Int32.ofNat (bs_n 10 (hM h n m))) (Int32.ofNat (bM h m).toNat)).toInt := by
            rw [← e4]
            omega
          exact ih (m + 1) _ _ _ _ _ _ (by omega) (i32_inc hx (by omega) (by omega)) (by rw [e1]; rfl) (by rw [or_z]; exact e2.trans (if_neg c1).symm) (e3.trans (if_neg c2).symm) (e4.trans (if_neg c2).symm) l0 l1 l2 l3 l4 l5
      · simp only [hs_cd, ab_not] at b141
        refine hs_iload ci_1986_144 l6 ?_
        refine hs_goto (t := 150) ci_1986_146 rfl ?_
        refine hs_ior ci_1986_150 ?_
        refine hs_istore2_n ci_1986_151 (by decide +kernel) ?_
        intro ls9 q9
        replace l0 := q9.2 0 _ (by decide) (Or.inl rfl) l0
        replace l1 := q9.2 1 _ (by decide) (Or.inl rfl) l1
        replace l3 := q9.2 3 _ (by decide) (Or.inl rfl) l3
        replace l4 := q9.2 4 _ (by decide) (Or.inl rfl) l4
        replace l5 := q9.2 5 _ (by decide) (Or.inl rfl) l5
        replace l6 := q9.2 6 _ (by decide) (Or.inl rfl) l6
        replace l7 := q9.2 7 _ (by decide) (Or.inl rfl) l7
        have l2 := q9.1
        clear q9
        refine hs_iload ci_1986_152 l7 ?_
        refine hs_iload ci_1986_154 l4 ?_
        refine hs_ic (t := 162) ci_1986_156 rfl (fun b156 => ?_) (fun b156 => ?_)
        · simp only [hs_cd, ab_not] at b156
          refine hs_iload ci_1986_162 l7 ?_
          refine hs_istore2 ci_1986_164 (by decide +kernel) ?_
          intro ls9 q9
          replace l0 := q9.2 0 _ (by decide) (Or.inl rfl) l0
          replace l1 := q9.2 1 _ (by decide) (Or.inl rfl) l1
          replace l2 := q9.2 2 _ (by decide) (Or.inl rfl) l2
          replace l3 := q9.2 3 _ (by decide) (Or.inl rfl) l3
          replace l5 := q9.2 5 _ (by decide) (Or.inl rfl) l5
          replace l6 := q9.2 6 _ (by decide) (Or.inl rfl) l6
          replace l7 := q9.2 7 _ (by decide) (Or.inl rfl) l7
          have l4 := q9.1
          clear q9
          refine hs_iload ci_1986_166 l5 ?_
          refine hs_istore2_n ci_1986_168 (by decide +kernel) ?_
          intro ls9 q9
          replace l0 := q9.2 0 _ (by decide) (Or.inl rfl) l0
          replace l1 := q9.2 1 _ (by decide) (Or.inl rfl) l1
          replace l2 := q9.2 2 _ (by decide) (Or.inl rfl) l2
          replace l4 := q9.2 4 _ (by decide) (Or.inl rfl) l4
          replace l5 := q9.2 5 _ (by decide) (Or.inl rfl) l5
          replace l6 := q9.2 6 _ (by decide) (Or.inl rfl) l6
          replace l7 := q9.2 7 _ (by decide) (Or.inl rfl) l7
          have l3 := q9.1
          clear q9
          refine hs_iinc2 ci_1986_169 (by decide +kernel) l5 ?_
          intro ls9 q9
          replace l0 := q9.2 0 _ (by decide) (Or.inl rfl) l0
          replace l1 := q9.2 1 _ (by decide) (Or.inl rfl) l1
          replace l2 := q9.2 2 _ (by decide) (Or.inl rfl) l2
          replace l3 := q9.2 3 _ (by decide) (Or.inl rfl) l3
          replace l4 := q9.2 4 _ (by decide) (Or.inl rfl) l4
          replace l6 := q9.2 6 _ (by decide) (Or.inl rfl) l6
          replace l7 := q9.2 7 _ (by decide) (Or.inl rfl) l7
          have l5 := q9.1
          clear q9
          refine hs_goto (t := 46) ci_1986_172 rfl ?_
          have c1 : bM h m = (bs_n 10 (hM h n m) : Int) := by omega
          have c2 : (sw_n (hM h n) (bM h) m).2.2.2.toInt < (wy_n (Int32.ofNat (bs_n 10 (hM h n m))) (Int32.ofNat (bM h m).toNat)).toInt := by
            rw [← e4]
            omega
          exact ih (m + 1) _ _ _ _ _ _ (by omega) (i32_inc hx (by omega) (by omega)) (by rw [e1]; rfl) (by rw [e2]; exact (if_pos c1).symm) (ex5.trans (if_pos c2).symm) ((if_pos c2).symm) l0 l1 l2 l3 l4 l5
        · simp only [hs_cd, ab_not] at b156
          refine hs_goto (t := 169) ci_1986_159 rfl ?_
          refine hs_iinc2 ci_1986_169 (by decide +kernel) l5 ?_
          intro ls9 q9
          replace l0 := q9.2 0 _ (by decide) (Or.inl rfl) l0
          replace l1 := q9.2 1 _ (by decide) (Or.inl rfl) l1
          replace l2 := q9.2 2 _ (by decide) (Or.inl rfl) l2
          replace l3 := q9.2 3 _ (by decide) (Or.inl rfl) l3
          replace l4 := q9.2 4 _ (by decide) (Or.inl rfl) l4
          replace l6 := q9.2 6 _ (by decide) (Or.inl rfl) l6
          replace l7 := q9.2 7 _ (by decide) (Or.inl rfl) l7
          have l5 := q9.1
          clear q9
          refine hs_goto (t := 46) ci_1986_172 rfl ?_
          have c1 : bM h m = (bs_n 10 (hM h n m) : Int) := by omega
          have c2 : ¬ (sw_n (hM h n) (bM h) m).2.2.2.toInt < (wy_n (Int32.ofNat (bs_n 10 (hM h n m))) (Int32.ofNat (bM h m).toNat)).toInt := by
            rw [← e4]
            omega
          exact ih (m + 1) _ _ _ _ _ _ (by omega) (i32_inc hx (by omega) (by omega)) (by rw [e1]; rfl) (by rw [e2]; exact (if_pos c1).symm) (e3.trans (if_neg c2).symm) (e4.trans (if_neg c2).symm) l0 l1 l2 l3 l4 l5
theorem m_sworn {sc : List Value} {sp d : Nat} {h : eg_H} (hq : ab_hp h) {n : Nat} (hn : (hv h 184 1).toInt = (n : Int)) (hn2 : n ≤ 10) {men : Int} (hm : (hv h 184 0).toInt = men) (hm6 : 0 ≤ men ∧ men ≤ 6) : mc sc sp 1986 11 (d + 1) [.ref 182] h (fun vo h' => so_P 182 33 34 h (hv h 182 2).toInt men (sw_n (hM h n) (bM h) men.toNat) MSW vo h' ∧ (hv h' 182 35).toInt = (if (hv h 182 2).toInt = men ∧ men ≠ 0 ∧ (sw_n (hM h n) (bM h) men.toNat).1.toInt ≠ 0 then 1 else (hv h 182 35).toInt) ∧ (hv h' 182 2).toInt = 0) := by
  have l0 : eg_find 0 (eg_args 0 [.ref 182]) = some (.ref 182) := rfl
  have hp := hq.1
  unfold mc
  refine hs_aload_n ci_1986_0 l0 ?_
  refine hs_iconst ci_1986_1 ?_
  refine hs_pfi 0 (0) (1) ci_1986_2 (by decide +kernel) hp (by decide) (by decide) ?_
  intro h2 w2
  replace hp := w2.1
  refine hs_aload_n ci_1986_5 l0 ?_
  refine hs_sipush ci_1986_6 ?_
  refine hs_cv 1654 11 1 ci_1986_9 (by decide +kernel) (by decide +kernel) hp rfl (by rw [ml_1654]; rfl) (m_tk (by decide) (by decide) ⟨hp, hq.2.fr (M := [(182, 0, 0)]) (by decide +kernel) (w2.fr rfl)⟩) ?_
  rintro v9 hA ⟨e8, qA, fA, z1, z2⟩
  rw [e8]
  clear e8 v9
  simp only [Option.toList, List.nil_append]
  have f2 : ab_fr [(182, 0, 0)] h2 h := w2.fr rfl
  have FA : ab_fr [(182, 0, 0), (182, 2, 5)] hA h := (fr_sub (by decide +kernel) fA).tr (fr_sub (by decide +kernel) f2)
  replace hp := qA.1
  have z3 : (hv hA 182 3).toInt = (hv h 182 2).toInt := by rw [z1, hv_same (f2 182 2 rfl)]
  have z4 : (hv hA 184 0).toInt = men := by rw [hv_same (FA 184 0 rfl)]; exact hm
  refine hs_aload_n ci_1986_12 l0 ?_
  refine hs_gfi 3 ci_1986_13 (by decide +kernel) hp ?_
  refine hs_if (t := 32) ci_1986_16 rfl (fun b16 => ?_) (fun b16 => ?_)
  · simp only [hs_cd, ab_not] at b16
    refine hs_iconst ci_1986_32 ?_
    have ng : ¬ ((hv h 182 2).toInt = men ∧ men ≠ 0) := by rw [← z3]; omega
    exact hs_k ⟨3, some (.int (Int32.ofInt (-1))), by decide +kernel, by rw [rt_1986]; rfl, ⟨qA, fr_sub (by decide +kernel) FA, _, rfl, Or.inr ⟨ng, kI_m1, hv_same (FA 182 33 rfl), hv_same (FA 182 34 rfl)⟩⟩, by rw [if_neg (fun g => ng ⟨g.1, g.2.1⟩), hv_same (FA 182 35 rfl)], z2⟩
  · simp only [hs_cd, ab_not] at b16
    refine hs_aload_n ci_1986_19 l0 ?_
    refine hs_gfi 3 ci_1986_20 (by decide +kernel) hp ?_
    refine hs_aload_n ci_1986_23 l0 ?_
    refine hs_gfr 6 184 ci_1986_24 (by decide +kernel) hp ?_
    refine hs_iconst ci_1986_27 ?_
    refine hs_iaload 0 0 (0) (6) ci_1986_28 (by decide +kernel) hp (by decide) (by decide) (fun r28_1 r28_2 => ?_)
    refine hs_ic (t := 34) ci_1986_29 rfl (fun b29 => ?_) (fun b29 => ?_)
    · simp only [hs_cd, ab_not] at b29
      rw [kN_0] at b29
      refine hs_iconst ci_1986_34 ?_
      refine hs_istore2_n ci_1986_35 (by decide +kernel) ?_
      intro ls9 q9
      replace l0 := q9.2 0 _ (by decide) (Or.inl rfl) l0
      have l1 := q9.1
      clear q9
      refine hs_iconst ci_1986_36 ?_
      refine hs_istore2_n ci_1986_37 (by decide +kernel) ?_
      intro ls9 q9
      replace l0 := q9.2 0 _ (by decide) (Or.inl rfl) l0
      replace l1 := q9.2 1 _ (by decide) (Or.inl rfl) l1
      have l2 := q9.1
      clear q9
      refine hs_iconst ci_1986_38 ?_
      refine hs_istore2_n ci_1986_39 (by decide +kernel) ?_
      intro ls9 q9
      replace l0 := q9.2 0 _ (by decide) (Or.inl rfl) l0
      replace l1 := q9.2 1 _ (by decide) (Or.inl rfl) l1
      replace l2 := q9.2 2 _ (by decide) (Or.inl rfl) l2
      have l3 := q9.1
      clear q9
      refine hs_iconst ci_1986_40 ?_
      refine hs_istore2 ci_1986_41 (by decide +kernel) ?_
      intro ls9 q9
      replace l0 := q9.2 0 _ (by decide) (Or.inl rfl) l0
      replace l1 := q9.2 1 _ (by decide) (Or.inl rfl) l1
      replace l2 := q9.2 2 _ (by decide) (Or.inl rfl) l2
      replace l3 := q9.2 3 _ (by decide) (Or.inl rfl) l3
      have l4 := q9.1
      clear q9
      refine hs_iconst ci_1986_43 ?_
      refine hs_istore2 ci_1986_44 (by decide +kernel) ?_
      intro ls9 q9
      replace l0 := q9.2 0 _ (by decide) (Or.inl rfl) l0
      replace l1 := q9.2 1 _ (by decide) (Or.inl rfl) l1
      replace l2 := q9.2 2 _ (by decide) (Or.inl rfl) l2
      replace l3 := q9.2 3 _ (by decide) (Or.inl rfl) l3
      replace l4 := q9.2 4 _ (by decide) (Or.inl rfl) l4
      have l5 := q9.1
      clear q9
      have hl9 : (hv h 182 2).toInt = men := by rw [← z3]; omega
      refine hs.mono (cs_lpM (len := (hv h 182 2).toInt) hq FA qA (by rw [hv_same (FA 184 1 rfl)]; exact hn) hn2 (by rw [hv_same (FA 184 0 rfl)]; exact hm) (by omega) hl9 men.toNat 0 _ _ _ _ _ _ (by omega) kI_0 rfl rfl rfl rfl l0 l1 l2 l3 l4 l5) ?_
      rintro pc' ls' st' h' ⟨ik, vo, y1, y2, y3, y4, y5⟩
      refine ⟨ik, vo, y1, y2, y3, ?_, y5.trans z2⟩
      rw [y4]
      by_cases z : (sw_n (hM h n) (bM h) men.toNat).1.toInt = 0
      · rw [if_pos z, if_neg (fun g => g.2.2 z)]
      · rw [if_neg z, if_pos ⟨hl9, by omega, z⟩]
    · simp only [hs_cd, ab_not] at b29
      rw [kN_0] at b29
      refine hs_iconst ci_1986_32 ?_
      have ng : ¬ ((hv h 182 2).toInt = men ∧ men ≠ 0) := by rw [← z3]; omega
      exact hs_k ⟨3, some (.int (Int32.ofInt (-1))), by decide +kernel, by rw [rt_1986]; rfl, ⟨qA, fr_sub (by decide +kernel) FA, _, rfl, Or.inr ⟨ng, kI_m1, hv_same (FA 182 33 rfl), hv_same (FA 182 34 rfl)⟩⟩, by rw [if_neg (fun g => ng ⟨g.1, g.2.1⟩), hv_same (FA 182 35 rfl)], z2⟩
