/-! BY HAND: the class's reader of a SENTENCE -/
theorem ci_1246_0 : ab_at 1246 0 (.aload_n 0) 1 = true := by decide +kernel
theorem ci_1246_1 : ab_at 1246 1 (.getfield 12) 3 = true := by decide +kernel
theorem ci_1246_4 : ab_at 1246 4 (.invokevirtual 26) 3 = true := by decide +kernel
theorem ci_1246_7 : ab_at 1246 7 (.aload_n 0) 1 = true := by decide +kernel
theorem ci_1246_8 : ab_at 1246 8 (.iconst 0) 1 = true := by decide +kernel
theorem ci_1246_9 : ab_at 1246 9 (.putfield 29) 3 = true := by decide +kernel
theorem ci_1246_12 : ab_at 1246 12 (.aload_n 0) 1 = true := by decide +kernel
theorem ci_1246_13 : ab_at 1246 13 (.getfield 18) 3 = true := by decide +kernel
theorem ci_1246_16 : ab_at 1246 16 (.invokevirtual 33) 3 = true := by decide +kernel
theorem ci_1246_19 : ab_at 1246 19 (.aload_n 0) 1 = true := by decide +kernel
theorem ci_1246_20 : ab_at 1246 20 (.iconst 1) 1 = true := by decide +kernel
theorem ci_1246_21 : ab_at 1246 21 (.invokevirtual 38) 3 = true := by decide +kernel
theorem ci_1246_24 : ab_at 1246 24 (.ifCond .ne 5) 3 = true := by decide +kernel
theorem ci_1246_27 : ab_at 1246 27 (.iconst 0) 1 = true := by decide +kernel
theorem ci_1246_29 : ab_at 1246 29 (.aload_n 0) 1 = true := by decide +kernel
theorem ci_1246_30 : ab_at 1246 30 (.getfield 18) 3 = true := by decide +kernel
theorem ci_1246_33 : ab_at 1246 33 (.getfield 42) 3 = true := by decide +kernel
theorem ci_1246_36 : ab_at 1246 36 (.ifCond .eq 14) 3 = true := by decide +kernel
theorem ci_1246_39 : ab_at 1246 39 (.aload_n 0) 1 = true := by decide +kernel
theorem ci_1246_40 : ab_at 1246 40 (.getfield 18) 3 = true := by decide +kernel
theorem ci_1246_43 : ab_at 1246 43 (.iconst 1) 1 = true := by decide +kernel
theorem ci_1246_44 : ab_at 1246 44 (.invokevirtual 45) 3 = true := by decide +kernel
theorem ci_1246_47 : ab_at 1246 47 (.ifCond .eq 7) 3 = true := by decide +kernel
theorem ci_1246_50 : ab_at 1246 50 (.iconst 1) 1 = true := by decide +kernel
theorem ci_1246_51 : ab_at 1246 51 (.goto 4) 3 = true := by decide +kernel
theorem ci_1246_54 : ab_at 1246 54 (.iconst 0) 1 = true := by decide +kernel
theorem ci_1252_0 : ab_at 1252 0 (.aload_n 0) 1 = true := by decide +kernel
theorem ci_1252_1 : ab_at 1252 1 (.iload_n 1) 1 = true := by decide +kernel
theorem ci_1252_2 : ab_at 1252 2 (.invokevirtual 48) 3 = true := by decide +kernel
theorem ci_1252_5 : ab_at 1252 5 (.ifCond .ne 5) 3 = true := by decide +kernel
theorem ci_1252_8 : ab_at 1252 8 (.iconst 0) 1 = true := by decide +kernel
theorem ci_1252_10 : ab_at 1252 10 (.iconst 0) 1 = true := by decide +kernel
theorem ci_1252_11 : ab_at 1252 11 (.istore_n 2) 1 = true := by decide +kernel
theorem ci_1252_12 : ab_at 1252 12 (.iload_n 2) 1 = true := by decide +kernel
theorem ci_1252_13 : ab_at 1252 13 (.bipush 20) 2 = true := by decide +kernel
theorem ci_1252_15 : ab_at 1252 15 (.if_icmp .ge 51) 3 = true := by decide +kernel
theorem ci_1252_18 : ab_at 1252 18 (.aload_n 0) 1 = true := by decide +kernel
theorem ci_1252_19 : ab_at 1252 19 (.getfield 18) 3 = true := by decide +kernel
theorem ci_1252_22 : ab_at 1252 22 (.getfield 42) 3 = true := by decide +kernel
theorem ci_1252_25 : ab_at 1252 25 (.sipush 210) 3 = true := by decide +kernel
theorem ci_1252_28 : ab_at 1252 28 (.if_icmp .ne 38) 3 = true := by decide +kernel
theorem ci_1252_31 : ab_at 1252 31 (.aload_n 0) 1 = true := by decide +kernel
theorem ci_1252_32 : ab_at 1252 32 (.getfield 18) 3 = true := by decide +kernel
theorem ci_1252_35 : ab_at 1252 35 (.invokevirtual 33) 3 = true := by decide +kernel
theorem ci_1252_38 : ab_at 1252 38 (.aload_n 0) 1 = true := by decide +kernel
theorem ci_1252_39 : ab_at 1252 39 (.iload_n 1) 1 = true := by decide +kernel
theorem ci_1252_40 : ab_at 1252 40 (.invokevirtual 48) 3 = true := by decide +kernel
theorem ci_1252_43 : ab_at 1252 43 (.ifCond .ne 5) 3 = true := by decide +kernel
theorem ci_1252_46 : ab_at 1252 46 (.iconst 0) 1 = true := by decide +kernel
theorem ci_1252_48 : ab_at 1252 48 (.aload_n 0) 1 = true := by decide +kernel
theorem ci_1252_49 : ab_at 1252 49 (.getfield 12) 3 = true := by decide +kernel
theorem ci_1252_52 : ab_at 1252 52 (.sipush 210) 3 = true := by decide +kernel
theorem ci_1252_55 : ab_at 1252 55 (.iconst 0) 1 = true := by decide +kernel
theorem ci_1252_56 : ab_at 1252 56 (.iconst 0) 1 = true := by decide +kernel
theorem ci_1252_57 : ab_at 1252 57 (.invokevirtual 51) 3 = true := by decide +kernel
theorem ci_1252_60 : ab_at 1252 60 (.iinc 2 1) 3 = true := by decide +kernel
theorem ci_1252_63 : ab_at 1252 63 (.goto (-51)) 3 = true := by decide +kernel
theorem ci_1252_66 : ab_at 1252 66 (.iconst 1) 1 = true := by decide +kernel
theorem ci_1256_0 : ab_at 1256 0 (.aload_n 0) 1 = true := by decide +kernel
theorem ci_1256_1 : ab_at 1256 1 (.iload_n 1) 1 = true := by decide +kernel
theorem ci_1256_2 : ab_at 1256 2 (.invokevirtual 55) 3 = true := by decide +kernel
theorem ci_1256_5 : ab_at 1256 5 (.ifCond .ne 5) 3 = true := by decide +kernel
theorem ci_1256_8 : ab_at 1256 8 (.iconst 0) 1 = true := by decide +kernel
theorem ci_1256_10 : ab_at 1256 10 (.iconst 0) 1 = true := by decide +kernel
theorem ci_1256_11 : ab_at 1256 11 (.istore_n 2) 1 = true := by decide +kernel
theorem ci_1256_12 : ab_at 1256 12 (.iload_n 2) 1 = true := by decide +kernel
theorem ci_1256_13 : ab_at 1256 13 (.bipush 20) 2 = true := by decide +kernel
theorem ci_1256_15 : ab_at 1256 15 (.if_icmp .ge 51) 3 = true := by decide +kernel
theorem ci_1256_18 : ab_at 1256 18 (.aload_n 0) 1 = true := by decide +kernel
theorem ci_1256_19 : ab_at 1256 19 (.getfield 18) 3 = true := by decide +kernel
theorem ci_1256_22 : ab_at 1256 22 (.getfield 42) 3 = true := by decide +kernel
theorem ci_1256_25 : ab_at 1256 25 (.sipush 211) 3 = true := by decide +kernel
theorem ci_1256_28 : ab_at 1256 28 (.if_icmp .ne 38) 3 = true := by decide +kernel
theorem ci_1256_31 : ab_at 1256 31 (.aload_n 0) 1 = true := by decide +kernel
theorem ci_1256_32 : ab_at 1256 32 (.getfield 18) 3 = true := by decide +kernel
theorem ci_1256_35 : ab_at 1256 35 (.invokevirtual 33) 3 = true := by decide +kernel
theorem ci_1256_38 : ab_at 1256 38 (.aload_n 0) 1 = true := by decide +kernel
theorem ci_1256_39 : ab_at 1256 39 (.iload_n 1) 1 = true := by decide +kernel
theorem ci_1256_40 : ab_at 1256 40 (.invokevirtual 55) 3 = true := by decide +kernel
theorem ci_1256_43 : ab_at 1256 43 (.ifCond .ne 5) 3 = true := by decide +kernel
theorem ci_1256_46 : ab_at 1256 46 (.iconst 0) 1 = true := by decide +kernel
theorem ci_1256_48 : ab_at 1256 48 (.aload_n 0) 1 = true := by decide +kernel
theorem ci_1256_49 : ab_at 1256 49 (.getfield 12) 3 = true := by decide +kernel
theorem ci_1256_52 : ab_at 1256 52 (.sipush 211) 3 = true := by decide +kernel
theorem ci_1256_55 : ab_at 1256 55 (.iconst 0) 1 = true := by decide +kernel
theorem ci_1256_56 : ab_at 1256 56 (.iconst 0) 1 = true := by decide +kernel
theorem ci_1256_57 : ab_at 1256 57 (.invokevirtual 51) 3 = true := by decide +kernel
theorem ci_1256_60 : ab_at 1256 60 (.iinc 2 1) 3 = true := by decide +kernel
theorem ci_1256_63 : ab_at 1256 63 (.goto (-51)) 3 = true := by decide +kernel
theorem ci_1256_66 : ab_at 1256 66 (.iconst 1) 1 = true := by decide +kernel
theorem ci_1260_0 : ab_at 1260 0 (.aload_n 0) 1 = true := by decide +kernel
theorem ci_1260_1 : ab_at 1260 1 (.getfield 18) 3 = true := by decide +kernel
theorem ci_1260_4 : ab_at 1260 4 (.getfield 42) 3 = true := by decide +kernel
theorem ci_1260_7 : ab_at 1260 7 (.invokestatic 58) 3 = true := by decide +kernel
theorem ci_1260_10 : ab_at 1260 10 (.ifCond .ne 12) 3 = true := by decide +kernel
theorem ci_1260_13 : ab_at 1260 13 (.aload_n 0) 1 = true := by decide +kernel
theorem ci_1260_14 : ab_at 1260 14 (.getfield 18) 3 = true := by decide +kernel
theorem ci_1260_17 : ab_at 1260 17 (.iconst 1) 1 = true := by decide +kernel
theorem ci_1260_18 : ab_at 1260 18 (.invokevirtual 45) 3 = true := by decide +kernel
theorem ci_1260_22 : ab_at 1260 22 (.aload_n 0) 1 = true := by decide +kernel
theorem ci_1260_23 : ab_at 1260 23 (.getfield 29) 3 = true := by decide +kernel
theorem ci_1260_26 : ab_at 1260 26 (.bipush 20) 2 = true := by decide +kernel
theorem ci_1260_28 : ab_at 1260 28 (.if_icmp .ge 9) 3 = true := by decide +kernel
theorem ci_1260_31 : ab_at 1260 31 (.iload_n 1) 1 = true := by decide +kernel
theorem ci_1260_32 : ab_at 1260 32 (.bipush 8) 2 = true := by decide +kernel
theorem ci_1260_34 : ab_at 1260 34 (.if_icmp .le 12) 3 = true := by decide +kernel
theorem ci_1260_37 : ab_at 1260 37 (.aload_n 0) 1 = true := by decide +kernel
theorem ci_1260_38 : ab_at 1260 38 (.getfield 18) 3 = true := by decide +kernel
theorem ci_1260_41 : ab_at 1260 41 (.iconst 4) 1 = true := by decide +kernel
theorem ci_1260_42 : ab_at 1260 42 (.invokevirtual 45) 3 = true := by decide +kernel
theorem ci_1260_46 : ab_at 1260 46 (.aload_n 0) 1 = true := by decide +kernel
theorem ci_1260_47 : ab_at 1260 47 (.dup) 1 = true := by decide +kernel
theorem ci_1260_48 : ab_at 1260 48 (.getfield 29) 3 = true := by decide +kernel
theorem ci_1260_51 : ab_at 1260 51 (.iconst 1) 1 = true := by decide +kernel
theorem ci_1260_52 : ab_at 1260 52 (.iadd) 1 = true := by decide +kernel
theorem ci_1260_53 : ab_at 1260 53 (.putfield 29) 3 = true := by decide +kernel
theorem ci_1260_56 : ab_at 1260 56 (.aload_n 0) 1 = true := by decide +kernel
theorem ci_1260_57 : ab_at 1260 57 (.getfield 18) 3 = true := by decide +kernel
theorem ci_1260_60 : ab_at 1260 60 (.getfield 42) 3 = true := by decide +kernel
theorem ci_1260_63 : ab_at 1260 63 (.lookupswitch 101 #[(40, 65), (213, 71), (218, 77), (219, 77), (220, 89), (221, 89), (222, 89)]) 65 = true := by decide +kernel
theorem ci_1260_128 : ab_at 1260 128 (.aload_n 0) 1 = true := by decide +kernel
theorem ci_1260_129 : ab_at 1260 129 (.iload_n 1) 1 = true := by decide +kernel
theorem ci_1260_130 : ab_at 1260 130 (.invokevirtual 61) 3 = true := by decide +kernel
theorem ci_1260_134 : ab_at 1260 134 (.aload_n 0) 1 = true := by decide +kernel
theorem ci_1260_135 : ab_at 1260 135 (.iload_n 1) 1 = true := by decide +kernel
theorem ci_1260_136 : ab_at 1260 136 (.invokevirtual 64) 3 = true := by decide +kernel
theorem ci_1260_140 : ab_at 1260 140 (.aload_n 0) 1 = true := by decide +kernel
theorem ci_1260_141 : ab_at 1260 141 (.aload_n 0) 1 = true := by decide +kernel
theorem ci_1260_142 : ab_at 1260 142 (.getfield 18) 3 = true := by decide +kernel
theorem ci_1260_145 : ab_at 1260 145 (.getfield 42) 3 = true := by decide +kernel
theorem ci_1260_148 : ab_at 1260 148 (.invokevirtual 67) 3 = true := by decide +kernel
theorem ci_1260_152 : ab_at 1260 152 (.aload_n 0) 1 = true := by decide +kernel
theorem ci_1260_153 : ab_at 1260 153 (.aload_n 0) 1 = true := by decide +kernel
theorem ci_1260_154 : ab_at 1260 154 (.getfield 18) 3 = true := by decide +kernel
theorem ci_1260_157 : ab_at 1260 157 (.getfield 42) 3 = true := by decide +kernel
theorem ci_1260_160 : ab_at 1260 160 (.invokevirtual 70) 3 = true := by decide +kernel
theorem ci_1260_164 : ab_at 1260 164 (.aload_n 0) 1 = true := by decide +kernel
theorem ci_1260_165 : ab_at 1260 165 (.aload_n 0) 1 = true := by decide +kernel
theorem ci_1260_166 : ab_at 1260 166 (.getfield 18) 3 = true := by decide +kernel
theorem ci_1260_169 : ab_at 1260 169 (.getfield 42) 3 = true := by decide +kernel
theorem ci_1260_172 : ab_at 1260 172 (.invokevirtual 73) 3 = true := by decide +kernel
theorem ci_1263_0 : ab_at 1263 0 (.iload_n 0) 1 = true := by decide +kernel
theorem ci_1263_1 : ab_at 1263 1 (.bipush 40) 2 = true := by decide +kernel
theorem ci_1263_3 : ab_at 1263 3 (.if_icmp .eq 17) 3 = true := by decide +kernel
theorem ci_1263_6 : ab_at 1263 6 (.iload_n 0) 1 = true := by decide +kernel
theorem ci_1263_7 : ab_at 1263 7 (.sipush 212) 3 = true := by decide +kernel
theorem ci_1263_10 : ab_at 1263 10 (.if_icmp .lt 14) 3 = true := by decide +kernel
theorem ci_1263_13 : ab_at 1263 13 (.iload_n 0) 1 = true := by decide +kernel
theorem ci_1263_14 : ab_at 1263 14 (.sipush 222) 3 = true := by decide +kernel
theorem ci_1263_17 : ab_at 1263 17 (.if_icmp .gt 7) 3 = true := by decide +kernel
theorem ci_1263_20 : ab_at 1263 20 (.iconst 1) 1 = true := by decide +kernel
theorem ci_1263_21 : ab_at 1263 21 (.goto 4) 3 = true := by decide +kernel
theorem ci_1263_24 : ab_at 1263 24 (.iconst 0) 1 = true := by decide +kernel
theorem ci_1268_0 : ab_at 1268 0 (.aload_n 0) 1 = true := by decide +kernel
theorem ci_1268_1 : ab_at 1268 1 (.getfield 18) 3 = true := by decide +kernel
theorem ci_1268_4 : ab_at 1268 4 (.invokevirtual 33) 3 = true := by decide +kernel
theorem ci_1268_7 : ab_at 1268 7 (.aload_n 0) 1 = true := by decide +kernel
theorem ci_1268_8 : ab_at 1268 8 (.iload_n 1) 1 = true := by decide +kernel
theorem ci_1268_9 : ab_at 1268 9 (.iconst 1) 1 = true := by decide +kernel
theorem ci_1268_10 : ab_at 1268 10 (.iadd) 1 = true := by decide +kernel
theorem ci_1268_11 : ab_at 1268 11 (.invokevirtual 38) 3 = true := by decide +kernel
theorem ci_1268_14 : ab_at 1268 14 (.ifCond .ne 5) 3 = true := by decide +kernel
theorem ci_1268_17 : ab_at 1268 17 (.iconst 0) 1 = true := by decide +kernel
theorem ci_1268_19 : ab_at 1268 19 (.aload_n 0) 1 = true := by decide +kernel
theorem ci_1268_20 : ab_at 1268 20 (.getfield 18) 3 = true := by decide +kernel
theorem ci_1268_23 : ab_at 1268 23 (.getfield 42) 3 = true := by decide +kernel
theorem ci_1268_26 : ab_at 1268 26 (.bipush 41) 2 = true := by decide +kernel
theorem ci_1268_28 : ab_at 1268 28 (.if_icmp .eq 12) 3 = true := by decide +kernel
theorem ci_1268_31 : ab_at 1268 31 (.aload_n 0) 1 = true := by decide +kernel
theorem ci_1268_32 : ab_at 1268 32 (.getfield 18) 3 = true := by decide +kernel
theorem ci_1268_35 : ab_at 1268 35 (.iconst 1) 1 = true := by decide +kernel
theorem ci_1268_36 : ab_at 1268 36 (.invokevirtual 45) 3 = true := by decide +kernel
theorem ci_1268_40 : ab_at 1268 40 (.aload_n 0) 1 = true := by decide +kernel
theorem ci_1268_41 : ab_at 1268 41 (.getfield 18) 3 = true := by decide +kernel
theorem ci_1268_44 : ab_at 1268 44 (.invokevirtual 33) 3 = true := by decide +kernel
theorem ci_1268_47 : ab_at 1268 47 (.iconst 1) 1 = true := by decide +kernel
theorem ci_1272_0 : ab_at 1272 0 (.aload_n 0) 1 = true := by decide +kernel
theorem ci_1272_1 : ab_at 1272 1 (.getfield 18) 3 = true := by decide +kernel
theorem ci_1272_4 : ab_at 1272 4 (.invokevirtual 33) 3 = true := by decide +kernel
theorem ci_1272_7 : ab_at 1272 7 (.aload_n 0) 1 = true := by decide +kernel
theorem ci_1272_8 : ab_at 1272 8 (.iload_n 1) 1 = true := by decide +kernel
theorem ci_1272_9 : ab_at 1272 9 (.iconst 1) 1 = true := by decide +kernel
theorem ci_1272_10 : ab_at 1272 10 (.iadd) 1 = true := by decide +kernel
theorem ci_1272_11 : ab_at 1272 11 (.invokevirtual 55) 3 = true := by decide +kernel
theorem ci_1272_14 : ab_at 1272 14 (.ifCond .ne 5) 3 = true := by decide +kernel
theorem ci_1272_17 : ab_at 1272 17 (.iconst 0) 1 = true := by decide +kernel
theorem ci_1272_19 : ab_at 1272 19 (.aload_n 0) 1 = true := by decide +kernel
theorem ci_1272_20 : ab_at 1272 20 (.getfield 12) 3 = true := by decide +kernel
theorem ci_1272_23 : ab_at 1272 23 (.sipush 213) 3 = true := by decide +kernel
theorem ci_1272_26 : ab_at 1272 26 (.iconst 0) 1 = true := by decide +kernel
theorem ci_1272_27 : ab_at 1272 27 (.iconst 0) 1 = true := by decide +kernel
theorem ci_1272_28 : ab_at 1272 28 (.invokevirtual 51) 3 = true := by decide +kernel
theorem ci_1272_31 : ab_at 1272 31 (.iconst 1) 1 = true := by decide +kernel
theorem ci_1276_0 : ab_at 1276 0 (.aload_n 0) 1 = true := by decide +kernel
theorem ci_1276_1 : ab_at 1276 1 (.getfield 19) 3 = true := by decide +kernel
theorem ci_1276_4 : ab_at 1276 4 (.bipush 48) 2 = true := by decide +kernel
theorem ci_1276_6 : ab_at 1276 6 (.if_icmp .ge 43) 3 = true := by decide +kernel
theorem ci_1276_9 : ab_at 1276 9 (.aload_n 0) 1 = true := by decide +kernel
theorem ci_1276_10 : ab_at 1276 10 (.getfield 9) 3 = true := by decide +kernel
theorem ci_1276_13 : ab_at 1276 13 (.aload_n 0) 1 = true := by decide +kernel
theorem ci_1276_14 : ab_at 1276 14 (.getfield 19) 3 = true := by decide +kernel
theorem ci_1276_17 : ab_at 1276 17 (.iload_n 1) 1 = true := by decide +kernel
theorem ci_1276_18 : ab_at 1276 18 (.iastore) 1 = true := by decide +kernel
theorem ci_1276_19 : ab_at 1276 19 (.aload_n 0) 1 = true := by decide +kernel
theorem ci_1276_20 : ab_at 1276 20 (.getfield 13) 3 = true := by decide +kernel
theorem ci_1276_23 : ab_at 1276 23 (.aload_n 0) 1 = true := by decide +kernel
theorem ci_1276_24 : ab_at 1276 24 (.getfield 19) 3 = true := by decide +kernel
theorem ci_1276_27 : ab_at 1276 27 (.iload_n 2) 1 = true := by decide +kernel
theorem ci_1276_28 : ab_at 1276 28 (.iastore) 1 = true := by decide +kernel
theorem ci_1276_29 : ab_at 1276 29 (.aload_n 0) 1 = true := by decide +kernel
theorem ci_1276_30 : ab_at 1276 30 (.getfield 16) 3 = true := by decide +kernel
theorem ci_1276_33 : ab_at 1276 33 (.aload_n 0) 1 = true := by decide +kernel
theorem ci_1276_34 : ab_at 1276 34 (.getfield 19) 3 = true := by decide +kernel
theorem ci_1276_37 : ab_at 1276 37 (.iload_n 3) 1 = true := by decide +kernel
theorem ci_1276_38 : ab_at 1276 38 (.iastore) 1 = true := by decide +kernel
theorem ci_1276_39 : ab_at 1276 39 (.aload_n 0) 1 = true := by decide +kernel
theorem ci_1276_40 : ab_at 1276 40 (.dup) 1 = true := by decide +kernel
theorem ci_1276_41 : ab_at 1276 41 (.getfield 19) 3 = true := by decide +kernel
theorem ci_1276_44 : ab_at 1276 44 (.iconst 1) 1 = true := by decide +kernel
theorem ci_1276_45 : ab_at 1276 45 (.iadd) 1 = true := by decide +kernel
theorem ci_1276_46 : ab_at 1276 46 (.putfield 19) 3 = true := by decide +kernel
theorem ci_1280_0 : ab_at 1280 0 (.aload_n 0) 1 = true := by decide +kernel
theorem ci_1280_1 : ab_at 1280 1 (.getfield 18) 3 = true := by decide +kernel
theorem ci_1280_4 : ab_at 1280 4 (.invokevirtual 76) 3 = true := by decide +kernel
theorem ci_1280_7 : ab_at 1280 7 (.ifCond .ne 5) 3 = true := by decide +kernel
theorem ci_1280_10 : ab_at 1280 10 (.iconst 0) 1 = true := by decide +kernel
theorem ci_1280_12 : ab_at 1280 12 (.aload_n 0) 1 = true := by decide +kernel
theorem ci_1280_13 : ab_at 1280 13 (.getfield 22) 3 = true := by decide +kernel
theorem ci_1280_16 : ab_at 1280 16 (.aload_n 0) 1 = true := by decide +kernel
theorem ci_1280_17 : ab_at 1280 17 (.getfield 18) 3 = true := by decide +kernel
theorem ci_1280_20 : ab_at 1280 20 (.invokevirtual 80) 3 = true := by decide +kernel
theorem ci_1280_23 : ab_at 1280 23 (.invokevirtual 84) 3 = true := by decide +kernel
theorem ci_1280_26 : ab_at 1280 26 (.istore_n 2) 1 = true := by decide +kernel
theorem ci_1280_27 : ab_at 1280 27 (.iload_n 2) 1 = true := by decide +kernel
theorem ci_1280_28 : ab_at 1280 28 (.iconst (-1)) 1 = true := by decide +kernel
theorem ci_1280_29 : ab_at 1280 29 (.if_icmp .ne 12) 3 = true := by decide +kernel
theorem ci_1280_32 : ab_at 1280 32 (.aload_n 0) 1 = true := by decide +kernel
theorem ci_1280_33 : ab_at 1280 33 (.getfield 18) 3 = true := by decide +kernel
theorem ci_1280_36 : ab_at 1280 36 (.iconst 3) 1 = true := by decide +kernel
theorem ci_1280_37 : ab_at 1280 37 (.invokevirtual 45) 3 = true := by decide +kernel
theorem ci_1280_41 : ab_at 1280 41 (.aload_n 0) 1 = true := by decide +kernel
theorem ci_1280_42 : ab_at 1280 42 (.getfield 12) 3 = true := by decide +kernel
theorem ci_1280_45 : ab_at 1280 45 (.iload_n 1) 1 = true := by decide +kernel
theorem ci_1280_46 : ab_at 1280 46 (.iconst 0) 1 = true := by decide +kernel
theorem ci_1280_47 : ab_at 1280 47 (.iload_n 2) 1 = true := by decide +kernel
theorem ci_1280_48 : ab_at 1280 48 (.invokevirtual 51) 3 = true := by decide +kernel
theorem ci_1280_51 : ab_at 1280 51 (.aload_n 0) 1 = true := by decide +kernel
theorem ci_1280_52 : ab_at 1280 52 (.getfield 18) 3 = true := by decide +kernel
theorem ci_1280_55 : ab_at 1280 55 (.invokevirtual 33) 3 = true := by decide +kernel
theorem ci_1280_58 : ab_at 1280 58 (.iconst 1) 1 = true := by decide +kernel
theorem ci_1287_0 : ab_at 1287 0 (.aload_n 0) 1 = true := by decide +kernel
theorem ci_1287_1 : ab_at 1287 1 (.getfield 18) 3 = true := by decide +kernel
theorem ci_1287_4 : ab_at 1287 4 (.invokevirtual 33) 3 = true := by decide +kernel
theorem ci_1287_7 : ab_at 1287 7 (.aload_n 0) 1 = true := by decide +kernel
theorem ci_1287_8 : ab_at 1287 8 (.getfield 18) 3 = true := by decide +kernel
theorem ci_1287_11 : ab_at 1287 11 (.getfield 42) 3 = true := by decide +kernel
theorem ci_1287_14 : ab_at 1287 14 (.istore_n 2) 1 = true := by decide +kernel
theorem ci_1287_15 : ab_at 1287 15 (.iload_n 2) 1 = true := by decide +kernel
theorem ci_1287_16 : ab_at 1287 16 (.bipush 60) 2 = true := by decide +kernel
theorem ci_1287_18 : ab_at 1287 18 (.if_icmp .eq 24) 3 = true := by decide +kernel
theorem ci_1287_21 : ab_at 1287 21 (.iload_n 2) 1 = true := by decide +kernel
theorem ci_1287_22 : ab_at 1287 22 (.bipush 61) 2 = true := by decide +kernel
theorem ci_1287_24 : ab_at 1287 24 (.if_icmp .eq 18) 3 = true := by decide +kernel
theorem ci_1287_27 : ab_at 1287 27 (.iload_n 2) 1 = true := by decide +kernel
theorem ci_1287_28 : ab_at 1287 28 (.bipush 62) 2 = true := by decide +kernel
theorem ci_1287_30 : ab_at 1287 30 (.if_icmp .eq 12) 3 = true := by decide +kernel
theorem ci_1287_33 : ab_at 1287 33 (.aload_n 0) 1 = true := by decide +kernel
theorem ci_1287_34 : ab_at 1287 34 (.getfield 18) 3 = true := by decide +kernel
theorem ci_1287_37 : ab_at 1287 37 (.iconst 1) 1 = true := by decide +kernel
theorem ci_1287_38 : ab_at 1287 38 (.invokevirtual 45) 3 = true := by decide +kernel
theorem ci_1287_42 : ab_at 1287 42 (.aload_n 0) 1 = true := by decide +kernel
theorem ci_1287_43 : ab_at 1287 43 (.getfield 18) 3 = true := by decide +kernel
theorem ci_1287_46 : ab_at 1287 46 (.iconst 0) 1 = true := by decide +kernel
theorem ci_1287_47 : ab_at 1287 47 (.sipush 999) 3 = true := by decide +kernel
theorem ci_1287_50 : ab_at 1287 50 (.invokevirtual 90) 3 = true := by decide +kernel
theorem ci_1287_53 : ab_at 1287 53 (.ifCond .ne 5) 3 = true := by decide +kernel
theorem ci_1287_56 : ab_at 1287 56 (.iconst 0) 1 = true := by decide +kernel
theorem ci_1287_58 : ab_at 1287 58 (.aload_n 0) 1 = true := by decide +kernel
theorem ci_1287_59 : ab_at 1287 59 (.getfield 12) 3 = true := by decide +kernel
theorem ci_1287_62 : ab_at 1287 62 (.iload_n 1) 1 = true := by decide +kernel
theorem ci_1287_63 : ab_at 1287 63 (.iload_n 2) 1 = true := by decide +kernel
theorem ci_1287_64 : ab_at 1287 64 (.aload_n 0) 1 = true := by decide +kernel
theorem ci_1287_65 : ab_at 1287 65 (.getfield 18) 3 = true := by decide +kernel
theorem ci_1287_68 : ab_at 1287 68 (.invokevirtual 94) 3 = true := by decide +kernel
theorem ci_1287_71 : ab_at 1287 71 (.invokevirtual 51) 3 = true := by decide +kernel
theorem ci_1287_74 : ab_at 1287 74 (.aload_n 0) 1 = true := by decide +kernel
theorem ci_1287_75 : ab_at 1287 75 (.getfield 18) 3 = true := by decide +kernel
theorem ci_1287_78 : ab_at 1287 78 (.invokevirtual 33) 3 = true := by decide +kernel
theorem ci_1287_81 : ab_at 1287 81 (.iconst 1) 1 = true := by decide +kernel
theorem ci_1293_0 : ab_at 1293 0 (.aload_n 0) 1 = true := by decide +kernel
theorem ci_1293_1 : ab_at 1293 1 (.getfield 12) 3 = true := by decide +kernel
theorem ci_1293_4 : ab_at 1293 4 (.iload_n 1) 1 = true := by decide +kernel
theorem ci_1293_5 : ab_at 1293 5 (.iconst 0) 1 = true := by decide +kernel
theorem ci_1293_6 : ab_at 1293 6 (.iconst 0) 1 = true := by decide +kernel
theorem ci_1293_7 : ab_at 1293 7 (.invokevirtual 51) 3 = true := by decide +kernel
theorem ci_1293_10 : ab_at 1293 10 (.aload_n 0) 1 = true := by decide +kernel
theorem ci_1293_11 : ab_at 1293 11 (.getfield 18) 3 = true := by decide +kernel
theorem ci_1293_14 : ab_at 1293 14 (.invokevirtual 33) 3 = true := by decide +kernel
theorem ci_1293_17 : ab_at 1293 17 (.iconst 1) 1 = true := by decide +kernel
theorem ml_1252 : (eg_md 1252).2.2.1 = 3 := by decide +kernel
theorem ml_1256 : (eg_md 1256).2.2.1 = 3 := by decide +kernel
theorem ml_1260 : (eg_md 1260).2.2.1 = 2 := by decide +kernel
theorem ml_1263 : (eg_md 1263).2.2.1 = 1 := by decide +kernel
theorem ml_1268 : (eg_md 1268).2.2.1 = 2 := by decide +kernel
theorem ml_1272 : (eg_md 1272).2.2.1 = 2 := by decide +kernel
theorem ml_1276 : (eg_md 1276).2.2.1 = 4 := by decide +kernel
theorem ml_1280 : (eg_md 1280).2.2.1 = 3 := by decide +kernel
theorem ml_1287 : (eg_md 1287).2.2.1 = 3 := by decide +kernel
theorem ml_1293 : (eg_md 1293).2.2.1 = 2 := by decide +kernel
theorem kS_210 : (Int16.ofInt (210)).toInt32.toInt = 210 := by decide +kernel
theorem kS_211 : (Int16.ofInt (211)).toInt32.toInt = 211 := by decide +kernel
theorem kS_212 : (Int16.ofInt (212)).toInt32.toInt = 212 := by decide +kernel
theorem kS_213 : (Int16.ofInt (213)).toInt32.toInt = 213 := by decide +kernel
theorem kS_222 : (Int16.ofInt (222)).toInt32.toInt = 222 := by decide +kernel
theorem kS_999 : (Int16.ofInt (999)).toInt32.toInt = 999 := by decide +kernel
theorem hs_lk {sc : List Value} {sp u o dq pc : Nat} {K : Nat → eg_L → List Value → eg_H → Prop} {ls : eg_L} {st : List Value} {h : eg_H} {df : Int} {pr : Array (Int × Int)} {len t : Nat} {x : Int32} (c : ab_at u pc (.lookupswitch df pr) len = true) (hsr : eg_srt pr = true) (ht : eg_tgt pc (Op.lookupswitch.offset pr.toList df x.toInt) = some t) (n : hs sc sp u o dq K t ls st h) : hs sc sp u o dq K pc ls (.int x :: st) h := hs_j (G := eg_lk pc df pr) c rfl (by
  simp only [eg_lk, hsr, ht, cond_true]) n
/-- the current token is this sign -/
theorem cur_g {h : eg_H} {t : tx_K} {a : Nat} (c : cur h t a) {g : Int} (g1 : 40 ≤ g) (g2 : g ≤ 62) : (hv h 3 7).toInt = g ↔ (t.1 = 2 ∧ t.2.1 = g) := by
  obtain ⟨-, c2⟩ := c
  obtain ⟨n, x, y⟩ := t
  match n, c2 with
  | 0, c2 =>
    have c2 : (hv h 3 7).toInt = 0 := c2
    simp only
    omega
  | 1, c2 =>
    have c2 : (hv h 3 7).toInt = 3 := c2
    simp only
    omega
  | 2, c2 =>
    have c3 : (hv h 3 7).toInt = x := c2.1
    simp only
    exact ⟨fun q => ⟨trivial, by omega⟩, fun q => by have := q.2; omega⟩
  | 3, c2 =>
    have c3 : (hv h 3 7).toInt = 2 := c2.1
    simp only
    omega
  | n + 4, c2 =>
    have c5 : en_K h (hl h 3 11) (hv h 3 7).toInt := c2.2.2
    simp only
    rcases c5 with ⟨k, k1, k2, -⟩ | ⟨k1, -⟩
    · omega
    · omega
/-- what a one begins with, by the token's kind -/
theorem one_k {h : eg_H} {t : tx_K} {a : Nat} (c : cur h t a) (hk : kwok h) : ((hv h 3 7).toInt = 40 ∧ ss_k t = 1) ∨ ((hv h 3 7).toInt = 213 ∧ ss_k t = 2) ∨ (((hv h 3 7).toInt = 212 ∨ (hv h 3 7).toInt = 214 ∨ (hv h 3 7).toInt = 215 ∨ (hv h 3 7).toInt = 216 ∨ (hv h 3 7).toInt = 217) ∧ ss_k t = 3) ∨ (((hv h 3 7).toInt = 218 ∨ (hv h 3 7).toInt = 219) ∧ ss_k t = 4) ∨ (((hv h 3 7).toInt = 220 ∨ (hv h 3 7).toInt = 221 ∨ (hv h 3 7).toInt = 222) ∧ ss_k t = 5) ∨ (¬ ((hv h 3 7).toInt = 40 ∨ (212 ≤ (hv h 3 7).toInt ∧ (hv h 3 7).toInt ≤ 222)) ∧ ss_k t = 0) := by
  have K := (cur_k c hk).2.2.2.2.1
  have e40 := cur_g c (g := 40) (by decide) (by decide)
  have e12 : (hv h 3 7).toInt = 212 ↔ (4 ≤ t.1 ∧ t.2.1 = 220610) := K 12 (by decide)
  have e13 : (hv h 3 7).toInt = 213 ↔ (4 ≤ t.1 ∧ t.2.1 = 10631) := K 13 (by decide)
  have e14 : (hv h 3 7).toInt = 214 ↔ (4 ≤ t.1 ∧ t.2.1 = 283288069) := K 14 (by decide)
  have e15 : (hv h 3 7).toInt = 215 ↔ (4 ≤ t.1 ∧ t.2.1 = 122079) := K 15 (by decide)
  have e16 : (hv h 3 7).toInt = 216 ↔ (4 ≤ t.1 ∧ t.2.1 = 10506715) := K 16 (by decide)
  have e17 : (hv h 3 7).toInt = 217 ↔ (4 ≤ t.1 ∧ t.2.1 = 276903499) := K 17 (by decide)
  have e18 : (hv h 3 7).toInt = 218 ↔ (4 ≤ t.1 ∧ t.2.1 = 79) := K 18 (by decide)
  have e19 : (hv h 3 7).toInt = 219 ↔ (4 ≤ t.1 ∧ t.2.1 = 555) := K 19 (by decide)
  have e20 : (hv h 3 7).toInt = 220 ↔ (4 ≤ t.1 ∧ t.2.1 = 394725) := K 20 (by decide)
  have e21 : (hv h 3 7).toInt = 221 ↔ (4 ≤ t.1 ∧ t.2.1 = 400557) := K 21 (by decide)
  have e22 : (hv h 3 7).toInt = 222 ↔ (4 ≤ t.1 ∧ t.2.1 = 212302449) := K 22 (by decide)
  by_cases c40 : (hv h 3 7).toInt = 40
  · exact Or.inl ⟨c40, sk_1 (e40.mp c40).1 (e40.mp c40).2⟩
  by_cases c12 : (hv h 3 7).toInt = 212
  · exact Or.inr (Or.inr (Or.inl ⟨by omega, sk_3 (e12.mp c12).1 (by have := (e12.mp c12).2; omega)⟩))
  by_cases c13 : (hv h 3 7).toInt = 213
  · exact Or.inr (Or.inl ⟨c13, sk_2 (e13.mp c13).1 (e13.mp c13).2⟩)
  by_cases c14 : (hv h 3 7).toInt = 214
  · exact Or.inr (Or.inr (Or.inl ⟨by omega, sk_3 (e14.mp c14).1 (by have := (e14.mp c14).2; omega)⟩))
  by_cases c15 : (hv h 3 7).toInt = 215
  · exact Or.inr (Or.inr (Or.inl ⟨by omega, sk_3 (e15.mp c15).1 (by have := (e15.mp c15).2; omega)⟩))
  by_cases c16 : (hv h 3 7).toInt = 216
  · exact Or.inr (Or.inr (Or.inl ⟨by omega, sk_3 (e16.mp c16).1 (by have := (e16.mp c16).2; omega)⟩))
  by_cases c17 : (hv h 3 7).toInt = 217
  · exact Or.inr (Or.inr (Or.inl ⟨by omega, sk_3 (e17.mp c17).1 (by have := (e17.mp c17).2; omega)⟩))
  by_cases c18 : (hv h 3 7).toInt = 218
  · exact Or.inr (Or.inr (Or.inr (Or.inl ⟨by omega, sk_4 (e18.mp c18).1 (by have := (e18.mp c18).2; omega)⟩)))
  by_cases c19 : (hv h 3 7).toInt = 219
  · exact Or.inr (Or.inr (Or.inr (Or.inl ⟨by omega, sk_4 (e19.mp c19).1 (by have := (e19.mp c19).2; omega)⟩)))
  by_cases c20 : (hv h 3 7).toInt = 220
  · exact Or.inr (Or.inr (Or.inr (Or.inr (Or.inl ⟨by omega, sk_5 (e20.mp c20).1 (by have := (e20.mp c20).2; omega)⟩))))
  by_cases c21 : (hv h 3 7).toInt = 221
  · exact Or.inr (Or.inr (Or.inr (Or.inr (Or.inl ⟨by omega, sk_5 (e21.mp c21).1 (by have := (e21.mp c21).2; omega)⟩))))
  by_cases c22 : (hv h 3 7).toInt = 222
  · exact Or.inr (Or.inr (Or.inr (Or.inr (Or.inl ⟨by omega, sk_5 (e22.mp c22).1 (by have := (e22.mp c22).2; omega)⟩))))
  refine Or.inr (Or.inr (Or.inr (Or.inr (Or.inr ⟨by omega, sk_0 (fun q => c40 (e40.mpr q)) ?_⟩))))
  rintro ⟨g, q⟩
  rcases q with q | q | q | q | q | q | q | q | q | q | q
  · exact c13 (e13.mpr ⟨g, q⟩)
  · exact c12 (e12.mpr ⟨g, q⟩)
  · exact c14 (e14.mpr ⟨g, q⟩)
  · exact c15 (e15.mpr ⟨g, q⟩)
  · exact c16 (e16.mpr ⟨g, q⟩)
  · exact c17 (e17.mpr ⟨g, q⟩)
  · exact c18 (e18.mpr ⟨g, q⟩)
  · exact c19 (e19.mpr ⟨g, q⟩)
  · exact c20 (e20.mpr ⟨g, q⟩)
  · exact c21 (e21.mpr ⟨g, q⟩)
  · exact c22 (e22.mpr ⟨g, q⟩)
abbrev MSR : ab_M := [(3, 6, 11), (120, 3, 3), (121, 3, 3), (122, 0, 47), (123, 0, 47), (124, 0, 47)]
abbrev MAS : ab_M := [(121, 3, 3), (122, 0, 47), (123, 0, 47), (124, 0, 47)]
/-- the men's names, as the headland has them -/
def LN (h : eg_H) (ps : PS) : Prop := (hv h 8 4).toInt = ps.1 4 ∧ ∀ q : Nat, (q : Int) < ps.1 4 → (hl h 9 q).toInt = ps.2 0 q
theorem LN.sf {h : eg_H} {ps : PS} (c : LN h ps) (a : Int) : sf (fun q => (hl h 9 q).toInt) a (hv h 8 4).toInt.toNat = sf (ps.2 0) a (ps.1 4).toNat := by
  rw [c.1]
  exact sf_same _ (fun q hq => by rw [c.2 q (by omega)])
/-- the j-th token is the current one, n ones are told -/
def sr_S (h : eg_H) (tk : Nat → tx_K) (ta : Nat → Nat) (m : Nat) (ps : PS) (n j : Nat) : Prop := ab_hp h ∧ kwok h ∧ ro h tk ta m ∧ cu h tk ta m (j + 1) ∧ (hv h 120 3).toInt = (n : Int) ∧ LN h ps
section SRS
variable {h h' : eg_H} {tk : Nat → tx_K} {ta : Nat → Nat} {m : Nat} {ps : PS} {n n' j j' : Nat}
theorem sr_S.up (s : sr_S h tk ta m ps n j) (f : ab_fr MSR h' h) (q : ab_hp h') (c : cu h' tk ta m (j' + 1)) (o : (hv h' 120 3).toInt = (n' : Int)) : sr_S h' tk ta m ps n' j' := by
  obtain ⟨s1, s2, ⟨r1, r2, r3, r4, r5⟩, s4, s5, s6, s7⟩ := s
  exact ⟨q, s2.fr f (fun _ => rfl), ⟨r1, r2, by rw [hv_same (f 3 5 rfl)]; exact r3, fun t ht => (r4 t ht).same (f 5 t rfl) (f 6 t rfl) (f 7 t rfl) (fun k => hl_same (f 4 k rfl)), r5⟩, c, o, by rw [hv_same (f 8 4 rfl)]; exact s6, fun q hq => by rw [hl_same (f 9 q rfl)]; exact s7 q hq⟩
theorem sr_S.ad (s : sr_S h tk ta m ps n j) (q : ab_hp h') (f : ab_fr MAD h' h) (c : cu h' tk ta m (j + 1 + 1)) : sr_S h' tk ta m ps n (j + 1) := s.up (fr_sub (by decide +kernel) f) q c (by rw [hv_same (f 120 3 rfl)]; exact s.2.2.2.2.1)
theorem sr_S.tz (s : sr_S h tk ta m ps n j) (q : ab_hp h') (f : ab_fr MTK h' h) (c : cu h' tk ta m (j + 1 + 1)) : sr_S h' tk ta m ps n (j + 1) := s.up (fr_sub (by decide +kernel) f) q c (by rw [hv_same (f 120 3 rfl)]; exact s.2.2.2.2.1)
theorem sr_S.st (s : sr_S h tk ta m ps n j) (q : ab_hp h') (f : ab_fr MAS h' h) : sr_S h' tk ta m ps n j := s.up (fr_sub (by decide +kernel) f) q (s.2.2.2.1.fr f rfl rfl rfl rfl (fun _ => rfl)) (by rw [hv_same (f 120 3 rfl)]; exact s.2.2.2.2.1)
theorem sr_S.cur (s : sr_S h tk ta m ps n j) : cur h (tk j) (ta j) := s.2.2.2.1.2 (by omega)
theorem sr_S.pl (s : sr_S h tk ta m ps n j) : (hv h 3 10).toInt = (ta j : Int) := s.cur.1
end SRS
/-- read from here: behind it, or a fault -/
def rq_P (h : eg_H) (tk : Nat → tx_K) (ta : Nat → Nat) (m : Nat) (ps : PS) (F G : List Bool) (n j : Nat) (nx : tx_K → Prop) (vo : Option Value) (h' : eg_H) : Prop := ab_fr MSR h' h ∧ ∃ r : Int32, vo = some (.int r) ∧ ((r.toInt = 1 ∧ ∃ n' j' : Nat, n < n' ∧ n' ≤ 20 ∧ sr_S h' tk ta m ps n' j' ∧ nx (tk j') ∧ ∀ x, ssx tk ta ps false F n j x ↔ ssx tk ta ps true G n' j' x) ∨ (r.toInt = 0 ∧ ab_hp h' ∧ ∃ (k : Int) (a : Nat), flt h' k a ∧ ∀ x, ssx tk ta ps false F n j x ↔ x = .inl (k, a)))
theorem rt_1246 : (eg_md 1246).2.2.2 = some .boolean := by decide +kernel
theorem rt_1252 : (eg_md 1252).2.2.2 = some .boolean := by decide +kernel
theorem rt_1256 : (eg_md 1256).2.2.2 = some .boolean := by decide +kernel
theorem rt_1260 : (eg_md 1260).2.2.2 = some .boolean := by decide +kernel
theorem rt_1263 : (eg_md 1263).2.2.2 = some .boolean := by decide +kernel
theorem rt_1268 : (eg_md 1268).2.2.2 = some .boolean := by decide +kernel
theorem rt_1272 : (eg_md 1272).2.2.2 = some .boolean := by decide +kernel
theorem rt_1280 : (eg_md 1280).2.2.2 = some .boolean := by decide +kernel
theorem rt_1287 : (eg_md 1287).2.2.2 = some .boolean := by decide +kernel
theorem rt_1293 : (eg_md 1293).2.2.2 = some .boolean := by decide +kernel
theorem rt_1276 : (eg_md 1276).2.2.2 = none := by decide +kernel
theorem rt_1242 : (eg_md 1242).2.2.2 = some .int := by decide +kernel
def m8_P (h : eg_H) (c : Int) (vo : Option Value) (h' : eg_H) : Prop := h' = h ∧ ∃ r : Int32, vo = some (.int r) ∧ r.toInt = sf (fun j => (hl h 9 j).toInt) c (hv h 8 4).toInt.toNat
theorem m8_loop {sc : List Value} {sp d : Nat} {h : eg_H} {c : Int64} (hq : ab_hp h) : ∀ (m k : Nat) (x : Int32) (ls : eg_L), (k : Int) + (m : Int) = (hv h 8 4).toInt → x.toInt = (k : Int) → eg_find 0 ls = some (.ref 8) → eg_find 1 ls = some (.long c) → eg_find 3 ls = some (.int x) → (∀ j, j < k → (hl h 9 j).toInt ≠ c.toInt) → hs sc sp 778 1 d (fun pc' _ st' h' => ∃ ik vo, ab_ret 778 pc' = some ik ∧ eg_rv (eg_md 778).2.2.2 ik st' = some vo ∧ m8_P h c.toInt vo h') 2 ls [] h := by
  have hp := hq.1
  obtain ⟨-, n1, n2⟩ := sb_v (a := 8) (k := 4) (lo := .ofNat 0) (hi := .ofNat 6) hq (by decide +kernel)
  have n1 : (0 : Int) ≤ (hv h 8 4).toInt := n1
  have n2 : (hv h 8 4).toInt ≤ (6 : Int) := n2
  intro m
  induction m with
  | zero =>
    intro k x ls hk hx l0 l1 l3 hne
    refine hs_iload_n ci_778_2 l3 ?_
    refine hs_aload_n ci_778_3 l0 ?_
    refine hs_gfi 4 ci_778_4 (by decide +kernel) hp ?_
    refine hs_ic (t := 29) ci_778_7 rfl (fun b7 => ?_) (fun b7 => ?_)
    · simp only [hs_cd, ab_not] at b7
      refine hs_iconst ci_778_29 ?_
      exact hs_k ⟨3, some (.int (Int32.ofInt (-1))), by decide +kernel, by rw [rt_778]; rfl, rfl, _, rfl, by rw [sf_no _ (fun j hj => hne j (by omega))]; decide⟩
    · simp only [hs_cd, ab_not] at b7
      omega
  | succ m ih =>
    intro k x ls hk hx l0 l1 l3 hne
    refine hs_iload_n ci_778_2 l3 ?_
    refine hs_aload_n ci_778_3 l0 ?_
    refine hs_gfi 4 ci_778_4 (by decide +kernel) hp ?_
    refine hs_ic (t := 29) ci_778_7 rfl (fun b7 => ?_) (fun b7 => ?_)
    · simp only [hs_cd, ab_not] at b7
      omega
    · simp only [hs_cd, ab_not] at b7
      refine hs_aload_n ci_778_10 l0 ?_
      refine hs_gfr 7 9 ci_778_11 (by decide +kernel) hp ?_
      refine hs_iload_n ci_778_14 l3 ?_
      refine hs_laload 6 ci_778_15 (by decide +kernel) hp (by omega) (by omega) ?_
      refine hs_lload_n ci_778_16 l1 ?_
      refine hs_lcmp ci_778_17 (fun z17 q17 => ?_)
      refine hs_if (t := 23) ci_778_18 rfl (fun b18 => ?_) (fun b18 => ?_)
      · simp only [hs_cd, ab_not] at b18
        refine hs_iinc2 ci_778_23 (by decide +kernel) l3 ?_
        intro ls9 q9
        replace l0 := q9.2 0 _ (by decide) (Or.inl rfl) l0
        replace l1 := q9.2 1 _ (by decide) (Or.inr (by decide)) l1
        have l3 := q9.1
        clear q9
        refine hs_goto (t := 2) ci_778_26 rfl ?_
        refine ih (k + 1) _ _ (by omega) (i32_inc hx (by omega) (by omega)) l0 l1 l3 (fun j hj => ?_)
        by_cases e9 : j = k
        · subst e9
          have e8 : x.toInt.toNat = j := by omega
          rw [e8] at q17
          rcases q17 with ⟨-, q1⟩ | ⟨q1, -⟩ | ⟨-, q1⟩
          · omega
          · omega
          · omega
        · exact hne j (by omega)
      · simp only [hs_cd, ab_not] at b18
        refine hs_iload_n ci_778_21 l3 ?_
        have e9 : x.toInt.toNat = k := by omega
        refine hs_k ⟨3, some (.int x), by decide +kernel, by rw [rt_778]; rfl, rfl, x, rfl, ?_⟩
        rw [hx]
        refine (sf_up (n := k) hne ?_ _ (by omega)).symm
        rcases q17 with ⟨q1, -⟩ | ⟨-, q2⟩ | ⟨q1, -⟩
        · omega
        · rw [e9] at q2
          exact congrArg Int64.toInt q2
        · omega
theorem k_m8 {sc : List Value} {sp d : Nat} {h : eg_H} (c : Int64) (hq : ab_hp h) : mc sc sp 778 1 d [.ref 8, .long c] h (m8_P h c.toInt) := by
  have l0 : eg_find 0 (eg_args 0 [.ref 8, .long c]) = some (.ref 8) := rfl
  have l1 : eg_find 1 (eg_args 0 [.ref 8, .long c]) = some (.long c) := rfl
  obtain ⟨-, n1, n2⟩ := sb_v (a := 8) (k := 4) (lo := .ofNat 0) (hi := .ofNat 6) hq (by decide +kernel)
  have n1 : (0 : Int) ≤ (hv h 8 4).toInt := n1
  unfold mc
  refine hs_iconst ci_778_0 ?_
  refine hs_istore2_n ci_778_1 (by decide +kernel) ?_
  intro ls9 q9
  replace l0 := q9.2 0 _ (by decide) (Or.inl rfl) l0
  replace l1 := q9.2 1 _ (by decide) (Or.inr (by decide)) l1
  have l3 := q9.1
  clear q9
  exact m8_loop hq (hv h 8 4).toInt.toNat 0 _ _ (by omega) rfl l0 l1 l3 (fun j hj => by omega)
def p8_P (h : eg_H) (c : Int) (vo : Option Value) (h' : eg_H) : Prop := h' = h ∧ ∃ r : Int32, vo = some (.int r) ∧ r.toInt = sf (fun j => (hl h 12 j).toInt) c (hv h 8 5).toInt.toNat
theorem p8_loop {sc : List Value} {sp d : Nat} {h : eg_H} {c : Int64} (hq : ab_hp h) : ∀ (m k : Nat) (x : Int32) (ls : eg_L), (k : Int) + (m : Int) = (hv h 8 5).toInt → x.toInt = (k : Int) → eg_find 0 ls = some (.ref 8) → eg_find 1 ls = some (.long c) → eg_find 3 ls = some (.int x) → (∀ j, j < k → (hl h 12 j).toInt ≠ c.toInt) → hs sc sp 782 1 d (fun pc' _ st' h' => ∃ ik vo, ab_ret 782 pc' = some ik ∧ eg_rv (eg_md 782).2.2.2 ik st' = some vo ∧ p8_P h c.toInt vo h') 2 ls [] h := by
  have hp := hq.1
  obtain ⟨-, n1, n2⟩ := sb_v (a := 8) (k := 5) (lo := .ofNat 0) (hi := .ofNat 10) hq (by decide +kernel)
  have n1 : (0 : Int) ≤ (hv h 8 5).toInt := n1
  have n2 : (hv h 8 5).toInt ≤ (10 : Int) := n2
  intro m
  induction m with
  | zero =>
    intro k x ls hk hx l0 l1 l3 hne
    refine hs_iload_n ci_782_2 l3 ?_
    refine hs_aload_n ci_782_3 l0 ?_
    refine hs_gfi 5 ci_782_4 (by decide +kernel) hp ?_
    refine hs_ic (t := 29) ci_782_7 rfl (fun b7 => ?_) (fun b7 => ?_)
    · simp only [hs_cd, ab_not] at b7
      refine hs_iconst ci_782_29 ?_
      exact hs_k ⟨3, some (.int (Int32.ofInt (-1))), by decide +kernel, by rw [rt_782]; rfl, rfl, _, rfl, by rw [sf_no _ (fun j hj => hne j (by omega))]; decide⟩
    · simp only [hs_cd, ab_not] at b7
      omega
  | succ m ih =>
    intro k x ls hk hx l0 l1 l3 hne
    refine hs_iload_n ci_782_2 l3 ?_
    refine hs_aload_n ci_782_3 l0 ?_
    refine hs_gfi 5 ci_782_4 (by decide +kernel) hp ?_
    refine hs_ic (t := 29) ci_782_7 rfl (fun b7 => ?_) (fun b7 => ?_)
    · simp only [hs_cd, ab_not] at b7
      omega
    · simp only [hs_cd, ab_not] at b7
      refine hs_aload_n ci_782_10 l0 ?_
      refine hs_gfr 10 12 ci_782_11 (by decide +kernel) hp ?_
      refine hs_iload_n ci_782_14 l3 ?_
      refine hs_laload 10 ci_782_15 (by decide +kernel) hp (by omega) (by omega) ?_
      refine hs_lload_n ci_782_16 l1 ?_
      refine hs_lcmp ci_782_17 (fun z17 q17 => ?_)
      refine hs_if (t := 23) ci_782_18 rfl (fun b18 => ?_) (fun b18 => ?_)
      · simp only [hs_cd, ab_not] at b18
        refine hs_iinc2 ci_782_23 (by decide +kernel) l3 ?_
        intro ls9 q9
        replace l0 := q9.2 0 _ (by decide) (Or.inl rfl) l0
        replace l1 := q9.2 1 _ (by decide) (Or.inr (by decide)) l1
        have l3 := q9.1
        clear q9
        refine hs_goto (t := 2) ci_782_26 rfl ?_
        refine ih (k + 1) _ _ (by omega) (i32_inc hx (by omega) (by omega)) l0 l1 l3 (fun j hj => ?_)
        by_cases e9 : j = k
        · subst e9
          have e8 : x.toInt.toNat = j := by omega
          rw [e8] at q17
          rcases q17 with ⟨-, q1⟩ | ⟨q1, -⟩ | ⟨-, q1⟩
          · omega
          · omega
          · omega
        · exact hne j (by omega)
      · simp only [hs_cd, ab_not] at b18
        refine hs_iload_n ci_782_21 l3 ?_
        have e9 : x.toInt.toNat = k := by omega
        refine hs_k ⟨3, some (.int x), by decide +kernel, by rw [rt_782]; rfl, rfl, x, rfl, ?_⟩
        rw [hx]
        refine (sf_up (n := k) hne ?_ _ (by omega)).symm
        rcases q17 with ⟨q1, -⟩ | ⟨-, q2⟩ | ⟨q1, -⟩
        · omega
        · rw [e9] at q2
          exact congrArg Int64.toInt q2
        · omega
theorem k_p8 {sc : List Value} {sp d : Nat} {h : eg_H} (c : Int64) (hq : ab_hp h) : mc sc sp 782 1 d [.ref 8, .long c] h (p8_P h c.toInt) := by
  have l0 : eg_find 0 (eg_args 0 [.ref 8, .long c]) = some (.ref 8) := rfl
  have l1 : eg_find 1 (eg_args 0 [.ref 8, .long c]) = some (.long c) := rfl
  obtain ⟨-, n1, n2⟩ := sb_v (a := 8) (k := 5) (lo := .ofNat 0) (hi := .ofNat 10) hq (by decide +kernel)
  have n1 : (0 : Int) ≤ (hv h 8 5).toInt := n1
  unfold mc
  refine hs_iconst ci_782_0 ?_
  refine hs_istore2_n ci_782_1 (by decide +kernel) ?_
  intro ls9 q9
  replace l0 := q9.2 0 _ (by decide) (Or.inl rfl) l0
  replace l1 := q9.2 1 _ (by decide) (Or.inr (by decide)) l1
  have l3 := q9.1
  clear q9
  exact p8_loop hq (hv h 8 5).toInt.toNat 0 _ _ (by omega) rfl l0 l1 l3 (fun j hj => by omega)
theorem k_beg {sc : List Value} {sp d : Nat} {h : eg_H} (x : Int32) : mc sc sp 1263 6 d [.int x] h (iw_P h (x.toInt = 40 ∨ (212 ≤ x.toInt ∧ x.toInt ≤ 222))) := by
  have l0 : eg_find 0 (eg_args 0 [.int x]) = some (.int x) := rfl
  unfold mc
  refine hs_iload_n ci_1263_0 l0 ?_
  refine hs_bipush ci_1263_1 ?_
  refine hs_ic (t := 20) ci_1263_3 rfl (fun b3 => ?_) (fun b3 => ?_)
  · simp only [hs_cd, ab_not, kB_40] at b3
    refine hs_iconst ci_1263_20 ?_
    refine hs_goto (t := 25) ci_1263_21 rfl ?_
    exact hs_k ⟨3, some (.int (Int32.ofInt 1)), by decide +kernel, rv_b rt_1263 (Or.inr (by decide)), rfl, _, rfl, Or.inl ⟨by decide, by omega⟩⟩
  · simp only [hs_cd, ab_not, kB_40] at b3
    refine hs_iload_n ci_1263_6 l0 ?_
    refine hs_sipush ci_1263_7 ?_
    refine hs_ic (t := 24) ci_1263_10 rfl (fun b10 => ?_) (fun b10 => ?_)
    · simp only [hs_cd, ab_not, kS_212] at b10
      refine hs_iconst ci_1263_24 ?_
      exact hs_k ⟨3, some (.int (Int32.ofInt 0)), by decide +kernel, rv_b rt_1263 (Or.inl (by decide)), rfl, _, rfl, Or.inr ⟨by decide, by omega⟩⟩
    · simp only [hs_cd, ab_not, kS_212] at b10
      refine hs_iload_n ci_1263_13 l0 ?_
      refine hs_sipush ci_1263_14 ?_
      refine hs_ic (t := 24) ci_1263_17 rfl (fun b17 => ?_) (fun b17 => ?_)
      · simp only [hs_cd, ab_not, kS_222] at b17
        refine hs_iconst ci_1263_24 ?_
        exact hs_k ⟨3, some (.int (Int32.ofInt 0)), by decide +kernel, rv_b rt_1263 (Or.inl (by decide)), rfl, _, rfl, Or.inr ⟨by decide, by omega⟩⟩
      · simp only [hs_cd, ab_not, kS_222] at b17
        refine hs_iconst ci_1263_20 ?_
        refine hs_goto (t := 25) ci_1263_21 rfl ?_
        exact hs_k ⟨3, some (.int (Int32.ofInt 1)), by decide +kernel, rv_b rt_1263 (Or.inr (by decide)), rfl, _, rfl, Or.inl ⟨by decide, by omega⟩⟩
def as_P (h : eg_H) (vo : Option Value) (h' : eg_H) : Prop := vo = none ∧ ab_hp h' ∧ ab_fr MAS h' h
theorem k_addS {sc : List Value} {sp d : Nat} {h : eg_H} (x y z : Int32) (hq : ab_hp h) : mc sc sp 1276 5 d [.ref 121, .int x, .int y, .int z] h (as_P h) := by
  have l0 : eg_find 0 (eg_args 0 [.ref 121, .int x, .int y, .int z]) = some (.ref 121) := rfl
  have l1 : eg_find 1 (eg_args 0 [.ref 121, .int x, .int y, .int z]) = some (.int x) := rfl
  have l2 : eg_find 2 (eg_args 0 [.ref 121, .int x, .int y, .int z]) = some (.int y) := rfl
  have l3 : eg_find 3 (eg_args 0 [.ref 121, .int x, .int y, .int z]) = some (.int z) := rfl
  have hp := hq.1
  obtain ⟨-, n1, n2⟩ := sb_v (a := 121) (k := 3) (lo := .ofNat 0) (hi := .ofNat 48) hq (by decide +kernel)
  have n1 : (0 : Int) ≤ (hv h 121 3).toInt := n1
  have n2 : (hv h 121 3).toInt ≤ (48 : Int) := n2
  unfold mc
  refine hs_aload_n ci_1276_0 l0 ?_
  refine hs_gfi 3 ci_1276_1 (by decide +kernel) hp ?_
  refine hs_bipush ci_1276_4 ?_
  refine hs_ic (t := 49) ci_1276_6 rfl (fun b6 => ?_) (fun b6 => ?_)
  · simp only [hs_cd, ab_not, kB_48] at b6
    exact hs_k ⟨5, none, by decide +kernel, by rw [rt_1276]; rfl, rfl, hq, ab_fr.rf⟩
  · simp only [hs_cd, ab_not, kB_48] at b6
    refine hs_aload_n ci_1276_9 l0 ?_
    refine hs_gfr 0 122 ci_1276_10 (by decide +kernel) hp ?_
    refine hs_aload_n ci_1276_13 l0 ?_
    refine hs_gfi 3 ci_1276_14 (by decide +kernel) hp ?_
    refine hs_iload_n ci_1276_17 l1 ?_
    refine hs_iastore 0 47 (-2147483648) (2147483647) ci_1276_18 (by decide +kernel) hp (by omega) (by omega) (ab_ige _) (ab_ile _) ?_
    intro h18 w18
    replace hp := w18.1
    have e18 : hv h18 121 3 = hv h 121 3 := by rw [w18.v, if_neg (by omega)]
    have f18 : ab_fr MAS h18 h := w18.fr (ab_inr_up (k1 := 0) (k2 := 47) rfl (by omega) (by omega))
    refine hs_aload_n ci_1276_19 l0 ?_
    refine hs_gfr 1 123 ci_1276_20 (by decide +kernel) hp ?_
    refine hs_aload_n ci_1276_23 l0 ?_
    refine hs_gfi 3 ci_1276_24 (by decide +kernel) hp ?_
    refine hs_iload_n ci_1276_27 l2 ?_
    rw [e18]
    refine hs_iastore 0 47 (-2147483648) (2147483647) ci_1276_28 (by decide +kernel) hp (by omega) (by omega) (ab_ige _) (ab_ile _) ?_
    intro h28 w28
    replace hp := w28.1
    have e28 : hv h28 121 3 = hv h 121 3 := by rw [w28.v, if_neg (by omega)]; exact e18
    have f28 : ab_fr MAS h28 h := (w28.fr (ab_inr_up (k1 := 0) (k2 := 47) rfl (by omega) (by omega))).tr f18
    refine hs_aload_n ci_1276_29 l0 ?_
    refine hs_gfr 2 124 ci_1276_30 (by decide +kernel) hp ?_
    refine hs_aload_n ci_1276_33 l0 ?_
    refine hs_gfi 3 ci_1276_34 (by decide +kernel) hp ?_
    refine hs_iload_n ci_1276_37 l3 ?_
    rw [e28]
    refine hs_iastore 0 47 (-2147483648) (2147483647) ci_1276_38 (by decide +kernel) hp (by omega) (by omega) (ab_ige _) (ab_ile _) ?_
    intro h38 w38
    replace hp := w38.1
    have e38 : hv h38 121 3 = hv h 121 3 := by rw [w38.v, if_neg (by omega)]; exact e28
    have f38 : ab_fr MAS h38 h := (w38.fr (ab_inr_up (k1 := 0) (k2 := 47) rfl (by omega) (by omega))).tr f28
    refine hs_aload_n ci_1276_39 l0 ?_
    refine hs_dup ci_1276_40 rfl ?_
    refine hs_gfi 3 ci_1276_41 (by decide +kernel) hp ?_
    refine hs_iconst ci_1276_44 ?_
    refine hs_iadd ci_1276_45 ?_
    have e46 : (hv h38 121 3 + Int32.ofInt 1).toInt = (hv h 121 3).toInt + 1 := by rw [e38]; exact i32_inc rfl (by omega) (by omega)
    refine hs_pfi 3 (0) (48) ci_1276_46 (by decide +kernel) hp (by rw [e46]; omega) (by rw [e46]; omega) ?_
    intro h46 w46
    replace hp := w46.1
    have f46 : ab_fr MAS h46 h := (w46.fr rfl).tr f38
    exact hs_k ⟨5, none, by decide +kernel, by rw [rt_1276]; rfl, rfl, ⟨hp, hq.2.fr (M := MAS) (by decide +kernel) f46⟩, f46⟩
theorem k_sf2 {sc : List Value} {sp d : Nat} {h : eg_H} (hq : ab_hp h) : mc sc sp 843 5 d [.ref 121] h (fg_P h 121 3) := by
  have l0 : eg_find 0 (eg_args 0 [.ref 121]) = some (.ref 121) := rfl
  have hp := hq.1
  unfold mc
  refine hs_aload_n ci_843_0 l0 ?_
  refine hs_iconst ci_843_1 ?_
  refine hs_pfi 3 (0) (48) ci_843_2 (by decide +kernel) hp (by decide) (by decide) ?_
  intro h2 w2
  replace hp := w2.1
  have f2 : ab_fr [(121, 3, 3)] h2 h := w2.fr rfl
  exact hs_k ⟨5, none, by decide +kernel, by rw [rt_843]; rfl, rfl, ⟨hp, hq.2.fr (M := [(121, 3, 3)]) (by decide +kernel) f2⟩, f2⟩
def rs_P (h : eg_H) (tk : Nat → tx_K) (ta : Nat → Nat) (m : Nat) (ps : PS) (n j : Nat) (vo : Option Value) (h' : eg_H) : Prop := ab_fr MSR h' h ∧ ∃ r : Int32, vo = some (.int r) ∧ r.toInt = 1 ∧ sr_S h' tk ta m ps n (j + 1)
theorem k_rst {sc : List Value} {sp d : Nat} {h : eg_H} {tk : Nat → tx_K} {ta : Nat → Nat} {m : Nat} {ps : PS} {n j : Nat} (y : Int32) (s0 : sr_S h tk ta m ps n j) : mc sc sp 1293 6 (d + 1) [.ref 120, .int y] h (rs_P h tk ta m ps n j) := by
  have l0 : eg_find 0 (eg_args 0 [.ref 120, .int y]) = some (.ref 120) := rfl
  have l1 : eg_find 1 (eg_args 0 [.ref 120, .int y]) = some (.int y) := rfl
  have hp := s0.1.1
  unfold mc
  refine hs_aload_n ci_1293_0 l0 ?_
  refine hs_gfr 2 121 ci_1293_1 (by decide +kernel) hp ?_
  refine hs_iload_n ci_1293_4 l1 ?_
  refine hs_iconst ci_1293_5 ?_
  refine hs_iconst ci_1293_6 ?_
  refine hs_cv 1276 5 3 ci_1293_7 (by decide +kernel) (by decide +kernel) hp rfl (by rw [ml_1276]; rfl) (k_addS _ _ _ s0.1) ?_
  rintro v9 h1 ⟨e8, q1, f1⟩
  rw [e8]
  clear e8 v9
  replace hp := q1.1
  have s1 := s0.st q1 f1
  simp only [Option.toList, List.nil_append]
  refine hs_aload_n ci_1293_10 l0 ?_
  refine hs_gfr 0 3 ci_1293_11 (by decide +kernel) hp ?_
  refine hs_cv 736 8 0 ci_1293_14 (by decide +kernel) (by decide +kernel) hp rfl (by rw [ml_736]; rfl) (k_adv s1.1 s1.2.2.1 s1.2.2.2.1) ?_
  rintro v9 h2 ⟨e8, q2, f2, c2⟩
  rw [e8]
  clear e8 v9
  replace hp := q2.1
  have s2 := s1.ad q2 f2 c2
  simp only [Option.toList, List.nil_append]
  refine hs_iconst ci_1293_17 ?_
  exact hs_k ⟨3, some (.int (Int32.ofInt 1)), by decide +kernel, rv_b rt_1293 (Or.inr (by decide)), (fr_sub (M := MSR) (by decide +kernel) f2).tr (fr_sub (M := MSR) (by decide +kernel) f1), _, rfl, by decide, s2⟩
def rm_P (h : eg_H) (tk : Nat → tx_K) (ta : Nat → Nat) (m : Nat) (ps : PS) (n j : Nat) (vo : Option Value) (h' : eg_H) : Prop := ab_fr MSR h' h ∧ ∃ r : Int32, vo = some (.int r) ∧ ((∃ v, sp_old ps 0 4 (tk (j + 1)) (ta (j + 1)) = .inr v ∧ r.toInt = 1 ∧ sr_S h' tk ta m ps n (j + 2)) ∨ (∃ k a, sp_old ps 0 4 (tk (j + 1)) (ta (j + 1)) = .inl (k, a) ∧ r.toInt = 0 ∧ ab_hp h' ∧ flt h' k a))
theorem k_rman {sc : List Value} {sp d : Nat} {h : eg_H} {tk : Nat → tx_K} {ta : Nat → Nat} {m : Nat} {ps : PS} {n j : Nat} (y : Int32) (s0 : sr_S h tk ta m ps n j) : mc sc sp 1280 6 (d + 1 + 1) [.ref 120, .int y] h (rm_P h tk ta m ps n j) := by
  have l0 : eg_find 0 (eg_args 0 [.ref 120, .int y]) = some (.ref 120) := rfl
  have l1 : eg_find 1 (eg_args 0 [.ref 120, .int y]) = some (.int y) := rfl
  have hp := s0.1.1
  unfold mc
  refine hs_aload_n ci_1280_0 l0 ?_
  refine hs_gfr 0 3 ci_1280_1 (by decide +kernel) hp ?_
  refine hs_cv 770 8 0 ci_1280_4 (by decide +kernel) (by decide +kernel) hp rfl (by rw [ml_770]; rfl) (k_nam s0.1 s0.2.1 s0.2.2.1 s0.2.2.2.1) ?_
  rintro v9 h1 ⟨q1, f1, c1, r1, e8, hr1⟩
  rw [e8]
  clear e8 v9
  replace hp := q1.1
  have s1 := s0.tz q1 f1 c1
  simp only [Option.toList, List.cons_append, List.nil_append]
  refine hs_if (t := 12) ci_1280_7 rfl (fun b7 => ?_) (fun b7 => ?_)
  · simp only [hs_cd, ab_not] at b7
    have hy : 4 ≤ (tk (j + 1)).1 ∧ isnm (tk (j + 1)).2.1 := by
      rcases hr1 with ⟨-, y⟩ | ⟨y, -⟩
      · exact y
      · omega
    have hval : (hl h1 3 11).toInt = (tk (j + 1)).2.1 := ((cur_k s1.cur s1.2.1).2.2.2.2.2.2 hy.1).1
    have hsn : sp_nam (tk (j + 1)) (ta (j + 1)) = .inr (tk (j + 1)).2.1 := by
      unfold sp_nam
      rw [if_pos hy]
    refine hs_aload_n ci_1280_12 l0 ?_
    refine hs_gfr 1 8 ci_1280_13 (by decide +kernel) hp ?_
    refine hs_aload_n ci_1280_16 l0 ?_
    refine hs_gfr 0 3 ci_1280_17 (by decide +kernel) hp ?_
    refine hs_cv 774 8 0 ci_1280_20 (by decide +kernel) (by decide +kernel) hp rfl (by rw [ml_774]; rfl) (k_lng s1.1) ?_
    rintro v9 h9 ⟨e9, e8⟩
    rw [e8, e9]
    clear e8 e9 v9 h9
    simp only [Option.toList, List.cons_append, List.nil_append]
    refine hs_cv 778 1 1 ci_1280_23 (by decide +kernel) (by decide +kernel) hp rfl (by rw [ml_778]; rfl) (k_m8 (hl h1 3 11) s1.1) ?_
    rintro v9 h9 ⟨e9, mr, e8, hmr⟩
    rw [e8, e9]
    clear e8 e9 v9 h9
    rw [hval, s1.2.2.2.2.2.sf] at hmr
    simp only [Option.toList, List.cons_append, List.nil_append]
    refine hs_istore2_n ci_1280_26 (by decide +kernel) ?_
    intro ls9 q9
    replace l0 := q9.2 0 _ (by decide) (Or.inl rfl) l0
    replace l1 := q9.2 1 _ (by decide) (Or.inl rfl) l1
    have l2 := q9.1
    clear q9
    refine hs_iload_n ci_1280_27 l2 ?_
    refine hs_iconst ci_1280_28 ?_
    refine hs_ic (t := 41) ci_1280_29 rfl (fun b29 => ?_) (fun b29 => ?_)
    · simp only [hs_cd, ab_not, kI_m1] at b29
      refine hs_aload_n ci_1280_41 l0 ?_
      refine hs_gfr 2 121 ci_1280_42 (by decide +kernel) hp ?_
      refine hs_iload_n ci_1280_45 l1 ?_
      refine hs_iconst ci_1280_46 ?_
      refine hs_iload_n ci_1280_47 l2 ?_
      refine hs_cv 1276 5 3 ci_1280_48 (by decide +kernel) (by decide +kernel) hp rfl (by rw [ml_1276]; rfl) (k_addS _ _ _ s1.1) ?_
      rintro v9 h2 ⟨e8, q2, f2⟩
      rw [e8]
      clear e8 v9
      replace hp := q2.1
      have s2 := s1.st q2 f2
      simp only [Option.toList, List.nil_append]
      refine hs_aload_n ci_1280_51 l0 ?_
      refine hs_gfr 0 3 ci_1280_52 (by decide +kernel) hp ?_
      refine hs_cv 736 8 0 ci_1280_55 (by decide +kernel) (by decide +kernel) hp rfl (by rw [ml_736]; rfl) (k_adv s2.1 s2.2.2.1 s2.2.2.2.1) ?_
      rintro v9 h3 ⟨e8, q3, f3, c3⟩
      rw [e8]
      clear e8 v9
      replace hp := q3.1
      have s3 := s2.ad q3 f3 c3
      simp only [Option.toList, List.nil_append]
      refine hs_iconst ci_1280_58 ?_
      refine hs_k ⟨3, some (.int (Int32.ofInt 1)), by decide +kernel, rv_b rt_1280 (Or.inr (by decide)), (fr_sub (M := MSR) (by decide +kernel) f3).tr ((fr_sub (M := MSR) (by decide +kernel) f2).tr (fr_sub (M := MSR) (by decide +kernel) f1)), _, rfl, Or.inl ⟨sf (ps.2 0) (tk (j + 1)).2.1 (ps.1 4).toNat, ?_, by decide, s3⟩⟩
      unfold sp_old
      rw [sbn_r hsn, if_neg (by rw [← hmr]; exact b29)]
    · simp only [hs_cd, ab_not, kI_m1] at b29
      refine hs_aload_n ci_1280_32 l0 ?_
      refine hs_gfr 0 3 ci_1280_33 (by decide +kernel) hp ?_
      refine hs_iconst ci_1280_36 ?_
      refine hs_cv 748 8 1 ci_1280_37 (by decide +kernel) (by decide +kernel) hp rfl (by rw [ml_748]; rfl) (k_fail (Int32.ofInt 3) s1.1) ?_
      rintro v9 h2 ⟨r2, e8, hr2, q2, f2, g8, g9⟩
      rw [e8]
      clear e8 v9
      replace hp := q2.1
      simp only [Option.toList, List.cons_append, List.nil_append]
      refine hs_k ⟨3, some (.int r2), by decide +kernel, rv_b rt_1280 (Or.inl hr2), (fr_sub (M := MSR) (by decide +kernel) f2).tr (fr_sub (M := MSR) (by decide +kernel) f1), _, rfl, Or.inr ⟨3, ta (j + 1), ?_, hr2, q2, g8.trans kI_3, by rw [g9]; exact s1.pl⟩⟩
      unfold sp_old
      rw [sbn_r hsn, if_pos (by rw [← hmr]; exact b29)]
  · simp only [hs_cd, ab_not] at b7
    refine hs_iconst ci_1280_10 ?_
    refine hs_k ⟨3, some (.int (Int32.ofInt 0)), by decide +kernel, rv_b rt_1280 (Or.inl (by decide)), fr_sub (M := MSR) (by decide +kernel) f1, _, rfl, Or.inr ⟨1, ta (j + 1), ?_, by decide, q1, ?_⟩⟩
    · rcases hr1 with ⟨y1, -⟩ | ⟨-, y2, -⟩
      · omega
      · exact sbn_l (by unfold sp_nam; rw [if_neg y2])
    · rcases hr1 with ⟨y1, -⟩ | ⟨-, -, y3⟩
      · omega
      · exact y3
def sgn (t : tx_K) : Prop := t.1 = 2 ∧ 60 ≤ t.2.1 ∧ t.2.1 ≤ 62
def re_P (h : eg_H) (tk : Nat → tx_K) (ta : Nat → Nat) (m : Nat) (ps : PS) (n j : Nat) (vo : Option Value) (h' : eg_H) : Prop := ab_fr MSR h' h ∧ ∃ r : Int32, vo = some (.int r) ∧ ((sgn (tk (j + 1)) ∧ ∃ v, sp_num (tk (j + 2)) (ta (j + 2)) 0 999 = .inr v ∧ r.toInt = 1 ∧ sr_S h' tk ta m ps n (j + 3)) ∨ (sgn (tk (j + 1)) ∧ ∃ k a, sp_num (tk (j + 2)) (ta (j + 2)) 0 999 = .inl (k, a) ∧ r.toInt = 0 ∧ ab_hp h' ∧ flt h' k a) ∨ (¬ sgn (tk (j + 1)) ∧ r.toInt = 0 ∧ ab_hp h' ∧ flt h' 1 (ta (j + 1))))
theorem k_rmea {sc : List Value} {sp d : Nat} {h : eg_H} {tk : Nat → tx_K} {ta : Nat → Nat} {m : Nat} {ps : PS} {n j : Nat} (y : Int32) (s0 : sr_S h tk ta m ps n j) : mc sc sp 1287 6 (d + 1 + 1) [.ref 120, .int y] h (re_P h tk ta m ps n j) := by
  have l0 : eg_find 0 (eg_args 0 [.ref 120, .int y]) = some (.ref 120) := rfl
  have l1 : eg_find 1 (eg_args 0 [.ref 120, .int y]) = some (.int y) := rfl
  have hp := s0.1.1
  unfold mc
  refine hs_aload_n ci_1287_0 l0 ?_
  refine hs_gfr 0 3 ci_1287_1 (by decide +kernel) hp ?_
  refine hs_cv 736 8 0 ci_1287_4 (by decide +kernel) (by decide +kernel) hp rfl (by rw [ml_736]; rfl) (k_adv s0.1 s0.2.2.1 s0.2.2.2.1) ?_
  rintro v9 h1 ⟨e8, q1, f1, c1⟩
  rw [e8]
  clear e8 v9
  replace hp := q1.1
  have s1 := s0.ad q1 f1 c1
  simp only [Option.toList, List.nil_append]
  have g60 := cur_g s1.cur (g := 60) (by decide) (by decide)
  have g61 := cur_g s1.cur (g := 61) (by decide) (by decide)
  have g62 := cur_g s1.cur (g := 62) (by decide) (by decide)
  refine hs_aload_n ci_1287_7 l0 ?_
  refine hs_gfr 0 3 ci_1287_8 (by decide +kernel) hp ?_
  refine hs_gfi 7 ci_1287_11 (by decide +kernel) hp ?_
  refine hs_istore2_n ci_1287_14 (by decide +kernel) ?_
  intro ls9 q9
  replace l0 := q9.2 0 _ (by decide) (Or.inl rfl) l0
  replace l1 := q9.2 1 _ (by decide) (Or.inl rfl) l1
  have l2 := q9.1
  clear q9
  refine hs_iload_n ci_1287_15 l2 ?_
  refine hs_bipush ci_1287_16 ?_
  refine hs_ic (t := 42) ci_1287_18 rfl (fun b18 => ?_) (fun b18 => ?_)
  · simp only [hs_cd, ab_not, kB_60] at b18
    have hsg : sgn (tk (j + 1)) := by
      have z := g60.mp b18
      exact ⟨z.1, by omega, by omega⟩
    refine hs_aload_n ci_1287_42 l0 ?_
    refine hs_gfr 0 3 ci_1287_43 (by decide +kernel) hp ?_
    refine hs_iconst ci_1287_46 ?_
    refine hs_sipush ci_1287_47 ?_
    refine hs_cv 752 8 2 ci_1287_50 (by decide +kernel) (by decide +kernel) hp rfl (by rw [ml_752]; rfl) (k_num s1.1 s1.2.1 s1.2.2.1 s1.2.2.2.1) ?_
    rintro v9 h2 ⟨q2, f2, c2, r2, e8, hr2⟩
    rw [e8]
    clear e8 v9
    replace hp := q2.1
    have s2 := s1.tz q2 f2 c2
    rw [kI_0, kS_999] at hr2
    simp only [Option.toList, List.cons_append, List.nil_append]
    refine hs_if (t := 58) ci_1287_53 rfl (fun b53 => ?_) (fun b53 => ?_)
    · simp only [hs_cd, ab_not] at b53
      refine hs_aload_n ci_1287_58 l0 ?_
      refine hs_gfr 2 121 ci_1287_59 (by decide +kernel) hp ?_
      refine hs_iload_n ci_1287_62 l1 ?_
      refine hs_iload_n ci_1287_63 l2 ?_
      refine hs_aload_n ci_1287_64 l0 ?_
      refine hs_gfr 0 3 ci_1287_65 (by decide +kernel) hp ?_
      refine hs_cv 758 8 0 ci_1287_68 (by decide +kernel) (by decide +kernel) hp rfl (by rw [ml_758]; rfl) (k_int s2.1) ?_
      rintro v9 h9 ⟨e9, e8⟩
      rw [e8, e9]
      clear e8 e9 v9 h9
      simp only [Option.toList, List.cons_append, List.nil_append]
      refine hs_cv 1276 5 3 ci_1287_71 (by decide +kernel) (by decide +kernel) hp rfl (by rw [ml_1276]; rfl) (k_addS _ _ _ s2.1) ?_
      rintro v9 h3 ⟨e8, q3, f3⟩
      rw [e8]
      clear e8 v9
      replace hp := q3.1
      have s3 := s2.st q3 f3
      simp only [Option.toList, List.nil_append]
      refine hs_aload_n ci_1287_74 l0 ?_
      refine hs_gfr 0 3 ci_1287_75 (by decide +kernel) hp ?_
      refine hs_cv 736 8 0 ci_1287_78 (by decide +kernel) (by decide +kernel) hp rfl (by rw [ml_736]; rfl) (k_adv s3.1 s3.2.2.1 s3.2.2.2.1) ?_
      rintro v9 h4 ⟨e8, q4, f4, c4⟩
      rw [e8]
      clear e8 v9
      replace hp := q4.1
      have s4 := s3.ad q4 f4 c4
      simp only [Option.toList, List.nil_append]
      refine hs_iconst ci_1287_81 ?_
      refine hs_k ⟨3, some (.int (Int32.ofInt 1)), by decide +kernel, rv_b rt_1287 (Or.inr (by decide)), (fr_sub (M := MSR) (by decide +kernel) f4).tr ((fr_sub (M := MSR) (by decide +kernel) f3).tr ((fr_sub (M := MSR) (by decide +kernel) f2).tr (fr_sub (M := MSR) (by decide +kernel) f1))), _, rfl, Or.inl ⟨hsg, ?_⟩⟩
      rcases hr2 with ⟨v, y1, -, -⟩ | ⟨k, a, -, y2, -⟩
      · exact ⟨v, y1, by decide, s4⟩
      · omega
    · simp only [hs_cd, ab_not] at b53
      refine hs_iconst ci_1287_56 ?_
      refine hs_k ⟨3, some (.int (Int32.ofInt 0)), by decide +kernel, rv_b rt_1287 (Or.inl (by decide)), (fr_sub (M := MSR) (by decide +kernel) f2).tr (fr_sub (M := MSR) (by decide +kernel) f1), _, rfl, Or.inr (Or.inl ⟨hsg, ?_⟩)⟩
      rcases hr2 with ⟨v, -, y2, -⟩ | ⟨k, a, y1, -, y3⟩
      · omega
      · exact ⟨k, a, y1, by decide, q2, y3⟩
  · simp only [hs_cd, ab_not, kB_60] at b18
    refine hs_iload_n ci_1287_21 l2 ?_
    refine hs_bipush ci_1287_22 ?_
    refine hs_ic (t := 42) ci_1287_24 rfl (fun b24 => ?_) (fun b24 => ?_)
    · simp only [hs_cd, ab_not, kB_61] at b24
      have hsg : sgn (tk (j + 1)) := by
        have z := g61.mp b24
        exact ⟨z.1, by omega, by omega⟩
      refine hs_aload_n ci_1287_42 l0 ?_
      refine hs_gfr 0 3 ci_1287_43 (by decide +kernel) hp ?_
      refine hs_iconst ci_1287_46 ?_
      refine hs_sipush ci_1287_47 ?_
      refine hs_cv 752 8 2 ci_1287_50 (by decide +kernel) (by decide +kernel) hp rfl (by rw [ml_752]; rfl) (k_num s1.1 s1.2.1 s1.2.2.1 s1.2.2.2.1) ?_
      rintro v9 h2 ⟨q2, f2, c2, r2, e8, hr2⟩
      rw [e8]
      clear e8 v9
      replace hp := q2.1
      have s2 := s1.tz q2 f2 c2
      rw [kI_0, kS_999] at hr2
      simp only [Option.toList, List.cons_append, List.nil_append]
      refine hs_if (t := 58) ci_1287_53 rfl (fun b53 => ?_) (fun b53 => ?_)
      · simp only [hs_cd, ab_not] at b53
        refine hs_aload_n ci_1287_58 l0 ?_
        refine hs_gfr 2 121 ci_1287_59 (by decide +kernel) hp ?_
        refine hs_iload_n ci_1287_62 l1 ?_
        refine hs_iload_n ci_1287_63 l2 ?_
        refine hs_aload_n ci_1287_64 l0 ?_
        refine hs_gfr 0 3 ci_1287_65 (by decide +kernel) hp ?_
        refine hs_cv 758 8 0 ci_1287_68 (by decide +kernel) (by decide +kernel) hp rfl (by rw [ml_758]; rfl) (k_int s2.1) ?_
        rintro v9 h9 ⟨e9, e8⟩
        rw [e8, e9]
        clear e8 e9 v9 h9
        simp only [Option.toList, List.cons_append, List.nil_append]
        refine hs_cv 1276 5 3 ci_1287_71 (by decide +kernel) (by decide +kernel) hp rfl (by rw [ml_1276]; rfl) (k_addS _ _ _ s2.1) ?_
        rintro v9 h3 ⟨e8, q3, f3⟩
        rw [e8]
        clear e8 v9
        replace hp := q3.1
        have s3 := s2.st q3 f3
        simp only [Option.toList, List.nil_append]
        refine hs_aload_n ci_1287_74 l0 ?_
        refine hs_gfr 0 3 ci_1287_75 (by decide +kernel) hp ?_
        refine hs_cv 736 8 0 ci_1287_78 (by decide +kernel) (by decide +kernel) hp rfl (by rw [ml_736]; rfl) (k_adv s3.1 s3.2.2.1 s3.2.2.2.1) ?_
        rintro v9 h4 ⟨e8, q4, f4, c4⟩
        rw [e8]
        clear e8 v9
        replace hp := q4.1
        have s4 := s3.ad q4 f4 c4
        simp only [Option.toList, List.nil_append]
        refine hs_iconst ci_1287_81 ?_
        refine hs_k ⟨3, some (.int (Int32.ofInt 1)), by decide +kernel, rv_b rt_1287 (Or.inr (by decide)), (fr_sub (M := MSR) (by decide +kernel) f4).tr ((fr_sub (M := MSR) (by decide +kernel) f3).tr ((fr_sub (M := MSR) (by decide +kernel) f2).tr (fr_sub (M := MSR) (by decide +kernel) f1))), _, rfl, Or.inl ⟨hsg, ?_⟩⟩
        rcases hr2 with ⟨v, y1, -, -⟩ | ⟨k, a, -, y2, -⟩
        · exact ⟨v, y1, by decide, s4⟩
        · omega
      · simp only [hs_cd, ab_not] at b53
        refine hs_iconst ci_1287_56 ?_
        refine hs_k ⟨3, some (.int (Int32.ofInt 0)), by decide +kernel, rv_b rt_1287 (Or.inl (by decide)), (fr_sub (M := MSR) (by decide +kernel) f2).tr (fr_sub (M := MSR) (by decide +kernel) f1), _, rfl, Or.inr (Or.inl ⟨hsg, ?_⟩)⟩
        rcases hr2 with ⟨v, -, y2, -⟩ | ⟨k, a, y1, -, y3⟩
        · omega
        · exact ⟨k, a, y1, by decide, q2, y3⟩
    · simp only [hs_cd, ab_not, kB_61] at b24
      refine hs_iload_n ci_1287_27 l2 ?_
      refine hs_bipush ci_1287_28 ?_
      refine hs_ic (t := 42) ci_1287_30 rfl (fun b30 => ?_) (fun b30 => ?_)
      · simp only [hs_cd, ab_not, kB_62] at b30
        have hsg : sgn (tk (j + 1)) := by
          have z := g62.mp b30
          exact ⟨z.1, by omega, by omega⟩
        refine hs_aload_n ci_1287_42 l0 ?_
        refine hs_gfr 0 3 ci_1287_43 (by decide +kernel) hp ?_
        refine hs_iconst ci_1287_46 ?_
        refine hs_sipush ci_1287_47 ?_
        refine hs_cv 752 8 2 ci_1287_50 (by decide +kernel) (by decide +kernel) hp rfl (by rw [ml_752]; rfl) (k_num s1.1 s1.2.1 s1.2.2.1 s1.2.2.2.1) ?_
        rintro v9 h2 ⟨q2, f2, c2, r2, e8, hr2⟩
        rw [e8]
        clear e8 v9
        replace hp := q2.1
        have s2 := s1.tz q2 f2 c2
        rw [kI_0, kS_999] at hr2
        simp only [Option.toList, List.cons_append, List.nil_append]
        refine hs_if (t := 58) ci_1287_53 rfl (fun b53 => ?_) (fun b53 => ?_)
        · simp only [hs_cd, ab_not] at b53
          refine hs_aload_n ci_1287_58 l0 ?_
          refine hs_gfr 2 121 ci_1287_59 (by decide +kernel) hp ?_
          refine hs_iload_n ci_1287_62 l1 ?_
          refine hs_iload_n ci_1287_63 l2 ?_
          refine hs_aload_n ci_1287_64 l0 ?_
          refine hs_gfr 0 3 ci_1287_65 (by decide +kernel) hp ?_
          refine hs_cv 758 8 0 ci_1287_68 (by decide +kernel) (by decide +kernel) hp rfl (by rw [ml_758]; rfl) (k_int s2.1) ?_
          rintro v9 h9 ⟨e9, e8⟩
          rw [e8, e9]
          clear e8 e9 v9 h9
          simp only [Option.toList, List.cons_append, List.nil_append]
          refine hs_cv 1276 5 3 ci_1287_71 (by decide +kernel) (by decide +kernel) hp rfl (by rw [ml_1276]; rfl) (k_addS _ _ _ s2.1) ?_
          rintro v9 h3 ⟨e8, q3, f3⟩
          rw [e8]
          clear e8 v9
          replace hp := q3.1
          have s3 := s2.st q3 f3
          simp only [Option.toList, List.nil_append]
          refine hs_aload_n ci_1287_74 l0 ?_
          refine hs_gfr 0 3 ci_1287_75 (by decide +kernel) hp ?_
          refine hs_cv 736 8 0 ci_1287_78 (by decide +kernel) (by decide +kernel) hp rfl (by rw [ml_736]; rfl) (k_adv s3.1 s3.2.2.1 s3.2.2.2.1) ?_
          rintro v9 h4 ⟨e8, q4, f4, c4⟩
          rw [e8]
          clear e8 v9
          replace hp := q4.1
          have s4 := s3.ad q4 f4 c4
          simp only [Option.toList, List.nil_append]
          refine hs_iconst ci_1287_81 ?_
          refine hs_k ⟨3, some (.int (Int32.ofInt 1)), by decide +kernel, rv_b rt_1287 (Or.inr (by decide)), (fr_sub (M := MSR) (by decide +kernel) f4).tr ((fr_sub (M := MSR) (by decide +kernel) f3).tr ((fr_sub (M := MSR) (by decide +kernel) f2).tr (fr_sub (M := MSR) (by decide +kernel) f1))), _, rfl, Or.inl ⟨hsg, ?_⟩⟩
          rcases hr2 with ⟨v, y1, -, -⟩ | ⟨k, a, -, y2, -⟩
          · exact ⟨v, y1, by decide, s4⟩
          · omega
        · simp only [hs_cd, ab_not] at b53
          refine hs_iconst ci_1287_56 ?_
          refine hs_k ⟨3, some (.int (Int32.ofInt 0)), by decide +kernel, rv_b rt_1287 (Or.inl (by decide)), (fr_sub (M := MSR) (by decide +kernel) f2).tr (fr_sub (M := MSR) (by decide +kernel) f1), _, rfl, Or.inr (Or.inl ⟨hsg, ?_⟩)⟩
          rcases hr2 with ⟨v, -, y2, -⟩ | ⟨k, a, y1, -, y3⟩
          · omega
          · exact ⟨k, a, y1, by decide, q2, y3⟩
      · simp only [hs_cd, ab_not, kB_62] at b30
        refine hs_aload_n ci_1287_33 l0 ?_
        refine hs_gfr 0 3 ci_1287_34 (by decide +kernel) hp ?_
        refine hs_iconst ci_1287_37 ?_
        refine hs_cv 748 8 1 ci_1287_38 (by decide +kernel) (by decide +kernel) hp rfl (by rw [ml_748]; rfl) (k_fail (Int32.ofInt 1) s1.1) ?_
        rintro v9 h2 ⟨r2, e8, hr2, q2, f2, g8, g9⟩
        rw [e8]
        clear e8 v9
        replace hp := q2.1
        simp only [Option.toList, List.cons_append, List.nil_append]
        have hsg : ¬ sgn (tk (j + 1)) := by
          rintro ⟨z1, z2, z3⟩
          rcases (show (tk (j + 1)).2.1 = 60 ∨ (tk (j + 1)).2.1 = 61 ∨ (tk (j + 1)).2.1 = 62 by omega) with z | z | z
          · exact b18 (g60.mpr ⟨z1, z⟩)
          · exact b24 (g61.mpr ⟨z1, z⟩)
          · exact b30 (g62.mpr ⟨z1, z⟩)
        exact hs_k ⟨3, some (.int r2), by decide +kernel, rv_b rt_1287 (Or.inl hr2), (fr_sub (M := MSR) (by decide +kernel) f2).tr (fr_sub (M := MSR) (by decide +kernel) f1), _, rfl, Or.inr (Or.inr ⟨hsg, hr2, q2, g8.trans kI_1, by rw [g9]; exact s1.pl⟩)⟩
theorem ra_loop {sc : List Value} {sp D : Nat} {tk : Nat → tx_K} {ta : Nat → Nat} {m : Nat} {ps : PS} {F : List Bool} {y : Int32} {h : eg_H} {n j : Nat} (hdn : dn F = F) (hO : ∀ (h : eg_H) (n j : Nat), n ≤ 20 → sr_S h tk ta m ps n j → mc sc sp 1260 6 D [.ref 120, .int y] h (rq_P h tk ta m ps F (dn F) n j (fun _ => True))) : ∀ (f k n1 j1 : Nat) (x2 : Int32) (ls : eg_L) (h1 : eg_H), k + f = 20 → x2.toInt = (k : Int) → k + 1 ≤ n1 → n < n1 → n1 ≤ 20 → sr_S h1 tk ta m ps n1 j1 → ab_fr MSR h1 h → (∀ x, ssx tk ta ps false F n j x ↔ ssx tk ta ps true F n1 j1 x) → eg_find 0 ls = some (.ref 120) → eg_find 1 ls = some (.int y) → eg_find 2 ls = some (.int x2) → hs sc sp 1256 6 (D + 1) (fun pc' _ st' h' => ∃ ik vo, ab_ret 1256 pc' = some ik ∧ eg_rv (eg_md 1256).2.2.2 ik st' = some vo ∧ rq_P h tk ta m ps F F n j (fun t => ¬ (4 ≤ t.1 ∧ t.2.1 = 1111)) vo h') 12 ls [] h1 := by
  intro f
  induction f with
  | zero =>
    intro k n1 j1 x2 ls h1 hk hx hkn hn hn20
    omega
  | succ f ih =>
    intro k n1 j1 x2 ls h1 hk hx hkn hn hn20 s1 f1 E1 l0 l1 l2
    have hp := s1.1.1
    have K := (cur_k s1.cur s1.2.1).2.2.2.2.1
    have eK : (hv h1 3 7).toInt = 211 ↔ (4 ≤ (tk j1).1 ∧ (tk j1).2.1 = 1111) := K 11 (by decide)
    refine hs_iload_n ci_1256_12 l2 ?_
    refine hs_bipush ci_1256_13 ?_
    refine hs_ic (t := 66) ci_1256_15 rfl (fun b15 => ?_) (fun b15 => ?_)
    · simp only [hs_cd, ab_not, kB_20] at b15
      omega
    · simp only [hs_cd, ab_not, kB_20] at b15
      refine hs_aload_n ci_1256_18 l0 ?_
      refine hs_gfr 0 3 ci_1256_19 (by decide +kernel) hp ?_
      refine hs_gfi 7 ci_1256_22 (by decide +kernel) hp ?_
      refine hs_sipush ci_1256_25 ?_
      refine hs_ic (t := 66) ci_1256_28 rfl (fun b28 => ?_) (fun b28 => ?_)
      · simp only [hs_cd, ab_not, kS_211] at b28
        refine hs_iconst ci_1256_66 ?_
        exact hs_k ⟨3, some (.int (Int32.ofInt 1)), by decide +kernel, rv_b rt_1256 (Or.inr (by decide)), f1, _, rfl, Or.inl ⟨by decide, n1, j1, hn, hn20, s1, fun g => b28 (eK.mpr g), E1⟩⟩
      · simp only [hs_cd, ab_not, kS_211] at b28
        refine hs_aload_n ci_1256_31 l0 ?_
        refine hs_gfr 0 3 ci_1256_32 (by decide +kernel) hp ?_
        refine hs_cv 736 8 0 ci_1256_35 (by decide +kernel) (by decide +kernel) hp rfl (by rw [ml_736]; rfl) (k_adv s1.1 s1.2.2.1 s1.2.2.2.1) ?_
        rintro v9 h2 ⟨e8, q2, f2, c2⟩
        rw [e8]
        clear e8 v9
        replace hp := q2.1
        have s2 := s1.ad q2 f2 c2
        simp only [Option.toList, List.nil_append]
        refine hs_aload_n ci_1256_38 l0 ?_
        refine hs_iload_n ci_1256_39 l1 ?_
        refine hs_cv 1260 6 1 ci_1256_40 (by decide +kernel) (by decide +kernel) hp rfl (by rw [ml_1260]; rfl) (hO h2 n1 (j1 + 1) hn20 s2) ?_
        rintro v9 h3 ⟨f3, r3, e8, hr3⟩
        rw [e8]
        clear e8 v9
        simp only [Option.toList, List.cons_append, List.nil_append]
        refine hs_if (t := 48) ci_1256_43 rfl (fun b43 => ?_) (fun b43 => ?_)
        · simp only [hs_cd, ab_not] at b43
          obtain ⟨n2, j2, y1, y2, s3, -, y4⟩ : ∃ n' j' : Nat, n1 < n' ∧ n' ≤ 20 ∧ sr_S h3 tk ta m ps n' j' ∧ (fun _ => True) (tk j') ∧ ∀ x, ssx tk ta ps false F n1 (j1 + 1) x ↔ ssx tk ta ps true (dn F) n' j' x := by
            rcases hr3 with ⟨-, y⟩ | ⟨y, -⟩
            · exact y
            · omega
          rw [hdn] at y4
          replace hp := s3.1.1
          refine hs_aload_n ci_1256_48 l0 ?_
          refine hs_gfr 2 121 ci_1256_49 (by decide +kernel) hp ?_
          refine hs_sipush ci_1256_52 ?_
          refine hs_iconst ci_1256_55 ?_
          refine hs_iconst ci_1256_56 ?_
          refine hs_cv 1276 5 3 ci_1256_57 (by decide +kernel) (by decide +kernel) hp rfl (by rw [ml_1276]; rfl) (k_addS _ _ _ s3.1) ?_
          rintro v9 h4 ⟨e8, q4, f4⟩
          rw [e8]
          clear e8 v9
          replace hp := q4.1
          have s4 := s3.st q4 f4
          simp only [Option.toList, List.nil_append]
          refine hs_iinc2 ci_1256_60 (by decide +kernel) l2 ?_
          intro ls9 q9
          replace l0 := q9.2 0 _ (by decide) (Or.inl rfl) l0
          replace l1 := q9.2 1 _ (by decide) (Or.inl rfl) l1
          have l2 := q9.1
          clear q9
          refine hs_goto (t := 12) ci_1256_63 rfl ?_
          exact ih (k + 1) n2 j2 _ _ _ (by omega) (i32_inc hx (by omega) (by omega)) (by omega) (by omega) y2 s4 ((fr_sub (M := MSR) (by decide +kernel) f4).tr (f3.tr ((fr_sub (M := MSR) (by decide +kernel) f2).tr f1))) (fun x => (E1 x).trans ((w_j ⟨(eK.mp b28).1, Or.inl (eK.mp b28).2⟩).trans (y4 x))) l0 l1 l2
        · simp only [hs_cd, ab_not] at b43
          refine hs_iconst ci_1256_46 ?_
          obtain ⟨q3, k, a, z1, z2⟩ : ab_hp h3 ∧ ∃ (k : Int) (a : Nat), flt h3 k a ∧ ∀ x, ssx tk ta ps false F n1 (j1 + 1) x ↔ x = .inl (k, a) := by
            rcases hr3 with ⟨y, -⟩ | ⟨-, y⟩
            · omega
            · exact y
          exact hs_k ⟨3, some (.int (Int32.ofInt 0)), by decide +kernel, rv_b rt_1256 (Or.inl (by decide)), f3.tr ((fr_sub (M := MSR) (by decide +kernel) f2).tr f1), _, rfl, Or.inr ⟨by decide, q3, k, a, z1, fun x => (E1 x).trans ((w_j ⟨(eK.mp b28).1, Or.inl (eK.mp b28).2⟩).trans (z2 x))⟩⟩
theorem k_rall {sc : List Value} {sp D : Nat} {tk : Nat → tx_K} {ta : Nat → Nat} {m : Nat} {ps : PS} {F : List Bool} {y : Int32} (hdn : dn F = F) (hO : ∀ (h : eg_H) (n j : Nat), n ≤ 20 → sr_S h tk ta m ps n j → mc sc sp 1260 6 D [.ref 120, .int y] h (rq_P h tk ta m ps F (dn F) n j (fun _ => True))) (h : eg_H) (n j : Nat) (hn20 : n ≤ 20) (s0 : sr_S h tk ta m ps n j) : mc sc sp 1256 6 (D + 1) [.ref 120, .int y] h (rq_P h tk ta m ps F F n j (fun t => ¬ (4 ≤ t.1 ∧ t.2.1 = 1111))) := by
  have l0 : eg_find 0 (eg_args 0 [.ref 120, .int y]) = some (.ref 120) := rfl
  have l1 : eg_find 1 (eg_args 0 [.ref 120, .int y]) = some (.int y) := rfl
  have hp := s0.1.1
  unfold mc
  refine hs_aload_n ci_1256_0 l0 ?_
  refine hs_iload_n ci_1256_1 l1 ?_
  refine hs_cv 1260 6 1 ci_1256_2 (by decide +kernel) (by decide +kernel) hp rfl (by rw [ml_1260]; rfl) (hO h n j hn20 s0) ?_
  rintro v9 h3 ⟨f3, r3, e8, hr3⟩
  rw [e8]
  clear e8 v9
  simp only [Option.toList, List.cons_append, List.nil_append]
  refine hs_if (t := 10) ci_1256_5 rfl (fun b5 => ?_) (fun b5 => ?_)
  · simp only [hs_cd, ab_not] at b5
    refine hs_iconst ci_1256_10 ?_
    refine hs_istore2_n ci_1256_11 (by decide +kernel) ?_
    intro ls9 q9
    replace l0 := q9.2 0 _ (by decide) (Or.inl rfl) l0
    replace l1 := q9.2 1 _ (by decide) (Or.inl rfl) l1
    have l2 := q9.1
    clear q9
    obtain ⟨n2, j2, y1, y2, s3, -, y4⟩ : ∃ n' j' : Nat, n < n' ∧ n' ≤ 20 ∧ sr_S h3 tk ta m ps n' j' ∧ (fun _ => True) (tk j') ∧ ∀ x, ssx tk ta ps false F n j x ↔ ssx tk ta ps true (dn F) n' j' x := by
      rcases hr3 with ⟨-, y⟩ | ⟨y, -⟩
      · exact y
      · omega
    rw [hdn] at y4
    exact ra_loop hdn hO 20 0 n2 j2 _ _ _ (by decide) kI_0 (by omega) y1 y2 s3 f3 y4 l0 l1 l2
  · simp only [hs_cd, ab_not] at b5
    refine hs_iconst ci_1256_8 ?_
    obtain ⟨q3, k, a, z1, z2⟩ : ab_hp h3 ∧ ∃ (k : Int) (a : Nat), flt h3 k a ∧ ∀ x, ssx tk ta ps false F n j x ↔ x = .inl (k, a) := by
      rcases hr3 with ⟨y, -⟩ | ⟨-, y⟩
      · omega
      · exact y
    exact hs_k ⟨3, some (.int (Int32.ofInt 0)), by decide +kernel, rv_b rt_1256 (Or.inl (by decide)), f3, _, rfl, Or.inr ⟨by decide, q3, k, a, z1, z2⟩⟩
theorem rc_loop {sc : List Value} {sp D : Nat} {tk : Nat → tx_K} {ta : Nat → Nat} {m : Nat} {ps : PS} {F : List Bool} {y : Int32} {h : eg_H} {n j : Nat} (hO : ∀ (h : eg_H) (n j : Nat), n ≤ 20 → sr_S h tk ta m ps n j → mc sc sp 1256 6 D [.ref 120, .int y] h (rq_P h tk ta m ps F (F) n j (fun t => ¬ (4 ≤ t.1 ∧ t.2.1 = 1111)))) : ∀ (f k n1 j1 : Nat) (x2 : Int32) (ls : eg_L) (h1 : eg_H), k + f = 20 → x2.toInt = (k : Int) → k + 1 ≤ n1 → n < n1 → n1 ≤ 20 → sr_S h1 tk ta m ps n1 j1 → ab_fr MSR h1 h → ¬ (4 ≤ (tk j1).1 ∧ (tk j1).2.1 = 1111) → (∀ x, ssx tk ta ps false F n j x ↔ ssx tk ta ps true F n1 j1 x) → eg_find 0 ls = some (.ref 120) → eg_find 1 ls = some (.int y) → eg_find 2 ls = some (.int x2) → hs sc sp 1252 6 (D + 1) (fun pc' _ st' h' => ∃ ik vo, ab_ret 1252 pc' = some ik ∧ eg_rv (eg_md 1252).2.2.2 ik st' = some vo ∧ rq_P h tk ta m ps F F n j (fun t => ¬ (4 ≤ t.1 ∧ (t.2.1 = 1111 ∨ t.2.1 = 423))) vo h') 12 ls [] h1 := by
  intro f
  induction f with
  | zero =>
    intro k n1 j1 x2 ls h1 hk hx hkn hn hn20
    omega
  | succ f ih =>
    intro k n1 j1 x2 ls h1 hk hx hkn hn hn20 s1 f1 hna E1 l0 l1 l2
    have hp := s1.1.1
    have K := (cur_k s1.cur s1.2.1).2.2.2.2.1
    have eK : (hv h1 3 7).toInt = 210 ↔ (4 ≤ (tk j1).1 ∧ (tk j1).2.1 = 423) := K 10 (by decide)
    refine hs_iload_n ci_1252_12 l2 ?_
    refine hs_bipush ci_1252_13 ?_
    refine hs_ic (t := 66) ci_1252_15 rfl (fun b15 => ?_) (fun b15 => ?_)
    · simp only [hs_cd, ab_not, kB_20] at b15
      omega
    · simp only [hs_cd, ab_not, kB_20] at b15
      refine hs_aload_n ci_1252_18 l0 ?_
      refine hs_gfr 0 3 ci_1252_19 (by decide +kernel) hp ?_
      refine hs_gfi 7 ci_1252_22 (by decide +kernel) hp ?_
      refine hs_sipush ci_1252_25 ?_
      refine hs_ic (t := 66) ci_1252_28 rfl (fun b28 => ?_) (fun b28 => ?_)
      · simp only [hs_cd, ab_not, kS_210] at b28
        refine hs_iconst ci_1252_66 ?_
        exact hs_k ⟨3, some (.int (Int32.ofInt 1)), by decide +kernel, rv_b rt_1252 (Or.inr (by decide)), f1, _, rfl, Or.inl ⟨by decide, n1, j1, hn, hn20, s1, fun g => g.2.elim (fun z => hna ⟨g.1, z⟩) (fun z => b28 (eK.mpr ⟨g.1, z⟩)), E1⟩⟩
      · simp only [hs_cd, ab_not, kS_210] at b28
        refine hs_aload_n ci_1252_31 l0 ?_
        refine hs_gfr 0 3 ci_1252_32 (by decide +kernel) hp ?_
        refine hs_cv 736 8 0 ci_1252_35 (by decide +kernel) (by decide +kernel) hp rfl (by rw [ml_736]; rfl) (k_adv s1.1 s1.2.2.1 s1.2.2.2.1) ?_
        rintro v9 h2 ⟨e8, q2, f2, c2⟩
        rw [e8]
        clear e8 v9
        replace hp := q2.1
        have s2 := s1.ad q2 f2 c2
        simp only [Option.toList, List.nil_append]
        refine hs_aload_n ci_1252_38 l0 ?_
        refine hs_iload_n ci_1252_39 l1 ?_
        refine hs_cv 1256 6 1 ci_1252_40 (by decide +kernel) (by decide +kernel) hp rfl (by rw [ml_1256]; rfl) (hO h2 n1 (j1 + 1) hn20 s2) ?_
        rintro v9 h3 ⟨f3, r3, e8, hr3⟩
        rw [e8]
        clear e8 v9
        simp only [Option.toList, List.cons_append, List.nil_append]
        refine hs_if (t := 48) ci_1252_43 rfl (fun b43 => ?_) (fun b43 => ?_)
        · simp only [hs_cd, ab_not] at b43
          obtain ⟨n2, j2, y1, y2, s3, y3, y4⟩ : ∃ n' j' : Nat, n1 < n' ∧ n' ≤ 20 ∧ sr_S h3 tk ta m ps n' j' ∧ (fun t => ¬ (4 ≤ t.1 ∧ t.2.1 = 1111)) (tk j') ∧ ∀ x, ssx tk ta ps false F n1 (j1 + 1) x ↔ ssx tk ta ps true (F) n' j' x := by
            rcases hr3 with ⟨-, y⟩ | ⟨y, -⟩
            · exact y
            · omega
          replace hp := s3.1.1
          refine hs_aload_n ci_1252_48 l0 ?_
          refine hs_gfr 2 121 ci_1252_49 (by decide +kernel) hp ?_
          refine hs_sipush ci_1252_52 ?_
          refine hs_iconst ci_1252_55 ?_
          refine hs_iconst ci_1252_56 ?_
          refine hs_cv 1276 5 3 ci_1252_57 (by decide +kernel) (by decide +kernel) hp rfl (by rw [ml_1276]; rfl) (k_addS _ _ _ s3.1) ?_
          rintro v9 h4 ⟨e8, q4, f4⟩
          rw [e8]
          clear e8 v9
          replace hp := q4.1
          have s4 := s3.st q4 f4
          simp only [Option.toList, List.nil_append]
          refine hs_iinc2 ci_1252_60 (by decide +kernel) l2 ?_
          intro ls9 q9
          replace l0 := q9.2 0 _ (by decide) (Or.inl rfl) l0
          replace l1 := q9.2 1 _ (by decide) (Or.inl rfl) l1
          have l2 := q9.1
          clear q9
          refine hs_goto (t := 12) ci_1252_63 rfl ?_
          exact ih (k + 1) n2 j2 _ _ _ (by omega) (i32_inc hx (by omega) (by omega)) (by omega) (by omega) y2 s4 ((fr_sub (M := MSR) (by decide +kernel) f4).tr (f3.tr ((fr_sub (M := MSR) (by decide +kernel) f2).tr f1))) y3 (fun x => (E1 x).trans ((w_j ⟨(eK.mp b28).1, Or.inr (eK.mp b28).2⟩).trans (y4 x))) l0 l1 l2
        · simp only [hs_cd, ab_not] at b43
          refine hs_iconst ci_1252_46 ?_
          obtain ⟨q3, k, a, z1, z2⟩ : ab_hp h3 ∧ ∃ (k : Int) (a : Nat), flt h3 k a ∧ ∀ x, ssx tk ta ps false F n1 (j1 + 1) x ↔ x = .inl (k, a) := by
            rcases hr3 with ⟨y, -⟩ | ⟨-, y⟩
            · omega
            · exact y
          exact hs_k ⟨3, some (.int (Int32.ofInt 0)), by decide +kernel, rv_b rt_1252 (Or.inl (by decide)), f3.tr ((fr_sub (M := MSR) (by decide +kernel) f2).tr f1), _, rfl, Or.inr ⟨by decide, q3, k, a, z1, fun x => (E1 x).trans ((w_j ⟨(eK.mp b28).1, Or.inr (eK.mp b28).2⟩).trans (z2 x))⟩⟩
theorem k_rcond {sc : List Value} {sp D : Nat} {tk : Nat → tx_K} {ta : Nat → Nat} {m : Nat} {ps : PS} {F : List Bool} {y : Int32} (hO : ∀ (h : eg_H) (n j : Nat), n ≤ 20 → sr_S h tk ta m ps n j → mc sc sp 1256 6 D [.ref 120, .int y] h (rq_P h tk ta m ps F (F) n j (fun t => ¬ (4 ≤ t.1 ∧ t.2.1 = 1111)))) (h : eg_H) (n j : Nat) (hn20 : n ≤ 20) (s0 : sr_S h tk ta m ps n j) : mc sc sp 1252 6 (D + 1) [.ref 120, .int y] h (rq_P h tk ta m ps F F n j (fun t => ¬ (4 ≤ t.1 ∧ (t.2.1 = 1111 ∨ t.2.1 = 423)))) := by
  have l0 : eg_find 0 (eg_args 0 [.ref 120, .int y]) = some (.ref 120) := rfl
  have l1 : eg_find 1 (eg_args 0 [.ref 120, .int y]) = some (.int y) := rfl
  have hp := s0.1.1
  unfold mc
  refine hs_aload_n ci_1252_0 l0 ?_
  refine hs_iload_n ci_1252_1 l1 ?_
  refine hs_cv 1256 6 1 ci_1252_2 (by decide +kernel) (by decide +kernel) hp rfl (by rw [ml_1256]; rfl) (hO h n j hn20 s0) ?_
  rintro v9 h3 ⟨f3, r3, e8, hr3⟩
  rw [e8]
  clear e8 v9
  simp only [Option.toList, List.cons_append, List.nil_append]
  refine hs_if (t := 10) ci_1252_5 rfl (fun b5 => ?_) (fun b5 => ?_)
  · simp only [hs_cd, ab_not] at b5
    refine hs_iconst ci_1252_10 ?_
    refine hs_istore2_n ci_1252_11 (by decide +kernel) ?_
    intro ls9 q9
    replace l0 := q9.2 0 _ (by decide) (Or.inl rfl) l0
    replace l1 := q9.2 1 _ (by decide) (Or.inl rfl) l1
    have l2 := q9.1
    clear q9
    obtain ⟨n2, j2, y1, y2, s3, y3, y4⟩ : ∃ n' j' : Nat, n < n' ∧ n' ≤ 20 ∧ sr_S h3 tk ta m ps n' j' ∧ (fun t => ¬ (4 ≤ t.1 ∧ t.2.1 = 1111)) (tk j') ∧ ∀ x, ssx tk ta ps false F n j x ↔ ssx tk ta ps true (F) n' j' x := by
      rcases hr3 with ⟨-, y⟩ | ⟨y, -⟩
      · exact y
      · omega
    exact rc_loop hO 20 0 n2 j2 _ _ _ (by decide) kI_0 (by omega) y1 y2 s3 f3 y3 y4 l0 l1 l2
  · simp only [hs_cd, ab_not] at b5
    refine hs_iconst ci_1252_8 ?_
    obtain ⟨q3, k, a, z1, z2⟩ : ab_hp h3 ∧ ∃ (k : Int) (a : Nat), flt h3 k a ∧ ∀ x, ssx tk ta ps false F n j x ↔ x = .inl (k, a) := by
      rcases hr3 with ⟨y, -⟩ | ⟨-, y⟩
      · omega
      · exact y
    exact hs_k ⟨3, some (.int (Int32.ofInt 0)), by decide +kernel, rv_b rt_1252 (Or.inl (by decide)), f3, _, rfl, Or.inr ⟨by decide, q3, k, a, z1, z2⟩⟩
theorem k_rbr {sc : List Value} {sp D : Nat} {tk : Nat → tx_K} {ta : Nat → Nat} {m : Nat} {ps : PS} {F : List Bool} {y : Int32} (hO : ∀ (h : eg_H) (n j : Nat), n ≤ 20 → sr_S h tk ta m ps n j → mc sc sp 1252 6 D [.ref 120, .int (y + Int32.ofInt 1)] h (rq_P h tk ta m ps (true :: F) (true :: F) n j (fun t => ¬ (4 ≤ t.1 ∧ (t.2.1 = 1111 ∨ t.2.1 = 423))))) (h : eg_H) (n j : Nat) (hn20 : n ≤ 20) (s0 : sr_S h tk ta m ps n j) : mc sc sp 1268 6 (D + 1) [.ref 120, .int y] h (rq_P h tk ta m ps (true :: F) (dn F) n (j + 1) (fun _ => True)) := by
  have l0 : eg_find 0 (eg_args 0 [.ref 120, .int y]) = some (.ref 120) := rfl
  have l1 : eg_find 1 (eg_args 0 [.ref 120, .int y]) = some (.int y) := rfl
  have hp := s0.1.1
  unfold mc
  refine hs_aload_n ci_1268_0 l0 ?_
  refine hs_gfr 0 3 ci_1268_1 (by decide +kernel) hp ?_
  refine hs_cv 736 8 0 ci_1268_4 (by decide +kernel) (by decide +kernel) hp rfl (by rw [ml_736]; rfl) (k_adv s0.1 s0.2.2.1 s0.2.2.2.1) ?_
  rintro v9 h1 ⟨e8, q1, f1, c1⟩
  rw [e8]
  clear e8 v9
  replace hp := q1.1
  have s1 := s0.ad q1 f1 c1
  simp only [Option.toList, List.nil_append]
  refine hs_aload_n ci_1268_7 l0 ?_
  refine hs_iload_n ci_1268_8 l1 ?_
  refine hs_iconst ci_1268_9 ?_
  refine hs_iadd ci_1268_10 ?_
  refine hs_cv 1252 6 1 ci_1268_11 (by decide +kernel) (by decide +kernel) hp rfl (by rw [ml_1252]; rfl) (hO h1 n (j + 1) hn20 s1) ?_
  rintro v9 h3 ⟨f3, r3, e8, hr3⟩
  rw [e8]
  clear e8 v9
  simp only [Option.toList, List.cons_append, List.nil_append]
  refine hs_if (t := 19) ci_1268_14 rfl (fun b14 => ?_) (fun b14 => ?_)
  · simp only [hs_cd, ab_not] at b14
    obtain ⟨n2, j2, y1, y2, s3, y3, y4⟩ : ∃ n' j' : Nat, n < n' ∧ n' ≤ 20 ∧ sr_S h3 tk ta m ps n' j' ∧ (fun t => ¬ (4 ≤ t.1 ∧ (t.2.1 = 1111 ∨ t.2.1 = 423))) (tk j') ∧ ∀ x, ssx tk ta ps false (true :: F) n (j + 1) x ↔ ssx tk ta ps true (true :: F) n' j' x := by
      rcases hr3 with ⟨-, y⟩ | ⟨y, -⟩
      · exact y
      · omega
    replace hp := s3.1.1
    have e41 := cur_g s3.cur (g := 41) (by decide) (by decide)
    refine hs_aload_n ci_1268_19 l0 ?_
    refine hs_gfr 0 3 ci_1268_20 (by decide +kernel) hp ?_
    refine hs_gfi 7 ci_1268_23 (by decide +kernel) hp ?_
    refine hs_bipush ci_1268_26 ?_
    refine hs_ic (t := 40) ci_1268_28 rfl (fun b28 => ?_) (fun b28 => ?_)
    · simp only [hs_cd, ab_not, kB_41] at b28
      refine hs_aload_n ci_1268_40 l0 ?_
      refine hs_gfr 0 3 ci_1268_41 (by decide +kernel) hp ?_
      refine hs_cv 736 8 0 ci_1268_44 (by decide +kernel) (by decide +kernel) hp rfl (by rw [ml_736]; rfl) (k_adv s3.1 s3.2.2.1 s3.2.2.2.1) ?_
      rintro v9 h4 ⟨e8, q4, f4, c4⟩
      rw [e8]
      clear e8 v9
      replace hp := q4.1
      have s4 := s3.ad q4 f4 c4
      simp only [Option.toList, List.nil_append]
      refine hs_iconst ci_1268_47 ?_
      exact hs_k ⟨3, some (.int (Int32.ofInt 1)), by decide +kernel, rv_b rt_1268 (Or.inr (by decide)), (fr_sub (M := MSR) (by decide +kernel) f4).tr (f3.tr (fr_sub (M := MSR) (by decide +kernel) f1)), _, rfl, Or.inl ⟨by decide, n2, j2 + 1, y1, y2, s4, trivial, fun x => (y4 x).trans (w_c (e41.mp b28))⟩⟩
    · simp only [hs_cd, ab_not, kB_41] at b28
      refine hs_aload_n ci_1268_31 l0 ?_
      refine hs_gfr 0 3 ci_1268_32 (by decide +kernel) hp ?_
      refine hs_iconst ci_1268_35 ?_
      refine hs_cv 748 8 1 ci_1268_36 (by decide +kernel) (by decide +kernel) hp rfl (by rw [ml_748]; rfl) (k_fail (Int32.ofInt 1) s3.1) ?_
      rintro v9 h4 ⟨r4, e8, hr4, q4, f4, g8, g9⟩
      rw [e8]
      clear e8 v9
      replace hp := q4.1
      simp only [Option.toList, List.cons_append, List.nil_append]
      exact hs_k ⟨3, some (.int r4), by decide +kernel, rv_b rt_1268 (Or.inl hr4), (fr_sub (M := MSR) (by decide +kernel) f4).tr (f3.tr (fr_sub (M := MSR) (by decide +kernel) f1)), _, rfl, Or.inr ⟨hr4, q4, 1, ta j2, ⟨g8.trans kI_1, by rw [g9]; exact s3.pl⟩, fun x => (y4 x).trans (w_f y3 (fun _ => List.cons_ne_nil _ _) (fun z1 z2 => absurd (e41.mpr ⟨z1, z2⟩) b28))⟩⟩
  · simp only [hs_cd, ab_not] at b14
    refine hs_iconst ci_1268_17 ?_
    obtain ⟨q3, k, a, z1, z2⟩ : ab_hp h3 ∧ ∃ (k : Int) (a : Nat), flt h3 k a ∧ ∀ x, ssx tk ta ps false (true :: F) n (j + 1) x ↔ x = .inl (k, a) := by
      rcases hr3 with ⟨y, -⟩ | ⟨-, y⟩
      · omega
      · exact y
    exact hs_k ⟨3, some (.int (Int32.ofInt 0)), by decide +kernel, rv_b rt_1268 (Or.inl (by decide)), f3.tr (fr_sub (M := MSR) (by decide +kernel) f1), _, rfl, Or.inr ⟨by decide, q3, k, a, z1, z2⟩⟩
theorem k_rnot {sc : List Value} {sp D : Nat} {tk : Nat → tx_K} {ta : Nat → Nat} {m : Nat} {ps : PS} {F : List Bool} {y : Int32} (hO : ∀ (h : eg_H) (n j : Nat), n ≤ 20 → sr_S h tk ta m ps n j → mc sc sp 1260 6 D [.ref 120, .int (y + Int32.ofInt 1)] h (rq_P h tk ta m ps (false :: F) (dn F) n j (fun _ => True))) (h : eg_H) (n j : Nat) (hn20 : n ≤ 20) (s0 : sr_S h tk ta m ps n j) : mc sc sp 1272 6 (D + 1) [.ref 120, .int y] h (rq_P h tk ta m ps (false :: F) (dn F) n (j + 1) (fun _ => True)) := by
  have l0 : eg_find 0 (eg_args 0 [.ref 120, .int y]) = some (.ref 120) := rfl
  have l1 : eg_find 1 (eg_args 0 [.ref 120, .int y]) = some (.int y) := rfl
  have hp := s0.1.1
  unfold mc
  refine hs_aload_n ci_1272_0 l0 ?_
  refine hs_gfr 0 3 ci_1272_1 (by decide +kernel) hp ?_
  refine hs_cv 736 8 0 ci_1272_4 (by decide +kernel) (by decide +kernel) hp rfl (by rw [ml_736]; rfl) (k_adv s0.1 s0.2.2.1 s0.2.2.2.1) ?_
  rintro v9 h1 ⟨e8, q1, f1, c1⟩
  rw [e8]
  clear e8 v9
  replace hp := q1.1
  have s1 := s0.ad q1 f1 c1
  simp only [Option.toList, List.nil_append]
  refine hs_aload_n ci_1272_7 l0 ?_
  refine hs_iload_n ci_1272_8 l1 ?_
  refine hs_iconst ci_1272_9 ?_
  refine hs_iadd ci_1272_10 ?_
  refine hs_cv 1260 6 1 ci_1272_11 (by decide +kernel) (by decide +kernel) hp rfl (by rw [ml_1260]; rfl) (hO h1 n (j + 1) hn20 s1) ?_
  rintro v9 h3 ⟨f3, r3, e8, hr3⟩
  rw [e8]
  clear e8 v9
  simp only [Option.toList, List.cons_append, List.nil_append]
  refine hs_if (t := 19) ci_1272_14 rfl (fun b14 => ?_) (fun b14 => ?_)
  · simp only [hs_cd, ab_not] at b14
    obtain ⟨n2, j2, y1, y2, s3, y3, y4⟩ : ∃ n' j' : Nat, n < n' ∧ n' ≤ 20 ∧ sr_S h3 tk ta m ps n' j' ∧ (fun _ => True) (tk j') ∧ ∀ x, ssx tk ta ps false (false :: F) n (j + 1) x ↔ ssx tk ta ps true (dn F) n' j' x := by
      rcases hr3 with ⟨-, y⟩ | ⟨y, -⟩
      · exact y
      · omega
    replace hp := s3.1.1
    refine hs_aload_n ci_1272_19 l0 ?_
    refine hs_gfr 2 121 ci_1272_20 (by decide +kernel) hp ?_
    refine hs_sipush ci_1272_23 ?_
    refine hs_iconst ci_1272_26 ?_
    refine hs_iconst ci_1272_27 ?_
    refine hs_cv 1276 5 3 ci_1272_28 (by decide +kernel) (by decide +kernel) hp rfl (by rw [ml_1276]; rfl) (k_addS _ _ _ s3.1) ?_
    rintro v9 h4 ⟨e8, q4, f4⟩
    rw [e8]
    clear e8 v9
    replace hp := q4.1
    have s4 := s3.st q4 f4
    simp only [Option.toList, List.nil_append]
    refine hs_iconst ci_1272_31 ?_
    exact hs_k ⟨3, some (.int (Int32.ofInt 1)), by decide +kernel, rv_b rt_1272 (Or.inr (by decide)), (fr_sub (M := MSR) (by decide +kernel) f4).tr (f3.tr (fr_sub (M := MSR) (by decide +kernel) f1)), _, rfl, Or.inl ⟨by decide, n2, j2, y1, y2, s4, trivial, y4⟩⟩
  · simp only [hs_cd, ab_not] at b14
    refine hs_iconst ci_1272_17 ?_
    obtain ⟨q3, k, a, z1, z2⟩ : ab_hp h3 ∧ ∃ (k : Int) (a : Nat), flt h3 k a ∧ ∀ x, ssx tk ta ps false (false :: F) n (j + 1) x ↔ x = .inl (k, a) := by
      rcases hr3 with ⟨y, -⟩ | ⟨-, y⟩
      · omega
      · exact y
    exact hs_k ⟨3, some (.int (Int32.ofInt 0)), by decide +kernel, rv_b rt_1272 (Or.inl (by decide)), f3.tr (fr_sub (M := MSR) (by decide +kernel) f1), _, rfl, Or.inr ⟨by decide, q3, k, a, z1, z2⟩⟩
theorem k_rone {sc : List Value} {sp D : Nat} {tk : Nat → tx_K} {ta : Nat → Nat} {m : Nat} {ps : PS} {F : List Bool} {y : Int32} (hy : y.toInt = (F.length : Int) + 1) (hB : F.length < 8 → ∀ (h : eg_H) (n j : Nat), n ≤ 20 → sr_S h tk ta m ps n j → mc sc sp 1268 6 D [.ref 120, .int y] h (rq_P h tk ta m ps (true :: F) (dn F) n (j + 1) (fun _ => True))) (hN : F.length < 8 → ∀ (h : eg_H) (n j : Nat), n ≤ 20 → sr_S h tk ta m ps n j → mc sc sp 1272 6 D [.ref 120, .int y] h (rq_P h tk ta m ps (false :: F) (dn F) n (j + 1) (fun _ => True))) (hD : F.length < 8 → ∃ D2, D = D2 + 1 + 1) (h : eg_H) (n j : Nat) (hn20 : n ≤ 20) (s0 : sr_S h tk ta m ps n j) : mc sc sp 1260 6 (D + 1) [.ref 120, .int y] h (rq_P h tk ta m ps F (dn F) n j (fun _ => True)) := by
  have l0 : eg_find 0 (eg_args 0 [.ref 120, .int y]) = some (.ref 120) := rfl
  have l1 : eg_find 1 (eg_args 0 [.ref 120, .int y]) = some (.int y) := rfl
  have hp := s0.1.1
  have KD := one_k s0.cur s0.2.1
  have hones : (hv h 120 3).toInt = (n : Int) := s0.2.2.2.2.1
  unfold mc
  refine hs_aload_n ci_1260_0 l0 ?_
  refine hs_gfr 0 3 ci_1260_1 (by decide +kernel) hp ?_
  refine hs_gfi 7 ci_1260_4 (by decide +kernel) hp ?_
  refine hs_cs 1263 6 1 ci_1260_7 (by decide +kernel) rfl (by rw [ml_1263]; rfl) (k_beg (hv h 3 7)) ?_
  rintro v9 h9 ⟨e9, rB, e8, hrB⟩
  rw [e8, e9]
  clear e8 e9 v9 h9
  simp only [Option.toList, List.cons_append, List.nil_append]
  refine hs_if (t := 22) ci_1260_10 rfl (fun b10 => ?_) (fun b10 => ?_)
  · simp only [hs_cd, ab_not] at b10
    refine hs_aload_n ci_1260_22 l0 ?_
    refine hs_gfi 3 ci_1260_23 (by decide +kernel) hp ?_
    refine hs_bipush ci_1260_26 ?_
    refine hs_ic (t := 37) ci_1260_28 rfl (fun b28 => ?_) (fun b28 => ?_)
    · simp only [hs_cd, ab_not, kB_20] at b28
      refine hs_aload_n ci_1260_37 l0 ?_
      refine hs_gfr 0 3 ci_1260_38 (by decide +kernel) hp ?_
      refine hs_iconst ci_1260_41 ?_
      refine hs_cv 748 8 1 ci_1260_42 (by decide +kernel) (by decide +kernel) hp rfl (by rw [ml_748]; rfl) (k_fail (Int32.ofInt 4) s0.1) ?_
      rintro v9 h1 ⟨r1, e8, hr1, q1, f1, g8, g9⟩
      rw [e8]
      clear e8 v9
      replace hp := q1.1
      simp only [Option.toList, List.cons_append, List.nil_append]
      have hk0 : (hv h 3 7).toInt = 40 ∨ (212 ≤ (hv h 3 7).toInt ∧ (hv h 3 7).toInt ≤ 222) := by
        rcases hrB with ⟨-, z⟩ | ⟨z, -⟩
        · exact z
        · omega
      have kk0 : ss_k (tk j) ≠ 0 := by
        rcases KD with ⟨-, z⟩ | ⟨-, z⟩ | ⟨-, z⟩ | ⟨-, z⟩ | ⟨-, z⟩ | ⟨z, -⟩
        · omega
        · omega
        · omega
        · omega
        · omega
        · exact absurd hk0 z
      exact hs_k ⟨3, some (.int r1), by decide +kernel, rv_b rt_1260 (Or.inl hr1), fr_sub (M := MSR) (by decide +kernel) f1, r1, rfl, Or.inr ⟨hr1, q1, 4, ta j, ⟨g8.trans kI_4, by rw [g9]; exact s0.pl⟩, fun x => o_f kk0 (by omega)⟩⟩
    · simp only [hs_cd, ab_not, kB_20] at b28
      refine hs_iload_n ci_1260_31 l1 ?_
      refine hs_bipush ci_1260_32 ?_
      refine hs_ic (t := 46) ci_1260_34 rfl (fun b34 => ?_) (fun b34 => ?_)
      · simp only [hs_cd, ab_not, kB_8] at b34
        refine hs_aload_n ci_1260_46 l0 ?_
        refine hs_dup ci_1260_47 rfl ?_
        refine hs_gfi 3 ci_1260_48 (by decide +kernel) hp ?_
        refine hs_iconst ci_1260_51 ?_
        refine hs_iadd ci_1260_52 ?_
        refine hs_pfi 3 (-2147483648) (2147483647) ci_1260_53 (by decide +kernel) hp (ab_ige _) (ab_ile _) ?_
        intro h53 w53
        replace hp := w53.1
        have f53 : ab_fr MSR h53 h := w53.fr rfl
        have q53 : ab_hp h53 := ⟨hp, s0.1.2.fr (M := MSR) (by decide +kernel) f53⟩
        have s1 : sr_S h53 tk ta m ps (n + 1) j := s0.up f53 q53 (s0.2.2.2.1.fr (M := [(120, 3, 3)]) (w53.fr rfl) rfl rfl rfl rfl (fun _ => rfl)) (by rw [w53.v, if_pos ⟨rfl, rfl⟩]; exact i32_inc hones (by omega) (by omega))
        have e37 : hv h53 3 7 = hv h 3 7 := by rw [w53.v, if_neg (by omega)]
        have hn1 : n < 20 := by omega
        have hF8 : F.length < 8 := by omega
        obtain ⟨D2, hD2⟩ := hD hF8
        refine hs_aload_n ci_1260_56 l0 ?_
        refine hs_gfr 0 3 ci_1260_57 (by decide +kernel) hp ?_
        refine hs_gfi 7 ci_1260_60 (by decide +kernel) hp ?_
        rcases KD with ⟨kk, kk2⟩ | ⟨kk, kk2⟩ | ⟨kk, kk2⟩ | ⟨kk, kk2⟩ | ⟨kk, kk2⟩ | ⟨kk, kk2⟩
        · refine hs_lk (t := 128) ci_1260_63 (by decide +kernel) (by rw [e37, kk]; decide +kernel) ?_
          refine hs_aload_n ci_1260_128 l0 ?_
          refine hs_iload_n ci_1260_129 l1 ?_
          refine hs_cv 1268 6 1 ci_1260_130 (by decide +kernel) (by decide +kernel) hp rfl (by rw [ml_1268]; rfl) (hB hF8 h53 (n + 1) j (by omega) s1) ?_
          rintro v9 h2 ⟨f2, r2, e8, hr2⟩
          rw [e8]
          clear e8 v9
          simp only [Option.toList, List.cons_append, List.nil_append]
          rcases hr2 with ⟨z0, n2, j2, z1, z2, z3, -, z5⟩ | ⟨z0, z1, k, a, z2, z3⟩
          · exact hs_k ⟨3, some (.int r2), by decide +kernel, rv_b rt_1260 (Or.inr z0), f2.tr f53, r2, rfl, Or.inl ⟨z0, n2, j2, by omega, z2, z3, trivial, fun x => (o_1 kk2 hn1 hF8).trans (z5 x)⟩⟩
          · exact hs_k ⟨3, some (.int r2), by decide +kernel, rv_b rt_1260 (Or.inl z0), f2.tr f53, r2, rfl, Or.inr ⟨z0, z1, k, a, z2, fun x => (o_1 kk2 hn1 hF8).trans (z3 x)⟩⟩
        · refine hs_lk (t := 134) ci_1260_63 (by decide +kernel) (by rw [e37, kk]; decide +kernel) ?_
          refine hs_aload_n ci_1260_134 l0 ?_
          refine hs_iload_n ci_1260_135 l1 ?_
          refine hs_cv 1272 6 1 ci_1260_136 (by decide +kernel) (by decide +kernel) hp rfl (by rw [ml_1272]; rfl) (hN hF8 h53 (n + 1) j (by omega) s1) ?_
          rintro v9 h2 ⟨f2, r2, e8, hr2⟩
          rw [e8]
          clear e8 v9
          simp only [Option.toList, List.cons_append, List.nil_append]
          rcases hr2 with ⟨z0, n2, j2, z1, z2, z3, -, z5⟩ | ⟨z0, z1, k, a, z2, z3⟩
          · exact hs_k ⟨3, some (.int r2), by decide +kernel, rv_b rt_1260 (Or.inr z0), f2.tr f53, r2, rfl, Or.inl ⟨z0, n2, j2, by omega, z2, z3, trivial, fun x => (o_2 kk2 hn1 hF8).trans (z5 x)⟩⟩
          · exact hs_k ⟨3, some (.int r2), by decide +kernel, rv_b rt_1260 (Or.inl z0), f2.tr f53, r2, rfl, Or.inr ⟨z0, z1, k, a, z2, fun x => (o_2 kk2 hn1 hF8).trans (z3 x)⟩⟩
        · subst hD2
          rcases kk with kk | kk | kk | kk | kk
          · refine hs_lk (t := 164) ci_1260_63 (by decide +kernel) (by rw [e37, kk]; decide +kernel) ?_
            refine hs_aload_n ci_1260_164 l0 ?_
            refine hs_aload_n ci_1260_165 l0 ?_
            refine hs_gfr 0 3 ci_1260_166 (by decide +kernel) hp ?_
            refine hs_gfi 7 ci_1260_169 (by decide +kernel) hp ?_
            refine hs_cv 1293 6 1 ci_1260_172 (by decide +kernel) (by decide +kernel) hp rfl (by rw [ml_1293]; rfl) (k_rst _ s1) ?_
            rintro v9 h2 ⟨f2, r2, e8, hr2⟩
            rw [e8]
            clear e8 v9
            simp only [Option.toList, List.cons_append, List.nil_append]
            obtain ⟨z0, z1⟩ := hr2
            exact hs_k ⟨3, some (.int r2), by decide +kernel, rv_b rt_1260 (Or.inr z0), f2.tr f53, r2, rfl, Or.inl ⟨z0, n + 1, j + 1, by omega, by omega, z1, trivial, fun x => o_3 kk2 hn1 hF8⟩⟩
          · refine hs_lk (t := 164) ci_1260_63 (by decide +kernel) (by rw [e37, kk]; decide +kernel) ?_
            refine hs_aload_n ci_1260_164 l0 ?_
            refine hs_aload_n ci_1260_165 l0 ?_
            refine hs_gfr 0 3 ci_1260_166 (by decide +kernel) hp ?_
            refine hs_gfi 7 ci_1260_169 (by decide +kernel) hp ?_
            refine hs_cv 1293 6 1 ci_1260_172 (by decide +kernel) (by decide +kernel) hp rfl (by rw [ml_1293]; rfl) (k_rst _ s1) ?_
            rintro v9 h2 ⟨f2, r2, e8, hr2⟩
            rw [e8]
            clear e8 v9
            simp only [Option.toList, List.cons_append, List.nil_append]
            obtain ⟨z0, z1⟩ := hr2
            exact hs_k ⟨3, some (.int r2), by decide +kernel, rv_b rt_1260 (Or.inr z0), f2.tr f53, r2, rfl, Or.inl ⟨z0, n + 1, j + 1, by omega, by omega, z1, trivial, fun x => o_3 kk2 hn1 hF8⟩⟩
          · refine hs_lk (t := 164) ci_1260_63 (by decide +kernel) (by rw [e37, kk]; decide +kernel) ?_
            refine hs_aload_n ci_1260_164 l0 ?_
            refine hs_aload_n ci_1260_165 l0 ?_
            refine hs_gfr 0 3 ci_1260_166 (by decide +kernel) hp ?_
            refine hs_gfi 7 ci_1260_169 (by decide +kernel) hp ?_
            refine hs_cv 1293 6 1 ci_1260_172 (by decide +kernel) (by decide +kernel) hp rfl (by rw [ml_1293]; rfl) (k_rst _ s1) ?_
            rintro v9 h2 ⟨f2, r2, e8, hr2⟩
            rw [e8]
            clear e8 v9
            simp only [Option.toList, List.cons_append, List.nil_append]
            obtain ⟨z0, z1⟩ := hr2
            exact hs_k ⟨3, some (.int r2), by decide +kernel, rv_b rt_1260 (Or.inr z0), f2.tr f53, r2, rfl, Or.inl ⟨z0, n + 1, j + 1, by omega, by omega, z1, trivial, fun x => o_3 kk2 hn1 hF8⟩⟩
          · refine hs_lk (t := 164) ci_1260_63 (by decide +kernel) (by rw [e37, kk]; decide +kernel) ?_
            refine hs_aload_n ci_1260_164 l0 ?_
            refine hs_aload_n ci_1260_165 l0 ?_
            refine hs_gfr 0 3 ci_1260_166 (by decide +kernel) hp ?_
            refine hs_gfi 7 ci_1260_169 (by decide +kernel) hp ?_
            refine hs_cv 1293 6 1 ci_1260_172 (by decide +kernel) (by decide +kernel) hp rfl (by rw [ml_1293]; rfl) (k_rst _ s1) ?_
            rintro v9 h2 ⟨f2, r2, e8, hr2⟩
            rw [e8]
            clear e8 v9
            simp only [Option.toList, List.cons_append, List.nil_append]
            obtain ⟨z0, z1⟩ := hr2
            exact hs_k ⟨3, some (.int r2), by decide +kernel, rv_b rt_1260 (Or.inr z0), f2.tr f53, r2, rfl, Or.inl ⟨z0, n + 1, j + 1, by omega, by omega, z1, trivial, fun x => o_3 kk2 hn1 hF8⟩⟩
          · refine hs_lk (t := 164) ci_1260_63 (by decide +kernel) (by rw [e37, kk]; decide +kernel) ?_
            refine hs_aload_n ci_1260_164 l0 ?_
            refine hs_aload_n ci_1260_165 l0 ?_
            refine hs_gfr 0 3 ci_1260_166 (by decide +kernel) hp ?_
            refine hs_gfi 7 ci_1260_169 (by decide +kernel) hp ?_
            refine hs_cv 1293 6 1 ci_1260_172 (by decide +kernel) (by decide +kernel) hp rfl (by rw [ml_1293]; rfl) (k_rst _ s1) ?_
            rintro v9 h2 ⟨f2, r2, e8, hr2⟩
            rw [e8]
            clear e8 v9
            simp only [Option.toList, List.cons_append, List.nil_append]
            obtain ⟨z0, z1⟩ := hr2
            exact hs_k ⟨3, some (.int r2), by decide +kernel, rv_b rt_1260 (Or.inr z0), f2.tr f53, r2, rfl, Or.inl ⟨z0, n + 1, j + 1, by omega, by omega, z1, trivial, fun x => o_3 kk2 hn1 hF8⟩⟩
        · subst hD2
          rcases kk with kk | kk
          · refine hs_lk (t := 140) ci_1260_63 (by decide +kernel) (by rw [e37, kk]; decide +kernel) ?_
            refine hs_aload_n ci_1260_140 l0 ?_
            refine hs_aload_n ci_1260_141 l0 ?_
            refine hs_gfr 0 3 ci_1260_142 (by decide +kernel) hp ?_
            refine hs_gfi 7 ci_1260_145 (by decide +kernel) hp ?_
            refine hs_cv 1280 6 1 ci_1260_148 (by decide +kernel) (by decide +kernel) hp rfl (by rw [ml_1280]; rfl) (k_rman _ s1) ?_
            rintro v9 h2 ⟨f2, r2, e8, hr2⟩
            rw [e8]
            clear e8 v9
            simp only [Option.toList, List.cons_append, List.nil_append]
            rcases hr2 with ⟨v, z0, z1, z2⟩ | ⟨k, a, z0, z1, z2, z3⟩
            · exact hs_k ⟨3, some (.int r2), by decide +kernel, rv_b rt_1260 (Or.inr z1), f2.tr f53, r2, rfl, Or.inl ⟨z1, n + 1, j + 2, by omega, by omega, z2, trivial, fun x => o_4 kk2 hn1 hF8 z0⟩⟩
            · exact hs_k ⟨3, some (.int r2), by decide +kernel, rv_b rt_1260 (Or.inl z1), f2.tr f53, r2, rfl, Or.inr ⟨z1, z2, k, a, z3, fun x => o_4e kk2 hn1 hF8 z0⟩⟩
          · refine hs_lk (t := 140) ci_1260_63 (by decide +kernel) (by rw [e37, kk]; decide +kernel) ?_
            refine hs_aload_n ci_1260_140 l0 ?_
            refine hs_aload_n ci_1260_141 l0 ?_
            refine hs_gfr 0 3 ci_1260_142 (by decide +kernel) hp ?_
            refine hs_gfi 7 ci_1260_145 (by decide +kernel) hp ?_
            refine hs_cv 1280 6 1 ci_1260_148 (by decide +kernel) (by decide +kernel) hp rfl (by rw [ml_1280]; rfl) (k_rman _ s1) ?_
            rintro v9 h2 ⟨f2, r2, e8, hr2⟩
            rw [e8]
            clear e8 v9
            simp only [Option.toList, List.cons_append, List.nil_append]
            rcases hr2 with ⟨v, z0, z1, z2⟩ | ⟨k, a, z0, z1, z2, z3⟩
            · exact hs_k ⟨3, some (.int r2), by decide +kernel, rv_b rt_1260 (Or.inr z1), f2.tr f53, r2, rfl, Or.inl ⟨z1, n + 1, j + 2, by omega, by omega, z2, trivial, fun x => o_4 kk2 hn1 hF8 z0⟩⟩
            · exact hs_k ⟨3, some (.int r2), by decide +kernel, rv_b rt_1260 (Or.inl z1), f2.tr f53, r2, rfl, Or.inr ⟨z1, z2, k, a, z3, fun x => o_4e kk2 hn1 hF8 z0⟩⟩
        · subst hD2
          rcases kk with kk | kk | kk
          · refine hs_lk (t := 152) ci_1260_63 (by decide +kernel) (by rw [e37, kk]; decide +kernel) ?_
            refine hs_aload_n ci_1260_152 l0 ?_
            refine hs_aload_n ci_1260_153 l0 ?_
            refine hs_gfr 0 3 ci_1260_154 (by decide +kernel) hp ?_
            refine hs_gfi 7 ci_1260_157 (by decide +kernel) hp ?_
            refine hs_cv 1287 6 1 ci_1260_160 (by decide +kernel) (by decide +kernel) hp rfl (by rw [ml_1287]; rfl) (k_rmea _ s1) ?_
            rintro v9 h2 ⟨f2, r2, e8, hr2⟩
            rw [e8]
            clear e8 v9
            simp only [Option.toList, List.cons_append, List.nil_append]
            rcases hr2 with ⟨z9, v, z0, z1, z2⟩ | ⟨z9, k, a, z0, z1, z2, z3⟩ | ⟨z9, z1, z2, z3⟩
            · exact hs_k ⟨3, some (.int r2), by decide +kernel, rv_b rt_1260 (Or.inr z1), f2.tr f53, r2, rfl, Or.inl ⟨z1, n + 1, j + 3, by omega, by omega, z2, trivial, fun x => o_5 kk2 hn1 hF8 z9 z0⟩⟩
            · exact hs_k ⟨3, some (.int r2), by decide +kernel, rv_b rt_1260 (Or.inl z1), f2.tr f53, r2, rfl, Or.inr ⟨z1, z2, k, a, z3, fun x => o_5e kk2 hn1 hF8 z9 z0⟩⟩
            · exact hs_k ⟨3, some (.int r2), by decide +kernel, rv_b rt_1260 (Or.inl z1), f2.tr f53, r2, rfl, Or.inr ⟨z1, z2, 1, ta (j + 1), z3, fun x => o_5s kk2 hn1 hF8 z9⟩⟩
          · refine hs_lk (t := 152) ci_1260_63 (by decide +kernel) (by rw [e37, kk]; decide +kernel) ?_
            refine hs_aload_n ci_1260_152 l0 ?_
            refine hs_aload_n ci_1260_153 l0 ?_
            refine hs_gfr 0 3 ci_1260_154 (by decide +kernel) hp ?_
            refine hs_gfi 7 ci_1260_157 (by decide +kernel) hp ?_
            refine hs_cv 1287 6 1 ci_1260_160 (by decide +kernel) (by decide +kernel) hp rfl (by rw [ml_1287]; rfl) (k_rmea _ s1) ?_
            rintro v9 h2 ⟨f2, r2, e8, hr2⟩
            rw [e8]
            clear e8 v9
            simp only [Option.toList, List.cons_append, List.nil_append]
            rcases hr2 with ⟨z9, v, z0, z1, z2⟩ | ⟨z9, k, a, z0, z1, z2, z3⟩ | ⟨z9, z1, z2, z3⟩
            · exact hs_k ⟨3, some (.int r2), by decide +kernel, rv_b rt_1260 (Or.inr z1), f2.tr f53, r2, rfl, Or.inl ⟨z1, n + 1, j + 3, by omega, by omega, z2, trivial, fun x => o_5 kk2 hn1 hF8 z9 z0⟩⟩
            · exact hs_k ⟨3, some (.int r2), by decide +kernel, rv_b rt_1260 (Or.inl z1), f2.tr f53, r2, rfl, Or.inr ⟨z1, z2, k, a, z3, fun x => o_5e kk2 hn1 hF8 z9 z0⟩⟩
            · exact hs_k ⟨3, some (.int r2), by decide +kernel, rv_b rt_1260 (Or.inl z1), f2.tr f53, r2, rfl, Or.inr ⟨z1, z2, 1, ta (j + 1), z3, fun x => o_5s kk2 hn1 hF8 z9⟩⟩
          · refine hs_lk (t := 152) ci_1260_63 (by decide +kernel) (by rw [e37, kk]; decide +kernel) ?_
            refine hs_aload_n ci_1260_152 l0 ?_
            refine hs_aload_n ci_1260_153 l0 ?_
            refine hs_gfr 0 3 ci_1260_154 (by decide +kernel) hp ?_
            refine hs_gfi 7 ci_1260_157 (by decide +kernel) hp ?_
            refine hs_cv 1287 6 1 ci_1260_160 (by decide +kernel) (by decide +kernel) hp rfl (by rw [ml_1287]; rfl) (k_rmea _ s1) ?_
            rintro v9 h2 ⟨f2, r2, e8, hr2⟩
            rw [e8]
            clear e8 v9
            simp only [Option.toList, List.cons_append, List.nil_append]
            rcases hr2 with ⟨z9, v, z0, z1, z2⟩ | ⟨z9, k, a, z0, z1, z2, z3⟩ | ⟨z9, z1, z2, z3⟩
            · exact hs_k ⟨3, some (.int r2), by decide +kernel, rv_b rt_1260 (Or.inr z1), f2.tr f53, r2, rfl, Or.inl ⟨z1, n + 1, j + 3, by omega, by omega, z2, trivial, fun x => o_5 kk2 hn1 hF8 z9 z0⟩⟩
            · exact hs_k ⟨3, some (.int r2), by decide +kernel, rv_b rt_1260 (Or.inl z1), f2.tr f53, r2, rfl, Or.inr ⟨z1, z2, k, a, z3, fun x => o_5e kk2 hn1 hF8 z9 z0⟩⟩
            · exact hs_k ⟨3, some (.int r2), by decide +kernel, rv_b rt_1260 (Or.inl z1), f2.tr f53, r2, rfl, Or.inr ⟨z1, z2, 1, ta (j + 1), z3, fun x => o_5s kk2 hn1 hF8 z9⟩⟩
        · exact absurd (show (hv h 3 7).toInt = 40 ∨ (212 ≤ (hv h 3 7).toInt ∧ (hv h 3 7).toInt ≤ 222) by
            rcases hrB with ⟨-, z⟩ | ⟨z, -⟩
            · exact z
            · omega) kk
      · simp only [hs_cd, ab_not, kB_8] at b34
        refine hs_aload_n ci_1260_37 l0 ?_
        refine hs_gfr 0 3 ci_1260_38 (by decide +kernel) hp ?_
        refine hs_iconst ci_1260_41 ?_
        refine hs_cv 748 8 1 ci_1260_42 (by decide +kernel) (by decide +kernel) hp rfl (by rw [ml_748]; rfl) (k_fail (Int32.ofInt 4) s0.1) ?_
        rintro v9 h1 ⟨r1, e8, hr1, q1, f1, g8, g9⟩
        rw [e8]
        clear e8 v9
        replace hp := q1.1
        simp only [Option.toList, List.cons_append, List.nil_append]
        have hk0 : (hv h 3 7).toInt = 40 ∨ (212 ≤ (hv h 3 7).toInt ∧ (hv h 3 7).toInt ≤ 222) := by
          rcases hrB with ⟨-, z⟩ | ⟨z, -⟩
          · exact z
          · omega
        have kk0 : ss_k (tk j) ≠ 0 := by
          rcases KD with ⟨-, z⟩ | ⟨-, z⟩ | ⟨-, z⟩ | ⟨-, z⟩ | ⟨-, z⟩ | ⟨z, -⟩
          · omega
          · omega
          · omega
          · omega
          · omega
          · exact absurd hk0 z
        exact hs_k ⟨3, some (.int r1), by decide +kernel, rv_b rt_1260 (Or.inl hr1), fr_sub (M := MSR) (by decide +kernel) f1, r1, rfl, Or.inr ⟨hr1, q1, 4, ta j, ⟨g8.trans kI_4, by rw [g9]; exact s0.pl⟩, fun x => o_f kk0 (by omega)⟩⟩
  · simp only [hs_cd, ab_not] at b10
    refine hs_aload_n ci_1260_13 l0 ?_
    refine hs_gfr 0 3 ci_1260_14 (by decide +kernel) hp ?_
    refine hs_iconst ci_1260_17 ?_
    refine hs_cv 748 8 1 ci_1260_18 (by decide +kernel) (by decide +kernel) hp rfl (by rw [ml_748]; rfl) (k_fail (Int32.ofInt 1) s0.1) ?_
    rintro v9 h1 ⟨r1, e8, hr1, q1, f1, g8, g9⟩
    rw [e8]
    clear e8 v9
    replace hp := q1.1
    simp only [Option.toList, List.cons_append, List.nil_append]
    have hk0 : ¬ ((hv h 3 7).toInt = 40 ∨ (212 ≤ (hv h 3 7).toInt ∧ (hv h 3 7).toInt ≤ 222)) := by
      rcases hrB with ⟨z, -⟩ | ⟨-, z⟩
      · omega
      · exact z
    have kk0 : ss_k (tk j) = 0 := by
      rcases KD with ⟨z, -⟩ | ⟨z, -⟩ | ⟨z, -⟩ | ⟨z, -⟩ | ⟨z, -⟩ | ⟨-, z⟩
      · omega
      · omega
      · omega
      · omega
      · omega
      · exact z
    exact hs_k ⟨3, some (.int r1), by decide +kernel, rv_b rt_1260 (Or.inl hr1), fr_sub (M := MSR) (by decide +kernel) f1, r1, rfl, Or.inr ⟨hr1, q1, 1, ta j, ⟨g8.trans kI_1, by rw [g9]; exact s0.pl⟩, fun x => o_0 kk0⟩⟩
/-- how deep the calls go -/
def nd : Nat → Nat
  | 0 => 1
  | g + 1 => nd g + 4
theorem k_one {sc : List Value} {sp : Nat} {tk : Nat → tx_K} {ta : Nat → Nat} {m : Nat} {ps : PS} : ∀ (g : Nat) (F : List Bool) (D : Nat) (y : Int32), F.length + g = 8 → nd g ≤ D → y.toInt = (F.length : Int) + 1 → ∀ (h : eg_H) (n j : Nat), n ≤ 20 → sr_S h tk ta m ps n j → mc sc sp 1260 6 D [.ref 120, .int y] h (rq_P h tk ta m ps F (dn F) n j (fun _ => True)) := by
  intro g
  induction g with
  | zero =>
    intro F D y hF hD hy
    obtain ⟨E, rfl⟩ : ∃ E, D = E + 1 := ⟨D - 1, by have : nd 0 = 1 := rfl; omega⟩
    exact k_rone hy (fun z => absurd z (by omega)) (fun z => absurd z (by omega)) (fun z => absurd z (by omega))
  | succ g ih =>
    intro F D y hF hD hy
    have hnd : nd (g + 1) = nd g + 4 := rfl
    obtain ⟨E, rfl⟩ : ∃ E, D = E + 1 + 1 + 1 + 1 := ⟨D - 4, by omega⟩
    have hy1 : (y + Int32.ofInt 1).toInt = ((F.length + 1 : Nat) : Int) + 1 := by
      rw [i32_inc hy (by omega) (by omega)]
      omega
    have hO : ∀ (b : Bool) (h : eg_H) (n j : Nat), n ≤ 20 → sr_S h tk ta m ps n j → mc sc sp 1260 6 E [.ref 120, .int (y + Int32.ofInt 1)] h (rq_P h tk ta m ps (b :: F) (dn (b :: F)) n j (fun _ => True)) := fun b => ih (b :: F) E _ (by show F.length + 1 + g = 8; omega) (by omega) hy1
    have hO2 : ∀ (h : eg_H) (n j : Nat), n ≤ 20 → sr_S h tk ta m ps n j → mc sc sp 1260 6 (E + 1 + 1) [.ref 120, .int (y + Int32.ofInt 1)] h (rq_P h tk ta m ps (false :: F) (dn F) n j (fun _ => True)) := ih (false :: F) (E + 1 + 1) _ (by show F.length + 1 + g = 8; omega) (by omega) hy1
    exact k_rone hy (fun _ => k_rbr (k_rcond (k_rall rfl (hO true)))) (fun _ => k_rnot hO2) (fun _ => ⟨E + 1, rfl⟩)
/-- what the reader comes to -/
def sd_P (h : eg_H) (tk : Nat → tx_K) (ta : Nat → Nat) (ps : PS) (vo : Option Value) (h' : eg_H) : Prop := ab_hp h' ∧ ab_fr MSR h' h ∧ ∃ r : Int32, vo = some (.int r) ∧ ((r.toInt = 1 ∧ ∃ n : Nat, (hv h' 120 3).toInt = (n : Int) ∧ n ≤ 20 ∧ ∀ x, ssx tk ta ps false [] 0 0 x ↔ x = .inr n) ∨ (r.toInt = 0 ∧ ∃ (k : Int) (a : Nat), flt h' k a ∧ ∀ x, ssx tk ta ps false [] 0 0 x ↔ x = .inl (k, a)))
theorem k_srd {sc : List Value} {sp d : Nat} {h : eg_H} {tk : Nat → tx_K} {ta : Nat → Nat} {m : Nat} {ps : PS} (hq : ab_hp h) (hk : kwok h) (hr : ro h tk ta m) (hc : cu h tk ta m 0) (hL : LN h ps) : mc sc sp 1246 6 (d + 33 + 1 + 1 + 1) [.ref 120] h (sd_P h tk ta ps) := by
  have l0 : eg_find 0 (eg_args 0 [.ref 120]) = some (.ref 120) := rfl
  have hp := hq.1
  have hC : ∀ (h : eg_H) (n j : Nat), n ≤ 20 → sr_S h tk ta m ps n j → mc sc sp 1252 6 (d + 33 + 1 + 1) [.ref 120, .int (Int32.ofInt 1)] h (rq_P h tk ta m ps [] [] n j (fun t => ¬ (4 ≤ t.1 ∧ (t.2.1 = 1111 ∨ t.2.1 = 423)))) := k_rcond (k_rall rfl (k_one 8 [] (d + 33) (Int32.ofInt 1) rfl (by have h33 : nd 8 = 33 := rfl; omega) (by decide)))
  unfold mc
  refine hs_aload_n ci_1246_0 l0 ?_
  refine hs_gfr 2 121 ci_1246_1 (by decide +kernel) hp ?_
  refine hs_cv 843 5 0 ci_1246_4 (by decide +kernel) (by decide +kernel) hp rfl (by rw [ml_843]; rfl) (k_sf2 hq) ?_
  rintro v9 h1 ⟨e8, q1, f1⟩
  rw [e8]
  clear e8 v9
  replace hp := q1.1
  simp only [Option.toList, List.nil_append]
  refine hs_aload_n ci_1246_7 l0 ?_
  refine hs_iconst ci_1246_8 ?_
  refine hs_pfi 3 (-2147483648) (2147483647) ci_1246_9 (by decide +kernel) hp (by decide) (by decide) ?_
  intro h9 w9
  replace hp := w9.1
  have f9 : ab_fr [(120, 3, 3)] h9 h1 := w9.fr rfl
  have F9 : ab_fr MSR h9 h := (fr_sub (M := MSR) (by decide +kernel) f9).tr (fr_sub (M := MSR) (by decide +kernel) f1)
  have q9a : ab_hp h9 := ⟨hp, q1.2.fr (M := [(120, 3, 3)]) (by decide +kernel) f9⟩
  have c9 : cu h9 tk ta m 0 := (hc.fr f1 rfl rfl rfl rfl (fun _ => rfl)).fr f9 rfl rfl rfl rfl (fun _ => rfl)
  have k9 : kwok h9 := hk.fr F9 (fun _ => rfl)
  have r9 : ro h9 tk ta m := by
    obtain ⟨r1, r2, r3, r4, r5⟩ := hr
    exact ⟨r1, r2, by rw [hv_same (F9 3 5 rfl)]; exact r3, fun t ht => (r4 t ht).same (F9 5 t rfl) (F9 6 t rfl) (F9 7 t rfl) (fun k => hl_same (F9 4 k rfl)), r5⟩
  have o9 : (hv h9 120 3).toInt = ((0 : Nat) : Int) := by rw [w9.v, if_pos ⟨rfl, rfl⟩]; exact kI_0
  refine hs_aload_n ci_1246_12 l0 ?_
  refine hs_gfr 0 3 ci_1246_13 (by decide +kernel) hp ?_
  refine hs_cv 736 8 0 ci_1246_16 (by decide +kernel) (by decide +kernel) hp rfl (by rw [ml_736]; rfl) (k_adv q9a r9 c9) ?_
  rintro v9 h2 ⟨e8, q2, f2, c2⟩
  rw [e8]
  clear e8 v9
  replace hp := q2.1
  have F2 : ab_fr MSR h2 h := (fr_sub (M := MSR) (by decide +kernel) f2).tr F9
  have s2 : sr_S h2 tk ta m ps 0 0 := ⟨q2, k9.fr f2 (fun _ => rfl), by
    obtain ⟨r1, r2, r3, r4, r5⟩ := r9
    exact ⟨r1, r2, by rw [hv_same (f2 3 5 rfl)]; exact r3, fun t ht => (r4 t ht).same (f2 5 t rfl) (f2 6 t rfl) (f2 7 t rfl) (fun k => hl_same (f2 4 k rfl)), r5⟩, c2, by rw [hv_same (f2 120 3 rfl)]; exact o9, by rw [hv_same (F2 8 4 rfl)]; exact hL.1, fun q hq => by rw [hl_same (F2 9 q rfl)]; exact hL.2 q hq⟩
  simp only [Option.toList, List.nil_append]
  refine hs_aload_n ci_1246_19 l0 ?_
  refine hs_iconst ci_1246_20 ?_
  refine hs_cv 1252 6 1 ci_1246_21 (by decide +kernel) (by decide +kernel) hp rfl (by rw [ml_1252]; rfl) (hC h2 0 0 (by decide) s2) ?_
  rintro v9 h3 ⟨f3, r3, e8, hr3⟩
  rw [e8]
  clear e8 v9
  simp only [Option.toList, List.cons_append, List.nil_append]
  refine hs_if (t := 29) ci_1246_24 rfl (fun b24 => ?_) (fun b24 => ?_)
  · simp only [hs_cd, ab_not] at b24
    obtain ⟨n2, j2, y1, y2, s3, y3, y4⟩ : ∃ n' j' : Nat, 0 < n' ∧ n' ≤ 20 ∧ sr_S h3 tk ta m ps n' j' ∧ (fun t => ¬ (4 ≤ t.1 ∧ (t.2.1 = 1111 ∨ t.2.1 = 423))) (tk j') ∧ ∀ x, ssx tk ta ps false [] 0 0 x ↔ ssx tk ta ps true [] n' j' x := by
      rcases hr3 with ⟨-, y⟩ | ⟨y, -⟩
      · exact y
      · omega
    replace hp := s3.1.1
    have e0 := (cur_k s3.cur s3.2.1).1
    refine hs_aload_n ci_1246_29 l0 ?_
    refine hs_gfr 0 3 ci_1246_30 (by decide +kernel) hp ?_
    refine hs_gfi 7 ci_1246_33 (by decide +kernel) hp ?_
    refine hs_if (t := 50) ci_1246_36 rfl (fun b36 => ?_) (fun b36 => ?_)
    · simp only [hs_cd, ab_not] at b36
      refine hs_iconst ci_1246_50 ?_
      refine hs_goto (t := 55) ci_1246_51 rfl ?_
      exact hs_k ⟨3, some (.int (Int32.ofInt 1)), by decide +kernel, rv_b rt_1246 (Or.inr (by decide)), s3.1, f3.tr F2, _, rfl, Or.inl ⟨by decide, n2, s3.2.2.2.2.1, y2, fun x => (y4 x).trans (w_e (e0.mp b36))⟩⟩
    · simp only [hs_cd, ab_not] at b36
      refine hs_aload_n ci_1246_39 l0 ?_
      refine hs_gfr 0 3 ci_1246_40 (by decide +kernel) hp ?_
      refine hs_iconst ci_1246_43 ?_
      refine hs_cv 748 8 1 ci_1246_44 (by decide +kernel) (by decide +kernel) hp rfl (by rw [ml_748]; rfl) (k_fail (Int32.ofInt 1) s3.1) ?_
      rintro v9 h4 ⟨r4, e8, hr4, q4, f4, g8, g9⟩
      rw [e8]
      clear e8 v9
      replace hp := q4.1
      simp only [Option.toList, List.cons_append, List.nil_append]
      refine hs_if (t := 54) ci_1246_47 rfl (fun b47 => ?_) (fun b47 => ?_)
      · simp only [hs_cd, ab_not] at b47
        refine hs_iconst ci_1246_54 ?_
        exact hs_k ⟨3, some (.int (Int32.ofInt 0)), by decide +kernel, rv_b rt_1246 (Or.inl (by decide)), q4, (fr_sub (M := MSR) (by decide +kernel) f4).tr (f3.tr F2), _, rfl, Or.inr ⟨by decide, 1, ta j2, ⟨g8.trans kI_1, by rw [g9]; exact s3.pl⟩, fun x => (y4 x).trans (w_f y3 (fun z => absurd (e0.mpr z) b36) (fun _ _ => rfl))⟩⟩
      · simp only [hs_cd, ab_not] at b47
        omega
  · simp only [hs_cd, ab_not] at b24
    refine hs_iconst ci_1246_27 ?_
    obtain ⟨q3, k, a, z1, z2⟩ : ab_hp h3 ∧ ∃ (k : Int) (a : Nat), flt h3 k a ∧ ∀ x, ssx tk ta ps false [] 0 0 x ↔ x = .inl (k, a) := by
      rcases hr3 with ⟨y, -⟩ | ⟨-, y⟩
      · omega
      · exact y
    exact hs_k ⟨3, some (.int (Int32.ofInt 0)), by decide +kernel, rv_b rt_1246 (Or.inl (by decide)), q3, f3.tr F2, _, rfl, Or.inr ⟨by decide, k, a, z1, z2⟩⟩
