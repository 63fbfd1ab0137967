/-! BY HAND: the reference's draft: names, cells -/
theorem ci_1680_0 : ab_at 1680 0 (.aload_n 0) 1 = true := by decide +kernel
theorem ci_1680_1 : ab_at 1680 1 (.getfield 212) 3 = true := by decide +kernel
theorem ci_1680_4 : ab_at 1680 4 (.iload_n 1) 1 = true := by decide +kernel
theorem ci_1680_5 : ab_at 1680 5 (.invokestatic 215) 3 = true := by decide +kernel
theorem ci_1680_8 : ab_at 1680 8 (.ifCond .eq 9) 3 = true := by decide +kernel
theorem ci_1680_11 : ab_at 1680 11 (.aload_n 0) 1 = true := by decide +kernel
theorem ci_1680_12 : ab_at 1680 12 (.iconst 3) 1 = true := by decide +kernel
theorem ci_1680_13 : ab_at 1680 13 (.invokevirtual 184) 3 = true := by decide +kernel
theorem ci_1680_17 : ab_at 1680 17 (.aload_n 0) 1 = true := by decide +kernel
theorem ci_1680_18 : ab_at 1680 18 (.dup) 1 = true := by decide +kernel
theorem ci_1680_19 : ab_at 1680 19 (.getfield 212) 3 = true := by decide +kernel
theorem ci_1680_22 : ab_at 1680 22 (.iconst 1) 1 = true := by decide +kernel
theorem ci_1680_23 : ab_at 1680 23 (.iload_n 1) 1 = true := by decide +kernel
theorem ci_1680_24 : ab_at 1680 24 (.ishl) 1 = true := by decide +kernel
theorem ci_1680_25 : ab_at 1680 25 (.ior) 1 = true := by decide +kernel
theorem ci_1680_26 : ab_at 1680 26 (.putfield 212) 3 = true := by decide +kernel
theorem ci_1680_29 : ab_at 1680 29 (.aload_n 0) 1 = true := by decide +kernel
theorem ci_1680_30 : ab_at 1680 30 (.invokevirtual 187) 3 = true := by decide +kernel
theorem ci_1680_33 : ab_at 1680 33 (.iconst 1) 1 = true := by decide +kernel
theorem ci_1702_0 : ab_at 1702 0 (.aload_n 0) 1 = true := by decide +kernel
theorem ci_1702_1 : ab_at 1702 1 (.invokevirtual 201) 3 = true := by decide +kernel
theorem ci_1702_4 : ab_at 1702 4 (.ifCond .ne 9) 3 = true := by decide +kernel
theorem ci_1702_7 : ab_at 1702 7 (.aload_n 0) 1 = true := by decide +kernel
theorem ci_1702_8 : ab_at 1702 8 (.iconst 1) 1 = true := by decide +kernel
theorem ci_1702_9 : ab_at 1702 9 (.invokevirtual 184) 3 = true := by decide +kernel
theorem ci_1702_13 : ab_at 1702 13 (.aload_n 0) 1 = true := by decide +kernel
theorem ci_1702_14 : ab_at 1702 14 (.bipush 16) 2 = true := by decide +kernel
theorem ci_1702_16 : ab_at 1702 16 (.aload_n 0) 1 = true := by decide +kernel
theorem ci_1702_17 : ab_at 1702 17 (.getfield 37) 3 = true := by decide +kernel
theorem ci_1702_20 : ab_at 1702 20 (.iconst 0) 1 = true := by decide +kernel
theorem ci_1702_21 : ab_at 1702 21 (.iaload) 1 = true := by decide +kernel
theorem ci_1702_22 : ab_at 1702 22 (.invokevirtual 205) 3 = true := by decide +kernel
theorem ci_1702_25 : ab_at 1702 25 (.ifCond .ge 18) 3 = true := by decide +kernel
theorem ci_1702_28 : ab_at 1702 28 (.aload_n 0) 1 = true := by decide +kernel
theorem ci_1702_29 : ab_at 1702 29 (.bipush 22) 2 = true := by decide +kernel
theorem ci_1702_31 : ab_at 1702 31 (.aload_n 0) 1 = true := by decide +kernel
theorem ci_1702_32 : ab_at 1702 32 (.getfield 37) 3 = true := by decide +kernel
theorem ci_1702_35 : ab_at 1702 35 (.iconst 1) 1 = true := by decide +kernel
theorem ci_1702_36 : ab_at 1702 36 (.iaload) 1 = true := by decide +kernel
theorem ci_1702_37 : ab_at 1702 37 (.invokevirtual 205) 3 = true := by decide +kernel
theorem ci_1702_40 : ab_at 1702 40 (.ifCond .lt 9) 3 = true := by decide +kernel
theorem ci_1702_43 : ab_at 1702 43 (.aload_n 0) 1 = true := by decide +kernel
theorem ci_1702_44 : ab_at 1702 44 (.iconst 3) 1 = true := by decide +kernel
theorem ci_1702_45 : ab_at 1702 45 (.invokevirtual 184) 3 = true := by decide +kernel
theorem ci_1702_49 : ab_at 1702 49 (.aload_n 0) 1 = true := by decide +kernel
theorem ci_1702_50 : ab_at 1702 50 (.getfield 43) 3 = true := by decide +kernel
theorem ci_1702_53 : ab_at 1702 53 (.iload_n 1) 1 = true := by decide +kernel
theorem ci_1702_54 : ab_at 1702 54 (.aload_n 0) 1 = true := by decide +kernel
theorem ci_1702_55 : ab_at 1702 55 (.getfield 171) 3 = true := by decide +kernel
theorem ci_1702_58 : ab_at 1702 58 (.lastore) 1 = true := by decide +kernel
theorem ci_1702_59 : ab_at 1702 59 (.aload_n 0) 1 = true := by decide +kernel
theorem ci_1702_60 : ab_at 1702 60 (.invokevirtual 187) 3 = true := by decide +kernel
theorem ci_1702_63 : ab_at 1702 63 (.iconst 1) 1 = true := by decide +kernel
theorem ci_1714_0 : ab_at 1714 0 (.aload_n 0) 1 = true := by decide +kernel
theorem ci_1714_1 : ab_at 1714 1 (.iload_n 1) 1 = true := by decide +kernel
theorem ci_1714_2 : ab_at 1714 2 (.iconst 0) 1 = true := by decide +kernel
theorem ci_1714_3 : ab_at 1714 3 (.aload_n 0) 1 = true := by decide +kernel
theorem ci_1714_4 : ab_at 1714 4 (.getfield 37) 3 = true := by decide +kernel
theorem ci_1714_7 : ab_at 1714 7 (.iconst 2) 1 = true := by decide +kernel
theorem ci_1714_8 : ab_at 1714 8 (.iaload) 1 = true := by decide +kernel
theorem ci_1714_9 : ab_at 1714 9 (.iconst 1) 1 = true := by decide +kernel
theorem ci_1714_10 : ab_at 1714 10 (.isub) 1 = true := by decide +kernel
theorem ci_1714_11 : ab_at 1714 11 (.invokevirtual 218) 3 = true := by decide +kernel
theorem ci_1714_14 : ab_at 1714 14 (.ifCond .ne 5) 3 = true := by decide +kernel
theorem ci_1714_17 : ab_at 1714 17 (.iconst 0) 1 = true := by decide +kernel
theorem ci_1714_19 : ab_at 1714 19 (.aload_n 0) 1 = true := by decide +kernel
theorem ci_1714_20 : ab_at 1714 20 (.getfield 158) 3 = true := by decide +kernel
theorem ci_1714_23 : ab_at 1714 23 (.iconst 2) 1 = true := by decide +kernel
theorem ci_1714_24 : ab_at 1714 24 (.if_icmp .eq 9) 3 = true := by decide +kernel
theorem ci_1714_27 : ab_at 1714 27 (.aload_n 0) 1 = true := by decide +kernel
theorem ci_1714_28 : ab_at 1714 28 (.iconst 1) 1 = true := by decide +kernel
theorem ci_1714_29 : ab_at 1714 29 (.invokevirtual 184) 3 = true := by decide +kernel
theorem ci_1714_33 : ab_at 1714 33 (.aload_n 0) 1 = true := by decide +kernel
theorem ci_1714_34 : ab_at 1714 34 (.getfield 168) 3 = true := by decide +kernel
theorem ci_1714_37 : ab_at 1714 37 (.aload_n 0) 1 = true := by decide +kernel
theorem ci_1714_38 : ab_at 1714 38 (.getfield 37) 3 = true := by decide +kernel
theorem ci_1714_41 : ab_at 1714 41 (.iconst 3) 1 = true := by decide +kernel
theorem ci_1714_42 : ab_at 1714 42 (.iaload) 1 = true := by decide +kernel
theorem ci_1714_43 : ab_at 1714 43 (.if_icmp .lt 9) 3 = true := by decide +kernel
theorem ci_1714_46 : ab_at 1714 46 (.aload_n 0) 1 = true := by decide +kernel
theorem ci_1714_47 : ab_at 1714 47 (.iconst 2) 1 = true := by decide +kernel
theorem ci_1714_48 : ab_at 1714 48 (.invokevirtual 184) 3 = true := by decide +kernel
theorem ci_1714_52 : ab_at 1714 52 (.aload_n 0) 1 = true := by decide +kernel
theorem ci_1714_53 : ab_at 1714 53 (.aload_n 0) 1 = true := by decide +kernel
theorem ci_1714_54 : ab_at 1714 54 (.getfield 37) 3 = true := by decide +kernel
theorem ci_1714_57 : ab_at 1714 57 (.iload_n 1) 1 = true := by decide +kernel
theorem ci_1714_58 : ab_at 1714 58 (.iaload) 1 = true := by decide +kernel
theorem ci_1714_59 : ab_at 1714 59 (.aload_n 0) 1 = true := by decide +kernel
theorem ci_1714_60 : ab_at 1714 60 (.getfield 168) 3 = true := by decide +kernel
theorem ci_1714_63 : ab_at 1714 63 (.invokevirtual 221) 3 = true := by decide +kernel
theorem ci_1714_66 : ab_at 1714 66 (.ifCond .eq 9) 3 = true := by decide +kernel
theorem ci_1714_69 : ab_at 1714 69 (.aload_n 0) 1 = true := by decide +kernel
theorem ci_1714_70 : ab_at 1714 70 (.iconst 3) 1 = true := by decide +kernel
theorem ci_1714_71 : ab_at 1714 71 (.invokevirtual 184) 3 = true := by decide +kernel
theorem ci_1714_75 : ab_at 1714 75 (.aload_n 0) 1 = true := by decide +kernel
theorem ci_1714_76 : ab_at 1714 76 (.iload_n 2) 1 = true := by decide +kernel
theorem ci_1714_77 : ab_at 1714 77 (.iconst 0) 1 = true := by decide +kernel
theorem ci_1714_78 : ab_at 1714 78 (.bipush 7) 2 = true := by decide +kernel
theorem ci_1714_80 : ab_at 1714 80 (.invokevirtual 218) 3 = true := by decide +kernel
theorem ci_1718_0 : ab_at 1718 0 (.iconst 0) 1 = true := by decide +kernel
theorem ci_1718_1 : ab_at 1718 1 (.istore_n 3) 1 = true := by decide +kernel
theorem ci_1718_2 : ab_at 1718 2 (.iload_n 3) 1 = true := by decide +kernel
theorem ci_1718_3 : ab_at 1718 3 (.aload_n 0) 1 = true := by decide +kernel
theorem ci_1718_4 : ab_at 1718 4 (.getfield 37) 3 = true := by decide +kernel
theorem ci_1718_7 : ab_at 1718 7 (.iconst 0) 1 = true := by decide +kernel
theorem ci_1718_8 : ab_at 1718 8 (.iaload) 1 = true := by decide +kernel
theorem ci_1718_9 : ab_at 1718 9 (.if_icmp .ge 37) 3 = true := by decide +kernel
theorem ci_1718_12 : ab_at 1718 12 (.aload_n 0) 1 = true := by decide +kernel
theorem ci_1718_13 : ab_at 1718 13 (.getfield 37) 3 = true := by decide +kernel
theorem ci_1718_16 : ab_at 1718 16 (.bipush 7) 2 = true := by decide +kernel
theorem ci_1718_18 : ab_at 1718 18 (.iload_n 3) 1 = true := by decide +kernel
theorem ci_1718_19 : ab_at 1718 19 (.iadd) 1 = true := by decide +kernel
theorem ci_1718_20 : ab_at 1718 20 (.iaload) 1 = true := by decide +kernel
theorem ci_1718_21 : ab_at 1718 21 (.iload_n 1) 1 = true := by decide +kernel
theorem ci_1718_22 : ab_at 1718 22 (.if_icmp .ne 18) 3 = true := by decide +kernel
theorem ci_1718_25 : ab_at 1718 25 (.aload_n 0) 1 = true := by decide +kernel
theorem ci_1718_26 : ab_at 1718 26 (.getfield 37) 3 = true := by decide +kernel
theorem ci_1718_29 : ab_at 1718 29 (.bipush 13) 2 = true := by decide +kernel
theorem ci_1718_31 : ab_at 1718 31 (.iload_n 3) 1 = true := by decide +kernel
theorem ci_1718_32 : ab_at 1718 32 (.iadd) 1 = true := by decide +kernel
theorem ci_1718_33 : ab_at 1718 33 (.iaload) 1 = true := by decide +kernel
theorem ci_1718_34 : ab_at 1718 34 (.iload_n 2) 1 = true := by decide +kernel
theorem ci_1718_35 : ab_at 1718 35 (.if_icmp .ne 5) 3 = true := by decide +kernel
theorem ci_1718_38 : ab_at 1718 38 (.iconst 1) 1 = true := by decide +kernel
theorem ci_1718_40 : ab_at 1718 40 (.iinc 3 1) 3 = true := by decide +kernel
theorem ci_1718_43 : ab_at 1718 43 (.goto (-41)) 3 = true := by decide +kernel
theorem ci_1718_46 : ab_at 1718 46 (.iconst 0) 1 = true := by decide +kernel
theorem ci_1718_47 : ab_at 1718 47 (.istore_n 3) 1 = true := by decide +kernel
theorem ci_1718_48 : ab_at 1718 48 (.iload_n 3) 1 = true := by decide +kernel
theorem ci_1718_49 : ab_at 1718 49 (.aload_n 0) 1 = true := by decide +kernel
theorem ci_1718_50 : ab_at 1718 50 (.getfield 37) 3 = true := by decide +kernel
theorem ci_1718_53 : ab_at 1718 53 (.iconst 1) 1 = true := by decide +kernel
theorem ci_1718_54 : ab_at 1718 54 (.iaload) 1 = true := by decide +kernel
theorem ci_1718_55 : ab_at 1718 55 (.if_icmp .ge 37) 3 = true := by decide +kernel
theorem ci_1718_58 : ab_at 1718 58 (.aload_n 0) 1 = true := by decide +kernel
theorem ci_1718_59 : ab_at 1718 59 (.getfield 37) 3 = true := by decide +kernel
theorem ci_1718_62 : ab_at 1718 62 (.bipush 39) 2 = true := by decide +kernel
theorem ci_1718_64 : ab_at 1718 64 (.iload_n 3) 1 = true := by decide +kernel
theorem ci_1718_65 : ab_at 1718 65 (.iadd) 1 = true := by decide +kernel
theorem ci_1718_66 : ab_at 1718 66 (.iaload) 1 = true := by decide +kernel
theorem ci_1718_67 : ab_at 1718 67 (.iload_n 1) 1 = true := by decide +kernel
theorem ci_1718_68 : ab_at 1718 68 (.if_icmp .ne 18) 3 = true := by decide +kernel
theorem ci_1718_71 : ab_at 1718 71 (.aload_n 0) 1 = true := by decide +kernel
theorem ci_1718_72 : ab_at 1718 72 (.getfield 37) 3 = true := by decide +kernel
theorem ci_1718_75 : ab_at 1718 75 (.bipush 49) 2 = true := by decide +kernel
theorem ci_1718_77 : ab_at 1718 77 (.iload_n 3) 1 = true := by decide +kernel
theorem ci_1718_78 : ab_at 1718 78 (.iadd) 1 = true := by decide +kernel
theorem ci_1718_79 : ab_at 1718 79 (.iaload) 1 = true := by decide +kernel
theorem ci_1718_80 : ab_at 1718 80 (.iload_n 2) 1 = true := by decide +kernel
theorem ci_1718_81 : ab_at 1718 81 (.if_icmp .ne 5) 3 = true := by decide +kernel
theorem ci_1718_84 : ab_at 1718 84 (.iconst 1) 1 = true := by decide +kernel
theorem ci_1718_86 : ab_at 1718 86 (.iinc 3 1) 3 = true := by decide +kernel
theorem ci_1718_89 : ab_at 1718 89 (.goto (-41)) 3 = true := by decide +kernel
theorem ci_1718_92 : ab_at 1718 92 (.iconst 0) 1 = true := by decide +kernel
theorem ci_1726_0 : ab_at 1726 0 (.aload_n 0) 1 = true := by decide +kernel
theorem ci_1726_1 : ab_at 1726 1 (.iload_n 1) 1 = true := by decide +kernel
theorem ci_1726_2 : ab_at 1726 2 (.iload_n 2) 1 = true := by decide +kernel
theorem ci_1726_3 : ab_at 1726 3 (.invokevirtual 209) 3 = true := by decide +kernel
theorem ci_1726_6 : ab_at 1726 6 (.ifCond .ne 5) 3 = true := by decide +kernel
theorem ci_1726_9 : ab_at 1726 9 (.iconst 0) 1 = true := by decide +kernel
theorem ci_1726_11 : ab_at 1726 11 (.aload_n 0) 1 = true := by decide +kernel
theorem ci_1726_12 : ab_at 1726 12 (.invokevirtual 187) 3 = true := by decide +kernel
theorem ci_1726_15 : ab_at 1726 15 (.iconst 1) 1 = true := by decide +kernel
theorem ci_1730_0 : ab_at 1730 0 (.aload_n 0) 1 = true := by decide +kernel
theorem ci_1730_1 : ab_at 1730 1 (.invokevirtual 201) 3 = true := by decide +kernel
theorem ci_1730_4 : ab_at 1730 4 (.ifCond .ne 9) 3 = true := by decide +kernel
theorem ci_1730_7 : ab_at 1730 7 (.aload_n 0) 1 = true := by decide +kernel
theorem ci_1730_8 : ab_at 1730 8 (.iconst 1) 1 = true := by decide +kernel
theorem ci_1730_9 : ab_at 1730 9 (.invokevirtual 184) 3 = true := by decide +kernel
theorem ci_1730_13 : ab_at 1730 13 (.aload_n 0) 1 = true := by decide +kernel
theorem ci_1730_14 : ab_at 1730 14 (.aload_n 0) 1 = true := by decide +kernel
theorem ci_1730_15 : ab_at 1730 15 (.iload_n 1) 1 = true := by decide +kernel
theorem ci_1730_16 : ab_at 1730 16 (.iload_n 2) 1 = true := by decide +kernel
theorem ci_1730_17 : ab_at 1730 17 (.invokevirtual 205) 3 = true := by decide +kernel
theorem ci_1730_20 : ab_at 1730 20 (.putfield 194) 3 = true := by decide +kernel
theorem ci_1730_23 : ab_at 1730 23 (.aload_n 0) 1 = true := by decide +kernel
theorem ci_1730_24 : ab_at 1730 24 (.getfield 194) 3 = true := by decide +kernel
theorem ci_1730_27 : ab_at 1730 27 (.ifCond .ge 11) 3 = true := by decide +kernel
theorem ci_1730_30 : ab_at 1730 30 (.aload_n 0) 1 = true := by decide +kernel
theorem ci_1730_31 : ab_at 1730 31 (.iconst 3) 1 = true := by decide +kernel
theorem ci_1730_32 : ab_at 1730 32 (.invokevirtual 184) 3 = true := by decide +kernel
theorem ci_1730_35 : ab_at 1730 35 (.ifCond .eq 7) 3 = true := by decide +kernel
theorem ci_1730_38 : ab_at 1730 38 (.iconst 1) 1 = true := by decide +kernel
theorem ci_1730_39 : ab_at 1730 39 (.goto 4) 3 = true := by decide +kernel
theorem ci_1730_42 : ab_at 1730 42 (.iconst 0) 1 = true := by decide +kernel
theorem ml_1691 : (eg_md 1691).2.2.1 = 4 := by decide +kernel
theorem ml_1706 : (eg_md 1706).2.2.1 = 3 := by decide +kernel
theorem ml_1710 : (eg_md 1710).2.2.1 = 4 := by decide +kernel
theorem ml_1718 : (eg_md 1718).2.2.1 = 4 := by decide +kernel
theorem kB_13 : (Int8.ofInt (13)).toInt32.toInt = 13 := by decide +kernel
theorem kB_16 : (Int8.ofInt (16)).toInt32.toInt = 16 := by decide +kernel
theorem kB_22 : (Int8.ofInt (22)).toInt32.toInt = 22 := by decide +kernel
theorem kB_39 : (Int8.ofInt (39)).toInt32.toInt = 39 := by decide +kernel
theorem kB_49 : (Int8.ofInt (49)).toInt32.toInt = 49 := by decide +kernel
def MP (h : eg_H) (ps : PS) : Prop := ((hv h 185 0).toInt = ps.1 4 ∧ (hv h 185 1).toInt = ps.1 5 ∧ (hv h 185 2).toInt = ps.1 0 ∧ (hv h 185 3).toInt = ps.1 1 ∧ (hv h 185 4).toInt = ps.1 6 ∧ (hv h 185 5).toInt = ps.1 2 ∧ (hv h 185 6).toInt = ps.1 3) ∧ ((fb (hv h 182 20) 0 = true ↔ (ps.1 7 ≠ 0 ∨ ps.1 4 ≠ 0 ∨ ps.1 5 ≠ 0)) ∧ (fb (hv h 182 20) 1 = true ↔ ps.1 8 ≠ 0) ∧ (fb (hv h 182 20) 2 = true ↔ ps.1 9 ≠ 0)) ∧ (∀ q : Nat, (q : Int) < ps.1 4 → tx_co (ps.2 0 q) (hl h 187 (16 + q)).toInt ∧ (hv h 185 (7 + q)).toInt = ps.2 1 q ∧ (hv h 185 (13 + q)).toInt = ps.2 2 q) ∧ (∀ q : Nat, (q : Int) < ps.1 5 → tx_co (ps.2 3 q) (hl h 187 (22 + q)).toInt ∧ (hv h 185 (19 + q)).toInt = ps.2 4 q ∧ (hv h 185 (39 + q)).toInt = ps.2 6 q ∧ (hv h 185 (49 + q)).toInt = ps.2 7 q) ∧ (∀ q : Nat, q < 10 → ∀ r : Nat, (fb (hv h 185 (79 + q)) r = true ↔ ps.2 (10 + q) r ≠ 0)) ∧ (2 ≤ ps.1 0 ∧ ps.1 0 ≤ 8 ∧ 2 ≤ ps.1 1 ∧ ps.1 1 ≤ 8 ∧ 0 ≤ ps.1 4 ∧ ps.1 4 ≤ 6 ∧ 0 ≤ ps.1 5 ∧ ps.1 5 ≤ 10 ∧ 0 ≤ ps.1 6 ∧ ps.1 6 ≤ 8)
theorem kN_0 : (Int32.ofInt (0)).toInt.toNat = 0 := by decide +kernel
theorem kN_1 : (Int32.ofInt (1)).toInt.toNat = 1 := by decide +kernel
theorem kN_2 : (Int32.ofInt (2)).toInt.toNat = 2 := by decide +kernel
theorem kN_3 : (Int32.ofInt (3)).toInt.toNat = 3 := by decide +kernel
theorem kN_4 : (Int32.ofInt (4)).toInt.toNat = 4 := by decide +kernel
theorem kN_5 : (Int32.ofInt (5)).toInt.toNat = 5 := by decide +kernel
/-- slots of the draft that are told -/
def usd (ps : PS) (q : Nat) : Prop := q < 7 ∨ 79 ≤ q ∨ ∃ r : Nat, ((r : Int) < ps.1 4 ∧ (q = 7 + r ∨ q = 13 + r)) ∨ ((r : Int) < ps.1 5 ∧ (q = 19 + r ∨ q = 39 + r ∨ q = 49 + r))
def usn (ps : PS) (q : Nat) : Prop := ∃ r : Nat, ((r : Int) < ps.1 4 ∧ q = 16 + r) ∨ ((r : Int) < ps.1 5 ∧ q = 22 + r)
theorem MP.up {h h' : eg_H} {ps : PS} (c : MP h ps) (s : ∀ q, usd ps q → hv h' 185 q = hv h 185 q) (e20 : hv h' 182 20 = hv h 182 20) (nm : ∀ q, usn ps q → hl h' 187 q = hl h 187 q) : MP h' ps := by
  obtain ⟨⟨c0, c1, c2, c3, c4, c5, c6⟩, cb, cm, cp, cc, c9⟩ := c
  refine ⟨⟨by rw [s 0 (Or.inl (by decide))]; exact c0, by rw [s 1 (Or.inl (by decide))]; exact c1, by rw [s 2 (Or.inl (by decide))]; exact c2, by rw [s 3 (Or.inl (by decide))]; exact c3, by rw [s 4 (Or.inl (by decide))]; exact c4, by rw [s 5 (Or.inl (by decide))]; exact c5, by rw [s 6 (Or.inl (by decide))]; exact c6⟩, by rw [e20]; exact cb, fun q hq => ?_, fun q hq => ?_, fun q hq r => ?_, c9⟩
  · rw [nm _ ⟨q, Or.inl ⟨hq, rfl⟩⟩, s _ (Or.inr (Or.inr ⟨q, Or.inl ⟨hq, Or.inl rfl⟩⟩)), s _ (Or.inr (Or.inr ⟨q, Or.inl ⟨hq, Or.inr rfl⟩⟩))]
    exact cm q hq
  · rw [nm _ ⟨q, Or.inr ⟨hq, rfl⟩⟩, s _ (Or.inr (Or.inr ⟨q, Or.inr ⟨hq, Or.inl rfl⟩⟩)), s _ (Or.inr (Or.inr ⟨q, Or.inr ⟨hq, Or.inr (Or.inl rfl)⟩⟩)), s _ (Or.inr (Or.inr ⟨q, Or.inr ⟨hq, Or.inr (Or.inr rfl)⟩⟩))]
    exact cp q hq
  · rw [s _ (Or.inr (Or.inl (by omega)))]
    exact cc q hq r
theorem MP.fr {h h' : eg_H} {ps : PS} {M : ab_M} (c : MP h ps) (f : ab_fr M h' h) (k1 : ∀ q, ab_inr M 185 q q = false) (k2 : ∀ q, ab_inr M 187 q q = false) (k3 : ab_inr M 182 20 20 = false) : MP h' ps := c.up (fun q _ => hv_same (f 185 q (k1 q))) (hv_same (f 182 20 k3)) (fun q _ => hl_same (f 187 q (k2 q)))
theorem MP.sfm {h : eg_H} {ps : PS} (c : MP h ps) {a : Int} (hw : tx_co a (hl h 182 17).toInt) : sf (fun q => (hl h 187 (16 + q)).toInt) (hl h 182 17).toInt (ps.1 4).toNat = sf (ps.2 0) a (ps.1 4).toNat := sf_same _ (fun q hq => (tx_co_one (c.2.2.1 q (by omega)).1 hw).symm)
theorem MP.sfp {h : eg_H} {ps : PS} (c : MP h ps) {a : Int} (hw : tx_co a (hl h 182 17).toInt) : sf (fun q => (hl h 187 (22 + q)).toInt) (hl h 182 17).toInt (ps.1 5).toNat = sf (ps.2 3) a (ps.1 5).toNat := sf_same _ (fun q hq => (tx_co_one (c.2.2.2.1 q (by omega)).1 hw).symm)
theorem tx_10_nn {B : Nat → Int} {q : Nat} : ∀ k, (∀ r, q ≤ r → r < q + k → tx_d (B r)) → 0 ≤ tx_10 B q k
  | 0, _ => Int.le_refl _
  | k + 1, h => by
    have ih := tx_10_nn k (fun r r1 r2 => h r r1 (by omega))
    obtain ⟨h1, h2⟩ := h (q + k) (by omega) (by omega)
    unfold tx_10
    omega
theorem tx_X_nn {B : Nat → Int} {n lim p : Nat} {t : tx_K} {a p' : Nat} (x : tx_X B n lim p t a p') (h : t.1 = 3) : 0 ≤ t.2.1 := by
  obtain ⟨q, -, x⟩ := x
  rcases x with ⟨-, -, rfl, -, -⟩ | ⟨-, -, rfl, -, -⟩ | ⟨-, -, -, (⟨-, rfl⟩ | ⟨-, rfl⟩), -, -⟩ | ⟨-, -, -, hu, (⟨-, -, rfl⟩ | ⟨hd, -, rfl⟩ | ⟨-, -, rfl⟩), -⟩
  · exact absurd h (by decide)
  · exact absurd h (by decide)
  · exact absurd (show 2 = 3 from h) (by decide)
  · exact absurd h (by decide)
  · exact absurd (show 4 = 3 from h) (by decide)
  · exact tx_10_nn (p' - q) (fun r r1 r2 => hd r r1 (by have := hu.1; omega))
  · exact absurd h (by decide)
section RG
variable {B : Nat → Int} {n lim : Nat} {tk : Nat → tx_K} {ta P : Nat → Nat} {sc : List Value} {sp d : Nat} {h : eg_H} {j : Nat} {ps : PS}
abbrev MLK : ab_M := [(182, 15, 16), (182, 18, 18)]
def lk_P (B : Nat → Int) (n lim : Nat) (tk : Nat → tx_K) (ta P : Nat → Nat) (M : ab_M) (h : eg_H) (j' : Nat) (x : Sum ER Int) (vo : Option Value) (h' : eg_H) : Prop := ab_hp h' ∧ ab_fr M h' h ∧ ∃ r : Int32, vo = some (.int r) ∧ ((∃ g, x = .inr g ∧ r.toInt = 1 ∧ (hv h' 182 18).toInt = g ∧ rt B n lim tk ta P h' j') ∨ (∃ k a, x = .inl (k, a) ∧ r.toInt = 0 ∧ flm h' k a))
theorem m_looks {fr many k nn : Nat} {z y : Int32} (hz : z.toInt = (fr : Int)) (hy : y.toInt = (many : Int)) (hb : fr + many ≤ 32) (hm : many = (ps.1 nn).toNat) (hsf : ∀ a, tx_co a (hl h 182 17).toInt → sf (fun q => (hl h 187 (fr + q)).toInt) (hl h 182 17).toInt many = sf (ps.2 k) a (ps.1 nn).toNat) (hq : ab_hp h) (hw : rwok h) (hr : rt B n lim tk ta P h j) : mc sc sp 1730 11 (d + 1) [.ref 182, .int z, .int y] h (lk_P B n lim tk ta P MLK h j (sp_old ps k nn (tk j) (ta j))) := by
  have l0 : eg_find 0 (eg_args 0 [.ref 182, .int z, .int y]) = some (.ref 182) := rfl
  have l1 : eg_find 1 (eg_args 0 [.ref 182, .int z, .int y]) = some (.int z) := rfl
  have l2 : eg_find 2 (eg_args 0 [.ref 182, .int z, .int y]) = some (.int y) := rfl
  have hp := hq.1
  obtain ⟨k0, k3, k2, k4, -, -, kw⟩ := rs_k hr.2.2.2.2
  unfold mc
  refine hs_aload_n ci_1730_0 l0 ?_
  refine hs_cv 1706 11 0 ci_1730_1 (by decide +kernel) (by decide +kernel) hp rfl (by rw [ml_1706]; rfl) (m_isN hq hw hr) ?_
  rintro v9 h9 ⟨e9, rA, e8, hrA⟩
  rw [e8, e9]
  clear e8 e9 v9 h9
  simp only [Option.toList, List.cons_append, List.nil_append]
  refine hs_if (t := 13) ci_1730_4 rfl (fun b4 => ?_) (fun b4 => ?_)
  · simp only [hs_cd, ab_not] at b4
    refine hs_aload_n ci_1730_13 l0 ?_
    refine hs_aload_n ci_1730_14 l0 ?_
    refine hs_iload_n ci_1730_15 l1 ?_
    refine hs_iload_n ci_1730_16 l2 ?_
    obtain ⟨y1, y2⟩ : 4 ≤ (tk j).1 ∧ isnm (tk j).2.1 := by
      rcases hrA with ⟨-, y⟩ | ⟨y, -⟩
      · exact y
      · omega
    have hco := (kw y1).2
    rw [← (kw y1).1] at hco
    have esp : sp_nam (tk j) (ta j) = .inr (tk j).2.1 := by
      unfold sp_nam
      rw [if_pos ⟨y1, y2⟩]
    refine hs_cv 1710 11 2 ci_1730_17 (by decide +kernel) (by decide +kernel) hp rfl (by rw [ml_1710]; rfl) (m_find hz hy hb hq) ?_
    rintro v9 h9 ⟨e9, rF, e8, hrF⟩
    rw [e8, e9]
    clear e8 e9 v9 h9
    rw [hsf _ hco] at hrF
    simp only [Option.toList, List.cons_append, List.nil_append]
    refine hs_pfi 18 (-2147483648) (2147483647) ci_1730_20 (by decide +kernel) hp (ab_ige _) (ab_ile _) ?_
    intro h20 w20
    replace hp := w20.1
    have f20 : ab_fr [(182, 18, 18)] h20 h := w20.fr rfl
    have q20 : ab_hp h20 := ⟨hp, hq.2.fr (M := [(182, 18, 18)]) (by decide +kernel) f20⟩
    have r20 : rt B n lim tk ta P h20 j := hr.fr f20 (fun _ => rfl) ⟨rfl, rfl, rfl, rfl, rfl, rfl, rfl⟩
    have e18 : hv h20 182 18 = rF := by rw [w20.v, if_pos ⟨rfl, rfl⟩]
    have hb9 := sf_b (g := ps.2 k) (a := (tk j).2.1) (ps.1 nn).toNat
    refine hs_aload_n ci_1730_23 l0 ?_
    refine hs_gfi 18 ci_1730_24 (by decide +kernel) hp ?_
    refine hs_if (t := 38) ci_1730_27 rfl (fun b27 => ?_) (fun b27 => ?_)
    · simp only [hs_cd, ab_not] at b27
      refine hs_iconst ci_1730_38 ?_
      refine hs_goto (t := 43) ci_1730_39 rfl ?_
      rw [e18] at b27
      refine hs_k ⟨3, some (.int (Int32.ofInt 1)), by decide +kernel, by decide +kernel, q20, fr_sub (by decide +kernel) f20, _, rfl, Or.inl ⟨sf (ps.2 k) (tk j).2.1 (ps.1 nn).toNat, ?_, by decide, by rw [e18]; exact hrF, r20⟩⟩
      unfold sp_old
      rw [sbn_r esp, if_neg (by omega)]
    · simp only [hs_cd, ab_not] at b27
      refine hs_aload_n ci_1730_30 l0 ?_
      refine hs_iconst ci_1730_31 ?_
      refine hs_cv 1687 11 1 ci_1730_32 (by decide +kernel) (by decide +kernel) hp rfl (by rw [ml_1687]; rfl) (m_bad (Int32.ofInt 3) (by decide) q20 r20) ?_
      rintro v9 h2 ⟨r2, e8, hr2, q2, f2, g2⟩
      rw [e8]
      clear e8 v9
      replace hp := q2.1
      simp only [Option.toList, List.cons_append, List.nil_append]
      refine hs_if (t := 42) ci_1730_35 rfl (fun b35 => ?_) (fun b35 => ?_)
      · simp only [hs_cd, ab_not] at b35
        refine hs_iconst ci_1730_42 ?_
        rw [e18] at b27
        rw [kI_3] at g2
        refine hs_k ⟨3, some (.int (Int32.ofInt 0)), by decide +kernel, by decide +kernel, q2, (fr_sub (M := MLK) (by decide +kernel) f2).tr (fr_sub (by decide +kernel) f20), _, rfl, Or.inr ⟨3, ta j, ?_, by decide, g2⟩⟩
        unfold sp_old
        rw [sbn_r esp, if_pos (by omega)]
      · simp only [hs_cd, ab_not] at b35
        omega
  · simp only [hs_cd, ab_not] at b4
    refine hs_aload_n ci_1730_7 l0 ?_
    refine hs_iconst ci_1730_8 ?_
    refine hs_cv 1687 11 1 ci_1730_9 (by decide +kernel) (by decide +kernel) hp rfl (by rw [ml_1687]; rfl) (m_bad (Int32.ofInt 1) (by decide) hq hr) ?_
    rintro v9 h2 ⟨r2, e8, hr2, q2, f2, g2⟩
    rw [e8]
    clear e8 v9
    replace hp := q2.1
    simp only [Option.toList, List.cons_append, List.nil_append]
    obtain y2 : ¬ (4 ≤ (tk j).1 ∧ isnm (tk j).2.1) := by
      rcases hrA with ⟨y, -⟩ | ⟨-, y⟩
      · omega
      · exact y
    have esp : sp_nam (tk j) (ta j) = .inl (1, ta j) := by
      unfold sp_nam
      rw [if_neg y2]
    rw [kI_1] at g2
    refine hs_k ⟨3, some (.int r2), by decide +kernel, rv_b rt_1730 (Or.inl hr2), q2, fr_sub (by decide +kernel) f2, _, rfl, Or.inr ⟨1, ta j, ?_, hr2, g2⟩⟩
    unfold sp_old
    rw [sbn_l esp]
theorem rt_1726 : (eg_md 1726).2.2.2 = some .boolean := by decide +kernel
theorem m_takesN {fr many k nn : Nat} {z y : Int32} (hz : z.toInt = (fr : Int)) (hy : y.toInt = (many : Int)) (hb : fr + many ≤ 32) (hm : many = (ps.1 nn).toNat) (hsf : ∀ a, tx_co a (hl h 182 17).toInt → sf (fun q => (hl h 187 (fr + q)).toInt) (hl h 182 17).toInt many = sf (ps.2 k) a (ps.1 nn).toNat) (ts : TS B n lim tk ta P) (hq : ab_hp h) (hw : rwok h) (hr : rt B n lim tk ta P h j) : mc sc sp 1726 11 (d + 1 + 1) [.ref 182, .int z, .int y] h (lk_P B n lim tk ta P MTN h (j + 1) (sp_old ps k nn (tk j) (ta j))) := by
  have l0 : eg_find 0 (eg_args 0 [.ref 182, .int z, .int y]) = some (.ref 182) := rfl
  have l1 : eg_find 1 (eg_args 0 [.ref 182, .int z, .int y]) = some (.int z) := rfl
  have l2 : eg_find 2 (eg_args 0 [.ref 182, .int z, .int y]) = some (.int y) := rfl
  have hp := hq.1
  unfold mc
  refine hs_aload_n ci_1726_0 l0 ?_
  refine hs_iload_n ci_1726_1 l1 ?_
  refine hs_iload_n ci_1726_2 l2 ?_
  refine hs_cv 1730 11 2 ci_1726_3 (by decide +kernel) (by decide +kernel) hp rfl (by rw [ml_1730]; rfl) (m_looks hz hy hb hm hsf hq hw hr) ?_
  rintro v9 hA ⟨qA, fA, rA, e8, hrA⟩
  rw [e8]
  clear e8 v9
  replace hp := qA.1
  simp only [Option.toList, List.cons_append, List.nil_append]
  refine hs_if (t := 11) ci_1726_6 rfl (fun b6 => ?_) (fun b6 => ?_)
  · simp only [hs_cd, ab_not] at b6
    obtain ⟨g, hg1, hg2, rA2⟩ : ∃ g, sp_old ps k nn (tk j) (ta j) = .inr g ∧ (hv hA 182 18).toInt = g ∧ rt B n lim tk ta P hA j := by
      rcases hrA with ⟨g, y1, -, y3, y4⟩ | ⟨k, a, -, y2, -⟩
      · exact ⟨g, y1, y3, y4⟩
      · omega
    refine hs_aload_n ci_1726_11 l0 ?_
    refine hs_cv 1658 11 0 ci_1726_12 (by decide +kernel) (by decide +kernel) hp rfl (by rw [ml_1658]; rfl) (m_next ts qA rA2) ?_
    rintro v9 hB ⟨e8, qB, fB, rB⟩
    rw [e8]
    clear e8 v9
    replace hp := qB.1
    simp only [Option.toList, List.nil_append]
    refine hs_iconst ci_1726_15 ?_
    exact hs_k ⟨3, some (.int (Int32.ofInt 1)), by decide +kernel, rv_b rt_1726 (Or.inr (by decide)), qB, (fr_sub (M := MTN) (by decide +kernel) fB).tr (fr_sub (by decide +kernel) fA), _, rfl, Or.inl ⟨g, hg1, by decide, by rw [hv_same (fB 182 18 rfl)]; exact hg2, rB⟩⟩
  · simp only [hs_cd, ab_not] at b6
    refine hs_iconst ci_1726_9 ?_
    rcases hrA with ⟨g, -, y2, -⟩ | ⟨k, a, y1, y2, y3⟩
    · omega
    · exact hs_k ⟨3, some (.int (Int32.ofInt 0)), by decide +kernel, rv_b rt_1726 (Or.inl (by decide)), qA, fr_sub (by decide +kernel) fA, _, rfl, Or.inr ⟨k, a, y1, by decide, y3⟩⟩
theorem rt_1702 : (eg_md 1702).2.2.2 = some .boolean := by decide +kernel
theorem fr_cons {M : ab_M} {e : Nat × Nat × Nat} {h h' : eg_H} (f : ab_fr M h' h) : ab_fr (e :: M) h' h := f.mono (fun a k hk => by
  obtain ⟨b, f, t⟩ := e
  unfold ab_inr at hk
  cases e : (Nat.beq a b && Nat.ble f k && Nat.ble k t) with
  | true => rw [e] at hk; exact absurd hk (by simp)
  | false => rw [e] at hk; exact hk)
def fs_P (B : Nat → Int) (n lim : Nat) (tk : Nat → tx_K) (ta P : Nat → Nat) (h : eg_H) (j to : Nat) (x : Sum ER Int) (vo : Option Value) (h' : eg_H) : Prop := ab_hp h' ∧ ab_fr ((187, to, to) :: MTN) h' h ∧ ∃ r : Int32, vo = some (.int r) ∧ ((∃ c w, x = .inr c ∧ r.toInt = 1 ∧ (∀ q, hl h' 187 q = if q = to then w else hl h 187 q) ∧ tx_co c w.toInt ∧ rt B n lim tk ta P h' (j + 1)) ∨ (∃ k a, x = .inl (k, a) ∧ r.toInt = 0 ∧ flm h' k a))
theorem m_fresh {z : Int32} {to : Nat} (hz : z.toInt = (to : Int)) (hto : to < 32) (ts : TS B n lim tk ta P) (hq : ab_hp h) (hw : rwok h) (hr : rt B n lim tk ta P h j) (hP : MP h ps) : mc sc sp 1702 11 (d + 1 + 1) [.ref 182, .int z] h (fs_P B n lim tk ta P h j to (sp_new ps (tk j) (ta j))) := by
  have l0 : eg_find 0 (eg_args 0 [.ref 182, .int z]) = some (.ref 182) := rfl
  have l1 : eg_find 1 (eg_args 0 [.ref 182, .int z]) = some (.int z) := rfl
  have hp := hq.1
  obtain ⟨k0, k3, k2, k4, -, -, kw⟩ := rs_k hr.2.2.2.2
  have e0 := hP.1.1
  have e1 := hP.1.2.1
  have hb9 := hP.2.2.2.2.2
  have s0 := sf_b (g := ps.2 0) (a := (tk j).2.1) (ps.1 4).toNat
  have s3 := sf_b (g := ps.2 3) (a := (tk j).2.1) (ps.1 5).toNat
  have ez : z.toInt.toNat = to := by omega
  unfold mc
  refine hs_aload_n ci_1702_0 l0 ?_
  refine hs_cv 1706 11 0 ci_1702_1 (by decide +kernel) (by decide +kernel) hp rfl (by rw [ml_1706]; rfl) (m_isN hq hw hr) ?_
  rintro v9 h9 ⟨e9, rA, e8, hrA⟩
  rw [e8, e9]
  clear e8 e9 v9 h9
  simp only [Option.toList, List.cons_append, List.nil_append]
  refine hs_if (t := 13) ci_1702_4 rfl (fun b4 => ?_) (fun b4 => ?_)
  · simp only [hs_cd, ab_not] at b4
    refine hs_aload_n ci_1702_13 l0 ?_
    refine hs_bipush ci_1702_14 ?_
    refine hs_aload_n ci_1702_16 l0 ?_
    refine hs_gfr 7 185 ci_1702_17 (by decide +kernel) hp ?_
    refine hs_iconst ci_1702_20 ?_
    refine hs_iaload 0 0 (0) (6) ci_1702_21 (by decide +kernel) hp (by decide) (by decide) (fun r21_1 r21_2 => ?_)
    obtain ⟨y1, y2⟩ : 4 ≤ (tk j).1 ∧ isnm (tk j).2.1 := by
      rcases hrA with ⟨-, y⟩ | ⟨y, -⟩
      · exact y
      · omega
    have hco := (kw y1).2
    rw [← (kw y1).1] at hco
    have esp : sp_nam (tk j) (ta j) = .inr (tk j).2.1 := by
      unfold sp_nam
      rw [if_pos ⟨y1, y2⟩]
    refine hs_cv 1710 11 2 ci_1702_22 (by decide +kernel) (by decide +kernel) hp rfl (by rw [ml_1710]; rfl) (m_find (fr := 16) (many := (ps.1 4).toNat) kB_16 (by rw [kN_0]; omega) (by omega) hq) ?_
    rintro v9 h9 ⟨e9, rF, e8, hrF⟩
    rw [e8, e9]
    clear e8 e9 v9 h9
    rw [hP.sfm hco] at hrF
    simp only [Option.toList, List.cons_append, List.nil_append]
    refine hs_if (t := 43) ci_1702_25 rfl (fun b25 => ?_) (fun b25 => ?_)
    · simp only [hs_cd, ab_not] at b25
      refine hs_aload_n ci_1702_43 l0 ?_
      refine hs_iconst ci_1702_44 ?_
      refine hs_cv 1687 11 1 ci_1702_45 (by decide +kernel) (by decide +kernel) hp rfl (by rw [ml_1687]; rfl) (m_bad (Int32.ofInt 3) (by decide) hq hr) ?_
      rintro v9 h2 ⟨r2, e8, hr2, q2, f2, g2⟩
      rw [e8]
      clear e8 v9
      replace hp := q2.1
      simp only [Option.toList, List.cons_append, List.nil_append]
      rw [kI_3] at g2
      refine hs_k ⟨3, some (.int r2), by decide +kernel, rv_b rt_1702 (Or.inl hr2), q2, fr_cons (fr_sub (by decide +kernel) f2), _, rfl, Or.inr ⟨3, ta j, ?_, hr2, g2⟩⟩
      unfold sp_new
      rw [sbn_r esp, if_pos (by omega)]
    · simp only [hs_cd, ab_not] at b25
      refine hs_aload_n ci_1702_28 l0 ?_
      refine hs_bipush ci_1702_29 ?_
      refine hs_aload_n ci_1702_31 l0 ?_
      refine hs_gfr 7 185 ci_1702_32 (by decide +kernel) hp ?_
      refine hs_iconst ci_1702_35 ?_
      refine hs_iaload 1 1 (0) (10) ci_1702_36 (by decide +kernel) hp (by decide) (by decide) (fun r36_1 r36_2 => ?_)
      refine hs_cv 1710 11 2 ci_1702_37 (by decide +kernel) (by decide +kernel) hp rfl (by rw [ml_1710]; rfl) (m_find (fr := 22) (many := (ps.1 5).toNat) kB_22 (by rw [kN_1]; omega) (by omega) hq) ?_
      rintro v9 h9 ⟨e9, rG, e8, hrG⟩
      rw [e8, e9]
      clear e8 e9 v9 h9
      rw [hP.sfp hco] at hrG
      simp only [Option.toList, List.cons_append, List.nil_append]
      refine hs_if (t := 49) ci_1702_40 rfl (fun b40 => ?_) (fun b40 => ?_)
      · simp only [hs_cd, ab_not] at b40
        refine hs_aload_n ci_1702_49 l0 ?_
        refine hs_gfr 9 187 ci_1702_50 (by decide +kernel) hp ?_
        refine hs_iload_n ci_1702_53 l1 ?_
        refine hs_aload_n ci_1702_54 l0 ?_
        refine hs_gfl 17 ci_1702_55 (by decide +kernel) hp ?_
        refine hs_lastore 32 ci_1702_58 (by decide +kernel) hp (by omega) (by omega) ?_
        intro h58 w58
        replace hp := w58.1
        rw [ez] at w58
        have f58 : ab_fr [(187, 0, 31)] h58 h := w58.f9 (n := 31) rfl (by omega)
        have q58 : ab_hp h58 := ⟨hp, hq.2.fr (M := [(187, 0, 31)]) (by decide +kernel) f58⟩
        have r58 : rt B n lim tk ta P h58 j := hr.fr f58 (fun _ => rfl) ⟨rfl, rfl, rfl, rfl, rfl, rfl, rfl⟩
        refine hs_aload_n ci_1702_59 l0 ?_
        refine hs_cv 1658 11 0 ci_1702_60 (by decide +kernel) (by decide +kernel) hp rfl (by rw [ml_1658]; rfl) (m_next ts q58 r58) ?_
        rintro v9 hB ⟨e8, qB, fB, rB⟩
        rw [e8]
        clear e8 v9
        replace hp := qB.1
        simp only [Option.toList, List.nil_append]
        refine hs_iconst ci_1702_63 ?_
        refine hs_k ⟨3, some (.int (Int32.ofInt 1)), by decide +kernel, rv_b rt_1702 (Or.inr (by decide)), qB, (fr_cons (fr_sub (M := MTN) (by decide +kernel) fB)).tr (w58.fr (inr_me _ _ _)), _, rfl, Or.inl ⟨(tk j).2.1, hl h 182 17, ?_, by decide, fun q => ?_, hco, rB⟩⟩
        · unfold sp_new
          rw [sbn_r esp, if_neg (by omega)]
        · rw [hl_same (fB 187 q rfl), w58.v]
          by_cases e : q = to
          · rw [if_pos ⟨rfl, e⟩, if_pos e]
          · rw [if_neg (fun g => e g.2), if_neg e]
      · simp only [hs_cd, ab_not] at b40
        refine hs_aload_n ci_1702_43 l0 ?_
        refine hs_iconst ci_1702_44 ?_
        refine hs_cv 1687 11 1 ci_1702_45 (by decide +kernel) (by decide +kernel) hp rfl (by rw [ml_1687]; rfl) (m_bad (Int32.ofInt 3) (by decide) hq hr) ?_
        rintro v9 h2 ⟨r2, e8, hr2, q2, f2, g2⟩
        rw [e8]
        clear e8 v9
        replace hp := q2.1
        simp only [Option.toList, List.cons_append, List.nil_append]
        rw [kI_3] at g2
        refine hs_k ⟨3, some (.int r2), by decide +kernel, rv_b rt_1702 (Or.inl hr2), q2, fr_cons (fr_sub (by decide +kernel) f2), _, rfl, Or.inr ⟨3, ta j, ?_, hr2, g2⟩⟩
        unfold sp_new
        rw [sbn_r esp, if_pos (by omega)]
  · simp only [hs_cd, ab_not] at b4
    refine hs_aload_n ci_1702_7 l0 ?_
    refine hs_iconst ci_1702_8 ?_
    refine hs_cv 1687 11 1 ci_1702_9 (by decide +kernel) (by decide +kernel) hp rfl (by rw [ml_1687]; rfl) (m_bad (Int32.ofInt 1) (by decide) hq hr) ?_
    rintro v9 h2 ⟨r2, e8, hr2, q2, f2, g2⟩
    rw [e8]
    clear e8 v9
    replace hp := q2.1
    simp only [Option.toList, List.cons_append, List.nil_append]
    obtain y2 : ¬ (4 ≤ (tk j).1 ∧ isnm (tk j).2.1) := by
      rcases hrA with ⟨y, -⟩ | ⟨-, y⟩
      · omega
      · exact y
    have esp : sp_nam (tk j) (ta j) = .inl (1, ta j) := by
      unfold sp_nam
      rw [if_neg y2]
    rw [kI_1] at g2
    refine hs_k ⟨3, some (.int r2), by decide +kernel, rv_b rt_1702 (Or.inl hr2), q2, fr_cons (fr_sub (by decide +kernel) f2), _, rfl, Or.inr ⟨1, ta j, ?_, hr2, g2⟩⟩
    unfold sp_new
    rw [sbn_l esp]
theorem rt_1680 : (eg_md 1680).2.2.2 = some .boolean := by decide +kernel
abbrev MON : ab_M := [(182, 4, 4), (182, 11, 17), (182, 20, 20)]
def on_P (B : Nat → Int) (n lim : Nat) (tk : Nat → tx_K) (ta P : Nat → Nat) (h : eg_H) (j k : Nat) (vo : Option Value) (h' : eg_H) : Prop := ab_hp h' ∧ ab_fr MON h' h ∧ ∃ r : Int32, vo = some (.int r) ∧ ((r.toInt = 1 ∧ ¬ fb (hv h 182 20) k = true ∧ (∀ i, fb (hv h' 182 20) i = true ↔ (fb (hv h 182 20) i = true ∨ i = k)) ∧ rt B n lim tk ta P h' (j + 1)) ∨ (r.toInt = 0 ∧ fb (hv h 182 20) k = true ∧ flm h' 3 (ta j)))
theorem m_once {z : Int32} {k : Nat} (hz : z.toInt = (k : Int)) (hk : k < 32) (ts : TS B n lim tk ta P) (hq : ab_hp h) (hr : rt B n lim tk ta P h j) : mc sc sp 1680 11 (d + 1 + 1) [.ref 182, .int z] h (on_P B n lim tk ta P h j k) := by
  have l0 : eg_find 0 (eg_args 0 [.ref 182, .int z]) = some (.ref 182) := rfl
  have l1 : eg_find 1 (eg_args 0 [.ref 182, .int z]) = some (.int z) := rfl
  have hp := hq.1
  unfold mc
  refine hs_aload_n ci_1680_0 l0 ?_
  refine hs_gfi 20 ci_1680_1 (by decide +kernel) hp ?_
  refine hs_iload_n ci_1680_4 l1 ?_
  refine hs_cs 1683 11 2 ci_1680_5 (by decide +kernel) rfl (by rw [ml_1683]; rfl) (m_bit (hv h 182 20) hz hk) ?_
  rintro v9 h9 ⟨e9, rA, e8, hrA⟩
  rw [e8, e9]
  clear e8 e9 v9 h9
  simp only [Option.toList, List.cons_append, List.nil_append]
  refine hs_if (t := 17) ci_1680_8 rfl (fun b8 => ?_) (fun b8 => ?_)
  · simp only [hs_cd, ab_not] at b8
    refine hs_aload_n ci_1680_17 l0 ?_
    refine hs_dup ci_1680_18 rfl ?_
    refine hs_gfi 20 ci_1680_19 (by decide +kernel) hp ?_
    refine hs_iconst ci_1680_22 ?_
    refine hs_iload_n ci_1680_23 l1 ?_
    refine hs_ishl ci_1680_24 ?_
    refine hs_ior ci_1680_25 ?_
    refine hs_pfi 20 (-2147483648) (2147483647) ci_1680_26 (by decide +kernel) hp (ab_ige _) (ab_ile _) ?_
    intro h26 w26
    replace hp := w26.1
    have f26 : ab_fr [(182, 20, 20)] h26 h := w26.fr rfl
    have q26 : ab_hp h26 := ⟨hp, hq.2.fr (M := [(182, 20, 20)]) (by decide +kernel) f26⟩
    have r26 : rt B n lim tk ta P h26 j := hr.fr f26 (fun _ => rfl) ⟨rfl, rfl, rfl, rfl, rfl, rfl, rfl⟩
    refine hs_aload_n ci_1680_29 l0 ?_
    refine hs_cv 1658 11 0 ci_1680_30 (by decide +kernel) (by decide +kernel) hp rfl (by rw [ml_1658]; rfl) (m_next ts q26 r26) ?_
    rintro v9 hB ⟨e8, qB, fB, rB⟩
    rw [e8]
    clear e8 v9
    replace hp := qB.1
    simp only [Option.toList, List.nil_append]
    refine hs_iconst ci_1680_33 ?_
    rcases hrA with ⟨y1, -⟩ | ⟨y1, y2⟩
    · omega
    · refine hs_k ⟨3, some (.int (Int32.ofInt 1)), by decide +kernel, rv_b rt_1680 (Or.inr (by decide)), qB, (fr_sub (M := MON) (by decide +kernel) fB).tr (fr_sub (by decide +kernel) f26), _, rfl, Or.inl ⟨by decide, y2, fun i => ?_, rB⟩⟩
      rw [hv_same (fB 182 20 rfl), w26.v, if_pos ⟨rfl, rfl⟩]
      exact fb_oi hz hk i
  · simp only [hs_cd, ab_not] at b8
    refine hs_aload_n ci_1680_11 l0 ?_
    refine hs_iconst ci_1680_12 ?_
    refine hs_cv 1687 11 1 ci_1680_13 (by decide +kernel) (by decide +kernel) hp rfl (by rw [ml_1687]; rfl) (m_bad (Int32.ofInt 3) (by decide) hq hr) ?_
    rintro v9 h2 ⟨r2, e8, hr2, q2, f2, g2⟩
    rw [e8]
    clear e8 v9
    replace hp := q2.1
    simp only [Option.toList, List.cons_append, List.nil_append]
    rcases hrA with ⟨y1, y2⟩ | ⟨y1, -⟩
    · rw [kI_3] at g2
      exact hs_k ⟨3, some (.int r2), by decide +kernel, rv_b rt_1680 (Or.inl hr2), q2, fr_sub (by decide +kernel) f2, _, rfl, Or.inr ⟨hr2, y2, g2⟩⟩
    · omega
theorem hs_lp2 (hq : ab_hp h) (hP : MP h ps) {x y : Int32} (hmen : ∀ q : Nat, (q : Int) < ps.1 4 → ¬ (ps.2 1 q = x.toInt ∧ ps.2 2 q = y.toInt)) : ∀ (m k : Nat) (z : Int32) (ls : eg_L), (k : Int) + (m : Int) = ps.1 5 → z.toInt = (k : Int) → eg_find 0 ls = some (.ref 182) → eg_find 1 ls = some (.int x) → eg_find 2 ls = some (.int y) → eg_find 3 ls = some (.int z) → (∀ q : Nat, q < k → ¬ (ps.2 6 q = x.toInt ∧ ps.2 7 q = y.toInt)) → hs sc sp 1718 11 d (fun pc' _ st' h' => ∃ ik vo, ab_ret 1718 pc' = some ik ∧ eg_rv (eg_md 1718).2.2.2 ik st' = some vo ∧ iw_P h (occ ps x.toInt y.toInt) vo h') 48 ls [] h := by
  have hp := hq.1
  have e0 := hP.1.2.1
  have hb9 := hP.2.2.2.2.2
  intro m
  induction m with
  | zero =>
    intro k z ls hk hz l0 l1 l2 l3 hne
    refine hs_iload_n ci_1718_48 l3 ?_
    refine hs_aload_n ci_1718_49 l0 ?_
    refine hs_gfr 7 185 ci_1718_50 (by decide +kernel) hp ?_
    refine hs_iconst ci_1718_53 ?_
    refine hs_iaload 1 1 (0) (10) ci_1718_54 (by decide +kernel) hp (by decide) (by decide) (fun r54_1 r54_2 => ?_)
    refine hs_ic (t := 92) ci_1718_55 rfl (fun b55 => ?_) (fun b55 => ?_)
    · simp only [hs_cd, ab_not] at b55
      refine hs_iconst ci_1718_92 ?_
      exact hs_k ⟨3, some (.int (Int32.ofInt 0)), by decide +kernel, by decide +kernel, rfl, _, rfl, Or.inr ⟨by decide, fun g => by
        rcases g with ⟨q, q1, q2⟩ | ⟨q, q1, q2⟩
        · exact hmen q q1 q2
        · exact hne q (by omega) q2⟩⟩
    · simp only [hs_cd, ab_not] at b55
      rw [kN_1] at b55
      omega
  | succ m ih =>
    intro k z ls hk hz l0 l1 l2 l3 hne
    refine hs_iload_n ci_1718_48 l3 ?_
    refine hs_aload_n ci_1718_49 l0 ?_
    refine hs_gfr 7 185 ci_1718_50 (by decide +kernel) hp ?_
    refine hs_iconst ci_1718_53 ?_
    refine hs_iaload 1 1 (0) (10) ci_1718_54 (by decide +kernel) hp (by decide) (by decide) (fun r54_1 r54_2 => ?_)
    refine hs_ic (t := 92) ci_1718_55 rfl (fun b55 => ?_) (fun b55 => ?_)
    · simp only [hs_cd, ab_not] at b55
      rw [kN_1] at b55
      omega
    · simp only [hs_cd, ab_not] at b55
      rw [kN_1] at b55
      refine hs_aload_n ci_1718_58 l0 ?_
      refine hs_gfr 7 185 ci_1718_59 (by decide +kernel) hp ?_
      refine hs_bipush ci_1718_62 ?_
      refine hs_iload_n ci_1718_64 l3 ?_
      refine hs_iadd ci_1718_65 ?_
      have g39 : ((Int8.ofInt 39).toInt32 + z).toInt = 39 + (k : Int) := i32_add kB_39 hz (by omega) (by omega)
      have g39b : ((Int8.ofInt 39).toInt32 + z).toInt.toNat = 39 + k := by omega
      refine hs_iaload 39 48 (0) (7) ci_1718_66 (by decide +kernel) hp (by omega) (by omega) (fun r66_1 r66_2 => ?_)
      refine hs_iload_n ci_1718_67 l1 ?_
      refine hs_ic (t := 86) ci_1718_68 rfl (fun b68 => ?_) (fun b68 => ?_)
      · simp only [hs_cd, ab_not] at b68
        refine hs_iinc2 ci_1718_86 (by decide +kernel) l3 ?_
        intro ls9 q9
        replace l0 := q9.2 0 _ (by decide) (Or.inl rfl) l0
        replace l1 := q9.2 1 _ (by decide) (Or.inl rfl) l1
        replace l2 := q9.2 2 _ (by decide) (Or.inl rfl) l2
        have l3 := q9.1
        clear q9
        refine hs_goto (t := 48) ci_1718_89 rfl ?_
        refine ih (k + 1) _ _ (by omega) (i32_inc hz (by omega) (by omega)) l0 l1 l2 l3 (fun q hq => ?_)
        by_cases e : q = k
        · subst e
          rintro ⟨u1, u2⟩
          have c9 := hP.2.2.2.1 q (by omega)
          rw [g39b] at b68
          omega
        · exact hne q (by omega)
      · simp only [hs_cd, ab_not] at b68
        refine hs_aload_n ci_1718_71 l0 ?_
        refine hs_gfr 7 185 ci_1718_72 (by decide +kernel) hp ?_
        refine hs_bipush ci_1718_75 ?_
        refine hs_iload_n ci_1718_77 l3 ?_
        refine hs_iadd ci_1718_78 ?_
        have g49 : ((Int8.ofInt 49).toInt32 + z).toInt = 49 + (k : Int) := i32_add kB_49 hz (by omega) (by omega)
        have g49b : ((Int8.ofInt 49).toInt32 + z).toInt.toNat = 49 + k := by omega
        refine hs_iaload 49 58 (0) (7) ci_1718_79 (by decide +kernel) hp (by omega) (by omega) (fun r79_1 r79_2 => ?_)
        refine hs_iload_n ci_1718_80 l2 ?_
        refine hs_ic (t := 86) ci_1718_81 rfl (fun b81 => ?_) (fun b81 => ?_)
        · simp only [hs_cd, ab_not] at b81
          refine hs_iinc2 ci_1718_86 (by decide +kernel) l3 ?_
          intro ls9 q9
          replace l0 := q9.2 0 _ (by decide) (Or.inl rfl) l0
          replace l1 := q9.2 1 _ (by decide) (Or.inl rfl) l1
          replace l2 := q9.2 2 _ (by decide) (Or.inl rfl) l2
          have l3 := q9.1
          clear q9
          refine hs_goto (t := 48) ci_1718_89 rfl ?_
          refine ih (k + 1) _ _ (by omega) (i32_inc hz (by omega) (by omega)) l0 l1 l2 l3 (fun q hq => ?_)
          by_cases e : q = k
          · subst e
            rintro ⟨u1, u2⟩
            have c9 := hP.2.2.2.1 q (by omega)
            rw [g49b] at b81
            omega
          · exact hne q (by omega)
        · simp only [hs_cd, ab_not] at b81
          refine hs_iconst ci_1718_84 ?_
          have c9 := hP.2.2.2.1 k (by omega)
          rw [g39b] at b68
          rw [g49b] at b81
          exact hs_k ⟨3, some (.int (Int32.ofInt 1)), by decide +kernel, by decide +kernel, rfl, _, rfl, Or.inl ⟨by decide, Or.inr ⟨k, by omega, by omega, by omega⟩⟩⟩
theorem hs_lp1 (hq : ab_hp h) (hP : MP h ps) {x y : Int32} : ∀ (m k : Nat) (z : Int32) (ls : eg_L), (k : Int) + (m : Int) = ps.1 4 → z.toInt = (k : Int) → eg_find 0 ls = some (.ref 182) → eg_find 1 ls = some (.int x) → eg_find 2 ls = some (.int y) → eg_find 3 ls = some (.int z) → (∀ q : Nat, q < k → ¬ (ps.2 1 q = x.toInt ∧ ps.2 2 q = y.toInt)) → hs sc sp 1718 11 d (fun pc' _ st' h' => ∃ ik vo, ab_ret 1718 pc' = some ik ∧ eg_rv (eg_md 1718).2.2.2 ik st' = some vo ∧ iw_P h (occ ps x.toInt y.toInt) vo h') 2 ls [] h := by
  have hp := hq.1
  have e0 := hP.1.1
  have hb9 := hP.2.2.2.2.2
  intro m
  induction m with
  | zero =>
    intro k z ls hk hz l0 l1 l2 l3 hne
    refine hs_iload_n ci_1718_2 l3 ?_
    refine hs_aload_n ci_1718_3 l0 ?_
    refine hs_gfr 7 185 ci_1718_4 (by decide +kernel) hp ?_
    refine hs_iconst ci_1718_7 ?_
    refine hs_iaload 0 0 (0) (6) ci_1718_8 (by decide +kernel) hp (by decide) (by decide) (fun r8_1 r8_2 => ?_)
    refine hs_ic (t := 46) ci_1718_9 rfl (fun b9 => ?_) (fun b9 => ?_)
    · simp only [hs_cd, ab_not] at b9
      refine hs_iconst ci_1718_46 ?_
      refine hs_istore2_n ci_1718_47 (by decide +kernel) ?_
      intro ls9 q9
      replace l0 := q9.2 0 _ (by decide) (Or.inl rfl) l0
      replace l1 := q9.2 1 _ (by decide) (Or.inl rfl) l1
      replace l2 := q9.2 2 _ (by decide) (Or.inl rfl) l2
      have l3 := q9.1
      clear q9
      refine hs_lp2 hq hP (fun q q1 => hne q (by omega)) (ps.1 5).toNat 0 _ _ (by omega) kI_0 l0 l1 l2 l3 (fun q hq => by omega)
    · simp only [hs_cd, ab_not] at b9
      rw [kN_0] at b9
      omega
  | succ m ih =>
    intro k z ls hk hz l0 l1 l2 l3 hne
    refine hs_iload_n ci_1718_2 l3 ?_
    refine hs_aload_n ci_1718_3 l0 ?_
    refine hs_gfr 7 185 ci_1718_4 (by decide +kernel) hp ?_
    refine hs_iconst ci_1718_7 ?_
    refine hs_iaload 0 0 (0) (6) ci_1718_8 (by decide +kernel) hp (by decide) (by decide) (fun r8_1 r8_2 => ?_)
    refine hs_ic (t := 46) ci_1718_9 rfl (fun b9 => ?_) (fun b9 => ?_)
    · simp only [hs_cd, ab_not] at b9
      rw [kN_0] at b9
      omega
    · simp only [hs_cd, ab_not] at b9
      rw [kN_0] at b9
      refine hs_aload_n ci_1718_12 l0 ?_
      refine hs_gfr 7 185 ci_1718_13 (by decide +kernel) hp ?_
      refine hs_bipush ci_1718_16 ?_
      refine hs_iload_n ci_1718_18 l3 ?_
      refine hs_iadd ci_1718_19 ?_
      have g7 : ((Int8.ofInt 7).toInt32 + z).toInt = 7 + (k : Int) := i32_add kB_7 hz (by omega) (by omega)
      have g7b : ((Int8.ofInt 7).toInt32 + z).toInt.toNat = 7 + k := by omega
      refine hs_iaload 7 12 (0) (7) ci_1718_20 (by decide +kernel) hp (by omega) (by omega) (fun r20_1 r20_2 => ?_)
      refine hs_iload_n ci_1718_21 l1 ?_
      refine hs_ic (t := 40) ci_1718_22 rfl (fun b22 => ?_) (fun b22 => ?_)
      · simp only [hs_cd, ab_not] at b22
        refine hs_iinc2 ci_1718_40 (by decide +kernel) l3 ?_
        intro ls9 q9
        replace l0 := q9.2 0 _ (by decide) (Or.inl rfl) l0
        replace l1 := q9.2 1 _ (by decide) (Or.inl rfl) l1
        replace l2 := q9.2 2 _ (by decide) (Or.inl rfl) l2
        have l3 := q9.1
        clear q9
        refine hs_goto (t := 2) ci_1718_43 rfl ?_
        refine ih (k + 1) _ _ (by omega) (i32_inc hz (by omega) (by omega)) l0 l1 l2 l3 (fun q hq => ?_)
        by_cases e : q = k
        · subst e
          rintro ⟨u1, u2⟩
          have c9 := hP.2.2.1 q (by omega)
          rw [g7b] at b22
          omega
        · exact hne q (by omega)
      · simp only [hs_cd, ab_not] at b22
        refine hs_aload_n ci_1718_25 l0 ?_
        refine hs_gfr 7 185 ci_1718_26 (by decide +kernel) hp ?_
        refine hs_bipush ci_1718_29 ?_
        refine hs_iload_n ci_1718_31 l3 ?_
        refine hs_iadd ci_1718_32 ?_
        have g13 : ((Int8.ofInt 13).toInt32 + z).toInt = 13 + (k : Int) := i32_add kB_13 hz (by omega) (by omega)
        have g13b : ((Int8.ofInt 13).toInt32 + z).toInt.toNat = 13 + k := by omega
        refine hs_iaload 13 18 (0) (7) ci_1718_33 (by decide +kernel) hp (by omega) (by omega) (fun r33_1 r33_2 => ?_)
        refine hs_iload_n ci_1718_34 l2 ?_
        refine hs_ic (t := 40) ci_1718_35 rfl (fun b35 => ?_) (fun b35 => ?_)
        · simp only [hs_cd, ab_not] at b35
          refine hs_iinc2 ci_1718_40 (by decide +kernel) l3 ?_
          intro ls9 q9
          replace l0 := q9.2 0 _ (by decide) (Or.inl rfl) l0
          replace l1 := q9.2 1 _ (by decide) (Or.inl rfl) l1
          replace l2 := q9.2 2 _ (by decide) (Or.inl rfl) l2
          have l3 := q9.1
          clear q9
          refine hs_goto (t := 2) ci_1718_43 rfl ?_
          refine ih (k + 1) _ _ (by omega) (i32_inc hz (by omega) (by omega)) l0 l1 l2 l3 (fun q hq => ?_)
          by_cases e : q = k
          · subst e
            rintro ⟨u1, u2⟩
            have c9 := hP.2.2.1 q (by omega)
            rw [g13b] at b35
            omega
          · exact hne q (by omega)
        · simp only [hs_cd, ab_not] at b35
          refine hs_iconst ci_1718_38 ?_
          have c9 := hP.2.2.1 k (by omega)
          rw [g7b] at b22
          rw [g13b] at b35
          exact hs_k ⟨3, some (.int (Int32.ofInt 1)), by decide +kernel, by decide +kernel, rfl, _, rfl, Or.inl ⟨by decide, Or.inl ⟨k, by omega, by omega, by omega⟩⟩⟩
theorem m_has (x y : Int32) (hq : ab_hp h) (hP : MP h ps) : mc sc sp 1718 11 d [.ref 182, .int x, .int y] h (iw_P h (occ ps x.toInt y.toInt)) := by
  have l0 : eg_find 0 (eg_args 0 [.ref 182, .int x, .int y]) = some (.ref 182) := rfl
  have l1 : eg_find 1 (eg_args 0 [.ref 182, .int x, .int y]) = some (.int x) := rfl
  have l2 : eg_find 2 (eg_args 0 [.ref 182, .int x, .int y]) = some (.int y) := rfl
  have hb9 := hP.2.2.2.2.2
  unfold mc
  refine hs_iconst ci_1718_0 ?_
  refine hs_istore2_n ci_1718_1 (by decide +kernel) ?_
  intro ls9 q9
  replace l0 := q9.2 0 _ (by decide) (Or.inl rfl) l0
  replace l1 := q9.2 1 _ (by decide) (Or.inl rfl) l1
  replace l2 := q9.2 2 _ (by decide) (Or.inl rfl) l2
  have l3 := q9.1
  clear q9
  exact hs_lp1 hq hP (ps.1 4).toNat 0 _ _ (by omega) kI_0 l0 l1 l2 l3 (fun q hq => by omega)
theorem fr_ins {M : ab_M} {e g : Nat × Nat × Nat} {h h' : eg_H} (f : ab_fr (e :: M) h' h) : ab_fr (e :: g :: M) h' h := f.mono (fun a k hk => by
  obtain ⟨b, f1, t1⟩ := e
  obtain ⟨b', f', t'⟩ := g
  unfold ab_inr at hk ⊢
  cases e : (Nat.beq a b && Nat.ble f1 k && Nat.ble k t1) with
  | true => rw [e] at hk; exact absurd hk (by simp)
  | false =>
    rw [e] at hk
    unfold ab_inr at hk
    cases e' : (Nat.beq a b' && Nat.ble f' k && Nat.ble k t') with
    | true => rw [e'] at hk; exact absurd hk (by simp)
    | false => rw [e'] at hk; exact hk)
theorem rt_1714 : (eg_md 1714).2.2.2 = some .boolean := by decide +kernel
def pc_P (B : Nat → Int) (n lim : Nat) (tk : Nat → tx_K) (ta P : Nat → Nat) (h : eg_H) (j tx ty : Nat) (s : Sum ER (Int × Int)) (vo : Option Value) (h' : eg_H) : Prop := ab_hp h' ∧ ab_fr ((185, tx, tx) :: (185, ty, ty) :: MTN) h' h ∧ ∃ r : Int32, vo = some (.int r) ∧ ((∃ x y, s = .inr (x, y) ∧ r.toInt = 1 ∧ (∀ q, q ≠ tx → q ≠ ty → hv h' 185 q = hv h 185 q) ∧ (hv h' 185 tx).toInt = x ∧ (hv h' 185 ty).toInt = y ∧ rt B n lim tk ta P h' (j + 2)) ∨ (∃ k a, s = .inl (k, a) ∧ r.toInt = 0 ∧ flm h' k a))
theorem m_putsC {z1 z2 : Int32} {tx ty : Nat} (k1 k2 : Nat) (ck : ck_aw 0 185 k1 k2 0 7 = true) (ck2 : ck_ar 0 185 k1 k2 (-2147483648) 2147483647 = true) (hz1 : z1.toInt = (tx : Int)) (hz2 : z2.toInt = (ty : Int)) (hx1 : k1 ≤ tx) (hx2 : tx ≤ k2) (hy1 : k1 ≤ ty) (hy2 : ty ≤ k2) (h88 : k2 ≤ 88) (hxy : tx ≠ ty) (hus : ¬ usd ps tx) (ts : TS B n lim tk ta P) (hq : ab_hp h) (hr : rt B n lim tk ta P h j) (hP : MP h ps) : mc sc sp 1714 11 (d + 1 + 1 + 1 + 1) [.ref 182, .int z1, .int z2] h (pc_P B n lim tk ta P h j tx ty (sp_cell ps (tk j) (ta j) (tk (j + 1)) (ta (j + 1)))) := by
  have l0 : eg_find 0 (eg_args 0 [.ref 182, .int z1, .int z2]) = some (.ref 182) := rfl
  have l1 : eg_find 1 (eg_args 0 [.ref 182, .int z1, .int z2]) = some (.int z1) := rfl
  have l2 : eg_find 2 (eg_args 0 [.ref 182, .int z1, .int z2]) = some (.int z2) := rfl
  have hp := hq.1
  have e2 : (hv h 185 (Int32.ofInt 2).toInt.toNat).toInt = ps.1 0 := by rw [kN_2]; exact hP.1.2.2.1
  have hb9 := hP.2.2.2.2.2
  have e9 : (hv h 185 (Int32.ofInt 2).toInt.toNat - Int32.ofInt 1).toInt = ps.1 0 - 1 := i32_sub e2 rfl (by omega) (by omega)
  unfold mc
  refine hs_aload_n ci_1714_0 l0 ?_
  refine hs_iload_n ci_1714_1 l1 ?_
  refine hs_iconst ci_1714_2 ?_
  refine hs_aload_n ci_1714_3 l0 ?_
  refine hs_gfr 7 185 ci_1714_4 (by decide +kernel) hp ?_
  refine hs_iconst ci_1714_7 ?_
  refine hs_iaload 2 2 (0) (8) ci_1714_8 (by decide +kernel) hp (by decide) (by decide) (fun r8_1 r8_2 => ?_)
  refine hs_iconst ci_1714_9 ?_
  refine hs_isub ci_1714_10 ?_
  refine hs_cv 1691 11 3 ci_1714_11 (by decide +kernel) (by decide +kernel) hp rfl (by rw [ml_1691]; rfl) (m_puts (x := Int32.ofInt 0) (to := tx) k1 k2 0 7 ck hz1 hx1 hx2 h88 (by decide) (by omega) ts hq hr) ?_
  rintro v9 hA ⟨qA, fA, rA, e8, hrA⟩
  rw [e8]
  clear e8 v9
  rw [e9, kI_0] at hrA
  replace hp := qA.1
  simp only [Option.toList, List.cons_append, List.nil_append]
  refine hs_if (t := 19) ci_1714_14 rfl (fun b14 => ?_) (fun b14 => ?_)
  · simp only [hs_cd, ab_not] at b14
    obtain ⟨v, vx, hv1, hv2, hv3, rA2⟩ : ∃ v x, sp_num (tk j) (ta j) 0 (ps.1 0 - 1) = .inr v ∧ (∀ q, hv hA 185 q = if q = tx then x else hv h 185 q) ∧ x.toInt = v ∧ rt B n lim tk ta P hA (j + 1) := by
      rcases hrA with ⟨v, x, y1, -, y3, y4, y5⟩ | ⟨k, a, -, y2, -⟩
      · exact ⟨v, x, y1, y3, y4, y5⟩
      · omega
    have PA : MP hA ps := hP.up (fun q hu => by
      have hqt : ¬ q = tx := fun g => hus (by rw [← g]; exact hu)
      rw [hv2 q, if_neg hqt]) (hv_same (fA 182 20 rfl)) (fun q _ => hl_same (fA 187 q rfl))
    obtain ⟨k0, k3, k2', k4, kv, -, -⟩ := rs_k rA2.2.2.2.2
    have e3A : (hv hA 185 (Int32.ofInt 3).toInt.toNat).toInt = ps.1 1 := by rw [kN_3]; exact PA.1.2.2.2.1
    have exA : hv hA 185 z1.toInt.toNat = vx := by rw [show z1.toInt.toNat = tx by omega, hv2 tx, if_pos rfl]
    refine hs_aload_n ci_1714_19 l0 ?_
    refine hs_gfi 11 ci_1714_20 (by decide +kernel) hp ?_
    refine hs_iconst ci_1714_23 ?_
    refine hs_ic (t := 33) ci_1714_24 rfl (fun b24 => ?_) (fun b24 => ?_)
    · simp only [hs_cd, ab_not, kI_2] at b24
      refine hs_aload_n ci_1714_33 l0 ?_
      refine hs_gfi 14 ci_1714_34 (by decide +kernel) hp ?_
      refine hs_aload_n ci_1714_37 l0 ?_
      refine hs_gfr 7 185 ci_1714_38 (by decide +kernel) hp ?_
      refine hs_iconst ci_1714_41 ?_
      refine hs_iaload 3 3 (0) (8) ci_1714_42 (by decide +kernel) hp (by decide) (by decide) (fun r42_1 r42_2 => ?_)
      refine hs_ic (t := 52) ci_1714_43 rfl (fun b43 => ?_) (fun b43 => ?_)
      · simp only [hs_cd, ab_not] at b43
        refine hs_aload_n ci_1714_52 l0 ?_
        refine hs_aload_n ci_1714_53 l0 ?_
        refine hs_gfr 7 185 ci_1714_54 (by decide +kernel) hp ?_
        refine hs_iload_n ci_1714_57 l1 ?_
        refine hs_iaload k1 k2 (-2147483648) (2147483647) ci_1714_58 ck2 hp (by omega) (by omega) (fun r58_1 r58_2 => ?_)
        rw [exA]
        refine hs_aload_n ci_1714_59 l0 ?_
        refine hs_gfi 14 ci_1714_60 (by decide +kernel) hp ?_
        have nn := tx_X_nn (ts (j + 1)) (k3.mp b24)
        have kv9 := kv (k3.mp b24)
        refine hs_cv 1718 11 2 ci_1714_63 (by decide +kernel) (by decide +kernel) hp rfl (by rw [ml_1718]; rfl) (m_has vx (hv hA 182 14) qA PA) ?_
        rintro v9 h9 ⟨e9', rH, e8, hrH⟩
        rw [e8, e9']
        clear e8 e9' v9 h9
        simp only [Option.toList, List.cons_append, List.nil_append]
        refine hs_if (t := 75) ci_1714_66 rfl (fun b66 => ?_) (fun b66 => ?_)
        · simp only [hs_cd, ab_not] at b66
          refine hs_aload_n ci_1714_75 l0 ?_
          refine hs_iload_n ci_1714_76 l2 ?_
          refine hs_iconst ci_1714_77 ?_
          refine hs_bipush ci_1714_78 ?_
          refine hs_cv 1691 11 3 ci_1714_80 (by decide +kernel) (by decide +kernel) hp rfl (by rw [ml_1691]; rfl) (m_puts (x := Int32.ofInt 0) (to := ty) k1 k2 0 7 ck hz2 hy1 hy2 h88 (by decide) (by decide) ts qA rA2) ?_
          rintro v9 hB ⟨qB, fB, rB, e8, hrB⟩
          rw [e8]
          clear e8 v9
          rw [kI_0, kB_7] at hrB
          replace hp := qB.1
          simp only [Option.toList, List.cons_append, List.nil_append]
          have sn : sp_num (tk (j + 1)) (ta (j + 1)) 0 (ps.1 1 - 1) = .inr (tk (j + 1)).2.1 := by
            unfold sp_num
            rw [if_pos (k3.mp b24), if_pos ⟨nn, by omega⟩]
          have sm : sp_num (tk (j + 1)) (ta (j + 1)) 0 7 = .inr (tk (j + 1)).2.1 := by
            unfold sp_num
            rw [if_pos (k3.mp b24), if_pos ⟨nn, by omega⟩]
          have no : ¬ occ ps v (tk (j + 1)).2.1 := by
            rcases hrH with ⟨y1, -⟩ | ⟨-, y2⟩
            · omega
            · rw [hv3, kv9] at y2
              exact y2
          obtain ⟨w, wx, hw1, hw0, hw2, hw3, rB2⟩ : ∃ v x, sp_num (tk (j + 1)) (ta (j + 1)) 0 7 = .inr v ∧ rB.toInt = 1 ∧ (∀ q, hv hB 185 q = if q = ty then x else hv hA 185 q) ∧ x.toInt = v ∧ rt B n lim tk ta P hB (j + 1 + 1) := by
            rcases hrB with ⟨v, x, y1, y2, y3, y4, y5⟩ | ⟨k, a, y1, y2, -⟩
            · exact ⟨v, x, y1, y2, y3, y4, y5⟩
            · rw [sm] at y1
              exact absurd y1 (by simp)
          have ew : w = (tk (j + 1)).2.1 := Sum.inr.inj (hw1.symm.trans sm)
          refine hs_k ⟨3, some (.int rB), by decide +kernel, rv_b rt_1714 (Or.inr hw0), qB, (fr_cons fB).tr (fr_ins fA), _, rfl, Or.inl ⟨v, (tk (j + 1)).2.1, ?_, hw0, fun q n1 n2 => ?_, ?_, ?_, rB2⟩⟩
          · unfold sp_cell
            rw [sbn_r hv1, sbn_r sn, if_neg no]
          · rw [hw2 q, if_neg n2, hv2 q, if_neg n1]
          · rw [hw2 tx, if_neg hxy, hv2 tx, if_pos rfl]
            exact hv3
          · rw [hw2 ty, if_pos rfl, hw3]
            exact ew
        · simp only [hs_cd, ab_not] at b66
          refine hs_aload_n ci_1714_69 l0 ?_
          refine hs_iconst ci_1714_70 ?_
          refine hs_cv 1687 11 1 ci_1714_71 (by decide +kernel) (by decide +kernel) hp rfl (by rw [ml_1687]; rfl) (m_bad (Int32.ofInt 3) (by decide) qA rA2) ?_
          rintro v9 h2 ⟨r2, e8, hr2, q2, f2, g2⟩
          rw [e8]
          clear e8 v9
          replace hp := q2.1
          simp only [Option.toList, List.cons_append, List.nil_append]
          have sn : sp_num (tk (j + 1)) (ta (j + 1)) 0 (ps.1 1 - 1) = .inr (tk (j + 1)).2.1 := by
            unfold sp_num
            rw [if_pos (k3.mp b24), if_pos ⟨nn, by omega⟩]
          rw [kI_3] at g2
          refine hs_k ⟨3, some (.int r2), by decide +kernel, rv_b rt_1714 (Or.inl hr2), q2, (fr_cons (fr_cons (e := (185, ty, ty)) (M := MTN) (fr_sub (by decide +kernel) f2))).tr (fr_ins fA), _, rfl, Or.inr ⟨3, ta (j + 1), ?_, hr2, g2⟩⟩
          rcases hrH with ⟨-, y2⟩ | ⟨y1, -⟩
          · rw [hv3, kv9] at y2
            unfold sp_cell
            rw [sbn_r hv1, sbn_r sn, if_pos y2]
          · omega
      · simp only [hs_cd, ab_not] at b43
        refine hs_aload_n ci_1714_46 l0 ?_
        refine hs_iconst ci_1714_47 ?_
        refine hs_cv 1687 11 1 ci_1714_48 (by decide +kernel) (by decide +kernel) hp rfl (by rw [ml_1687]; rfl) (m_bad (Int32.ofInt 2) (by decide) qA rA2) ?_
        rintro v9 h2 ⟨r2, e8, hr2, q2, f2, g2⟩
        rw [e8]
        clear e8 v9
        replace hp := q2.1
        simp only [Option.toList, List.cons_append, List.nil_append]
        rw [kI_2] at g2
        have kv9 := kv (k3.mp b24)
        refine hs_k ⟨3, some (.int r2), by decide +kernel, rv_b rt_1714 (Or.inl hr2), q2, (fr_cons (fr_cons (e := (185, ty, ty)) (M := MTN) (fr_sub (by decide +kernel) f2))).tr (fr_ins fA), _, rfl, Or.inr ⟨2, ta (j + 1), ?_, hr2, g2⟩⟩
        unfold sp_cell
        rw [sbn_r hv1]
        refine sbn_l ?_
        unfold sp_num
        rw [if_pos (k3.mp b24), if_neg (by omega)]
    · simp only [hs_cd, ab_not, kI_2] at b24
      refine hs_aload_n ci_1714_27 l0 ?_
      refine hs_iconst ci_1714_28 ?_
      refine hs_cv 1687 11 1 ci_1714_29 (by decide +kernel) (by decide +kernel) hp rfl (by rw [ml_1687]; rfl) (m_bad (Int32.ofInt 1) (by decide) qA rA2) ?_
      rintro v9 h2 ⟨r2, e8, hr2, q2, f2, g2⟩
      rw [e8]
      clear e8 v9
      replace hp := q2.1
      simp only [Option.toList, List.cons_append, List.nil_append]
      rw [kI_1] at g2
      refine hs_k ⟨3, some (.int r2), by decide +kernel, rv_b rt_1714 (Or.inl hr2), q2, (fr_cons (fr_cons (e := (185, ty, ty)) (M := MTN) (fr_sub (by decide +kernel) f2))).tr (fr_ins fA), _, rfl, Or.inr ⟨1, ta (j + 1), ?_, hr2, g2⟩⟩
      unfold sp_cell
      rw [sbn_r hv1]
      refine sbn_l ?_
      unfold sp_num
      rw [if_neg (fun g => b24 (k3.mpr g))]
  · simp only [hs_cd, ab_not] at b14
    refine hs_iconst ci_1714_17 ?_
    rcases hrA with ⟨v, x, -, y2, -⟩ | ⟨k, a, y1, y2, y3⟩
    · omega
    · refine hs_k ⟨3, some (.int (Int32.ofInt 0)), by decide +kernel, rv_b rt_1714 (Or.inl (by decide)), qA, fr_ins fA, _, rfl, Or.inr ⟨k, a, ?_, by decide, y3⟩⟩
      unfold sp_cell
      rw [sbn_l y1]
end RG
