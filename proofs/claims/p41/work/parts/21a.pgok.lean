theorem eg_dok_v {u : Nat} {l : eg_W} (h : eg_dok u l = true) : ∀ q ∈ l, decode (eg_md u).2.1 q.1 = .ok q.2 := fun q hq => of_decide_eq_true (List.all_eq_true.mp h q hq)
theorem eg_dok_c {u n : Nat} {l : eg_W} {i : Nat} (h1 : ∀ q ∈ l.drop (i + n), decode (eg_md u).2.1 q.1 = .ok q.2) (h2 : eg_dok u ((l.drop i).take n) = true) : ∀ q ∈ l.drop i, decode (eg_md u).2.1 q.1 = .ok q.2 := fun q hq => by
  rw [← List.take_append_drop n (l.drop i), List.drop_drop] at hq
  rcases List.mem_append.mp hq with h | h
  · exact eg_dok_v h2 q h
  · exact h1 q h
theorem eg_dok_n {u i : Nat} {l : eg_W} (h : l.length ≤ i) : ∀ q ∈ l.drop i, decode (eg_md u).2.1 q.1 = .ok q.2 := fun q hq => by
  rw [List.drop_eq_nil_of_le h] at hq
  cases hq
def eg_mok (x : Nat × eg_W) : Prop := ∀ q ∈ x.2, decode (eg_md x.1).2.1 q.1 = .ok q.2
theorem dm_147 : eg_mok (147, pg_147) := fun q hq => (eg_dok_c (n := 60) (i := 0) (eg_dok_c (n := 60) (i := 60) (eg_dok_c (n := 60) (i := 120) (eg_dok_n (by decide +kernel)) dk_147_2) dk_147_1) dk_147_0) q hq
theorem dm_155 : eg_mok (155, pg_155) := fun q hq => (eg_dok_c (n := 60) (i := 0) (eg_dok_n (by decide +kernel)) dk_155_0) q hq
theorem dm_172 : eg_mok (172, pg_172) := fun q hq => (eg_dok_c (n := 60) (i := 0) (eg_dok_c (n := 60) (i := 60) (eg_dok_n (by decide +kernel)) dk_172_1) dk_172_0) q hq
theorem dm_178 : eg_mok (178, pg_178) := fun q hq => (eg_dok_c (n := 60) (i := 0) (eg_dok_n (by decide +kernel)) dk_178_0) q hq
theorem dm_182 : eg_mok (182, pg_182) := fun q hq => (eg_dok_c (n := 60) (i := 0) (eg_dok_n (by decide +kernel)) dk_182_0) q hq
theorem dm_188 : eg_mok (188, pg_188) := fun q hq => (eg_dok_c (n := 60) (i := 0) (eg_dok_n (by decide +kernel)) dk_188_0) q hq
theorem dm_192 : eg_mok (192, pg_192) := fun q hq => (eg_dok_c (n := 60) (i := 0) (eg_dok_n (by decide +kernel)) dk_192_0) q hq
theorem dm_195 : eg_mok (195, pg_195) := fun q hq => (eg_dok_c (n := 60) (i := 0) (eg_dok_n (by decide +kernel)) dk_195_0) q hq
theorem dm_198 : eg_mok (198, pg_198) := fun q hq => (eg_dok_c (n := 60) (i := 0) (eg_dok_n (by decide +kernel)) dk_198_0) q hq
theorem dm_203 : eg_mok (203, pg_203) := fun q hq => (eg_dok_c (n := 60) (i := 0) (eg_dok_n (by decide +kernel)) dk_203_0) q hq
theorem dm_225 : eg_mok (225, pg_225) := fun q hq => (eg_dok_c (n := 60) (i := 0) (eg_dok_n (by decide +kernel)) dk_225_0) q hq
theorem dm_275 : eg_mok (275, pg_275) := fun q hq => (eg_dok_c (n := 60) (i := 0) (eg_dok_c (n := 60) (i := 60) (eg_dok_n (by decide +kernel)) dk_275_1) dk_275_0) q hq
theorem dm_397 : eg_mok (397, pg_397) := fun q hq => (eg_dok_c (n := 60) (i := 0) (eg_dok_n (by decide +kernel)) dk_397_0) q hq
theorem dm_438 : eg_mok (438, pg_438) := fun q hq => (eg_dok_c (n := 60) (i := 0) (eg_dok_n (by decide +kernel)) dk_438_0) q hq
theorem dm_487 : eg_mok (487, pg_487) := fun q hq => (eg_dok_c (n := 60) (i := 0) (eg_dok_n (by decide +kernel)) dk_487_0) q hq
theorem dm_506 : eg_mok (506, pg_506) := fun q hq => (eg_dok_c (n := 60) (i := 0) (eg_dok_n (by decide +kernel)) dk_506_0) q hq
theorem dm_543 : eg_mok (543, pg_543) := fun q hq => (eg_dok_c (n := 60) (i := 0) (eg_dok_n (by decide +kernel)) dk_543_0) q hq
theorem dm_580 : eg_mok (580, pg_580) := fun q hq => (eg_dok_c (n := 60) (i := 0) (eg_dok_n (by decide +kernel)) dk_580_0) q hq
theorem dm_602 : eg_mok (602, pg_602) := fun q hq => (eg_dok_c (n := 60) (i := 0) (eg_dok_n (by decide +kernel)) dk_602_0) q hq
theorem dm_676 : eg_mok (676, pg_676) := fun q hq => (eg_dok_c (n := 60) (i := 0) (eg_dok_n (by decide +kernel)) dk_676_0) q hq
theorem dm_680 : eg_mok (680, pg_680) := fun q hq => (eg_dok_c (n := 60) (i := 0) (eg_dok_n (by decide +kernel)) dk_680_0) q hq
theorem dm_684 : eg_mok (684, pg_684) := fun q hq => (eg_dok_c (n := 60) (i := 0) (eg_dok_n (by decide +kernel)) dk_684_0) q hq
theorem dm_688 : eg_mok (688, pg_688) := fun q hq => (eg_dok_c (n := 60) (i := 0) (eg_dok_n (by decide +kernel)) dk_688_0) q hq
theorem dm_692 : eg_mok (692, pg_692) := fun q hq => (eg_dok_c (n := 60) (i := 0) (eg_dok_c (n := 60) (i := 60) (eg_dok_n (by decide +kernel)) dk_692_1) dk_692_0) q hq
theorem dm_699 : eg_mok (699, pg_699) := fun q hq => (eg_dok_c (n := 60) (i := 0) (eg_dok_n (by decide +kernel)) dk_699_0) q hq
theorem dm_702 : eg_mok (702, pg_702) := fun q hq => (eg_dok_c (n := 60) (i := 0) (eg_dok_n (by decide +kernel)) dk_702_0) q hq
theorem dm_705 : eg_mok (705, pg_705) := fun q hq => (eg_dok_c (n := 60) (i := 0) (eg_dok_n (by decide +kernel)) dk_705_0) q hq
theorem dm_709 : eg_mok (709, pg_709) := fun q hq => (eg_dok_c (n := 60) (i := 0) (eg_dok_c (n := 60) (i := 60) (eg_dok_n (by decide +kernel)) dk_709_1) dk_709_0) q hq
theorem dm_714 : eg_mok (714, pg_714) := fun q hq => (eg_dok_c (n := 60) (i := 0) (eg_dok_n (by decide +kernel)) dk_714_0) q hq
theorem dm_718 : eg_mok (718, pg_718) := fun q hq => (eg_dok_c (n := 60) (i := 0) (eg_dok_n (by decide +kernel)) dk_718_0) q hq
theorem dm_721 : eg_mok (721, pg_721) := fun q hq => (eg_dok_c (n := 60) (i := 0) (eg_dok_n (by decide +kernel)) dk_721_0) q hq
theorem dm_724 : eg_mok (724, pg_724) := fun q hq => (eg_dok_c (n := 60) (i := 0) (eg_dok_n (by decide +kernel)) dk_724_0) q hq
theorem dm_728 : eg_mok (728, pg_728) := fun q hq => (eg_dok_c (n := 60) (i := 0) (eg_dok_n (by decide +kernel)) dk_728_0) q hq
theorem dm_732 : eg_mok (732, pg_732) := fun q hq => (eg_dok_c (n := 60) (i := 0) (eg_dok_n (by decide +kernel)) dk_732_0) q hq
theorem dm_736 : eg_mok (736, pg_736) := fun q hq => (eg_dok_c (n := 60) (i := 0) (eg_dok_n (by decide +kernel)) dk_736_0) q hq
theorem dm_740 : eg_mok (740, pg_740) := fun q hq => (eg_dok_c (n := 60) (i := 0) (eg_dok_n (by decide +kernel)) dk_740_0) q hq
theorem dm_744 : eg_mok (744, pg_744) := fun q hq => (eg_dok_c (n := 60) (i := 0) (eg_dok_n (by decide +kernel)) dk_744_0) q hq
theorem dm_748 : eg_mok (748, pg_748) := fun q hq => (eg_dok_c (n := 60) (i := 0) (eg_dok_n (by decide +kernel)) dk_748_0) q hq
theorem dm_752 : eg_mok (752, pg_752) := fun q hq => (eg_dok_c (n := 60) (i := 0) (eg_dok_n (by decide +kernel)) dk_752_0) q hq
theorem dm_758 : eg_mok (758, pg_758) := fun q hq => (eg_dok_c (n := 60) (i := 0) (eg_dok_n (by decide +kernel)) dk_758_0) q hq
theorem dm_762 : eg_mok (762, pg_762) := fun q hq => (eg_dok_c (n := 60) (i := 0) (eg_dok_n (by decide +kernel)) dk_762_0) q hq
theorem dm_766 : eg_mok (766, pg_766) := fun q hq => (eg_dok_c (n := 60) (i := 0) (eg_dok_n (by decide +kernel)) dk_766_0) q hq
theorem dm_770 : eg_mok (770, pg_770) := fun q hq => (eg_dok_c (n := 60) (i := 0) (eg_dok_n (by decide +kernel)) dk_770_0) q hq
theorem dm_774 : eg_mok (774, pg_774) := fun q hq => (eg_dok_c (n := 60) (i := 0) (eg_dok_n (by decide +kernel)) dk_774_0) q hq
theorem dm_778 : eg_mok (778, pg_778) := fun q hq => (eg_dok_c (n := 60) (i := 0) (eg_dok_n (by decide +kernel)) dk_778_0) q hq
theorem dm_782 : eg_mok (782, pg_782) := fun q hq => (eg_dok_c (n := 60) (i := 0) (eg_dok_n (by decide +kernel)) dk_782_0) q hq
theorem dm_786 : eg_mok (786, pg_786) := fun q hq => (eg_dok_c (n := 60) (i := 0) (eg_dok_n (by decide +kernel)) dk_786_0) q hq
theorem dm_789 : eg_mok (789, pg_789) := fun q hq => (eg_dok_c (n := 60) (i := 0) (eg_dok_n (by decide +kernel)) dk_789_0) q hq
theorem dm_793 : eg_mok (793, pg_793) := fun q hq => (eg_dok_c (n := 60) (i := 0) (eg_dok_c (n := 60) (i := 60) (eg_dok_c (n := 60) (i := 120) (eg_dok_n (by decide +kernel)) dk_793_2) dk_793_1) dk_793_0) q hq
theorem dm_797 : eg_mok (797, pg_797) := fun q hq => (eg_dok_c (n := 60) (i := 0) (eg_dok_n (by decide +kernel)) dk_797_0) q hq
theorem dm_801 : eg_mok (801, pg_801) := fun q hq => (eg_dok_c (n := 60) (i := 0) (eg_dok_n (by decide +kernel)) dk_801_0) q hq
theorem dm_807 : eg_mok (807, pg_807) := fun q hq => (eg_dok_c (n := 60) (i := 0) (eg_dok_n (by decide +kernel)) dk_807_0) q hq
theorem dm_811 : eg_mok (811, pg_811) := fun q hq => (eg_dok_c (n := 60) (i := 0) (eg_dok_c (n := 60) (i := 60) (eg_dok_n (by decide +kernel)) dk_811_1) dk_811_0) q hq
theorem dm_815 : eg_mok (815, pg_815) := fun q hq => (eg_dok_c (n := 60) (i := 0) (eg_dok_n (by decide +kernel)) dk_815_0) q hq
theorem dm_819 : eg_mok (819, pg_819) := fun q hq => (eg_dok_c (n := 60) (i := 0) (eg_dok_n (by decide +kernel)) dk_819_0) q hq
theorem dm_823 : eg_mok (823, pg_823) := fun q hq => (eg_dok_c (n := 60) (i := 0) (eg_dok_n (by decide +kernel)) dk_823_0) q hq
theorem dm_827 : eg_mok (827, pg_827) := fun q hq => (eg_dok_c (n := 60) (i := 0) (eg_dok_n (by decide +kernel)) dk_827_0) q hq
theorem dm_831 : eg_mok (831, pg_831) := fun q hq => (eg_dok_c (n := 60) (i := 0) (eg_dok_n (by decide +kernel)) dk_831_0) q hq
theorem dm_835 : eg_mok (835, pg_835) := fun q hq => (eg_dok_c (n := 60) (i := 0) (eg_dok_c (n := 60) (i := 60) (eg_dok_c (n := 60) (i := 120) (eg_dok_n (by decide +kernel)) dk_835_2) dk_835_1) dk_835_0) q hq
theorem dm_839 : eg_mok (839, pg_839) := fun q hq => (eg_dok_c (n := 60) (i := 0) (eg_dok_n (by decide +kernel)) dk_839_0) q hq
theorem dm_843 : eg_mok (843, pg_843) := fun q hq => (eg_dok_c (n := 60) (i := 0) (eg_dok_n (by decide +kernel)) dk_843_0) q hq
theorem dm_847 : eg_mok (847, pg_847) := fun q hq => (eg_dok_c (n := 60) (i := 0) (eg_dok_n (by decide +kernel)) dk_847_0) q hq
theorem dm_851 : eg_mok (851, pg_851) := fun q hq => (eg_dok_c (n := 60) (i := 0) (eg_dok_n (by decide +kernel)) dk_851_0) q hq
theorem dm_855 : eg_mok (855, pg_855) := fun q hq => (eg_dok_c (n := 60) (i := 0) (eg_dok_n (by decide +kernel)) dk_855_0) q hq
theorem dm_859 : eg_mok (859, pg_859) := fun q hq => (eg_dok_c (n := 60) (i := 0) (eg_dok_n (by decide +kernel)) dk_859_0) q hq
theorem dm_863 : eg_mok (863, pg_863) := fun q hq => (eg_dok_c (n := 60) (i := 0) (eg_dok_n (by decide +kernel)) dk_863_0) q hq
theorem dm_867 : eg_mok (867, pg_867) := fun q hq => (eg_dok_c (n := 60) (i := 0) (eg_dok_n (by decide +kernel)) dk_867_0) q hq
theorem dm_871 : eg_mok (871, pg_871) := fun q hq => (eg_dok_c (n := 60) (i := 0) (eg_dok_n (by decide +kernel)) dk_871_0) q hq
theorem dm_876 : eg_mok (876, pg_876) := fun q hq => (eg_dok_c (n := 60) (i := 0) (eg_dok_n (by decide +kernel)) dk_876_0) q hq
theorem dm_880 : eg_mok (880, pg_880) := fun q hq => (eg_dok_c (n := 60) (i := 0) (eg_dok_n (by decide +kernel)) dk_880_0) q hq
theorem dm_883 : eg_mok (883, pg_883) := fun q hq => (eg_dok_c (n := 60) (i := 0) (eg_dok_n (by decide +kernel)) dk_883_0) q hq
theorem dm_890 : eg_mok (890, pg_890) := fun q hq => (eg_dok_c (n := 60) (i := 0) (eg_dok_n (by decide +kernel)) dk_890_0) q hq
theorem dm_895 : eg_mok (895, pg_895) := fun q hq => (eg_dok_c (n := 60) (i := 0) (eg_dok_n (by decide +kernel)) dk_895_0) q hq
theorem dm_899 : eg_mok (899, pg_899) := fun q hq => (eg_dok_c (n := 60) (i := 0) (eg_dok_n (by decide +kernel)) dk_899_0) q hq
theorem dm_903 : eg_mok (903, pg_903) := fun q hq => (eg_dok_c (n := 60) (i := 0) (eg_dok_n (by decide +kernel)) dk_903_0) q hq
theorem dm_907 : eg_mok (907, pg_907) := fun q hq => (eg_dok_c (n := 60) (i := 0) (eg_dok_n (by decide +kernel)) dk_907_0) q hq
theorem dm_911 : eg_mok (911, pg_911) := fun q hq => (eg_dok_c (n := 60) (i := 0) (eg_dok_n (by decide +kernel)) dk_911_0) q hq
theorem dm_915 : eg_mok (915, pg_915) := fun q hq => (eg_dok_c (n := 60) (i := 0) (eg_dok_n (by decide +kernel)) dk_915_0) q hq
theorem dm_919 : eg_mok (919, pg_919) := fun q hq => (eg_dok_c (n := 60) (i := 0) (eg_dok_c (n := 60) (i := 60) (eg_dok_n (by decide +kernel)) dk_919_1) dk_919_0) q hq
theorem dm_924 : eg_mok (924, pg_924) := fun q hq => (eg_dok_c (n := 60) (i := 0) (eg_dok_n (by decide +kernel)) dk_924_0) q hq
theorem dm_928 : eg_mok (928, pg_928) := fun q hq => (eg_dok_c (n := 60) (i := 0) (eg_dok_n (by decide +kernel)) dk_928_0) q hq
theorem dm_932 : eg_mok (932, pg_932) := fun q hq => (eg_dok_c (n := 60) (i := 0) (eg_dok_c (n := 60) (i := 60) (eg_dok_n (by decide +kernel)) dk_932_1) dk_932_0) q hq
theorem dm_937 : eg_mok (937, pg_937) := fun q hq => (eg_dok_c (n := 60) (i := 0) (eg_dok_n (by decide +kernel)) dk_937_0) q hq
theorem dm_942 : eg_mok (942, pg_942) := fun q hq => (eg_dok_c (n := 60) (i := 0) (eg_dok_n (by decide +kernel)) dk_942_0) q hq
theorem dm_946 : eg_mok (946, pg_946) := fun q hq => (eg_dok_c (n := 60) (i := 0) (eg_dok_n (by decide +kernel)) dk_946_0) q hq
theorem dm_950 : eg_mok (950, pg_950) := fun q hq => (eg_dok_c (n := 60) (i := 0) (eg_dok_n (by decide +kernel)) dk_950_0) q hq
theorem dm_954 : eg_mok (954, pg_954) := fun q hq => (eg_dok_c (n := 60) (i := 0) (eg_dok_n (by decide +kernel)) dk_954_0) q hq
theorem dm_958 : eg_mok (958, pg_958) := fun q hq => (eg_dok_c (n := 60) (i := 0) (eg_dok_n (by decide +kernel)) dk_958_0) q hq
theorem dm_962 : eg_mok (962, pg_962) := fun q hq => (eg_dok_c (n := 60) (i := 0) (eg_dok_n (by decide +kernel)) dk_962_0) q hq
theorem dm_967 : eg_mok (967, pg_967) := fun q hq => (eg_dok_c (n := 60) (i := 0) (eg_dok_n (by decide +kernel)) dk_967_0) q hq
theorem dm_971 : eg_mok (971, pg_971) := fun q hq => (eg_dok_c (n := 60) (i := 0) (eg_dok_c (n := 60) (i := 60) (eg_dok_n (by decide +kernel)) dk_971_1) dk_971_0) q hq
theorem dm_975 : eg_mok (975, pg_975) := fun q hq => (eg_dok_c (n := 60) (i := 0) (eg_dok_n (by decide +kernel)) dk_975_0) q hq
theorem dm_979 : eg_mok (979, pg_979) := fun q hq => (eg_dok_c (n := 60) (i := 0) (eg_dok_n (by decide +kernel)) dk_979_0) q hq
theorem dm_983 : eg_mok (983, pg_983) := fun q hq => (eg_dok_c (n := 60) (i := 0) (eg_dok_n (by decide +kernel)) dk_983_0) q hq
theorem dm_987 : eg_mok (987, pg_987) := fun q hq => (eg_dok_c (n := 60) (i := 0) (eg_dok_n (by decide +kernel)) dk_987_0) q hq
theorem dm_991 : eg_mok (991, pg_991) := fun q hq => (eg_dok_c (n := 60) (i := 0) (eg_dok_n (by decide +kernel)) dk_991_0) q hq
theorem dm_995 : eg_mok (995, pg_995) := fun q hq => (eg_dok_c (n := 60) (i := 0) (eg_dok_n (by decide +kernel)) dk_995_0) q hq
theorem dm_999 : eg_mok (999, pg_999) := fun q hq => (eg_dok_c (n := 60) (i := 0) (eg_dok_n (by decide +kernel)) dk_999_0) q hq
theorem dm_1003 : eg_mok (1003, pg_1003) := fun q hq => (eg_dok_c (n := 60) (i := 0) (eg_dok_n (by decide +kernel)) dk_1003_0) q hq
theorem dm_1009 : eg_mok (1009, pg_1009) := fun q hq => (eg_dok_c (n := 60) (i := 0) (eg_dok_n (by decide +kernel)) dk_1009_0) q hq
theorem dm_1013 : eg_mok (1013, pg_1013) := fun q hq => (eg_dok_c (n := 60) (i := 0) (eg_dok_n (by decide +kernel)) dk_1013_0) q hq
theorem dm_1019 : eg_mok (1019, pg_1019) := fun q hq => (eg_dok_c (n := 60) (i := 0) (eg_dok_n (by decide +kernel)) dk_1019_0) q hq
theorem dm_1023 : eg_mok (1023, pg_1023) := fun q hq => (eg_dok_c (n := 60) (i := 0) (eg_dok_n (by decide +kernel)) dk_1023_0) q hq
theorem dm_1027 : eg_mok (1027, pg_1027) := fun q hq => (eg_dok_c (n := 60) (i := 0) (eg_dok_n (by decide +kernel)) dk_1027_0) q hq
theorem dm_1031 : eg_mok (1031, pg_1031) := fun q hq => (eg_dok_c (n := 60) (i := 0) (eg_dok_c (n := 60) (i := 60) (eg_dok_n (by decide +kernel)) dk_1031_1) dk_1031_0) q hq
theorem dm_1035 : eg_mok (1035, pg_1035) := fun q hq => (eg_dok_c (n := 60) (i := 0) (eg_dok_n (by decide +kernel)) dk_1035_0) q hq
theorem dm_1040 : eg_mok (1040, pg_1040) := fun q hq => (eg_dok_c (n := 60) (i := 0) (eg_dok_n (by decide +kernel)) dk_1040_0) q hq
theorem dm_1044 : eg_mok (1044, pg_1044) := fun q hq => (eg_dok_c (n := 60) (i := 0) (eg_dok_n (by decide +kernel)) dk_1044_0) q hq
theorem dm_1050 : eg_mok (1050, pg_1050) := fun q hq => (eg_dok_c (n := 60) (i := 0) (eg_dok_n (by decide +kernel)) dk_1050_0) q hq
theorem dm_1054 : eg_mok (1054, pg_1054) := fun q hq => (eg_dok_c (n := 60) (i := 0) (eg_dok_n (by decide +kernel)) dk_1054_0) q hq
theorem dm_1058 : eg_mok (1058, pg_1058) := fun q hq => (eg_dok_c (n := 60) (i := 0) (eg_dok_n (by decide +kernel)) dk_1058_0) q hq
theorem dm_1062 : eg_mok (1062, pg_1062) := fun q hq => (eg_dok_c (n := 60) (i := 0) (eg_dok_n (by decide +kernel)) dk_1062_0) q hq
theorem dm_1066 : eg_mok (1066, pg_1066) := fun q hq => (eg_dok_c (n := 60) (i := 0) (eg_dok_n (by decide +kernel)) dk_1066_0) q hq
theorem dm_1073 : eg_mok (1073, pg_1073) := fun q hq => (eg_dok_c (n := 60) (i := 0) (eg_dok_n (by decide +kernel)) dk_1073_0) q hq
theorem dm_1077 : eg_mok (1077, pg_1077) := fun q hq => (eg_dok_c (n := 60) (i := 0) (eg_dok_c (n := 60) (i := 60) (eg_dok_n (by decide +kernel)) dk_1077_1) dk_1077_0) q hq
theorem dm_1081 : eg_mok (1081, pg_1081) := fun q hq => (eg_dok_c (n := 60) (i := 0) (eg_dok_n (by decide +kernel)) dk_1081_0) q hq
theorem dm_1085 : eg_mok (1085, pg_1085) := fun q hq => (eg_dok_c (n := 60) (i := 0) (eg_dok_n (by decide +kernel)) dk_1085_0) q hq
theorem dm_1089 : eg_mok (1089, pg_1089) := fun q hq => (eg_dok_c (n := 60) (i := 0) (eg_dok_c (n := 60) (i := 60) (eg_dok_n (by decide +kernel)) dk_1089_1) dk_1089_0) q hq
theorem dm_1093 : eg_mok (1093, pg_1093) := fun q hq => (eg_dok_c (n := 60) (i := 0) (eg_dok_c (n := 60) (i := 60) (eg_dok_n (by decide +kernel)) dk_1093_1) dk_1093_0) q hq
theorem dm_1097 : eg_mok (1097, pg_1097) := fun q hq => (eg_dok_c (n := 60) (i := 0) (eg_dok_n (by decide +kernel)) dk_1097_0) q hq
theorem dm_1101 : eg_mok (1101, pg_1101) := fun q hq => (eg_dok_c (n := 60) (i := 0) (eg_dok_n (by decide +kernel)) dk_1101_0) q hq
theorem dm_1105 : eg_mok (1105, pg_1105) := fun q hq => (eg_dok_c (n := 60) (i := 0) (eg_dok_c (n := 60) (i := 60) (eg_dok_n (by decide +kernel)) dk_1105_1) dk_1105_0) q hq
theorem dm_1109 : eg_mok (1109, pg_1109) := fun q hq => (eg_dok_c (n := 60) (i := 0) (eg_dok_n (by decide +kernel)) dk_1109_0) q hq
theorem dm_1113 : eg_mok (1113, pg_1113) := fun q hq => (eg_dok_c (n := 60) (i := 0) (eg_dok_n (by decide +kernel)) dk_1113_0) q hq
theorem dm_1117 : eg_mok (1117, pg_1117) := fun q hq => (eg_dok_c (n := 60) (i := 0) (eg_dok_n (by decide +kernel)) dk_1117_0) q hq
theorem dm_1121 : eg_mok (1121, pg_1121) := fun q hq => (eg_dok_c (n := 60) (i := 0) (eg_dok_n (by decide +kernel)) dk_1121_0) q hq
theorem dm_1125 : eg_mok (1125, pg_1125) := fun q hq => (eg_dok_c (n := 60) (i := 0) (eg_dok_n (by decide +kernel)) dk_1125_0) q hq
theorem dm_1129 : eg_mok (1129, pg_1129) := fun q hq => (eg_dok_c (n := 60) (i := 0) (eg_dok_c (n := 60) (i := 60) (eg_dok_n (by decide +kernel)) dk_1129_1) dk_1129_0) q hq
theorem dm_1132 : eg_mok (1132, pg_1132) := fun q hq => (eg_dok_c (n := 60) (i := 0) (eg_dok_n (by decide +kernel)) dk_1132_0) q hq
theorem dm_1136 : eg_mok (1136, pg_1136) := fun q hq => (eg_dok_c (n := 60) (i := 0) (eg_dok_n (by decide +kernel)) dk_1136_0) q hq
theorem dm_1140 : eg_mok (1140, pg_1140) := fun q hq => (eg_dok_c (n := 60) (i := 0) (eg_dok_n (by decide +kernel)) dk_1140_0) q hq
theorem dm_1147 : eg_mok (1147, pg_1147) := fun q hq => (eg_dok_c (n := 60) (i := 0) (eg_dok_n (by decide +kernel)) dk_1147_0) q hq
theorem dm_1151 : eg_mok (1151, pg_1151) := fun q hq => (eg_dok_c (n := 60) (i := 0) (eg_dok_n (by decide +kernel)) dk_1151_0) q hq
theorem dm_1156 : eg_mok (1156, pg_1156) := fun q hq => (eg_dok_c (n := 60) (i := 0) (eg_dok_n (by decide +kernel)) dk_1156_0) q hq
theorem dm_1160 : eg_mok (1160, pg_1160) := fun q hq => (eg_dok_c (n := 60) (i := 0) (eg_dok_n (by decide +kernel)) dk_1160_0) q hq
theorem dm_1164 : eg_mok (1164, pg_1164) := fun q hq => (eg_dok_c (n := 60) (i := 0) (eg_dok_n (by decide +kernel)) dk_1164_0) q hq
theorem dm_1168 : eg_mok (1168, pg_1168) := fun q hq => (eg_dok_c (n := 60) (i := 0) (eg_dok_n (by decide +kernel)) dk_1168_0) q hq
theorem dm_1172 : eg_mok (1172, pg_1172) := fun q hq => (eg_dok_c (n := 60) (i := 0) (eg_dok_n (by decide +kernel)) dk_1172_0) q hq
theorem dm_1176 : eg_mok (1176, pg_1176) := fun q hq => (eg_dok_c (n := 60) (i := 0) (eg_dok_n (by decide +kernel)) dk_1176_0) q hq
theorem dm_1182 : eg_mok (1182, pg_1182) := fun q hq => (eg_dok_c (n := 60) (i := 0) (eg_dok_n (by decide +kernel)) dk_1182_0) q hq
theorem dm_1186 : eg_mok (1186, pg_1186) := fun q hq => (eg_dok_c (n := 60) (i := 0) (eg_dok_n (by decide +kernel)) dk_1186_0) q hq
theorem dm_1192 : eg_mok (1192, pg_1192) := fun q hq => (eg_dok_c (n := 60) (i := 0) (eg_dok_n (by decide +kernel)) dk_1192_0) q hq
theorem dm_1196 : eg_mok (1196, pg_1196) := fun q hq => (eg_dok_c (n := 60) (i := 0) (eg_dok_n (by decide +kernel)) dk_1196_0) q hq
theorem dm_1200 : eg_mok (1200, pg_1200) := fun q hq => (eg_dok_c (n := 60) (i := 0) (eg_dok_n (by decide +kernel)) dk_1200_0) q hq
theorem dm_1205 : eg_mok (1205, pg_1205) := fun q hq => (eg_dok_c (n := 60) (i := 0) (eg_dok_n (by decide +kernel)) dk_1205_0) q hq
theorem dm_1209 : eg_mok (1209, pg_1209) := fun q hq => (eg_dok_c (n := 60) (i := 0) (eg_dok_n (by decide +kernel)) dk_1209_0) q hq
theorem dm_1216 : eg_mok (1216, pg_1216) := fun q hq => (eg_dok_c (n := 60) (i := 0) (eg_dok_n (by decide +kernel)) dk_1216_0) q hq
theorem dm_1221 : eg_mok (1221, pg_1221) := fun q hq => (eg_dok_c (n := 60) (i := 0) (eg_dok_n (by decide +kernel)) dk_1221_0) q hq
theorem dm_1226 : eg_mok (1226, pg_1226) := fun q hq => (eg_dok_c (n := 60) (i := 0) (eg_dok_c (n := 60) (i := 60) (eg_dok_n (by decide +kernel)) dk_1226_1) dk_1226_0) q hq
theorem dm_1234 : eg_mok (1234, pg_1234) := fun q hq => (eg_dok_c (n := 60) (i := 0) (eg_dok_n (by decide +kernel)) dk_1234_0) q hq
theorem dm_1238 : eg_mok (1238, pg_1238) := fun q hq => (eg_dok_c (n := 60) (i := 0) (eg_dok_n (by decide +kernel)) dk_1238_0) q hq
theorem dm_1242 : eg_mok (1242, pg_1242) := fun q hq => (eg_dok_c (n := 60) (i := 0) (eg_dok_n (by decide +kernel)) dk_1242_0) q hq
theorem dm_1246 : eg_mok (1246, pg_1246) := fun q hq => (eg_dok_c (n := 60) (i := 0) (eg_dok_n (by decide +kernel)) dk_1246_0) q hq
theorem dm_1252 : eg_mok (1252, pg_1252) := fun q hq => (eg_dok_c (n := 60) (i := 0) (eg_dok_n (by decide +kernel)) dk_1252_0) q hq
theorem dm_1256 : eg_mok (1256, pg_1256) := fun q hq => (eg_dok_c (n := 60) (i := 0) (eg_dok_n (by decide +kernel)) dk_1256_0) q hq
theorem dm_1260 : eg_mok (1260, pg_1260) := fun q hq => (eg_dok_c (n := 60) (i := 0) (eg_dok_n (by decide +kernel)) dk_1260_0) q hq
theorem dm_1263 : eg_mok (1263, pg_1263) := fun q hq => (eg_dok_c (n := 60) (i := 0) (eg_dok_n (by decide +kernel)) dk_1263_0) q hq
theorem dm_1268 : eg_mok (1268, pg_1268) := fun q hq => (eg_dok_c (n := 60) (i := 0) (eg_dok_n (by decide +kernel)) dk_1268_0) q hq
theorem dm_1272 : eg_mok (1272, pg_1272) := fun q hq => (eg_dok_c (n := 60) (i := 0) (eg_dok_n (by decide +kernel)) dk_1272_0) q hq
theorem dm_1276 : eg_mok (1276, pg_1276) := fun q hq => (eg_dok_c (n := 60) (i := 0) (eg_dok_n (by decide +kernel)) dk_1276_0) q hq
theorem dm_1280 : eg_mok (1280, pg_1280) := fun q hq => (eg_dok_c (n := 60) (i := 0) (eg_dok_n (by decide +kernel)) dk_1280_0) q hq
theorem dm_1287 : eg_mok (1287, pg_1287) := fun q hq => (eg_dok_c (n := 60) (i := 0) (eg_dok_n (by decide +kernel)) dk_1287_0) q hq
theorem dm_1293 : eg_mok (1293, pg_1293) := fun q hq => (eg_dok_c (n := 60) (i := 0) (eg_dok_n (by decide +kernel)) dk_1293_0) q hq
theorem dm_1297 : eg_mok (1297, pg_1297) := fun q hq => (eg_dok_c (n := 60) (i := 0) (eg_dok_n (by decide +kernel)) dk_1297_0) q hq
theorem dm_1301 : eg_mok (1301, pg_1301) := fun q hq => (eg_dok_c (n := 60) (i := 0) (eg_dok_n (by decide +kernel)) dk_1301_0) q hq
theorem dm_1305 : eg_mok (1305, pg_1305) := fun q hq => (eg_dok_c (n := 60) (i := 0) (eg_dok_n (by decide +kernel)) dk_1305_0) q hq
theorem dm_1309 : eg_mok (1309, pg_1309) := fun q hq => (eg_dok_c (n := 60) (i := 0) (eg_dok_c (n := 60) (i := 60) (eg_dok_n (by decide +kernel)) dk_1309_1) dk_1309_0) q hq
theorem dm_1313 : eg_mok (1313, pg_1313) := fun q hq => (eg_dok_c (n := 60) (i := 0) (eg_dok_n (by decide +kernel)) dk_1313_0) q hq
theorem dm_1317 : eg_mok (1317, pg_1317) := fun q hq => (eg_dok_c (n := 60) (i := 0) (eg_dok_n (by decide +kernel)) dk_1317_0) q hq
theorem dm_1321 : eg_mok (1321, pg_1321) := fun q hq => (eg_dok_c (n := 60) (i := 0) (eg_dok_n (by decide +kernel)) dk_1321_0) q hq
theorem dm_1326 : eg_mok (1326, pg_1326) := fun q hq => (eg_dok_c (n := 60) (i := 0) (eg_dok_n (by decide +kernel)) dk_1326_0) q hq
theorem dm_1330 : eg_mok (1330, pg_1330) := fun q hq => (eg_dok_c (n := 60) (i := 0) (eg_dok_n (by decide +kernel)) dk_1330_0) q hq
theorem dm_1335 : eg_mok (1335, pg_1335) := fun q hq => (eg_dok_c (n := 60) (i := 0) (eg_dok_n (by decide +kernel)) dk_1335_0) q hq
theorem dm_1339 : eg_mok (1339, pg_1339) := fun q hq => (eg_dok_c (n := 60) (i := 0) (eg_dok_n (by decide +kernel)) dk_1339_0) q hq
theorem dm_1343 : eg_mok (1343, pg_1343) := fun q hq => (eg_dok_c (n := 60) (i := 0) (eg_dok_n (by decide +kernel)) dk_1343_0) q hq
theorem dm_1346 : eg_mok (1346, pg_1346) := fun q hq => (eg_dok_c (n := 60) (i := 0) (eg_dok_n (by decide +kernel)) dk_1346_0) q hq
theorem dm_1351 : eg_mok (1351, pg_1351) := fun q hq => (eg_dok_c (n := 60) (i := 0) (eg_dok_n (by decide +kernel)) dk_1351_0) q hq
theorem dm_1355 : eg_mok (1355, pg_1355) := fun q hq => (eg_dok_c (n := 60) (i := 0) (eg_dok_n (by decide +kernel)) dk_1355_0) q hq
theorem dm_1359 : eg_mok (1359, pg_1359) := fun q hq => (eg_dok_c (n := 60) (i := 0) (eg_dok_n (by decide +kernel)) dk_1359_0) q hq
theorem dm_1367 : eg_mok (1367, pg_1367) := fun q hq => (eg_dok_c (n := 60) (i := 0) (eg_dok_c (n := 60) (i := 60) (eg_dok_n (by decide +kernel)) dk_1367_1) dk_1367_0) q hq
theorem dm_1436 : eg_mok (1436, pg_1436) := fun q hq => (eg_dok_c (n := 60) (i := 0) (eg_dok_c (n := 60) (i := 60) (eg_dok_n (by decide +kernel)) dk_1436_1) dk_1436_0) q hq
theorem dm_1442 : eg_mok (1442, pg_1442) := fun q hq => (eg_dok_c (n := 60) (i := 0) (eg_dok_n (by decide +kernel)) dk_1442_0) q hq
theorem dm_1447 : eg_mok (1447, pg_1447) := fun q hq => (eg_dok_c (n := 60) (i := 0) (eg_dok_n (by decide +kernel)) dk_1447_0) q hq
theorem dm_1451 : eg_mok (1451, pg_1451) := fun q hq => (eg_dok_c (n := 60) (i := 0) (eg_dok_n (by decide +kernel)) dk_1451_0) q hq
theorem dm_1455 : eg_mok (1455, pg_1455) := fun q hq => (eg_dok_c (n := 60) (i := 0) (eg_dok_c (n := 60) (i := 60) (eg_dok_c (n := 60) (i := 120) (eg_dok_c (n := 60) (i := 180) (eg_dok_n (by decide +kernel)) dk_1455_3) dk_1455_2) dk_1455_1) dk_1455_0) q hq
theorem dm_1483 : eg_mok (1483, pg_1483) := fun q hq => (eg_dok_c (n := 60) (i := 0) (eg_dok_n (by decide +kernel)) dk_1483_0) q hq
theorem dm_1650 : eg_mok (1650, pg_1650) := fun q hq => (eg_dok_c (n := 60) (i := 0) (eg_dok_c (n := 60) (i := 60) (eg_dok_n (by decide +kernel)) dk_1650_1) dk_1650_0) q hq
theorem dm_1654 : eg_mok (1654, pg_1654) := fun q hq => (eg_dok_c (n := 60) (i := 0) (eg_dok_n (by decide +kernel)) dk_1654_0) q hq
theorem dm_1658 : eg_mok (1658, pg_1658) := fun q hq => (eg_dok_c (n := 60) (i := 0) (eg_dok_c (n := 60) (i := 60) (eg_dok_c (n := 60) (i := 120) (eg_dok_n (by decide +kernel)) dk_1658_2) dk_1658_1) dk_1658_0) q hq
theorem dm_1662 : eg_mok (1662, pg_1662) := fun q hq => (eg_dok_c (n := 60) (i := 0) (eg_dok_n (by decide +kernel)) dk_1662_0) q hq
theorem dm_1665 : eg_mok (1665, pg_1665) := fun q hq => (eg_dok_c (n := 60) (i := 0) (eg_dok_n (by decide +kernel)) dk_1665_0) q hq
theorem dm_1668 : eg_mok (1668, pg_1668) := fun q hq => (eg_dok_c (n := 60) (i := 0) (eg_dok_n (by decide +kernel)) dk_1668_0) q hq
theorem dm_1672 : eg_mok (1672, pg_1672) := fun q hq => (eg_dok_c (n := 60) (i := 0) (eg_dok_c (n := 60) (i := 60) (eg_dok_c (n := 60) (i := 120) (eg_dok_c (n := 60) (i := 180) (eg_dok_n (by decide +kernel)) dk_1672_3) dk_1672_2) dk_1672_1) dk_1672_0) q hq
theorem dm_1676 : eg_mok (1676, pg_1676) := fun q hq => (eg_dok_c (n := 60) (i := 0) (eg_dok_n (by decide +kernel)) dk_1676_0) q hq
theorem dm_1680 : eg_mok (1680, pg_1680) := fun q hq => (eg_dok_c (n := 60) (i := 0) (eg_dok_n (by decide +kernel)) dk_1680_0) q hq
theorem dm_1683 : eg_mok (1683, pg_1683) := fun q hq => (eg_dok_c (n := 60) (i := 0) (eg_dok_n (by decide +kernel)) dk_1683_0) q hq
theorem dm_1687 : eg_mok (1687, pg_1687) := fun q hq => (eg_dok_c (n := 60) (i := 0) (eg_dok_n (by decide +kernel)) dk_1687_0) q hq
theorem dm_1691 : eg_mok (1691, pg_1691) := fun q hq => (eg_dok_c (n := 60) (i := 0) (eg_dok_n (by decide +kernel)) dk_1691_0) q hq
theorem dm_1695 : eg_mok (1695, pg_1695) := fun q hq => (eg_dok_c (n := 60) (i := 0) (eg_dok_n (by decide +kernel)) dk_1695_0) q hq
theorem dm_1698 : eg_mok (1698, pg_1698) := fun q hq => (eg_dok_c (n := 60) (i := 0) (eg_dok_n (by decide +kernel)) dk_1698_0) q hq
theorem dm_1702 : eg_mok (1702, pg_1702) := fun q hq => (eg_dok_c (n := 60) (i := 0) (eg_dok_n (by decide +kernel)) dk_1702_0) q hq
theorem dm_1706 : eg_mok (1706, pg_1706) := fun q hq => (eg_dok_c (n := 60) (i := 0) (eg_dok_n (by decide +kernel)) dk_1706_0) q hq
theorem dm_1710 : eg_mok (1710, pg_1710) := fun q hq => (eg_dok_c (n := 60) (i := 0) (eg_dok_n (by decide +kernel)) dk_1710_0) q hq
theorem dm_1714 : eg_mok (1714, pg_1714) := fun q hq => (eg_dok_c (n := 60) (i := 0) (eg_dok_n (by decide +kernel)) dk_1714_0) q hq
theorem dm_1718 : eg_mok (1718, pg_1718) := fun q hq => (eg_dok_c (n := 60) (i := 0) (eg_dok_n (by decide +kernel)) dk_1718_0) q hq
theorem dm_1722 : eg_mok (1722, pg_1722) := fun q hq => (eg_dok_c (n := 60) (i := 0) (eg_dok_c (n := 60) (i := 60) (eg_dok_n (by decide +kernel)) dk_1722_1) dk_1722_0) q hq
theorem dm_1726 : eg_mok (1726, pg_1726) := fun q hq => (eg_dok_c (n := 60) (i := 0) (eg_dok_n (by decide +kernel)) dk_1726_0) q hq
theorem dm_1730 : eg_mok (1730, pg_1730) := fun q hq => (eg_dok_c (n := 60) (i := 0) (eg_dok_n (by decide +kernel)) dk_1730_0) q hq
theorem dm_1734 : eg_mok (1734, pg_1734) := fun q hq => (eg_dok_c (n := 60) (i := 0) (eg_dok_n (by decide +kernel)) dk_1734_0) q hq
theorem dm_1738 : eg_mok (1738, pg_1738) := fun q hq => (eg_dok_c (n := 60) (i := 0) (eg_dok_n (by decide +kernel)) dk_1738_0) q hq
theorem dm_1742 : eg_mok (1742, pg_1742) := fun q hq => (eg_dok_c (n := 60) (i := 0) (eg_dok_n (by decide +kernel)) dk_1742_0) q hq
theorem dm_1746 : eg_mok (1746, pg_1746) := fun q hq => (eg_dok_c (n := 60) (i := 0) (eg_dok_c (n := 60) (i := 60) (eg_dok_n (by decide +kernel)) dk_1746_1) dk_1746_0) q hq
theorem dm_1750 : eg_mok (1750, pg_1750) := fun q hq => (eg_dok_c (n := 60) (i := 0) (eg_dok_n (by decide +kernel)) dk_1750_0) q hq
theorem dm_1754 : eg_mok (1754, pg_1754) := fun q hq => (eg_dok_c (n := 60) (i := 0) (eg_dok_n (by decide +kernel)) dk_1754_0) q hq
theorem dm_1758 : eg_mok (1758, pg_1758) := fun q hq => (eg_dok_c (n := 60) (i := 0) (eg_dok_n (by decide +kernel)) dk_1758_0) q hq
theorem dm_1762 : eg_mok (1762, pg_1762) := fun q hq => (eg_dok_c (n := 60) (i := 0) (eg_dok_n (by decide +kernel)) dk_1762_0) q hq
theorem dm_1766 : eg_mok (1766, pg_1766) := fun q hq => (eg_dok_c (n := 60) (i := 0) (eg_dok_n (by decide +kernel)) dk_1766_0) q hq
theorem dm_1770 : eg_mok (1770, pg_1770) := fun q hq => (eg_dok_c (n := 60) (i := 0) (eg_dok_n (by decide +kernel)) dk_1770_0) q hq
theorem dm_1774 : eg_mok (1774, pg_1774) := fun q hq => (eg_dok_c (n := 60) (i := 0) (eg_dok_c (n := 60) (i := 60) (eg_dok_n (by decide +kernel)) dk_1774_1) dk_1774_0) q hq
theorem dm_1778 : eg_mok (1778, pg_1778) := fun q hq => (eg_dok_c (n := 60) (i := 0) (eg_dok_n (by decide +kernel)) dk_1778_0) q hq
theorem dm_1782 : eg_mok (1782, pg_1782) := fun q hq => (eg_dok_c (n := 60) (i := 0) (eg_dok_n (by decide +kernel)) dk_1782_0) q hq
theorem dm_1786 : eg_mok (1786, pg_1786) := fun q hq => (eg_dok_c (n := 60) (i := 0) (eg_dok_n (by decide +kernel)) dk_1786_0) q hq
theorem dm_1790 : eg_mok (1790, pg_1790) := fun q hq => (eg_dok_c (n := 60) (i := 0) (eg_dok_n (by decide +kernel)) dk_1790_0) q hq
theorem dm_1794 : eg_mok (1794, pg_1794) := fun q hq => (eg_dok_c (n := 60) (i := 0) (eg_dok_n (by decide +kernel)) dk_1794_0) q hq
theorem dm_1798 : eg_mok (1798, pg_1798) := fun q hq => (eg_dok_c (n := 60) (i := 0) (eg_dok_n (by decide +kernel)) dk_1798_0) q hq
theorem dm_1802 : eg_mok (1802, pg_1802) := fun q hq => (eg_dok_c (n := 60) (i := 0) (eg_dok_n (by decide +kernel)) dk_1802_0) q hq
theorem dm_1806 : eg_mok (1806, pg_1806) := fun q hq => (eg_dok_c (n := 60) (i := 0) (eg_dok_n (by decide +kernel)) dk_1806_0) q hq
theorem dm_1810 : eg_mok (1810, pg_1810) := fun q hq => (eg_dok_c (n := 60) (i := 0) (eg_dok_n (by decide +kernel)) dk_1810_0) q hq
theorem dm_1814 : eg_mok (1814, pg_1814) := fun q hq => (eg_dok_c (n := 60) (i := 0) (eg_dok_n (by decide +kernel)) dk_1814_0) q hq
theorem dm_1818 : eg_mok (1818, pg_1818) := fun q hq => (eg_dok_c (n := 60) (i := 0) (eg_dok_c (n := 60) (i := 60) (eg_dok_n (by decide +kernel)) dk_1818_1) dk_1818_0) q hq
theorem dm_1822 : eg_mok (1822, pg_1822) := fun q hq => (eg_dok_c (n := 60) (i := 0) (eg_dok_n (by decide +kernel)) dk_1822_0) q hq
theorem dm_1826 : eg_mok (1826, pg_1826) := fun q hq => (eg_dok_c (n := 60) (i := 0) (eg_dok_n (by decide +kernel)) dk_1826_0) q hq
theorem dm_1829 : eg_mok (1829, pg_1829) := fun q hq => (eg_dok_c (n := 60) (i := 0) (eg_dok_n (by decide +kernel)) dk_1829_0) q hq
theorem dm_1833 : eg_mok (1833, pg_1833) := fun q hq => (eg_dok_c (n := 60) (i := 0) (eg_dok_n (by decide +kernel)) dk_1833_0) q hq
theorem dm_1837 : eg_mok (1837, pg_1837) := fun q hq => (eg_dok_c (n := 60) (i := 0) (eg_dok_n (by decide +kernel)) dk_1837_0) q hq
theorem dm_1841 : eg_mok (1841, pg_1841) := fun q hq => (eg_dok_c (n := 60) (i := 0) (eg_dok_n (by decide +kernel)) dk_1841_0) q hq
theorem dm_1845 : eg_mok (1845, pg_1845) := fun q hq => (eg_dok_c (n := 60) (i := 0) (eg_dok_n (by decide +kernel)) dk_1845_0) q hq
theorem dm_1849 : eg_mok (1849, pg_1849) := fun q hq => (eg_dok_c (n := 60) (i := 0) (eg_dok_n (by decide +kernel)) dk_1849_0) q hq
theorem dm_1853 : eg_mok (1853, pg_1853) := fun q hq => (eg_dok_c (n := 60) (i := 0) (eg_dok_n (by decide +kernel)) dk_1853_0) q hq
theorem dm_1857 : eg_mok (1857, pg_1857) := fun q hq => (eg_dok_c (n := 60) (i := 0) (eg_dok_c (n := 60) (i := 60) (eg_dok_n (by decide +kernel)) dk_1857_1) dk_1857_0) q hq
theorem dm_1861 : eg_mok (1861, pg_1861) := fun q hq => (eg_dok_c (n := 60) (i := 0) (eg_dok_c (n := 60) (i := 60) (eg_dok_n (by decide +kernel)) dk_1861_1) dk_1861_0) q hq
theorem dm_1865 : eg_mok (1865, pg_1865) := fun q hq => (eg_dok_c (n := 60) (i := 0) (eg_dok_n (by decide +kernel)) dk_1865_0) q hq
theorem dm_1869 : eg_mok (1869, pg_1869) := fun q hq => (eg_dok_c (n := 60) (i := 0) (eg_dok_n (by decide +kernel)) dk_1869_0) q hq
theorem dm_1873 : eg_mok (1873, pg_1873) := fun q hq => (eg_dok_c (n := 60) (i := 0) (eg_dok_n (by decide +kernel)) dk_1873_0) q hq
theorem dm_1876 : eg_mok (1876, pg_1876) := fun q hq => (eg_dok_c (n := 60) (i := 0) (eg_dok_n (by decide +kernel)) dk_1876_0) q hq
theorem dm_1879 : eg_mok (1879, pg_1879) := fun q hq => (eg_dok_c (n := 60) (i := 0) (eg_dok_n (by decide +kernel)) dk_1879_0) q hq
theorem dm_1883 : eg_mok (1883, pg_1883) := fun q hq => (eg_dok_c (n := 60) (i := 0) (eg_dok_n (by decide +kernel)) dk_1883_0) q hq
theorem dm_1887 : eg_mok (1887, pg_1887) := fun q hq => (eg_dok_c (n := 60) (i := 0) (eg_dok_n (by decide +kernel)) dk_1887_0) q hq
theorem dm_1891 : eg_mok (1891, pg_1891) := fun q hq => (eg_dok_c (n := 60) (i := 0) (eg_dok_n (by decide +kernel)) dk_1891_0) q hq
theorem dm_1895 : eg_mok (1895, pg_1895) := fun q hq => (eg_dok_c (n := 60) (i := 0) (eg_dok_n (by decide +kernel)) dk_1895_0) q hq
theorem dm_1899 : eg_mok (1899, pg_1899) := fun q hq => (eg_dok_c (n := 60) (i := 0) (eg_dok_n (by decide +kernel)) dk_1899_0) q hq
theorem dm_1902 : eg_mok (1902, pg_1902) := fun q hq => (eg_dok_c (n := 60) (i := 0) (eg_dok_n (by decide +kernel)) dk_1902_0) q hq
theorem dm_1906 : eg_mok (1906, pg_1906) := fun q hq => (eg_dok_c (n := 60) (i := 0) (eg_dok_n (by decide +kernel)) dk_1906_0) q hq
theorem dm_1910 : eg_mok (1910, pg_1910) := fun q hq => (eg_dok_c (n := 60) (i := 0) (eg_dok_n (by decide +kernel)) dk_1910_0) q hq
theorem dm_1914 : eg_mok (1914, pg_1914) := fun q hq => (eg_dok_c (n := 60) (i := 0) (eg_dok_c (n := 60) (i := 60) (eg_dok_n (by decide +kernel)) dk_1914_1) dk_1914_0) q hq
theorem dm_1918 : eg_mok (1918, pg_1918) := fun q hq => (eg_dok_c (n := 60) (i := 0) (eg_dok_n (by decide +kernel)) dk_1918_0) q hq
theorem dm_1922 : eg_mok (1922, pg_1922) := fun q hq => (eg_dok_c (n := 60) (i := 0) (eg_dok_n (by decide +kernel)) dk_1922_0) q hq
theorem dm_1926 : eg_mok (1926, pg_1926) := fun q hq => (eg_dok_c (n := 60) (i := 0) (eg_dok_c (n := 60) (i := 60) (eg_dok_n (by decide +kernel)) dk_1926_1) dk_1926_0) q hq
theorem dm_1930 : eg_mok (1930, pg_1930) := fun q hq => (eg_dok_c (n := 60) (i := 0) (eg_dok_n (by decide +kernel)) dk_1930_0) q hq
theorem dm_1934 : eg_mok (1934, pg_1934) := fun q hq => (eg_dok_c (n := 60) (i := 0) (eg_dok_n (by decide +kernel)) dk_1934_0) q hq
theorem dm_1938 : eg_mok (1938, pg_1938) := fun q hq => (eg_dok_c (n := 60) (i := 0) (eg_dok_n (by decide +kernel)) dk_1938_0) q hq
theorem dm_1942 : eg_mok (1942, pg_1942) := fun q hq => (eg_dok_c (n := 60) (i := 0) (eg_dok_n (by decide +kernel)) dk_1942_0) q hq
theorem dm_1946 : eg_mok (1946, pg_1946) := fun q hq => (eg_dok_c (n := 60) (i := 0) (eg_dok_n (by decide +kernel)) dk_1946_0) q hq
theorem dm_1950 : eg_mok (1950, pg_1950) := fun q hq => (eg_dok_c (n := 60) (i := 0) (eg_dok_c (n := 60) (i := 60) (eg_dok_c (n := 60) (i := 120) (eg_dok_n (by decide +kernel)) dk_1950_2) dk_1950_1) dk_1950_0) q hq
theorem dm_1954 : eg_mok (1954, pg_1954) := fun q hq => (eg_dok_c (n := 60) (i := 0) (eg_dok_n (by decide +kernel)) dk_1954_0) q hq
theorem dm_1958 : eg_mok (1958, pg_1958) := fun q hq => (eg_dok_c (n := 60) (i := 0) (eg_dok_n (by decide +kernel)) dk_1958_0) q hq
theorem dm_1962 : eg_mok (1962, pg_1962) := fun q hq => (eg_dok_c (n := 60) (i := 0) (eg_dok_n (by decide +kernel)) dk_1962_0) q hq
theorem dm_1966 : eg_mok (1966, pg_1966) := fun q hq => (eg_dok_c (n := 60) (i := 0) (eg_dok_c (n := 60) (i := 60) (eg_dok_n (by decide +kernel)) dk_1966_1) dk_1966_0) q hq
theorem dm_1970 : eg_mok (1970, pg_1970) := fun q hq => (eg_dok_c (n := 60) (i := 0) (eg_dok_n (by decide +kernel)) dk_1970_0) q hq
theorem dm_1974 : eg_mok (1974, pg_1974) := fun q hq => (eg_dok_c (n := 60) (i := 0) (eg_dok_n (by decide +kernel)) dk_1974_0) q hq
theorem dm_1978 : eg_mok (1978, pg_1978) := fun q hq => (eg_dok_c (n := 60) (i := 0) (eg_dok_c (n := 60) (i := 60) (eg_dok_n (by decide +kernel)) dk_1978_1) dk_1978_0) q hq
theorem dm_1982 : eg_mok (1982, pg_1982) := fun q hq => (eg_dok_c (n := 60) (i := 0) (eg_dok_n (by decide +kernel)) dk_1982_0) q hq
theorem dm_1986 : eg_mok (1986, pg_1986) := fun q hq => (eg_dok_c (n := 60) (i := 0) (eg_dok_c (n := 60) (i := 60) (eg_dok_n (by decide +kernel)) dk_1986_1) dk_1986_0) q hq
theorem dm_1990 : eg_mok (1990, pg_1990) := fun q hq => (eg_dok_c (n := 60) (i := 0) (eg_dok_n (by decide +kernel)) dk_1990_0) q hq
theorem dm_1993 : eg_mok (1993, pg_1993) := fun q hq => (eg_dok_c (n := 60) (i := 0) (eg_dok_n (by decide +kernel)) dk_1993_0) q hq
theorem dm_1997 : eg_mok (1997, pg_1997) := fun q hq => (eg_dok_c (n := 60) (i := 0) (eg_dok_n (by decide +kernel)) dk_1997_0) q hq
theorem dm_2001 : eg_mok (2001, pg_2001) := fun q hq => (eg_dok_c (n := 60) (i := 0) (eg_dok_n (by decide +kernel)) dk_2001_0) q hq
theorem dm_2005 : eg_mok (2005, pg_2005) := fun q hq => (eg_dok_c (n := 60) (i := 0) (eg_dok_c (n := 60) (i := 60) (eg_dok_c (n := 60) (i := 120) (eg_dok_n (by decide +kernel)) dk_2005_2) dk_2005_1) dk_2005_0) q hq
theorem dm_2009 : eg_mok (2009, pg_2009) := fun q hq => (eg_dok_c (n := 60) (i := 0) (eg_dok_n (by decide +kernel)) dk_2009_0) q hq
theorem dm_2013 : eg_mok (2013, pg_2013) := fun q hq => (eg_dok_c (n := 60) (i := 0) (eg_dok_n (by decide +kernel)) dk_2013_0) q hq
theorem dm_2016 : eg_mok (2016, pg_2016) := fun q hq => (eg_dok_c (n := 60) (i := 0) (eg_dok_n (by decide +kernel)) dk_2016_0) q hq
theorem dm_2020 : eg_mok (2020, pg_2020) := fun q hq => (eg_dok_c (n := 60) (i := 0) (eg_dok_n (by decide +kernel)) dk_2020_0) q hq
theorem dm_2024 : eg_mok (2024, pg_2024) := fun q hq => (eg_dok_c (n := 60) (i := 0) (eg_dok_n (by decide +kernel)) dk_2024_0) q hq
theorem dm_2028 : eg_mok (2028, pg_2028) := fun q hq => (eg_dok_c (n := 60) (i := 0) (eg_dok_n (by decide +kernel)) dk_2028_0) q hq
theorem dm_2032 : eg_mok (2032, pg_2032) := fun q hq => (eg_dok_c (n := 60) (i := 0) (eg_dok_n (by decide +kernel)) dk_2032_0) q hq
theorem dm_2036 : eg_mok (2036, pg_2036) := fun q hq => (eg_dok_c (n := 60) (i := 0) (eg_dok_n (by decide +kernel)) dk_2036_0) q hq
theorem dm_2040 : eg_mok (2040, pg_2040) := fun q hq => (eg_dok_c (n := 60) (i := 0) (eg_dok_c (n := 60) (i := 60) (eg_dok_n (by decide +kernel)) dk_2040_1) dk_2040_0) q hq
theorem dm_2044 : eg_mok (2044, pg_2044) := fun q hq => (eg_dok_c (n := 60) (i := 0) (eg_dok_n (by decide +kernel)) dk_2044_0) q hq
theorem dm_2049 : eg_mok (2049, pg_2049) := fun q hq => (eg_dok_c (n := 60) (i := 0) (eg_dok_n (by decide +kernel)) dk_2049_0) q hq
theorem dm_2053 : eg_mok (2053, pg_2053) := fun q hq => (eg_dok_c (n := 60) (i := 0) (eg_dok_n (by decide +kernel)) dk_2053_0) q hq
theorem dm_2057 : eg_mok (2057, pg_2057) := fun q hq => (eg_dok_c (n := 60) (i := 0) (eg_dok_c (n := 60) (i := 60) (eg_dok_c (n := 60) (i := 120) (eg_dok_n (by decide +kernel)) dk_2057_2) dk_2057_1) dk_2057_0) q hq
theorem dm_2061 : eg_mok (2061, pg_2061) := fun q hq => (eg_dok_c (n := 60) (i := 0) (eg_dok_c (n := 60) (i := 60) (eg_dok_n (by decide +kernel)) dk_2061_1) dk_2061_0) q hq
theorem dm_2065 : eg_mok (2065, pg_2065) := fun q hq => (eg_dok_c (n := 60) (i := 0) (eg_dok_c (n := 60) (i := 60) (eg_dok_n (by decide +kernel)) dk_2065_1) dk_2065_0) q hq
theorem dm_2069 : eg_mok (2069, pg_2069) := fun q hq => (eg_dok_c (n := 60) (i := 0) (eg_dok_n (by decide +kernel)) dk_2069_0) q hq
theorem dm_2073 : eg_mok (2073, pg_2073) := fun q hq => (eg_dok_c (n := 60) (i := 0) (eg_dok_c (n := 60) (i := 60) (eg_dok_n (by decide +kernel)) dk_2073_1) dk_2073_0) q hq
theorem dm_2077 : eg_mok (2077, pg_2077) := fun q hq => (eg_dok_c (n := 60) (i := 0) (eg_dok_n (by decide +kernel)) dk_2077_0) q hq
theorem dm_2081 : eg_mok (2081, pg_2081) := fun q hq => (eg_dok_c (n := 60) (i := 0) (eg_dok_n (by decide +kernel)) dk_2081_0) q hq
theorem dm_2085 : eg_mok (2085, pg_2085) := fun q hq => (eg_dok_c (n := 60) (i := 0) (eg_dok_n (by decide +kernel)) dk_2085_0) q hq
theorem dm_2089 : eg_mok (2089, pg_2089) := fun q hq => (eg_dok_c (n := 60) (i := 0) (eg_dok_c (n := 60) (i := 60) (eg_dok_n (by decide +kernel)) dk_2089_1) dk_2089_0) q hq
theorem dm_2093 : eg_mok (2093, pg_2093) := fun q hq => (eg_dok_c (n := 60) (i := 0) (eg_dok_c (n := 60) (i := 60) (eg_dok_c (n := 60) (i := 120) (eg_dok_n (by decide +kernel)) dk_2093_2) dk_2093_1) dk_2093_0) q hq
theorem dm_2097 : eg_mok (2097, pg_2097) := fun q hq => (eg_dok_c (n := 60) (i := 0) (eg_dok_c (n := 60) (i := 60) (eg_dok_n (by decide +kernel)) dk_2097_1) dk_2097_0) q hq
theorem dm_2101 : eg_mok (2101, pg_2101) := fun q hq => (eg_dok_c (n := 60) (i := 0) (eg_dok_n (by decide +kernel)) dk_2101_0) q hq
theorem dm_2105 : eg_mok (2105, pg_2105) := fun q hq => (eg_dok_c (n := 60) (i := 0) (eg_dok_c (n := 60) (i := 60) (eg_dok_c (n := 60) (i := 120) (eg_dok_n (by decide +kernel)) dk_2105_2) dk_2105_1) dk_2105_0) q hq
theorem dm_2109 : eg_mok (2109, pg_2109) := fun q hq => (eg_dok_c (n := 60) (i := 0) (eg_dok_c (n := 60) (i := 60) (eg_dok_n (by decide +kernel)) dk_2109_1) dk_2109_0) q hq
theorem dm_2113 : eg_mok (2113, pg_2113) := fun q hq => (eg_dok_c (n := 60) (i := 0) (eg_dok_n (by decide +kernel)) dk_2113_0) q hq
theorem dm_2117 : eg_mok (2117, pg_2117) := fun q hq => (eg_dok_c (n := 60) (i := 0) (eg_dok_n (by decide +kernel)) dk_2117_0) q hq
theorem dm_2121 : eg_mok (2121, pg_2121) := fun q hq => (eg_dok_c (n := 60) (i := 0) (eg_dok_n (by decide +kernel)) dk_2121_0) q hq
theorem dm_9999 : eg_mok (9999, pg_9999) := fun q hq => (eg_dok_c (n := 60) (i := 0) (eg_dok_c (n := 60) (i := 60) (eg_dok_c (n := 60) (i := 120) (eg_dok_c (n := 60) (i := 180) (eg_dok_c (n := 60) (i := 240) (eg_dok_c (n := 60) (i := 300) (eg_dok_c (n := 60) (i := 360) (eg_dok_c (n := 60) (i := 420) (eg_dok_c (n := 60) (i := 480) (eg_dok_c (n := 60) (i := 540) (eg_dok_c (n := 60) (i := 600) (eg_dok_c (n := 60) (i := 660) (eg_dok_c (n := 60) (i := 720) (eg_dok_n (by decide +kernel)) dk_9999_12) dk_9999_11) dk_9999_10) dk_9999_9) dk_9999_8) dk_9999_7) dk_9999_6) dk_9999_5) dk_9999_4) dk_9999_3) dk_9999_2) dk_9999_1) dk_9999_0) q hq
theorem db_0 : ∀ x ∈ ([] : List (Nat × eg_W)), eg_mok x := fun _ h => nomatch h
theorem db_1 : ∀ x ∈ ([] : List (Nat × eg_W)), eg_mok x := fun _ h => nomatch h
theorem db_2 : ∀ x ∈ [((147, pg_147) : Nat × eg_W), ((155, pg_155) : Nat × eg_W), ((172, pg_172) : Nat × eg_W), ((178, pg_178) : Nat × eg_W), ((182, pg_182) : Nat × eg_W), ((188, pg_188) : Nat × eg_W)], eg_mok x := List.forall_mem_cons.mpr ⟨dm_147, List.forall_mem_cons.mpr ⟨dm_155, List.forall_mem_cons.mpr ⟨dm_172, List.forall_mem_cons.mpr ⟨dm_178, List.forall_mem_cons.mpr ⟨dm_182, List.forall_mem_cons.mpr ⟨dm_188, fun _ h => nomatch h⟩⟩⟩⟩⟩⟩
theorem db_3 : ∀ x ∈ [((192, pg_192) : Nat × eg_W), ((195, pg_195) : Nat × eg_W), ((198, pg_198) : Nat × eg_W), ((203, pg_203) : Nat × eg_W), ((225, pg_225) : Nat × eg_W)], eg_mok x := List.forall_mem_cons.mpr ⟨dm_192, List.forall_mem_cons.mpr ⟨dm_195, List.forall_mem_cons.mpr ⟨dm_198, List.forall_mem_cons.mpr ⟨dm_203, List.forall_mem_cons.mpr ⟨dm_225, fun _ h => nomatch h⟩⟩⟩⟩⟩
theorem db_4 : ∀ x ∈ [((275, pg_275) : Nat × eg_W)], eg_mok x := List.forall_mem_cons.mpr ⟨dm_275, fun _ h => nomatch h⟩
theorem db_5 : ∀ x ∈ ([] : List (Nat × eg_W)), eg_mok x := fun _ h => nomatch h
theorem db_6 : ∀ x ∈ [((397, pg_397) : Nat × eg_W), ((438, pg_438) : Nat × eg_W)], eg_mok x := List.forall_mem_cons.mpr ⟨dm_397, List.forall_mem_cons.mpr ⟨dm_438, fun _ h => nomatch h⟩⟩
theorem db_7 : ∀ x ∈ [((487, pg_487) : Nat × eg_W), ((506, pg_506) : Nat × eg_W)], eg_mok x := List.forall_mem_cons.mpr ⟨dm_487, List.forall_mem_cons.mpr ⟨dm_506, fun _ h => nomatch h⟩⟩
theorem db_8 : ∀ x ∈ [((543, pg_543) : Nat × eg_W)], eg_mok x := List.forall_mem_cons.mpr ⟨dm_543, fun _ h => nomatch h⟩
theorem db_9 : ∀ x ∈ [((580, pg_580) : Nat × eg_W), ((602, pg_602) : Nat × eg_W)], eg_mok x := List.forall_mem_cons.mpr ⟨dm_580, List.forall_mem_cons.mpr ⟨dm_602, fun _ h => nomatch h⟩⟩
theorem db_10 : ∀ x ∈ [((676, pg_676) : Nat × eg_W), ((680, pg_680) : Nat × eg_W), ((684, pg_684) : Nat × eg_W), ((688, pg_688) : Nat × eg_W), ((692, pg_692) : Nat × eg_W), ((699, pg_699) : Nat × eg_W), ((702, pg_702) : Nat × eg_W)], eg_mok x := List.forall_mem_cons.mpr ⟨dm_676, List.forall_mem_cons.mpr ⟨dm_680, List.forall_mem_cons.mpr ⟨dm_684, List.forall_mem_cons.mpr ⟨dm_688, List.forall_mem_cons.mpr ⟨dm_692, List.forall_mem_cons.mpr ⟨dm_699, List.forall_mem_cons.mpr ⟨dm_702, fun _ h => nomatch h⟩⟩⟩⟩⟩⟩⟩
theorem db_11 : ∀ x ∈ [((705, pg_705) : Nat × eg_W), ((709, pg_709) : Nat × eg_W), ((714, pg_714) : Nat × eg_W), ((718, pg_718) : Nat × eg_W), ((721, pg_721) : Nat × eg_W), ((724, pg_724) : Nat × eg_W), ((728, pg_728) : Nat × eg_W), ((732, pg_732) : Nat × eg_W), ((736, pg_736) : Nat × eg_W), ((740, pg_740) : Nat × eg_W), ((744, pg_744) : Nat × eg_W), ((748, pg_748) : Nat × eg_W), ((752, pg_752) : Nat × eg_W), ((758, pg_758) : Nat × eg_W), ((762, pg_762) : Nat × eg_W), ((766, pg_766) : Nat × eg_W)], eg_mok x := List.forall_mem_cons.mpr ⟨dm_705, List.forall_mem_cons.mpr ⟨dm_709, List.forall_mem_cons.mpr ⟨dm_714, List.forall_mem_cons.mpr ⟨dm_718, List.forall_mem_cons.mpr ⟨dm_721, List.forall_mem_cons.mpr ⟨dm_724, List.forall_mem_cons.mpr ⟨dm_728, List.forall_mem_cons.mpr ⟨dm_732, List.forall_mem_cons.mpr ⟨dm_736, List.forall_mem_cons.mpr ⟨dm_740, List.forall_mem_cons.mpr ⟨dm_744, List.forall_mem_cons.mpr ⟨dm_748, List.forall_mem_cons.mpr ⟨dm_752, List.forall_mem_cons.mpr ⟨dm_758, List.forall_mem_cons.mpr ⟨dm_762, List.forall_mem_cons.mpr ⟨dm_766, fun _ h => nomatch h⟩⟩⟩⟩⟩⟩⟩⟩⟩⟩⟩⟩⟩⟩⟩⟩
theorem db_12 : ∀ x ∈ [((770, pg_770) : Nat × eg_W), ((774, pg_774) : Nat × eg_W), ((778, pg_778) : Nat × eg_W), ((782, pg_782) : Nat × eg_W), ((786, pg_786) : Nat × eg_W), ((789, pg_789) : Nat × eg_W), ((793, pg_793) : Nat × eg_W), ((797, pg_797) : Nat × eg_W), ((801, pg_801) : Nat × eg_W), ((807, pg_807) : Nat × eg_W), ((811, pg_811) : Nat × eg_W), ((815, pg_815) : Nat × eg_W), ((819, pg_819) : Nat × eg_W), ((823, pg_823) : Nat × eg_W), ((827, pg_827) : Nat × eg_W), ((831, pg_831) : Nat × eg_W)], eg_mok x := List.forall_mem_cons.mpr ⟨dm_770, List.forall_mem_cons.mpr ⟨dm_774, List.forall_mem_cons.mpr ⟨dm_778, List.forall_mem_cons.mpr ⟨dm_782, List.forall_mem_cons.mpr ⟨dm_786, List.forall_mem_cons.mpr ⟨dm_789, List.forall_mem_cons.mpr ⟨dm_793, List.forall_mem_cons.mpr ⟨dm_797, List.forall_mem_cons.mpr ⟨dm_801, List.forall_mem_cons.mpr ⟨dm_807, List.forall_mem_cons.mpr ⟨dm_811, List.forall_mem_cons.mpr ⟨dm_815, List.forall_mem_cons.mpr ⟨dm_819, List.forall_mem_cons.mpr ⟨dm_823, List.forall_mem_cons.mpr ⟨dm_827, List.forall_mem_cons.mpr ⟨dm_831, fun _ h => nomatch h⟩⟩⟩⟩⟩⟩⟩⟩⟩⟩⟩⟩⟩⟩⟩⟩
theorem db_13 : ∀ x ∈ [((835, pg_835) : Nat × eg_W), ((839, pg_839) : Nat × eg_W), ((843, pg_843) : Nat × eg_W), ((847, pg_847) : Nat × eg_W), ((851, pg_851) : Nat × eg_W), ((855, pg_855) : Nat × eg_W), ((859, pg_859) : Nat × eg_W), ((863, pg_863) : Nat × eg_W), ((867, pg_867) : Nat × eg_W), ((871, pg_871) : Nat × eg_W), ((876, pg_876) : Nat × eg_W), ((880, pg_880) : Nat × eg_W), ((883, pg_883) : Nat × eg_W), ((890, pg_890) : Nat × eg_W), ((895, pg_895) : Nat × eg_W)], eg_mok x := List.forall_mem_cons.mpr ⟨dm_835, List.forall_mem_cons.mpr ⟨dm_839, List.forall_mem_cons.mpr ⟨dm_843, List.forall_mem_cons.mpr ⟨dm_847, List.forall_mem_cons.mpr ⟨dm_851, List.forall_mem_cons.mpr ⟨dm_855, List.forall_mem_cons.mpr ⟨dm_859, List.forall_mem_cons.mpr ⟨dm_863, List.forall_mem_cons.mpr ⟨dm_867, List.forall_mem_cons.mpr ⟨dm_871, List.forall_mem_cons.mpr ⟨dm_876, List.forall_mem_cons.mpr ⟨dm_880, List.forall_mem_cons.mpr ⟨dm_883, List.forall_mem_cons.mpr ⟨dm_890, List.forall_mem_cons.mpr ⟨dm_895, fun _ h => nomatch h⟩⟩⟩⟩⟩⟩⟩⟩⟩⟩⟩⟩⟩⟩⟩
theorem db_14 : ∀ x ∈ [((899, pg_899) : Nat × eg_W), ((903, pg_903) : Nat × eg_W), ((907, pg_907) : Nat × eg_W), ((911, pg_911) : Nat × eg_W), ((915, pg_915) : Nat × eg_W), ((919, pg_919) : Nat × eg_W), ((924, pg_924) : Nat × eg_W), ((928, pg_928) : Nat × eg_W), ((932, pg_932) : Nat × eg_W), ((937, pg_937) : Nat × eg_W), ((942, pg_942) : Nat × eg_W), ((946, pg_946) : Nat × eg_W), ((950, pg_950) : Nat × eg_W), ((954, pg_954) : Nat × eg_W), ((958, pg_958) : Nat × eg_W)], eg_mok x := List.forall_mem_cons.mpr ⟨dm_899, List.forall_mem_cons.mpr ⟨dm_903, List.forall_mem_cons.mpr ⟨dm_907, List.forall_mem_cons.mpr ⟨dm_911, List.forall_mem_cons.mpr ⟨dm_915, List.forall_mem_cons.mpr ⟨dm_919, List.forall_mem_cons.mpr ⟨dm_924, List.forall_mem_cons.mpr ⟨dm_928, List.forall_mem_cons.mpr ⟨dm_932, List.forall_mem_cons.mpr ⟨dm_937, List.forall_mem_cons.mpr ⟨dm_942, List.forall_mem_cons.mpr ⟨dm_946, List.forall_mem_cons.mpr ⟨dm_950, List.forall_mem_cons.mpr ⟨dm_954, List.forall_mem_cons.mpr ⟨dm_958, fun _ h => nomatch h⟩⟩⟩⟩⟩⟩⟩⟩⟩⟩⟩⟩⟩⟩⟩
theorem db_15 : ∀ x ∈ [((962, pg_962) : Nat × eg_W), ((967, pg_967) : Nat × eg_W), ((971, pg_971) : Nat × eg_W), ((975, pg_975) : Nat × eg_W), ((979, pg_979) : Nat × eg_W), ((983, pg_983) : Nat × eg_W), ((987, pg_987) : Nat × eg_W), ((991, pg_991) : Nat × eg_W), ((995, pg_995) : Nat × eg_W), ((999, pg_999) : Nat × eg_W), ((1003, pg_1003) : Nat × eg_W), ((1009, pg_1009) : Nat × eg_W), ((1013, pg_1013) : Nat × eg_W), ((1019, pg_1019) : Nat × eg_W), ((1023, pg_1023) : Nat × eg_W)], eg_mok x := List.forall_mem_cons.mpr ⟨dm_962, List.forall_mem_cons.mpr ⟨dm_967, List.forall_mem_cons.mpr ⟨dm_971, List.forall_mem_cons.mpr ⟨dm_975, List.forall_mem_cons.mpr ⟨dm_979, List.forall_mem_cons.mpr ⟨dm_983, List.forall_mem_cons.mpr ⟨dm_987, List.forall_mem_cons.mpr ⟨dm_991, List.forall_mem_cons.mpr ⟨dm_995, List.forall_mem_cons.mpr ⟨dm_999, List.forall_mem_cons.mpr ⟨dm_1003, List.forall_mem_cons.mpr ⟨dm_1009, List.forall_mem_cons.mpr ⟨dm_1013, List.forall_mem_cons.mpr ⟨dm_1019, List.forall_mem_cons.mpr ⟨dm_1023, fun _ h => nomatch h⟩⟩⟩⟩⟩⟩⟩⟩⟩⟩⟩⟩⟩⟩⟩
theorem db_16 : ∀ x ∈ [((1027, pg_1027) : Nat × eg_W), ((1031, pg_1031) : Nat × eg_W), ((1035, pg_1035) : Nat × eg_W), ((1040, pg_1040) : Nat × eg_W), ((1044, pg_1044) : Nat × eg_W), ((1050, pg_1050) : Nat × eg_W), ((1054, pg_1054) : Nat × eg_W), ((1058, pg_1058) : Nat × eg_W), ((1062, pg_1062) : Nat × eg_W), ((1066, pg_1066) : Nat × eg_W), ((1073, pg_1073) : Nat × eg_W), ((1077, pg_1077) : Nat × eg_W), ((1081, pg_1081) : Nat × eg_W), ((1085, pg_1085) : Nat × eg_W)], eg_mok x := List.forall_mem_cons.mpr ⟨dm_1027, List.forall_mem_cons.mpr ⟨dm_1031, List.forall_mem_cons.mpr ⟨dm_1035, List.forall_mem_cons.mpr ⟨dm_1040, List.forall_mem_cons.mpr ⟨dm_1044, List.forall_mem_cons.mpr ⟨dm_1050, List.forall_mem_cons.mpr ⟨dm_1054, List.forall_mem_cons.mpr ⟨dm_1058, List.forall_mem_cons.mpr ⟨dm_1062, List.forall_mem_cons.mpr ⟨dm_1066, List.forall_mem_cons.mpr ⟨dm_1073, List.forall_mem_cons.mpr ⟨dm_1077, List.forall_mem_cons.mpr ⟨dm_1081, List.forall_mem_cons.mpr ⟨dm_1085, fun _ h => nomatch h⟩⟩⟩⟩⟩⟩⟩⟩⟩⟩⟩⟩⟩⟩
theorem db_17 : ∀ x ∈ [((1089, pg_1089) : Nat × eg_W), ((1093, pg_1093) : Nat × eg_W), ((1097, pg_1097) : Nat × eg_W), ((1101, pg_1101) : Nat × eg_W), ((1105, pg_1105) : Nat × eg_W), ((1109, pg_1109) : Nat × eg_W), ((1113, pg_1113) : Nat × eg_W), ((1117, pg_1117) : Nat × eg_W), ((1121, pg_1121) : Nat × eg_W), ((1125, pg_1125) : Nat × eg_W), ((1129, pg_1129) : Nat × eg_W), ((1132, pg_1132) : Nat × eg_W), ((1136, pg_1136) : Nat × eg_W), ((1140, pg_1140) : Nat × eg_W), ((1147, pg_1147) : Nat × eg_W), ((1151, pg_1151) : Nat × eg_W)], eg_mok x := List.forall_mem_cons.mpr ⟨dm_1089, List.forall_mem_cons.mpr ⟨dm_1093, List.forall_mem_cons.mpr ⟨dm_1097, List.forall_mem_cons.mpr ⟨dm_1101, List.forall_mem_cons.mpr ⟨dm_1105, List.forall_mem_cons.mpr ⟨dm_1109, List.forall_mem_cons.mpr ⟨dm_1113, List.forall_mem_cons.mpr ⟨dm_1117, List.forall_mem_cons.mpr ⟨dm_1121, List.forall_mem_cons.mpr ⟨dm_1125, List.forall_mem_cons.mpr ⟨dm_1129, List.forall_mem_cons.mpr ⟨dm_1132, List.forall_mem_cons.mpr ⟨dm_1136, List.forall_mem_cons.mpr ⟨dm_1140, List.forall_mem_cons.mpr ⟨dm_1147, List.forall_mem_cons.mpr ⟨dm_1151, fun _ h => nomatch h⟩⟩⟩⟩⟩⟩⟩⟩⟩⟩⟩⟩⟩⟩⟩⟩
theorem db_18 : ∀ x ∈ [((1156, pg_1156) : Nat × eg_W), ((1160, pg_1160) : Nat × eg_W), ((1164, pg_1164) : Nat × eg_W), ((1168, pg_1168) : Nat × eg_W), ((1172, pg_1172) : Nat × eg_W), ((1176, pg_1176) : Nat × eg_W), ((1182, pg_1182) : Nat × eg_W), ((1186, pg_1186) : Nat × eg_W), ((1192, pg_1192) : Nat × eg_W), ((1196, pg_1196) : Nat × eg_W), ((1200, pg_1200) : Nat × eg_W), ((1205, pg_1205) : Nat × eg_W), ((1209, pg_1209) : Nat × eg_W)], eg_mok x := List.forall_mem_cons.mpr ⟨dm_1156, List.forall_mem_cons.mpr ⟨dm_1160, List.forall_mem_cons.mpr ⟨dm_1164, List.forall_mem_cons.mpr ⟨dm_1168, List.forall_mem_cons.mpr ⟨dm_1172, List.forall_mem_cons.mpr ⟨dm_1176, List.forall_mem_cons.mpr ⟨dm_1182, List.forall_mem_cons.mpr ⟨dm_1186, List.forall_mem_cons.mpr ⟨dm_1192, List.forall_mem_cons.mpr ⟨dm_1196, List.forall_mem_cons.mpr ⟨dm_1200, List.forall_mem_cons.mpr ⟨dm_1205, List.forall_mem_cons.mpr ⟨dm_1209, fun _ h => nomatch h⟩⟩⟩⟩⟩⟩⟩⟩⟩⟩⟩⟩⟩
theorem db_19 : ∀ x ∈ [((1216, pg_1216) : Nat × eg_W), ((1221, pg_1221) : Nat × eg_W), ((1226, pg_1226) : Nat × eg_W), ((1234, pg_1234) : Nat × eg_W), ((1238, pg_1238) : Nat × eg_W), ((1242, pg_1242) : Nat × eg_W), ((1246, pg_1246) : Nat × eg_W), ((1252, pg_1252) : Nat × eg_W), ((1256, pg_1256) : Nat × eg_W), ((1260, pg_1260) : Nat × eg_W), ((1263, pg_1263) : Nat × eg_W), ((1268, pg_1268) : Nat × eg_W), ((1272, pg_1272) : Nat × eg_W), ((1276, pg_1276) : Nat × eg_W)], eg_mok x := List.forall_mem_cons.mpr ⟨dm_1216, List.forall_mem_cons.mpr ⟨dm_1221, List.forall_mem_cons.mpr ⟨dm_1226, List.forall_mem_cons.mpr ⟨dm_1234, List.forall_mem_cons.mpr ⟨dm_1238, List.forall_mem_cons.mpr ⟨dm_1242, List.forall_mem_cons.mpr ⟨dm_1246, List.forall_mem_cons.mpr ⟨dm_1252, List.forall_mem_cons.mpr ⟨dm_1256, List.forall_mem_cons.mpr ⟨dm_1260, List.forall_mem_cons.mpr ⟨dm_1263, List.forall_mem_cons.mpr ⟨dm_1268, List.forall_mem_cons.mpr ⟨dm_1272, List.forall_mem_cons.mpr ⟨dm_1276, fun _ h => nomatch h⟩⟩⟩⟩⟩⟩⟩⟩⟩⟩⟩⟩⟩⟩
theorem db_20 : ∀ x ∈ [((1280, pg_1280) : Nat × eg_W), ((1287, pg_1287) : Nat × eg_W), ((1293, pg_1293) : Nat × eg_W), ((1297, pg_1297) : Nat × eg_W), ((1301, pg_1301) : Nat × eg_W), ((1305, pg_1305) : Nat × eg_W), ((1309, pg_1309) : Nat × eg_W), ((1313, pg_1313) : Nat × eg_W), ((1317, pg_1317) : Nat × eg_W), ((1321, pg_1321) : Nat × eg_W), ((1326, pg_1326) : Nat × eg_W), ((1330, pg_1330) : Nat × eg_W), ((1335, pg_1335) : Nat × eg_W), ((1339, pg_1339) : Nat × eg_W), ((1343, pg_1343) : Nat × eg_W)], eg_mok x := List.forall_mem_cons.mpr ⟨dm_1280, List.forall_mem_cons.mpr ⟨dm_1287, List.forall_mem_cons.mpr ⟨dm_1293, List.forall_mem_cons.mpr ⟨dm_1297, List.forall_mem_cons.mpr ⟨dm_1301, List.forall_mem_cons.mpr ⟨dm_1305, List.forall_mem_cons.mpr ⟨dm_1309, List.forall_mem_cons.mpr ⟨dm_1313, List.forall_mem_cons.mpr ⟨dm_1317, List.forall_mem_cons.mpr ⟨dm_1321, List.forall_mem_cons.mpr ⟨dm_1326, List.forall_mem_cons.mpr ⟨dm_1330, List.forall_mem_cons.mpr ⟨dm_1335, List.forall_mem_cons.mpr ⟨dm_1339, List.forall_mem_cons.mpr ⟨dm_1343, fun _ h => nomatch h⟩⟩⟩⟩⟩⟩⟩⟩⟩⟩⟩⟩⟩⟩⟩
theorem db_21 : ∀ x ∈ [((1346, pg_1346) : Nat × eg_W), ((1351, pg_1351) : Nat × eg_W), ((1355, pg_1355) : Nat × eg_W), ((1359, pg_1359) : Nat × eg_W), ((1367, pg_1367) : Nat × eg_W)], eg_mok x := List.forall_mem_cons.mpr ⟨dm_1346, List.forall_mem_cons.mpr ⟨dm_1351, List.forall_mem_cons.mpr ⟨dm_1355, List.forall_mem_cons.mpr ⟨dm_1359, List.forall_mem_cons.mpr ⟨dm_1367, fun _ h => nomatch h⟩⟩⟩⟩⟩
theorem db_22 : ∀ x ∈ [((1436, pg_1436) : Nat × eg_W), ((1442, pg_1442) : Nat × eg_W), ((1447, pg_1447) : Nat × eg_W), ((1451, pg_1451) : Nat × eg_W), ((1455, pg_1455) : Nat × eg_W)], eg_mok x := List.forall_mem_cons.mpr ⟨dm_1436, List.forall_mem_cons.mpr ⟨dm_1442, List.forall_mem_cons.mpr ⟨dm_1447, List.forall_mem_cons.mpr ⟨dm_1451, List.forall_mem_cons.mpr ⟨dm_1455, fun _ h => nomatch h⟩⟩⟩⟩⟩
theorem db_23 : ∀ x ∈ [((1483, pg_1483) : Nat × eg_W)], eg_mok x := List.forall_mem_cons.mpr ⟨dm_1483, fun _ h => nomatch h⟩
theorem db_24 : ∀ x ∈ ([] : List (Nat × eg_W)), eg_mok x := fun _ h => nomatch h
theorem db_25 : ∀ x ∈ [((1650, pg_1650) : Nat × eg_W), ((1654, pg_1654) : Nat × eg_W), ((1658, pg_1658) : Nat × eg_W), ((1662, pg_1662) : Nat × eg_W)], eg_mok x := List.forall_mem_cons.mpr ⟨dm_1650, List.forall_mem_cons.mpr ⟨dm_1654, List.forall_mem_cons.mpr ⟨dm_1658, List.forall_mem_cons.mpr ⟨dm_1662, fun _ h => nomatch h⟩⟩⟩⟩
theorem db_26 : ∀ x ∈ [((1665, pg_1665) : Nat × eg_W), ((1668, pg_1668) : Nat × eg_W), ((1672, pg_1672) : Nat × eg_W), ((1676, pg_1676) : Nat × eg_W), ((1680, pg_1680) : Nat × eg_W), ((1683, pg_1683) : Nat × eg_W), ((1687, pg_1687) : Nat × eg_W), ((1691, pg_1691) : Nat × eg_W), ((1695, pg_1695) : Nat × eg_W), ((1698, pg_1698) : Nat × eg_W), ((1702, pg_1702) : Nat × eg_W), ((1706, pg_1706) : Nat × eg_W), ((1710, pg_1710) : Nat × eg_W), ((1714, pg_1714) : Nat × eg_W), ((1718, pg_1718) : Nat × eg_W), ((1722, pg_1722) : Nat × eg_W), ((1726, pg_1726) : Nat × eg_W)], eg_mok x := List.forall_mem_cons.mpr ⟨dm_1665, List.forall_mem_cons.mpr ⟨dm_1668, List.forall_mem_cons.mpr ⟨dm_1672, List.forall_mem_cons.mpr ⟨dm_1676, List.forall_mem_cons.mpr ⟨dm_1680, List.forall_mem_cons.mpr ⟨dm_1683, List.forall_mem_cons.mpr ⟨dm_1687, List.forall_mem_cons.mpr ⟨dm_1691, List.forall_mem_cons.mpr ⟨dm_1695, List.forall_mem_cons.mpr ⟨dm_1698, List.forall_mem_cons.mpr ⟨dm_1702, List.forall_mem_cons.mpr ⟨dm_1706, List.forall_mem_cons.mpr ⟨dm_1710, List.forall_mem_cons.mpr ⟨dm_1714, List.forall_mem_cons.mpr ⟨dm_1718, List.forall_mem_cons.mpr ⟨dm_1722, List.forall_mem_cons.mpr ⟨dm_1726, fun _ h => nomatch h⟩⟩⟩⟩⟩⟩⟩⟩⟩⟩⟩⟩⟩⟩⟩⟩⟩
theorem db_27 : ∀ x ∈ [((1730, pg_1730) : Nat × eg_W), ((1734, pg_1734) : Nat × eg_W), ((1738, pg_1738) : Nat × eg_W), ((1742, pg_1742) : Nat × eg_W), ((1746, pg_1746) : Nat × eg_W), ((1750, pg_1750) : Nat × eg_W), ((1754, pg_1754) : Nat × eg_W), ((1758, pg_1758) : Nat × eg_W), ((1762, pg_1762) : Nat × eg_W), ((1766, pg_1766) : Nat × eg_W), ((1770, pg_1770) : Nat × eg_W), ((1774, pg_1774) : Nat × eg_W), ((1778, pg_1778) : Nat × eg_W), ((1782, pg_1782) : Nat × eg_W), ((1786, pg_1786) : Nat × eg_W), ((1790, pg_1790) : Nat × eg_W)], eg_mok x := List.forall_mem_cons.mpr ⟨dm_1730, List.forall_mem_cons.mpr ⟨dm_1734, List.forall_mem_cons.mpr ⟨dm_1738, List.forall_mem_cons.mpr ⟨dm_1742, List.forall_mem_cons.mpr ⟨dm_1746, List.forall_mem_cons.mpr ⟨dm_1750, List.forall_mem_cons.mpr ⟨dm_1754, List.forall_mem_cons.mpr ⟨dm_1758, List.forall_mem_cons.mpr ⟨dm_1762, List.forall_mem_cons.mpr ⟨dm_1766, List.forall_mem_cons.mpr ⟨dm_1770, List.forall_mem_cons.mpr ⟨dm_1774, List.forall_mem_cons.mpr ⟨dm_1778, List.forall_mem_cons.mpr ⟨dm_1782, List.forall_mem_cons.mpr ⟨dm_1786, List.forall_mem_cons.mpr ⟨dm_1790, fun _ h => nomatch h⟩⟩⟩⟩⟩⟩⟩⟩⟩⟩⟩⟩⟩⟩⟩⟩
theorem db_28 : ∀ x ∈ [((1794, pg_1794) : Nat × eg_W), ((1798, pg_1798) : Nat × eg_W), ((1802, pg_1802) : Nat × eg_W), ((1806, pg_1806) : Nat × eg_W), ((1810, pg_1810) : Nat × eg_W), ((1814, pg_1814) : Nat × eg_W), ((1818, pg_1818) : Nat × eg_W), ((1822, pg_1822) : Nat × eg_W), ((1826, pg_1826) : Nat × eg_W), ((1829, pg_1829) : Nat × eg_W), ((1833, pg_1833) : Nat × eg_W), ((1837, pg_1837) : Nat × eg_W), ((1841, pg_1841) : Nat × eg_W), ((1845, pg_1845) : Nat × eg_W), ((1849, pg_1849) : Nat × eg_W), ((1853, pg_1853) : Nat × eg_W)], eg_mok x := List.forall_mem_cons.mpr ⟨dm_1794, List.forall_mem_cons.mpr ⟨dm_1798, List.forall_mem_cons.mpr ⟨dm_1802, List.forall_mem_cons.mpr ⟨dm_1806, List.forall_mem_cons.mpr ⟨dm_1810, List.forall_mem_cons.mpr ⟨dm_1814, List.forall_mem_cons.mpr ⟨dm_1818, List.forall_mem_cons.mpr ⟨dm_1822, List.forall_mem_cons.mpr ⟨dm_1826, List.forall_mem_cons.mpr ⟨dm_1829, List.forall_mem_cons.mpr ⟨dm_1833, List.forall_mem_cons.mpr ⟨dm_1837, List.forall_mem_cons.mpr ⟨dm_1841, List.forall_mem_cons.mpr ⟨dm_1845, List.forall_mem_cons.mpr ⟨dm_1849, List.forall_mem_cons.mpr ⟨dm_1853, fun _ h => nomatch h⟩⟩⟩⟩⟩⟩⟩⟩⟩⟩⟩⟩⟩⟩⟩⟩
theorem db_29 : ∀ x ∈ [((1857, pg_1857) : Nat × eg_W), ((1861, pg_1861) : Nat × eg_W), ((1865, pg_1865) : Nat × eg_W), ((1869, pg_1869) : Nat × eg_W), ((1873, pg_1873) : Nat × eg_W), ((1876, pg_1876) : Nat × eg_W), ((1879, pg_1879) : Nat × eg_W), ((1883, pg_1883) : Nat × eg_W), ((1887, pg_1887) : Nat × eg_W), ((1891, pg_1891) : Nat × eg_W), ((1895, pg_1895) : Nat × eg_W), ((1899, pg_1899) : Nat × eg_W), ((1902, pg_1902) : Nat × eg_W), ((1906, pg_1906) : Nat × eg_W), ((1910, pg_1910) : Nat × eg_W), ((1914, pg_1914) : Nat × eg_W), ((1918, pg_1918) : Nat × eg_W)], eg_mok x := List.forall_mem_cons.mpr ⟨dm_1857, List.forall_mem_cons.mpr ⟨dm_1861, List.forall_mem_cons.mpr ⟨dm_1865, List.forall_mem_cons.mpr ⟨dm_1869, List.forall_mem_cons.mpr ⟨dm_1873, List.forall_mem_cons.mpr ⟨dm_1876, List.forall_mem_cons.mpr ⟨dm_1879, List.forall_mem_cons.mpr ⟨dm_1883, List.forall_mem_cons.mpr ⟨dm_1887, List.forall_mem_cons.mpr ⟨dm_1891, List.forall_mem_cons.mpr ⟨dm_1895, List.forall_mem_cons.mpr ⟨dm_1899, List.forall_mem_cons.mpr ⟨dm_1902, List.forall_mem_cons.mpr ⟨dm_1906, List.forall_mem_cons.mpr ⟨dm_1910, List.forall_mem_cons.mpr ⟨dm_1914, List.forall_mem_cons.mpr ⟨dm_1918, fun _ h => nomatch h⟩⟩⟩⟩⟩⟩⟩⟩⟩⟩⟩⟩⟩⟩⟩⟩⟩
theorem db_30 : ∀ x ∈ [((1922, pg_1922) : Nat × eg_W), ((1926, pg_1926) : Nat × eg_W), ((1930, pg_1930) : Nat × eg_W), ((1934, pg_1934) : Nat × eg_W), ((1938, pg_1938) : Nat × eg_W), ((1942, pg_1942) : Nat × eg_W), ((1946, pg_1946) : Nat × eg_W), ((1950, pg_1950) : Nat × eg_W), ((1954, pg_1954) : Nat × eg_W), ((1958, pg_1958) : Nat × eg_W), ((1962, pg_1962) : Nat × eg_W), ((1966, pg_1966) : Nat × eg_W), ((1970, pg_1970) : Nat × eg_W), ((1974, pg_1974) : Nat × eg_W), ((1978, pg_1978) : Nat × eg_W), ((1982, pg_1982) : Nat × eg_W)], eg_mok x := List.forall_mem_cons.mpr ⟨dm_1922, List.forall_mem_cons.mpr ⟨dm_1926, List.forall_mem_cons.mpr ⟨dm_1930, List.forall_mem_cons.mpr ⟨dm_1934, List.forall_mem_cons.mpr ⟨dm_1938, List.forall_mem_cons.mpr ⟨dm_1942, List.forall_mem_cons.mpr ⟨dm_1946, List.forall_mem_cons.mpr ⟨dm_1950, List.forall_mem_cons.mpr ⟨dm_1954, List.forall_mem_cons.mpr ⟨dm_1958, List.forall_mem_cons.mpr ⟨dm_1962, List.forall_mem_cons.mpr ⟨dm_1966, List.forall_mem_cons.mpr ⟨dm_1970, List.forall_mem_cons.mpr ⟨dm_1974, List.forall_mem_cons.mpr ⟨dm_1978, List.forall_mem_cons.mpr ⟨dm_1982, fun _ h => nomatch h⟩⟩⟩⟩⟩⟩⟩⟩⟩⟩⟩⟩⟩⟩⟩⟩
theorem db_31 : ∀ x ∈ [((1986, pg_1986) : Nat × eg_W), ((1990, pg_1990) : Nat × eg_W), ((1993, pg_1993) : Nat × eg_W), ((1997, pg_1997) : Nat × eg_W), ((2001, pg_2001) : Nat × eg_W), ((2005, pg_2005) : Nat × eg_W), ((2009, pg_2009) : Nat × eg_W), ((2013, pg_2013) : Nat × eg_W), ((2016, pg_2016) : Nat × eg_W), ((2020, pg_2020) : Nat × eg_W), ((2024, pg_2024) : Nat × eg_W), ((2028, pg_2028) : Nat × eg_W), ((2032, pg_2032) : Nat × eg_W), ((2036, pg_2036) : Nat × eg_W), ((2040, pg_2040) : Nat × eg_W), ((2044, pg_2044) : Nat × eg_W)], eg_mok x := List.forall_mem_cons.mpr ⟨dm_1986, List.forall_mem_cons.mpr ⟨dm_1990, List.forall_mem_cons.mpr ⟨dm_1993, List.forall_mem_cons.mpr ⟨dm_1997, List.forall_mem_cons.mpr ⟨dm_2001, List.forall_mem_cons.mpr ⟨dm_2005, List.forall_mem_cons.mpr ⟨dm_2009, List.forall_mem_cons.mpr ⟨dm_2013, List.forall_mem_cons.mpr ⟨dm_2016, List.forall_mem_cons.mpr ⟨dm_2020, List.forall_mem_cons.mpr ⟨dm_2024, List.forall_mem_cons.mpr ⟨dm_2028, List.forall_mem_cons.mpr ⟨dm_2032, List.forall_mem_cons.mpr ⟨dm_2036, List.forall_mem_cons.mpr ⟨dm_2040, List.forall_mem_cons.mpr ⟨dm_2044, fun _ h => nomatch h⟩⟩⟩⟩⟩⟩⟩⟩⟩⟩⟩⟩⟩⟩⟩⟩
theorem db_32 : ∀ x ∈ [((2049, pg_2049) : Nat × eg_W), ((2053, pg_2053) : Nat × eg_W), ((2057, pg_2057) : Nat × eg_W), ((2061, pg_2061) : Nat × eg_W), ((2065, pg_2065) : Nat × eg_W), ((2069, pg_2069) : Nat × eg_W), ((2073, pg_2073) : Nat × eg_W), ((2077, pg_2077) : Nat × eg_W), ((2081, pg_2081) : Nat × eg_W), ((2085, pg_2085) : Nat × eg_W), ((2089, pg_2089) : Nat × eg_W), ((2093, pg_2093) : Nat × eg_W), ((2097, pg_2097) : Nat × eg_W), ((2101, pg_2101) : Nat × eg_W), ((2105, pg_2105) : Nat × eg_W), ((2109, pg_2109) : Nat × eg_W)], eg_mok x := List.forall_mem_cons.mpr ⟨dm_2049, List.forall_mem_cons.mpr ⟨dm_2053, List.forall_mem_cons.mpr ⟨dm_2057, List.forall_mem_cons.mpr ⟨dm_2061, List.forall_mem_cons.mpr ⟨dm_2065, List.forall_mem_cons.mpr ⟨dm_2069, List.forall_mem_cons.mpr ⟨dm_2073, List.forall_mem_cons.mpr ⟨dm_2077, List.forall_mem_cons.mpr ⟨dm_2081, List.forall_mem_cons.mpr ⟨dm_2085, List.forall_mem_cons.mpr ⟨dm_2089, List.forall_mem_cons.mpr ⟨dm_2093, List.forall_mem_cons.mpr ⟨dm_2097, List.forall_mem_cons.mpr ⟨dm_2101, List.forall_mem_cons.mpr ⟨dm_2105, List.forall_mem_cons.mpr ⟨dm_2109, fun _ h => nomatch h⟩⟩⟩⟩⟩⟩⟩⟩⟩⟩⟩⟩⟩⟩⟩⟩
theorem db_33 : ∀ x ∈ [((2113, pg_2113) : Nat × eg_W), ((2117, pg_2117) : Nat × eg_W), ((2121, pg_2121) : Nat × eg_W)], eg_mok x := List.forall_mem_cons.mpr ⟨dm_2113, List.forall_mem_cons.mpr ⟨dm_2117, List.forall_mem_cons.mpr ⟨dm_2121, fun _ h => nomatch h⟩⟩⟩
set_option maxRecDepth 100000 in
theorem eg_pt_ok : ∀ l ∈ eg_pt, ∀ x ∈ l, eg_mok x := by
  unfold eg_pt
  exact List.forall_mem_cons.mpr ⟨db_0, List.forall_mem_cons.mpr ⟨db_1, List.forall_mem_cons.mpr ⟨db_2, List.forall_mem_cons.mpr ⟨db_3, List.forall_mem_cons.mpr ⟨db_4, List.forall_mem_cons.mpr ⟨db_5, List.forall_mem_cons.mpr ⟨db_6, List.forall_mem_cons.mpr ⟨db_7, List.forall_mem_cons.mpr ⟨db_8, List.forall_mem_cons.mpr ⟨db_9, List.forall_mem_cons.mpr ⟨db_10, List.forall_mem_cons.mpr ⟨db_11, List.forall_mem_cons.mpr ⟨db_12, List.forall_mem_cons.mpr ⟨db_13, List.forall_mem_cons.mpr ⟨db_14, List.forall_mem_cons.mpr ⟨db_15, List.forall_mem_cons.mpr ⟨db_16, List.forall_mem_cons.mpr ⟨db_17, List.forall_mem_cons.mpr ⟨db_18, List.forall_mem_cons.mpr ⟨db_19, List.forall_mem_cons.mpr ⟨db_20, List.forall_mem_cons.mpr ⟨db_21, List.forall_mem_cons.mpr ⟨db_22, List.forall_mem_cons.mpr ⟨db_23, List.forall_mem_cons.mpr ⟨db_24, List.forall_mem_cons.mpr ⟨db_25, List.forall_mem_cons.mpr ⟨db_26, List.forall_mem_cons.mpr ⟨db_27, List.forall_mem_cons.mpr ⟨db_28, List.forall_mem_cons.mpr ⟨db_29, List.forall_mem_cons.mpr ⟨db_30, List.forall_mem_cons.mpr ⟨db_31, List.forall_mem_cons.mpr ⟨db_32, List.forall_mem_cons.mpr ⟨db_33, fun _ h => nomatch h⟩⟩⟩⟩⟩⟩⟩⟩⟩⟩⟩⟩⟩⟩⟩⟩⟩⟩⟩⟩⟩⟩⟩⟩⟩⟩⟩⟩⟩⟩⟩⟩⟩⟩
theorem eg_pg_ok : eg_pgok := by
  intro u q hq
  unfold eg_pg at hq
  cases hu : Nat.beq u 9999 with
  | true =>
    rw [hu] at hq
    obtain rfl := Nat.eq_of_beq_eq_true hu
    exact dm_9999 q hq
  | false =>
    rw [hu] at hq
    simp only at hq
    cases hl : eg_nth eg_pt (u / 64) with
    | none => rw [hl] at hq; cases hq
    | some l =>
      rw [hl] at hq
      simp only at hq
      rw [eg_nth_eq] at hl
      cases h : eg_find u l with
      | none => rw [h] at hq; cases hq
      | some w =>
        rw [h] at hq
        exact eg_pt_ok l (List.mem_of_getElem? hl) (u, w) (eg_find_mem h) q hq
