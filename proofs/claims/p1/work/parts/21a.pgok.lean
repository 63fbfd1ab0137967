theorem eg_dok_v {u : Nat} {l : eg_W} (h : eg_dok u l = true) : ∀ q ∈ l, decode (eg_md u).2.1 q.1 = .ok q.2 := fun q hq => of_decide_eq_true (List.all_eq_true.mp h q hq)
theorem eg_dok_c {u n : Nat} {l : eg_W} {i : Nat} (h1 : ∀ q ∈ l.drop (i + n), decode (eg_md u).2.1 q.1 = .ok q.2) (h2 : eg_dok u ((l.drop i).take n) = true) : ∀ q ∈ l.drop i, decode (eg_md u).2.1 q.1 = .ok q.2 := fun q hq => by
  rw [← List.take_append_drop n (l.drop i), List.drop_drop] at hq
  rcases List.mem_append.mp hq with h | h
  · exact eg_dok_v h2 q h
  · exact h1 q h
theorem eg_dok_n {u i : Nat} {l : eg_W} (h : l.length ≤ i) : ∀ q ∈ l.drop i, decode (eg_md u).2.1 q.1 = .ok q.2 := fun q hq => by
  rw [List.drop_eq_nil_of_le h] at hq
  cases hq
theorem dm_147 : ∀ q ∈ pg_147, decode (eg_md 147).2.1 q.1 = .ok q.2 := fun q hq => (eg_dok_c (n := 60) (i := 0) (eg_dok_c (n := 60) (i := 60) (eg_dok_c (n := 60) (i := 120) (eg_dok_n (by decide +kernel)) dk_147_2) dk_147_1) dk_147_0) q hq
theorem dm_155 : ∀ q ∈ pg_155, decode (eg_md 155).2.1 q.1 = .ok q.2 := fun q hq => (eg_dok_c (n := 60) (i := 0) (eg_dok_n (by decide +kernel)) dk_155_0) q hq
theorem dm_172 : ∀ q ∈ pg_172, decode (eg_md 172).2.1 q.1 = .ok q.2 := fun q hq => (eg_dok_c (n := 60) (i := 0) (eg_dok_c (n := 60) (i := 60) (eg_dok_n (by decide +kernel)) dk_172_1) dk_172_0) q hq
theorem dm_178 : ∀ q ∈ pg_178, decode (eg_md 178).2.1 q.1 = .ok q.2 := fun q hq => (eg_dok_c (n := 60) (i := 0) (eg_dok_n (by decide +kernel)) dk_178_0) q hq
theorem dm_182 : ∀ q ∈ pg_182, decode (eg_md 182).2.1 q.1 = .ok q.2 := fun q hq => (eg_dok_c (n := 60) (i := 0) (eg_dok_n (by decide +kernel)) dk_182_0) q hq
theorem dm_188 : ∀ q ∈ pg_188, decode (eg_md 188).2.1 q.1 = .ok q.2 := fun q hq => (eg_dok_c (n := 60) (i := 0) (eg_dok_n (by decide +kernel)) dk_188_0) q hq
theorem dm_192 : ∀ q ∈ pg_192, decode (eg_md 192).2.1 q.1 = .ok q.2 := fun q hq => (eg_dok_c (n := 60) (i := 0) (eg_dok_n (by decide +kernel)) dk_192_0) q hq
theorem dm_195 : ∀ q ∈ pg_195, decode (eg_md 195).2.1 q.1 = .ok q.2 := fun q hq => (eg_dok_c (n := 60) (i := 0) (eg_dok_n (by decide +kernel)) dk_195_0) q hq
theorem dm_198 : ∀ q ∈ pg_198, decode (eg_md 198).2.1 q.1 = .ok q.2 := fun q hq => (eg_dok_c (n := 60) (i := 0) (eg_dok_n (by decide +kernel)) dk_198_0) q hq
theorem dm_203 : ∀ q ∈ pg_203, decode (eg_md 203).2.1 q.1 = .ok q.2 := fun q hq => (eg_dok_c (n := 60) (i := 0) (eg_dok_n (by decide +kernel)) dk_203_0) q hq
theorem dm_225 : ∀ q ∈ pg_225, decode (eg_md 225).2.1 q.1 = .ok q.2 := fun q hq => (eg_dok_c (n := 60) (i := 0) (eg_dok_n (by decide +kernel)) dk_225_0) q hq
theorem dm_275 : ∀ q ∈ pg_275, decode (eg_md 275).2.1 q.1 = .ok q.2 := fun q hq => (eg_dok_c (n := 60) (i := 0) (eg_dok_c (n := 60) (i := 60) (eg_dok_n (by decide +kernel)) dk_275_1) dk_275_0) q hq
theorem dm_397 : ∀ q ∈ pg_397, decode (eg_md 397).2.1 q.1 = .ok q.2 := fun q hq => (eg_dok_c (n := 60) (i := 0) (eg_dok_n (by decide +kernel)) dk_397_0) q hq
theorem dm_438 : ∀ q ∈ pg_438, decode (eg_md 438).2.1 q.1 = .ok q.2 := fun q hq => (eg_dok_c (n := 60) (i := 0) (eg_dok_n (by decide +kernel)) dk_438_0) q hq
theorem dm_487 : ∀ q ∈ pg_487, decode (eg_md 487).2.1 q.1 = .ok q.2 := fun q hq => (eg_dok_c (n := 60) (i := 0) (eg_dok_n (by decide +kernel)) dk_487_0) q hq
theorem dm_506 : ∀ q ∈ pg_506, decode (eg_md 506).2.1 q.1 = .ok q.2 := fun q hq => (eg_dok_c (n := 60) (i := 0) (eg_dok_n (by decide +kernel)) dk_506_0) q hq
theorem dm_543 : ∀ q ∈ pg_543, decode (eg_md 543).2.1 q.1 = .ok q.2 := fun q hq => (eg_dok_c (n := 60) (i := 0) (eg_dok_n (by decide +kernel)) dk_543_0) q hq
theorem dm_580 : ∀ q ∈ pg_580, decode (eg_md 580).2.1 q.1 = .ok q.2 := fun q hq => (eg_dok_c (n := 60) (i := 0) (eg_dok_n (by decide +kernel)) dk_580_0) q hq
theorem dm_602 : ∀ q ∈ pg_602, decode (eg_md 602).2.1 q.1 = .ok q.2 := fun q hq => (eg_dok_c (n := 60) (i := 0) (eg_dok_n (by decide +kernel)) dk_602_0) q hq
theorem dm_676 : ∀ q ∈ pg_676, decode (eg_md 676).2.1 q.1 = .ok q.2 := fun q hq => (eg_dok_c (n := 60) (i := 0) (eg_dok_n (by decide +kernel)) dk_676_0) q hq
theorem dm_680 : ∀ q ∈ pg_680, decode (eg_md 680).2.1 q.1 = .ok q.2 := fun q hq => (eg_dok_c (n := 60) (i := 0) (eg_dok_n (by decide +kernel)) dk_680_0) q hq
theorem dm_684 : ∀ q ∈ pg_684, decode (eg_md 684).2.1 q.1 = .ok q.2 := fun q hq => (eg_dok_c (n := 60) (i := 0) (eg_dok_n (by decide +kernel)) dk_684_0) q hq
theorem dm_688 : ∀ q ∈ pg_688, decode (eg_md 688).2.1 q.1 = .ok q.2 := fun q hq => (eg_dok_c (n := 60) (i := 0) (eg_dok_n (by decide +kernel)) dk_688_0) q hq
theorem dm_692 : ∀ q ∈ pg_692, decode (eg_md 692).2.1 q.1 = .ok q.2 := fun q hq => (eg_dok_c (n := 60) (i := 0) (eg_dok_n (by decide +kernel)) dk_692_0) q hq
theorem dm_695 : ∀ q ∈ pg_695, decode (eg_md 695).2.1 q.1 = .ok q.2 := fun q hq => (eg_dok_c (n := 60) (i := 0) (eg_dok_n (by decide +kernel)) dk_695_0) q hq
theorem dm_718 : ∀ q ∈ pg_718, decode (eg_md 718).2.1 q.1 = .ok q.2 := fun q hq => (eg_dok_c (n := 60) (i := 0) (eg_dok_n (by decide +kernel)) dk_718_0) q hq
theorem dm_728 : ∀ q ∈ pg_728, decode (eg_md 728).2.1 q.1 = .ok q.2 := fun q hq => (eg_dok_c (n := 60) (i := 0) (eg_dok_n (by decide +kernel)) dk_728_0) q hq
theorem dm_732 : ∀ q ∈ pg_732, decode (eg_md 732).2.1 q.1 = .ok q.2 := fun q hq => (eg_dok_c (n := 60) (i := 0) (eg_dok_n (by decide +kernel)) dk_732_0) q hq
theorem dm_736 : ∀ q ∈ pg_736, decode (eg_md 736).2.1 q.1 = .ok q.2 := fun q hq => (eg_dok_c (n := 60) (i := 0) (eg_dok_n (by decide +kernel)) dk_736_0) q hq
theorem dm_748 : ∀ q ∈ pg_748, decode (eg_md 748).2.1 q.1 = .ok q.2 := fun q hq => (eg_dok_c (n := 60) (i := 0) (eg_dok_n (by decide +kernel)) dk_748_0) q hq
theorem dm_789 : ∀ q ∈ pg_789, decode (eg_md 789).2.1 q.1 = .ok q.2 := fun q hq => (eg_dok_c (n := 60) (i := 0) (eg_dok_n (by decide +kernel)) dk_789_0) q hq
theorem dm_831 : ∀ q ∈ pg_831, decode (eg_md 831).2.1 q.1 = .ok q.2 := fun q hq => (eg_dok_c (n := 60) (i := 0) (eg_dok_n (by decide +kernel)) dk_831_0) q hq
theorem dm_835 : ∀ q ∈ pg_835, decode (eg_md 835).2.1 q.1 = .ok q.2 := fun q hq => (eg_dok_c (n := 60) (i := 0) (eg_dok_c (n := 60) (i := 60) (eg_dok_c (n := 60) (i := 120) (eg_dok_n (by decide +kernel)) dk_835_2) dk_835_1) dk_835_0) q hq
theorem dm_839 : ∀ q ∈ pg_839, decode (eg_md 839).2.1 q.1 = .ok q.2 := fun q hq => (eg_dok_c (n := 60) (i := 0) (eg_dok_n (by decide +kernel)) dk_839_0) q hq
theorem dm_843 : ∀ q ∈ pg_843, decode (eg_md 843).2.1 q.1 = .ok q.2 := fun q hq => (eg_dok_c (n := 60) (i := 0) (eg_dok_n (by decide +kernel)) dk_843_0) q hq
theorem dm_847 : ∀ q ∈ pg_847, decode (eg_md 847).2.1 q.1 = .ok q.2 := fun q hq => (eg_dok_c (n := 60) (i := 0) (eg_dok_n (by decide +kernel)) dk_847_0) q hq
theorem dm_851 : ∀ q ∈ pg_851, decode (eg_md 851).2.1 q.1 = .ok q.2 := fun q hq => (eg_dok_c (n := 60) (i := 0) (eg_dok_n (by decide +kernel)) dk_851_0) q hq
theorem dm_855 : ∀ q ∈ pg_855, decode (eg_md 855).2.1 q.1 = .ok q.2 := fun q hq => (eg_dok_c (n := 60) (i := 0) (eg_dok_n (by decide +kernel)) dk_855_0) q hq
theorem dm_859 : ∀ q ∈ pg_859, decode (eg_md 859).2.1 q.1 = .ok q.2 := fun q hq => (eg_dok_c (n := 60) (i := 0) (eg_dok_n (by decide +kernel)) dk_859_0) q hq
theorem dm_863 : ∀ q ∈ pg_863, decode (eg_md 863).2.1 q.1 = .ok q.2 := fun q hq => (eg_dok_c (n := 60) (i := 0) (eg_dok_n (by decide +kernel)) dk_863_0) q hq
theorem dm_867 : ∀ q ∈ pg_867, decode (eg_md 867).2.1 q.1 = .ok q.2 := fun q hq => (eg_dok_c (n := 60) (i := 0) (eg_dok_n (by decide +kernel)) dk_867_0) q hq
theorem dm_871 : ∀ q ∈ pg_871, decode (eg_md 871).2.1 q.1 = .ok q.2 := fun q hq => (eg_dok_c (n := 60) (i := 0) (eg_dok_n (by decide +kernel)) dk_871_0) q hq
theorem dm_876 : ∀ q ∈ pg_876, decode (eg_md 876).2.1 q.1 = .ok q.2 := fun q hq => (eg_dok_c (n := 60) (i := 0) (eg_dok_n (by decide +kernel)) dk_876_0) q hq
theorem dm_880 : ∀ q ∈ pg_880, decode (eg_md 880).2.1 q.1 = .ok q.2 := fun q hq => (eg_dok_c (n := 60) (i := 0) (eg_dok_n (by decide +kernel)) dk_880_0) q hq
theorem dm_883 : ∀ q ∈ pg_883, decode (eg_md 883).2.1 q.1 = .ok q.2 := fun q hq => (eg_dok_c (n := 60) (i := 0) (eg_dok_n (by decide +kernel)) dk_883_0) q hq
theorem dm_890 : ∀ q ∈ pg_890, decode (eg_md 890).2.1 q.1 = .ok q.2 := fun q hq => (eg_dok_c (n := 60) (i := 0) (eg_dok_n (by decide +kernel)) dk_890_0) q hq
theorem dm_895 : ∀ q ∈ pg_895, decode (eg_md 895).2.1 q.1 = .ok q.2 := fun q hq => (eg_dok_c (n := 60) (i := 0) (eg_dok_n (by decide +kernel)) dk_895_0) q hq
theorem dm_899 : ∀ q ∈ pg_899, decode (eg_md 899).2.1 q.1 = .ok q.2 := fun q hq => (eg_dok_c (n := 60) (i := 0) (eg_dok_n (by decide +kernel)) dk_899_0) q hq
theorem dm_903 : ∀ q ∈ pg_903, decode (eg_md 903).2.1 q.1 = .ok q.2 := fun q hq => (eg_dok_c (n := 60) (i := 0) (eg_dok_n (by decide +kernel)) dk_903_0) q hq
theorem dm_907 : ∀ q ∈ pg_907, decode (eg_md 907).2.1 q.1 = .ok q.2 := fun q hq => (eg_dok_c (n := 60) (i := 0) (eg_dok_n (by decide +kernel)) dk_907_0) q hq
theorem dm_915 : ∀ q ∈ pg_915, decode (eg_md 915).2.1 q.1 = .ok q.2 := fun q hq => (eg_dok_c (n := 60) (i := 0) (eg_dok_n (by decide +kernel)) dk_915_0) q hq
theorem dm_919 : ∀ q ∈ pg_919, decode (eg_md 919).2.1 q.1 = .ok q.2 := fun q hq => (eg_dok_c (n := 60) (i := 0) (eg_dok_c (n := 60) (i := 60) (eg_dok_n (by decide +kernel)) dk_919_1) dk_919_0) q hq
theorem dm_942 : ∀ q ∈ pg_942, decode (eg_md 942).2.1 q.1 = .ok q.2 := fun q hq => (eg_dok_c (n := 60) (i := 0) (eg_dok_n (by decide +kernel)) dk_942_0) q hq
theorem dm_946 : ∀ q ∈ pg_946, decode (eg_md 946).2.1 q.1 = .ok q.2 := fun q hq => (eg_dok_c (n := 60) (i := 0) (eg_dok_n (by decide +kernel)) dk_946_0) q hq
theorem dm_950 : ∀ q ∈ pg_950, decode (eg_md 950).2.1 q.1 = .ok q.2 := fun q hq => (eg_dok_c (n := 60) (i := 0) (eg_dok_n (by decide +kernel)) dk_950_0) q hq
theorem dm_954 : ∀ q ∈ pg_954, decode (eg_md 954).2.1 q.1 = .ok q.2 := fun q hq => (eg_dok_c (n := 60) (i := 0) (eg_dok_n (by decide +kernel)) dk_954_0) q hq
theorem dm_958 : ∀ q ∈ pg_958, decode (eg_md 958).2.1 q.1 = .ok q.2 := fun q hq => (eg_dok_c (n := 60) (i := 0) (eg_dok_n (by decide +kernel)) dk_958_0) q hq
theorem dm_962 : ∀ q ∈ pg_962, decode (eg_md 962).2.1 q.1 = .ok q.2 := fun q hq => (eg_dok_c (n := 60) (i := 0) (eg_dok_n (by decide +kernel)) dk_962_0) q hq
theorem dm_967 : ∀ q ∈ pg_967, decode (eg_md 967).2.1 q.1 = .ok q.2 := fun q hq => (eg_dok_c (n := 60) (i := 0) (eg_dok_n (by decide +kernel)) dk_967_0) q hq
theorem dm_971 : ∀ q ∈ pg_971, decode (eg_md 971).2.1 q.1 = .ok q.2 := fun q hq => (eg_dok_c (n := 60) (i := 0) (eg_dok_n (by decide +kernel)) dk_971_0) q hq
theorem dm_975 : ∀ q ∈ pg_975, decode (eg_md 975).2.1 q.1 = .ok q.2 := fun q hq => (eg_dok_c (n := 60) (i := 0) (eg_dok_n (by decide +kernel)) dk_975_0) q hq
theorem dm_979 : ∀ q ∈ pg_979, decode (eg_md 979).2.1 q.1 = .ok q.2 := fun q hq => (eg_dok_c (n := 60) (i := 0) (eg_dok_n (by decide +kernel)) dk_979_0) q hq
theorem dm_983 : ∀ q ∈ pg_983, decode (eg_md 983).2.1 q.1 = .ok q.2 := fun q hq => (eg_dok_c (n := 60) (i := 0) (eg_dok_n (by decide +kernel)) dk_983_0) q hq
theorem dm_987 : ∀ q ∈ pg_987, decode (eg_md 987).2.1 q.1 = .ok q.2 := fun q hq => (eg_dok_c (n := 60) (i := 0) (eg_dok_n (by decide +kernel)) dk_987_0) q hq
theorem dm_999 : ∀ q ∈ pg_999, decode (eg_md 999).2.1 q.1 = .ok q.2 := fun q hq => (eg_dok_c (n := 60) (i := 0) (eg_dok_n (by decide +kernel)) dk_999_0) q hq
theorem dm_1003 : ∀ q ∈ pg_1003, decode (eg_md 1003).2.1 q.1 = .ok q.2 := fun q hq => (eg_dok_c (n := 60) (i := 0) (eg_dok_n (by decide +kernel)) dk_1003_0) q hq
theorem dm_1009 : ∀ q ∈ pg_1009, decode (eg_md 1009).2.1 q.1 = .ok q.2 := fun q hq => (eg_dok_c (n := 60) (i := 0) (eg_dok_n (by decide +kernel)) dk_1009_0) q hq
theorem dm_1013 : ∀ q ∈ pg_1013, decode (eg_md 1013).2.1 q.1 = .ok q.2 := fun q hq => (eg_dok_c (n := 60) (i := 0) (eg_dok_n (by decide +kernel)) dk_1013_0) q hq
theorem dm_1019 : ∀ q ∈ pg_1019, decode (eg_md 1019).2.1 q.1 = .ok q.2 := fun q hq => (eg_dok_c (n := 60) (i := 0) (eg_dok_n (by decide +kernel)) dk_1019_0) q hq
theorem dm_1023 : ∀ q ∈ pg_1023, decode (eg_md 1023).2.1 q.1 = .ok q.2 := fun q hq => (eg_dok_c (n := 60) (i := 0) (eg_dok_n (by decide +kernel)) dk_1023_0) q hq
theorem dm_1027 : ∀ q ∈ pg_1027, decode (eg_md 1027).2.1 q.1 = .ok q.2 := fun q hq => (eg_dok_c (n := 60) (i := 0) (eg_dok_n (by decide +kernel)) dk_1027_0) q hq
theorem dm_1050 : ∀ q ∈ pg_1050, decode (eg_md 1050).2.1 q.1 = .ok q.2 := fun q hq => (eg_dok_c (n := 60) (i := 0) (eg_dok_n (by decide +kernel)) dk_1050_0) q hq
theorem dm_1054 : ∀ q ∈ pg_1054, decode (eg_md 1054).2.1 q.1 = .ok q.2 := fun q hq => (eg_dok_c (n := 60) (i := 0) (eg_dok_n (by decide +kernel)) dk_1054_0) q hq
theorem dm_1058 : ∀ q ∈ pg_1058, decode (eg_md 1058).2.1 q.1 = .ok q.2 := fun q hq => (eg_dok_c (n := 60) (i := 0) (eg_dok_n (by decide +kernel)) dk_1058_0) q hq
theorem dm_1062 : ∀ q ∈ pg_1062, decode (eg_md 1062).2.1 q.1 = .ok q.2 := fun q hq => (eg_dok_c (n := 60) (i := 0) (eg_dok_n (by decide +kernel)) dk_1062_0) q hq
theorem dm_1081 : ∀ q ∈ pg_1081, decode (eg_md 1081).2.1 q.1 = .ok q.2 := fun q hq => (eg_dok_c (n := 60) (i := 0) (eg_dok_n (by decide +kernel)) dk_1081_0) q hq
theorem dm_1085 : ∀ q ∈ pg_1085, decode (eg_md 1085).2.1 q.1 = .ok q.2 := fun q hq => (eg_dok_c (n := 60) (i := 0) (eg_dok_n (by decide +kernel)) dk_1085_0) q hq
theorem dm_1089 : ∀ q ∈ pg_1089, decode (eg_md 1089).2.1 q.1 = .ok q.2 := fun q hq => (eg_dok_c (n := 60) (i := 0) (eg_dok_n (by decide +kernel)) dk_1089_0) q hq
theorem dm_1097 : ∀ q ∈ pg_1097, decode (eg_md 1097).2.1 q.1 = .ok q.2 := fun q hq => (eg_dok_c (n := 60) (i := 0) (eg_dok_n (by decide +kernel)) dk_1097_0) q hq
theorem dm_1101 : ∀ q ∈ pg_1101, decode (eg_md 1101).2.1 q.1 = .ok q.2 := fun q hq => (eg_dok_c (n := 60) (i := 0) (eg_dok_n (by decide +kernel)) dk_1101_0) q hq
theorem dm_1105 : ∀ q ∈ pg_1105, decode (eg_md 1105).2.1 q.1 = .ok q.2 := fun q hq => (eg_dok_c (n := 60) (i := 0) (eg_dok_n (by decide +kernel)) dk_1105_0) q hq
theorem dm_1117 : ∀ q ∈ pg_1117, decode (eg_md 1117).2.1 q.1 = .ok q.2 := fun q hq => (eg_dok_c (n := 60) (i := 0) (eg_dok_n (by decide +kernel)) dk_1117_0) q hq
theorem dm_1121 : ∀ q ∈ pg_1121, decode (eg_md 1121).2.1 q.1 = .ok q.2 := fun q hq => (eg_dok_c (n := 60) (i := 0) (eg_dok_n (by decide +kernel)) dk_1121_0) q hq
theorem dm_1125 : ∀ q ∈ pg_1125, decode (eg_md 1125).2.1 q.1 = .ok q.2 := fun q hq => (eg_dok_c (n := 60) (i := 0) (eg_dok_n (by decide +kernel)) dk_1125_0) q hq
theorem dm_1136 : ∀ q ∈ pg_1136, decode (eg_md 1136).2.1 q.1 = .ok q.2 := fun q hq => (eg_dok_c (n := 60) (i := 0) (eg_dok_n (by decide +kernel)) dk_1136_0) q hq
theorem dm_1140 : ∀ q ∈ pg_1140, decode (eg_md 1140).2.1 q.1 = .ok q.2 := fun q hq => (eg_dok_c (n := 60) (i := 0) (eg_dok_n (by decide +kernel)) dk_1140_0) q hq
theorem dm_1147 : ∀ q ∈ pg_1147, decode (eg_md 1147).2.1 q.1 = .ok q.2 := fun q hq => (eg_dok_c (n := 60) (i := 0) (eg_dok_n (by decide +kernel)) dk_1147_0) q hq
theorem dm_1151 : ∀ q ∈ pg_1151, decode (eg_md 1151).2.1 q.1 = .ok q.2 := fun q hq => (eg_dok_c (n := 60) (i := 0) (eg_dok_n (by decide +kernel)) dk_1151_0) q hq
theorem dm_1156 : ∀ q ∈ pg_1156, decode (eg_md 1156).2.1 q.1 = .ok q.2 := fun q hq => (eg_dok_c (n := 60) (i := 0) (eg_dok_n (by decide +kernel)) dk_1156_0) q hq
theorem dm_1160 : ∀ q ∈ pg_1160, decode (eg_md 1160).2.1 q.1 = .ok q.2 := fun q hq => (eg_dok_c (n := 60) (i := 0) (eg_dok_n (by decide +kernel)) dk_1160_0) q hq
theorem dm_1164 : ∀ q ∈ pg_1164, decode (eg_md 1164).2.1 q.1 = .ok q.2 := fun q hq => (eg_dok_c (n := 60) (i := 0) (eg_dok_n (by decide +kernel)) dk_1164_0) q hq
theorem dm_1192 : ∀ q ∈ pg_1192, decode (eg_md 1192).2.1 q.1 = .ok q.2 := fun q hq => (eg_dok_c (n := 60) (i := 0) (eg_dok_n (by decide +kernel)) dk_1192_0) q hq
theorem dm_1196 : ∀ q ∈ pg_1196, decode (eg_md 1196).2.1 q.1 = .ok q.2 := fun q hq => (eg_dok_c (n := 60) (i := 0) (eg_dok_n (by decide +kernel)) dk_1196_0) q hq
theorem dm_1200 : ∀ q ∈ pg_1200, decode (eg_md 1200).2.1 q.1 = .ok q.2 := fun q hq => (eg_dok_c (n := 60) (i := 0) (eg_dok_n (by decide +kernel)) dk_1200_0) q hq
theorem dm_1226 : ∀ q ∈ pg_1226, decode (eg_md 1226).2.1 q.1 = .ok q.2 := fun q hq => (eg_dok_c (n := 60) (i := 0) (eg_dok_n (by decide +kernel)) dk_1226_0) q hq
theorem dm_1234 : ∀ q ∈ pg_1234, decode (eg_md 1234).2.1 q.1 = .ok q.2 := fun q hq => (eg_dok_c (n := 60) (i := 0) (eg_dok_n (by decide +kernel)) dk_1234_0) q hq
theorem dm_1238 : ∀ q ∈ pg_1238, decode (eg_md 1238).2.1 q.1 = .ok q.2 := fun q hq => (eg_dok_c (n := 60) (i := 0) (eg_dok_n (by decide +kernel)) dk_1238_0) q hq
theorem dm_1242 : ∀ q ∈ pg_1242, decode (eg_md 1242).2.1 q.1 = .ok q.2 := fun q hq => (eg_dok_c (n := 60) (i := 0) (eg_dok_n (by decide +kernel)) dk_1242_0) q hq
theorem dm_1246 : ∀ q ∈ pg_1246, decode (eg_md 1246).2.1 q.1 = .ok q.2 := fun q hq => (eg_dok_c (n := 60) (i := 0) (eg_dok_n (by decide +kernel)) dk_1246_0) q hq
theorem dm_1252 : ∀ q ∈ pg_1252, decode (eg_md 1252).2.1 q.1 = .ok q.2 := fun q hq => (eg_dok_c (n := 60) (i := 0) (eg_dok_n (by decide +kernel)) dk_1252_0) q hq
theorem dm_1256 : ∀ q ∈ pg_1256, decode (eg_md 1256).2.1 q.1 = .ok q.2 := fun q hq => (eg_dok_c (n := 60) (i := 0) (eg_dok_n (by decide +kernel)) dk_1256_0) q hq
theorem dm_1260 : ∀ q ∈ pg_1260, decode (eg_md 1260).2.1 q.1 = .ok q.2 := fun q hq => (eg_dok_c (n := 60) (i := 0) (eg_dok_n (by decide +kernel)) dk_1260_0) q hq
theorem dm_1263 : ∀ q ∈ pg_1263, decode (eg_md 1263).2.1 q.1 = .ok q.2 := fun q hq => (eg_dok_c (n := 60) (i := 0) (eg_dok_n (by decide +kernel)) dk_1263_0) q hq
theorem dm_1297 : ∀ q ∈ pg_1297, decode (eg_md 1297).2.1 q.1 = .ok q.2 := fun q hq => (eg_dok_c (n := 60) (i := 0) (eg_dok_n (by decide +kernel)) dk_1297_0) q hq
theorem dm_1301 : ∀ q ∈ pg_1301, decode (eg_md 1301).2.1 q.1 = .ok q.2 := fun q hq => (eg_dok_c (n := 60) (i := 0) (eg_dok_n (by decide +kernel)) dk_1301_0) q hq
theorem dm_1305 : ∀ q ∈ pg_1305, decode (eg_md 1305).2.1 q.1 = .ok q.2 := fun q hq => (eg_dok_c (n := 60) (i := 0) (eg_dok_n (by decide +kernel)) dk_1305_0) q hq
theorem dm_1351 : ∀ q ∈ pg_1351, decode (eg_md 1351).2.1 q.1 = .ok q.2 := fun q hq => (eg_dok_c (n := 60) (i := 0) (eg_dok_n (by decide +kernel)) dk_1351_0) q hq
theorem dm_1355 : ∀ q ∈ pg_1355, decode (eg_md 1355).2.1 q.1 = .ok q.2 := fun q hq => (eg_dok_c (n := 60) (i := 0) (eg_dok_n (by decide +kernel)) dk_1355_0) q hq
theorem dm_1359 : ∀ q ∈ pg_1359, decode (eg_md 1359).2.1 q.1 = .ok q.2 := fun q hq => (eg_dok_c (n := 60) (i := 0) (eg_dok_n (by decide +kernel)) dk_1359_0) q hq
theorem dm_1442 : ∀ q ∈ pg_1442, decode (eg_md 1442).2.1 q.1 = .ok q.2 := fun q hq => (eg_dok_c (n := 60) (i := 0) (eg_dok_n (by decide +kernel)) dk_1442_0) q hq
theorem dm_1446 : ∀ q ∈ pg_1446, decode (eg_md 1446).2.1 q.1 = .ok q.2 := fun q hq => (eg_dok_c (n := 60) (i := 0) (eg_dok_n (by decide +kernel)) dk_1446_0) q hq
theorem dm_1451 : ∀ q ∈ pg_1451, decode (eg_md 1451).2.1 q.1 = .ok q.2 := fun q hq => (eg_dok_c (n := 60) (i := 0) (eg_dok_n (by decide +kernel)) dk_1451_0) q hq
theorem dm_1455 : ∀ q ∈ pg_1455, decode (eg_md 1455).2.1 q.1 = .ok q.2 := fun q hq => (eg_dok_c (n := 60) (i := 0) (eg_dok_n (by decide +kernel)) dk_1455_0) q hq
theorem dm_1459 : ∀ q ∈ pg_1459, decode (eg_md 1459).2.1 q.1 = .ok q.2 := fun q hq => (eg_dok_c (n := 60) (i := 0) (eg_dok_c (n := 60) (i := 60) (eg_dok_c (n := 60) (i := 120) (eg_dok_c (n := 60) (i := 180) (eg_dok_n (by decide +kernel)) dk_1459_3) dk_1459_2) dk_1459_1) dk_1459_0) q hq
theorem dm_1487 : ∀ q ∈ pg_1487, decode (eg_md 1487).2.1 q.1 = .ok q.2 := fun q hq => (eg_dok_c (n := 60) (i := 0) (eg_dok_n (by decide +kernel)) dk_1487_0) q hq
theorem dm_1654 : ∀ q ∈ pg_1654, decode (eg_md 1654).2.1 q.1 = .ok q.2 := fun q hq => (eg_dok_c (n := 60) (i := 0) (eg_dok_c (n := 60) (i := 60) (eg_dok_n (by decide +kernel)) dk_1654_1) dk_1654_0) q hq
theorem dm_1658 : ∀ q ∈ pg_1658, decode (eg_md 1658).2.1 q.1 = .ok q.2 := fun q hq => (eg_dok_c (n := 60) (i := 0) (eg_dok_n (by decide +kernel)) dk_1658_0) q hq
theorem dm_1662 : ∀ q ∈ pg_1662, decode (eg_md 1662).2.1 q.1 = .ok q.2 := fun q hq => (eg_dok_c (n := 60) (i := 0) (eg_dok_n (by decide +kernel)) dk_1662_0) q hq
theorem dm_1666 : ∀ q ∈ pg_1666, decode (eg_md 1666).2.1 q.1 = .ok q.2 := fun q hq => (eg_dok_c (n := 60) (i := 0) (eg_dok_n (by decide +kernel)) dk_1666_0) q hq
theorem dm_1680 : ∀ q ∈ pg_1680, decode (eg_md 1680).2.1 q.1 = .ok q.2 := fun q hq => (eg_dok_c (n := 60) (i := 0) (eg_dok_n (by decide +kernel)) dk_1680_0) q hq
theorem dm_1687 : ∀ q ∈ pg_1687, decode (eg_md 1687).2.1 q.1 = .ok q.2 := fun q hq => (eg_dok_c (n := 60) (i := 0) (eg_dok_n (by decide +kernel)) dk_1687_0) q hq
theorem dm_1691 : ∀ q ∈ pg_1691, decode (eg_md 1691).2.1 q.1 = .ok q.2 := fun q hq => (eg_dok_c (n := 60) (i := 0) (eg_dok_n (by decide +kernel)) dk_1691_0) q hq
theorem dm_1702 : ∀ q ∈ pg_1702, decode (eg_md 1702).2.1 q.1 = .ok q.2 := fun q hq => (eg_dok_c (n := 60) (i := 0) (eg_dok_n (by decide +kernel)) dk_1702_0) q hq
theorem dm_1742 : ∀ q ∈ pg_1742, decode (eg_md 1742).2.1 q.1 = .ok q.2 := fun q hq => (eg_dok_c (n := 60) (i := 0) (eg_dok_n (by decide +kernel)) dk_1742_0) q hq
theorem dm_1746 : ∀ q ∈ pg_1746, decode (eg_md 1746).2.1 q.1 = .ok q.2 := fun q hq => (eg_dok_c (n := 60) (i := 0) (eg_dok_n (by decide +kernel)) dk_1746_0) q hq
theorem dm_1750 : ∀ q ∈ pg_1750, decode (eg_md 1750).2.1 q.1 = .ok q.2 := fun q hq => (eg_dok_c (n := 60) (i := 0) (eg_dok_n (by decide +kernel)) dk_1750_0) q hq
theorem dm_1754 : ∀ q ∈ pg_1754, decode (eg_md 1754).2.1 q.1 = .ok q.2 := fun q hq => (eg_dok_c (n := 60) (i := 0) (eg_dok_n (by decide +kernel)) dk_1754_0) q hq
theorem dm_1758 : ∀ q ∈ pg_1758, decode (eg_md 1758).2.1 q.1 = .ok q.2 := fun q hq => (eg_dok_c (n := 60) (i := 0) (eg_dok_n (by decide +kernel)) dk_1758_0) q hq
theorem dm_1770 : ∀ q ∈ pg_1770, decode (eg_md 1770).2.1 q.1 = .ok q.2 := fun q hq => (eg_dok_c (n := 60) (i := 0) (eg_dok_n (by decide +kernel)) dk_1770_0) q hq
theorem dm_1778 : ∀ q ∈ pg_1778, decode (eg_md 1778).2.1 q.1 = .ok q.2 := fun q hq => (eg_dok_c (n := 60) (i := 0) (eg_dok_n (by decide +kernel)) dk_1778_0) q hq
theorem dm_1782 : ∀ q ∈ pg_1782, decode (eg_md 1782).2.1 q.1 = .ok q.2 := fun q hq => (eg_dok_c (n := 60) (i := 0) (eg_dok_n (by decide +kernel)) dk_1782_0) q hq
theorem dm_1794 : ∀ q ∈ pg_1794, decode (eg_md 1794).2.1 q.1 = .ok q.2 := fun q hq => (eg_dok_c (n := 60) (i := 0) (eg_dok_n (by decide +kernel)) dk_1794_0) q hq
theorem dm_1798 : ∀ q ∈ pg_1798, decode (eg_md 1798).2.1 q.1 = .ok q.2 := fun q hq => (eg_dok_c (n := 60) (i := 0) (eg_dok_n (by decide +kernel)) dk_1798_0) q hq
theorem dm_1802 : ∀ q ∈ pg_1802, decode (eg_md 1802).2.1 q.1 = .ok q.2 := fun q hq => (eg_dok_c (n := 60) (i := 0) (eg_dok_n (by decide +kernel)) dk_1802_0) q hq
theorem dm_1806 : ∀ q ∈ pg_1806, decode (eg_md 1806).2.1 q.1 = .ok q.2 := fun q hq => (eg_dok_c (n := 60) (i := 0) (eg_dok_n (by decide +kernel)) dk_1806_0) q hq
theorem dm_1810 : ∀ q ∈ pg_1810, decode (eg_md 1810).2.1 q.1 = .ok q.2 := fun q hq => (eg_dok_c (n := 60) (i := 0) (eg_dok_n (by decide +kernel)) dk_1810_0) q hq
theorem dm_1814 : ∀ q ∈ pg_1814, decode (eg_md 1814).2.1 q.1 = .ok q.2 := fun q hq => (eg_dok_c (n := 60) (i := 0) (eg_dok_n (by decide +kernel)) dk_1814_0) q hq
theorem dm_1818 : ∀ q ∈ pg_1818, decode (eg_md 1818).2.1 q.1 = .ok q.2 := fun q hq => (eg_dok_c (n := 60) (i := 0) (eg_dok_n (by decide +kernel)) dk_1818_0) q hq
theorem dm_1822 : ∀ q ∈ pg_1822, decode (eg_md 1822).2.1 q.1 = .ok q.2 := fun q hq => (eg_dok_c (n := 60) (i := 0) (eg_dok_n (by decide +kernel)) dk_1822_0) q hq
theorem dm_1826 : ∀ q ∈ pg_1826, decode (eg_md 1826).2.1 q.1 = .ok q.2 := fun q hq => (eg_dok_c (n := 60) (i := 0) (eg_dok_n (by decide +kernel)) dk_1826_0) q hq
theorem dm_1830 : ∀ q ∈ pg_1830, decode (eg_md 1830).2.1 q.1 = .ok q.2 := fun q hq => (eg_dok_c (n := 60) (i := 0) (eg_dok_n (by decide +kernel)) dk_1830_0) q hq
theorem dm_1833 : ∀ q ∈ pg_1833, decode (eg_md 1833).2.1 q.1 = .ok q.2 := fun q hq => (eg_dok_c (n := 60) (i := 0) (eg_dok_n (by decide +kernel)) dk_1833_0) q hq
theorem dm_1837 : ∀ q ∈ pg_1837, decode (eg_md 1837).2.1 q.1 = .ok q.2 := fun q hq => (eg_dok_c (n := 60) (i := 0) (eg_dok_n (by decide +kernel)) dk_1837_0) q hq
theorem dm_1841 : ∀ q ∈ pg_1841, decode (eg_md 1841).2.1 q.1 = .ok q.2 := fun q hq => (eg_dok_c (n := 60) (i := 0) (eg_dok_n (by decide +kernel)) dk_1841_0) q hq
theorem dm_1849 : ∀ q ∈ pg_1849, decode (eg_md 1849).2.1 q.1 = .ok q.2 := fun q hq => (eg_dok_c (n := 60) (i := 0) (eg_dok_n (by decide +kernel)) dk_1849_0) q hq
theorem dm_1857 : ∀ q ∈ pg_1857, decode (eg_md 1857).2.1 q.1 = .ok q.2 := fun q hq => (eg_dok_c (n := 60) (i := 0) (eg_dok_n (by decide +kernel)) dk_1857_0) q hq
theorem dm_1891 : ∀ q ∈ pg_1891, decode (eg_md 1891).2.1 q.1 = .ok q.2 := fun q hq => (eg_dok_c (n := 60) (i := 0) (eg_dok_n (by decide +kernel)) dk_1891_0) q hq
theorem dm_1895 : ∀ q ∈ pg_1895, decode (eg_md 1895).2.1 q.1 = .ok q.2 := fun q hq => (eg_dok_c (n := 60) (i := 0) (eg_dok_n (by decide +kernel)) dk_1895_0) q hq
theorem dm_1910 : ∀ q ∈ pg_1910, decode (eg_md 1910).2.1 q.1 = .ok q.2 := fun q hq => (eg_dok_c (n := 60) (i := 0) (eg_dok_n (by decide +kernel)) dk_1910_0) q hq
theorem dm_1914 : ∀ q ∈ pg_1914, decode (eg_md 1914).2.1 q.1 = .ok q.2 := fun q hq => (eg_dok_c (n := 60) (i := 0) (eg_dok_n (by decide +kernel)) dk_1914_0) q hq
theorem dm_1918 : ∀ q ∈ pg_1918, decode (eg_md 1918).2.1 q.1 = .ok q.2 := fun q hq => (eg_dok_c (n := 60) (i := 0) (eg_dok_n (by decide +kernel)) dk_1918_0) q hq
theorem dm_1922 : ∀ q ∈ pg_1922, decode (eg_md 1922).2.1 q.1 = .ok q.2 := fun q hq => (eg_dok_c (n := 60) (i := 0) (eg_dok_n (by decide +kernel)) dk_1922_0) q hq
theorem dm_1926 : ∀ q ∈ pg_1926, decode (eg_md 1926).2.1 q.1 = .ok q.2 := fun q hq => (eg_dok_c (n := 60) (i := 0) (eg_dok_n (by decide +kernel)) dk_1926_0) q hq
theorem dm_1930 : ∀ q ∈ pg_1930, decode (eg_md 1930).2.1 q.1 = .ok q.2 := fun q hq => (eg_dok_c (n := 60) (i := 0) (eg_dok_c (n := 60) (i := 60) (eg_dok_n (by decide +kernel)) dk_1930_1) dk_1930_0) q hq
theorem dm_1934 : ∀ q ∈ pg_1934, decode (eg_md 1934).2.1 q.1 = .ok q.2 := fun q hq => (eg_dok_c (n := 60) (i := 0) (eg_dok_n (by decide +kernel)) dk_1934_0) q hq
theorem dm_1938 : ∀ q ∈ pg_1938, decode (eg_md 1938).2.1 q.1 = .ok q.2 := fun q hq => (eg_dok_c (n := 60) (i := 0) (eg_dok_n (by decide +kernel)) dk_1938_0) q hq
theorem dm_1942 : ∀ q ∈ pg_1942, decode (eg_md 1942).2.1 q.1 = .ok q.2 := fun q hq => (eg_dok_c (n := 60) (i := 0) (eg_dok_n (by decide +kernel)) dk_1942_0) q hq
theorem dm_1946 : ∀ q ∈ pg_1946, decode (eg_md 1946).2.1 q.1 = .ok q.2 := fun q hq => (eg_dok_c (n := 60) (i := 0) (eg_dok_n (by decide +kernel)) dk_1946_0) q hq
theorem dm_1950 : ∀ q ∈ pg_1950, decode (eg_md 1950).2.1 q.1 = .ok q.2 := fun q hq => (eg_dok_c (n := 60) (i := 0) (eg_dok_n (by decide +kernel)) dk_1950_0) q hq
theorem dm_1962 : ∀ q ∈ pg_1962, decode (eg_md 1962).2.1 q.1 = .ok q.2 := fun q hq => (eg_dok_c (n := 60) (i := 0) (eg_dok_n (by decide +kernel)) dk_1962_0) q hq
theorem dm_1966 : ∀ q ∈ pg_1966, decode (eg_md 1966).2.1 q.1 = .ok q.2 := fun q hq => (eg_dok_c (n := 60) (i := 0) (eg_dok_n (by decide +kernel)) dk_1966_0) q hq
theorem dm_1974 : ∀ q ∈ pg_1974, decode (eg_md 1974).2.1 q.1 = .ok q.2 := fun q hq => (eg_dok_c (n := 60) (i := 0) (eg_dok_n (by decide +kernel)) dk_1974_0) q hq
theorem dm_1978 : ∀ q ∈ pg_1978, decode (eg_md 1978).2.1 q.1 = .ok q.2 := fun q hq => (eg_dok_c (n := 60) (i := 0) (eg_dok_n (by decide +kernel)) dk_1978_0) q hq
theorem dm_1982 : ∀ q ∈ pg_1982, decode (eg_md 1982).2.1 q.1 = .ok q.2 := fun q hq => (eg_dok_c (n := 60) (i := 0) (eg_dok_n (by decide +kernel)) dk_1982_0) q hq
theorem dm_1986 : ∀ q ∈ pg_1986, decode (eg_md 1986).2.1 q.1 = .ok q.2 := fun q hq => (eg_dok_c (n := 60) (i := 0) (eg_dok_n (by decide +kernel)) dk_1986_0) q hq
theorem dm_1990 : ∀ q ∈ pg_1990, decode (eg_md 1990).2.1 q.1 = .ok q.2 := fun q hq => (eg_dok_c (n := 60) (i := 0) (eg_dok_n (by decide +kernel)) dk_1990_0) q hq
theorem dm_2001 : ∀ q ∈ pg_2001, decode (eg_md 2001).2.1 q.1 = .ok q.2 := fun q hq => (eg_dok_c (n := 60) (i := 0) (eg_dok_n (by decide +kernel)) dk_2001_0) q hq
theorem dm_2005 : ∀ q ∈ pg_2005, decode (eg_md 2005).2.1 q.1 = .ok q.2 := fun q hq => (eg_dok_c (n := 60) (i := 0) (eg_dok_n (by decide +kernel)) dk_2005_0) q hq
theorem dm_2009 : ∀ q ∈ pg_2009, decode (eg_md 2009).2.1 q.1 = .ok q.2 := fun q hq => (eg_dok_c (n := 60) (i := 0) (eg_dok_n (by decide +kernel)) dk_2009_0) q hq
theorem dm_2017 : ∀ q ∈ pg_2017, decode (eg_md 2017).2.1 q.1 = .ok q.2 := fun q hq => (eg_dok_c (n := 60) (i := 0) (eg_dok_n (by decide +kernel)) dk_2017_0) q hq
theorem dm_2024 : ∀ q ∈ pg_2024, decode (eg_md 2024).2.1 q.1 = .ok q.2 := fun q hq => (eg_dok_c (n := 60) (i := 0) (eg_dok_n (by decide +kernel)) dk_2024_0) q hq
theorem dm_2028 : ∀ q ∈ pg_2028, decode (eg_md 2028).2.1 q.1 = .ok q.2 := fun q hq => (eg_dok_c (n := 60) (i := 0) (eg_dok_n (by decide +kernel)) dk_2028_0) q hq
theorem dm_2032 : ∀ q ∈ pg_2032, decode (eg_md 2032).2.1 q.1 = .ok q.2 := fun q hq => (eg_dok_c (n := 60) (i := 0) (eg_dok_n (by decide +kernel)) dk_2032_0) q hq
theorem dm_2036 : ∀ q ∈ pg_2036, decode (eg_md 2036).2.1 q.1 = .ok q.2 := fun q hq => (eg_dok_c (n := 60) (i := 0) (eg_dok_n (by decide +kernel)) dk_2036_0) q hq
theorem dm_2040 : ∀ q ∈ pg_2040, decode (eg_md 2040).2.1 q.1 = .ok q.2 := fun q hq => (eg_dok_c (n := 60) (i := 0) (eg_dok_n (by decide +kernel)) dk_2040_0) q hq
theorem dm_2057 : ∀ q ∈ pg_2057, decode (eg_md 2057).2.1 q.1 = .ok q.2 := fun q hq => (eg_dok_c (n := 60) (i := 0) (eg_dok_n (by decide +kernel)) dk_2057_0) q hq
theorem dm_2061 : ∀ q ∈ pg_2061, decode (eg_md 2061).2.1 q.1 = .ok q.2 := fun q hq => (eg_dok_c (n := 60) (i := 0) (eg_dok_c (n := 60) (i := 60) (eg_dok_n (by decide +kernel)) dk_2061_1) dk_2061_0) q hq
theorem dm_2073 : ∀ q ∈ pg_2073, decode (eg_md 2073).2.1 q.1 = .ok q.2 := fun q hq => (eg_dok_c (n := 60) (i := 0) (eg_dok_n (by decide +kernel)) dk_2073_0) q hq
theorem dm_2077 : ∀ q ∈ pg_2077, decode (eg_md 2077).2.1 q.1 = .ok q.2 := fun q hq => (eg_dok_c (n := 60) (i := 0) (eg_dok_n (by decide +kernel)) dk_2077_0) q hq
theorem dm_2097 : ∀ q ∈ pg_2097, decode (eg_md 2097).2.1 q.1 = .ok q.2 := fun q hq => (eg_dok_c (n := 60) (i := 0) (eg_dok_n (by decide +kernel)) dk_2097_0) q hq
theorem dm_2101 : ∀ q ∈ pg_2101, decode (eg_md 2101).2.1 q.1 = .ok q.2 := fun q hq => (eg_dok_c (n := 60) (i := 0) (eg_dok_n (by decide +kernel)) dk_2101_0) q hq
theorem dm_2105 : ∀ q ∈ pg_2105, decode (eg_md 2105).2.1 q.1 = .ok q.2 := fun q hq => (eg_dok_c (n := 60) (i := 0) (eg_dok_n (by decide +kernel)) dk_2105_0) q hq
theorem dm_2117 : ∀ q ∈ pg_2117, decode (eg_md 2117).2.1 q.1 = .ok q.2 := fun q hq => (eg_dok_c (n := 60) (i := 0) (eg_dok_n (by decide +kernel)) dk_2117_0) q hq
theorem dm_2121 : ∀ q ∈ pg_2121, decode (eg_md 2121).2.1 q.1 = .ok q.2 := fun q hq => (eg_dok_c (n := 60) (i := 0) (eg_dok_n (by decide +kernel)) dk_2121_0) q hq
theorem dm_2125 : ∀ q ∈ pg_2125, decode (eg_md 2125).2.1 q.1 = .ok q.2 := fun q hq => (eg_dok_c (n := 60) (i := 0) (eg_dok_n (by decide +kernel)) dk_2125_0) q hq
theorem dm_9999 : ∀ q ∈ pg_9999, decode (eg_md 9999).2.1 q.1 = .ok q.2 := fun q hq => (eg_dok_c (n := 60) (i := 0) (eg_dok_c (n := 60) (i := 60) (eg_dok_c (n := 60) (i := 120) (eg_dok_c (n := 60) (i := 180) (eg_dok_c (n := 60) (i := 240) (eg_dok_c (n := 60) (i := 300) (eg_dok_c (n := 60) (i := 360) (eg_dok_c (n := 60) (i := 420) (eg_dok_c (n := 60) (i := 480) (eg_dok_c (n := 60) (i := 540) (eg_dok_c (n := 60) (i := 600) (eg_dok_c (n := 60) (i := 660) (eg_dok_n (by decide +kernel)) dk_9999_11) dk_9999_10) dk_9999_9) dk_9999_8) dk_9999_7) dk_9999_6) dk_9999_5) dk_9999_4) dk_9999_3) dk_9999_2) dk_9999_1) dk_9999_0) q hq
set_option maxRecDepth 100000 in
theorem eg_pl_ok : ∀ x ∈ eg_pl, ∀ q ∈ x.2, decode (eg_md x.1).2.1 q.1 = .ok q.2 := by
  unfold eg_pl
  exact List.forall_mem_cons.mpr ⟨dm_147, List.forall_mem_cons.mpr ⟨dm_155, List.forall_mem_cons.mpr ⟨dm_172, List.forall_mem_cons.mpr ⟨dm_178, List.forall_mem_cons.mpr ⟨dm_182, List.forall_mem_cons.mpr ⟨dm_188, List.forall_mem_cons.mpr ⟨dm_192, List.forall_mem_cons.mpr ⟨dm_195, List.forall_mem_cons.mpr ⟨dm_198, List.forall_mem_cons.mpr ⟨dm_203, List.forall_mem_cons.mpr ⟨dm_225, List.forall_mem_cons.mpr ⟨dm_275, List.forall_mem_cons.mpr ⟨dm_397, List.forall_mem_cons.mpr ⟨dm_438, List.forall_mem_cons.mpr ⟨dm_487, List.forall_mem_cons.mpr ⟨dm_506, List.forall_mem_cons.mpr ⟨dm_543, List.forall_mem_cons.mpr ⟨dm_580, List.forall_mem_cons.mpr ⟨dm_602, List.forall_mem_cons.mpr ⟨dm_676, List.forall_mem_cons.mpr ⟨dm_680, List.forall_mem_cons.mpr ⟨dm_684, List.forall_mem_cons.mpr ⟨dm_688, List.forall_mem_cons.mpr ⟨dm_692, List.forall_mem_cons.mpr ⟨dm_695, List.forall_mem_cons.mpr ⟨dm_718, List.forall_mem_cons.mpr ⟨dm_728, List.forall_mem_cons.mpr ⟨dm_732, List.forall_mem_cons.mpr ⟨dm_736, List.forall_mem_cons.mpr ⟨dm_748, List.forall_mem_cons.mpr ⟨dm_789, List.forall_mem_cons.mpr ⟨dm_831, List.forall_mem_cons.mpr ⟨dm_835, List.forall_mem_cons.mpr ⟨dm_839, List.forall_mem_cons.mpr ⟨dm_843, List.forall_mem_cons.mpr ⟨dm_847, List.forall_mem_cons.mpr ⟨dm_851, List.forall_mem_cons.mpr ⟨dm_855, List.forall_mem_cons.mpr ⟨dm_859, List.forall_mem_cons.mpr ⟨dm_863, List.forall_mem_cons.mpr ⟨dm_867, List.forall_mem_cons.mpr ⟨dm_871, List.forall_mem_cons.mpr ⟨dm_876, List.forall_mem_cons.mpr ⟨dm_880, List.forall_mem_cons.mpr ⟨dm_883, List.forall_mem_cons.mpr ⟨dm_890, List.forall_mem_cons.mpr ⟨dm_895, List.forall_mem_cons.mpr ⟨dm_899, List.forall_mem_cons.mpr ⟨dm_903, List.forall_mem_cons.mpr ⟨dm_907, List.forall_mem_cons.mpr ⟨dm_915, List.forall_mem_cons.mpr ⟨dm_919, List.forall_mem_cons.mpr ⟨dm_942, List.forall_mem_cons.mpr ⟨dm_946, List.forall_mem_cons.mpr ⟨dm_950, List.forall_mem_cons.mpr ⟨dm_954, List.forall_mem_cons.mpr ⟨dm_958, List.forall_mem_cons.mpr ⟨dm_962, List.forall_mem_cons.mpr ⟨dm_967, List.forall_mem_cons.mpr ⟨dm_971, List.forall_mem_cons.mpr ⟨dm_975, List.forall_mem_cons.mpr ⟨dm_979, List.forall_mem_cons.mpr ⟨dm_983, List.forall_mem_cons.mpr ⟨dm_987, List.forall_mem_cons.mpr ⟨dm_999, List.forall_mem_cons.mpr ⟨dm_1003, List.forall_mem_cons.mpr ⟨dm_1009, List.forall_mem_cons.mpr ⟨dm_1013, List.forall_mem_cons.mpr ⟨dm_1019, List.forall_mem_cons.mpr ⟨dm_1023, List.forall_mem_cons.mpr ⟨dm_1027, List.forall_mem_cons.mpr ⟨dm_1050, List.forall_mem_cons.mpr ⟨dm_1054, List.forall_mem_cons.mpr ⟨dm_1058, List.forall_mem_cons.mpr ⟨dm_1062, List.forall_mem_cons.mpr ⟨dm_1081, List.forall_mem_cons.mpr ⟨dm_1085, List.forall_mem_cons.mpr ⟨dm_1089, List.forall_mem_cons.mpr ⟨dm_1097, List.forall_mem_cons.mpr ⟨dm_1101, List.forall_mem_cons.mpr ⟨dm_1105, List.forall_mem_cons.mpr ⟨dm_1117, List.forall_mem_cons.mpr ⟨dm_1121, List.forall_mem_cons.mpr ⟨dm_1125, List.forall_mem_cons.mpr ⟨dm_1136, List.forall_mem_cons.mpr ⟨dm_1140, List.forall_mem_cons.mpr ⟨dm_1147, List.forall_mem_cons.mpr ⟨dm_1151, List.forall_mem_cons.mpr ⟨dm_1156, List.forall_mem_cons.mpr ⟨dm_1160, List.forall_mem_cons.mpr ⟨dm_1164, List.forall_mem_cons.mpr ⟨dm_1192, List.forall_mem_cons.mpr ⟨dm_1196, List.forall_mem_cons.mpr ⟨dm_1200, List.forall_mem_cons.mpr ⟨dm_1226, List.forall_mem_cons.mpr ⟨dm_1234, List.forall_mem_cons.mpr ⟨dm_1238, List.forall_mem_cons.mpr ⟨dm_1242, List.forall_mem_cons.mpr ⟨dm_1246, List.forall_mem_cons.mpr ⟨dm_1252, List.forall_mem_cons.mpr ⟨dm_1256, List.forall_mem_cons.mpr ⟨dm_1260, List.forall_mem_cons.mpr ⟨dm_1263, List.forall_mem_cons.mpr ⟨dm_1297, List.forall_mem_cons.mpr ⟨dm_1301, List.forall_mem_cons.mpr ⟨dm_1305, List.forall_mem_cons.mpr ⟨dm_1351, List.forall_mem_cons.mpr ⟨dm_1355, List.forall_mem_cons.mpr ⟨dm_1359, List.forall_mem_cons.mpr ⟨dm_1442, List.forall_mem_cons.mpr ⟨dm_1446, List.forall_mem_cons.mpr ⟨dm_1451, List.forall_mem_cons.mpr ⟨dm_1455, List.forall_mem_cons.mpr ⟨dm_1459, List.forall_mem_cons.mpr ⟨dm_1487, List.forall_mem_cons.mpr ⟨dm_1654, List.forall_mem_cons.mpr ⟨dm_1658, List.forall_mem_cons.mpr ⟨dm_1662, List.forall_mem_cons.mpr ⟨dm_1666, List.forall_mem_cons.mpr ⟨dm_1680, List.forall_mem_cons.mpr ⟨dm_1687, List.forall_mem_cons.mpr ⟨dm_1691, List.forall_mem_cons.mpr ⟨dm_1702, List.forall_mem_cons.mpr ⟨dm_1742, List.forall_mem_cons.mpr ⟨dm_1746, List.forall_mem_cons.mpr ⟨dm_1750, List.forall_mem_cons.mpr ⟨dm_1754, List.forall_mem_cons.mpr ⟨dm_1758, List.forall_mem_cons.mpr ⟨dm_1770, List.forall_mem_cons.mpr ⟨dm_1778, List.forall_mem_cons.mpr ⟨dm_1782, List.forall_mem_cons.mpr ⟨dm_1794, List.forall_mem_cons.mpr ⟨dm_1798, List.forall_mem_cons.mpr ⟨dm_1802, List.forall_mem_cons.mpr ⟨dm_1806, List.forall_mem_cons.mpr ⟨dm_1810, List.forall_mem_cons.mpr ⟨dm_1814, List.forall_mem_cons.mpr ⟨dm_1818, List.forall_mem_cons.mpr ⟨dm_1822, List.forall_mem_cons.mpr ⟨dm_1826, List.forall_mem_cons.mpr ⟨dm_1830, List.forall_mem_cons.mpr ⟨dm_1833, List.forall_mem_cons.mpr ⟨dm_1837, List.forall_mem_cons.mpr ⟨dm_1841, List.forall_mem_cons.mpr ⟨dm_1849, List.forall_mem_cons.mpr ⟨dm_1857, List.forall_mem_cons.mpr ⟨dm_1891, List.forall_mem_cons.mpr ⟨dm_1895, List.forall_mem_cons.mpr ⟨dm_1910, List.forall_mem_cons.mpr ⟨dm_1914, List.forall_mem_cons.mpr ⟨dm_1918, List.forall_mem_cons.mpr ⟨dm_1922, List.forall_mem_cons.mpr ⟨dm_1926, List.forall_mem_cons.mpr ⟨dm_1930, List.forall_mem_cons.mpr ⟨dm_1934, List.forall_mem_cons.mpr ⟨dm_1938, List.forall_mem_cons.mpr ⟨dm_1942, List.forall_mem_cons.mpr ⟨dm_1946, List.forall_mem_cons.mpr ⟨dm_1950, List.forall_mem_cons.mpr ⟨dm_1962, List.forall_mem_cons.mpr ⟨dm_1966, List.forall_mem_cons.mpr ⟨dm_1974, List.forall_mem_cons.mpr ⟨dm_1978, List.forall_mem_cons.mpr ⟨dm_1982, List.forall_mem_cons.mpr ⟨dm_1986, List.forall_mem_cons.mpr ⟨dm_1990, List.forall_mem_cons.mpr ⟨dm_2001, List.forall_mem_cons.mpr ⟨dm_2005, List.forall_mem_cons.mpr ⟨dm_2009, List.forall_mem_cons.mpr ⟨dm_2017, List.forall_mem_cons.mpr ⟨dm_2024, List.forall_mem_cons.mpr ⟨dm_2028, List.forall_mem_cons.mpr ⟨dm_2032, List.forall_mem_cons.mpr ⟨dm_2036, List.forall_mem_cons.mpr ⟨dm_2040, List.forall_mem_cons.mpr ⟨dm_2057, List.forall_mem_cons.mpr ⟨dm_2061, List.forall_mem_cons.mpr ⟨dm_2073, List.forall_mem_cons.mpr ⟨dm_2077, List.forall_mem_cons.mpr ⟨dm_2097, List.forall_mem_cons.mpr ⟨dm_2101, List.forall_mem_cons.mpr ⟨dm_2105, List.forall_mem_cons.mpr ⟨dm_2117, List.forall_mem_cons.mpr ⟨dm_2121, List.forall_mem_cons.mpr ⟨dm_2125, List.forall_mem_cons.mpr ⟨dm_9999, fun _ h => nomatch h⟩⟩⟩⟩⟩⟩⟩⟩⟩⟩⟩⟩⟩⟩⟩⟩⟩⟩⟩⟩⟩⟩⟩⟩⟩⟩⟩⟩⟩⟩⟩⟩⟩⟩⟩⟩⟩⟩⟩⟩⟩⟩⟩⟩⟩⟩⟩⟩⟩⟩⟩⟩⟩⟩⟩⟩⟩⟩⟩⟩⟩⟩⟩⟩⟩⟩⟩⟩⟩⟩⟩⟩⟩⟩⟩⟩⟩⟩⟩⟩⟩⟩⟩⟩⟩⟩⟩⟩⟩⟩⟩⟩⟩⟩⟩⟩⟩⟩⟩⟩⟩⟩⟩⟩⟩⟩⟩⟩⟩⟩⟩⟩⟩⟩⟩⟩⟩⟩⟩⟩⟩⟩⟩⟩⟩⟩⟩⟩⟩⟩⟩⟩⟩⟩⟩⟩⟩⟩⟩⟩⟩⟩⟩⟩⟩⟩⟩⟩⟩⟩⟩⟩⟩⟩⟩⟩⟩⟩⟩⟩⟩⟩⟩⟩⟩⟩⟩⟩⟩⟩⟩⟩⟩⟩⟩⟩⟩⟩⟩⟩⟩⟩⟩⟩⟩⟩
theorem eg_pg_ok : eg_pgok := by
  intro u q hq
  unfold eg_pg at hq
  cases h : eg_find u eg_pl with
  | none => rw [h] at hq; cases hq
  | some l =>
    rw [h] at hq
    exact eg_pl_ok (u, l) (eg_find_mem h) q hq
