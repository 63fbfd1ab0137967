theorem eg_dok_v {u : Nat} {l : eg_W} (h : eg_dok u l = true) : ∀ q ∈ l, decode (eg_md u).2.1 q.1 = .ok q.2 := fun q hq => of_decide_eq_true (List.all_eq_true.mp h q hq)
theorem eg_dok_c {u n : Nat} {l : eg_W} {i : Nat} (h1 : ∀ q ∈ l.drop (i + n), decode (eg_md u).2.1 q.1 = .ok q.2) (h2 : eg_dok u ((l.drop i).take n) = true) : ∀ q ∈ l.drop i, decode (eg_md u).2.1 q.1 = .ok q.2 := fun q hq => by
  rw [← List.take_append_drop n (l.drop i), List.drop_drop] at hq
  rcases List.mem_append.mp hq with h | h
  · exact eg_dok_v h2 q h
  · exact h1 q h
theorem eg_dok_n {u i : Nat} {l : eg_W} (h : l.length ≤ i) : ∀ q ∈ l.drop i, decode (eg_md u).2.1 q.1 = .ok q.2 := fun q hq => by
  rw [List.drop_eq_nil_of_le h] at hq
  cases hq
def eg_mok (x : Nat × eg_W) : Prop := ∀ q ∈ x.2, decode (eg_md x.1).2.1 q.1 = .ok q.2
theorem eg_mok_i {u : Nat} {w : eg_W} (h : ∀ q ∈ w, decode (eg_md u).2.1 q.1 = .ok q.2) : eg_mok (u, w) := h
theorem dm_147 : ∀ q ∈ pg_147, decode (eg_md 147).2.1 q.1 = .ok q.2 := fun q hq => (eg_dok_c (n := 60) (i := 0) (eg_dok_c (n := 60) (i := 60) (eg_dok_c (n := 60) (i := 120) (eg_dok_n (by decide +kernel)) dk_147_2) dk_147_1) dk_147_0) q hq
theorem dn_147 : eg_mok (147, pg_147) := eg_mok_i dm_147
theorem dm_155 : ∀ q ∈ pg_155, decode (eg_md 155).2.1 q.1 = .ok q.2 := fun q hq => (eg_dok_c (n := 60) (i := 0) (eg_dok_n (by decide +kernel)) dk_155_0) q hq
theorem dn_155 : eg_mok (155, pg_155) := eg_mok_i dm_155
theorem dm_172 : ∀ q ∈ pg_172, decode (eg_md 172).2.1 q.1 = .ok q.2 := fun q hq => (eg_dok_c (n := 60) (i := 0) (eg_dok_c (n := 60) (i := 60) (eg_dok_n (by decide +kernel)) dk_172_1) dk_172_0) q hq
theorem dn_172 : eg_mok (172, pg_172) := eg_mok_i dm_172
theorem dm_178 : ∀ q ∈ pg_178, decode (eg_md 178).2.1 q.1 = .ok q.2 := fun q hq => (eg_dok_c (n := 60) (i := 0) (eg_dok_n (by decide +kernel)) dk_178_0) q hq
theorem dn_178 : eg_mok (178, pg_178) := eg_mok_i dm_178
theorem dm_182 : ∀ q ∈ pg_182, decode (eg_md 182).2.1 q.1 = .ok q.2 := fun q hq => (eg_dok_c (n := 60) (i := 0) (eg_dok_n (by decide +kernel)) dk_182_0) q hq
theorem dn_182 : eg_mok (182, pg_182) := eg_mok_i dm_182
theorem dm_188 : ∀ q ∈ pg_188, decode (eg_md 188).2.1 q.1 = .ok q.2 := fun q hq => (eg_dok_c (n := 60) (i := 0) (eg_dok_n (by decide +kernel)) dk_188_0) q hq
theorem dn_188 : eg_mok (188, pg_188) := eg_mok_i dm_188
theorem dm_192 : ∀ q ∈ pg_192, decode (eg_md 192).2.1 q.1 = .ok q.2 := fun q hq => (eg_dok_c (n := 60) (i := 0) (eg_dok_n (by decide +kernel)) dk_192_0) q hq
theorem dn_192 : eg_mok (192, pg_192) := eg_mok_i dm_192
theorem dm_195 : ∀ q ∈ pg_195, decode (eg_md 195).2.1 q.1 = .ok q.2 := fun q hq => (eg_dok_c (n := 60) (i := 0) (eg_dok_n (by decide +kernel)) dk_195_0) q hq
theorem dn_195 : eg_mok (195, pg_195) := eg_mok_i dm_195
theorem dm_198 : ∀ q ∈ pg_198, decode (eg_md 198).2.1 q.1 = .ok q.2 := fun q hq => (eg_dok_c (n := 60) (i := 0) (eg_dok_n (by decide +kernel)) dk_198_0) q hq
theorem dn_198 : eg_mok (198, pg_198) := eg_mok_i dm_198
theorem dm_203 : ∀ q ∈ pg_203, decode (eg_md 203).2.1 q.1 = .ok q.2 := fun q hq => (eg_dok_c (n := 60) (i := 0) (eg_dok_n (by decide +kernel)) dk_203_0) q hq
theorem dn_203 : eg_mok (203, pg_203) := eg_mok_i dm_203
theorem dm_225 : ∀ q ∈ pg_225, decode (eg_md 225).2.1 q.1 = .ok q.2 := fun q hq => (eg_dok_c (n := 60) (i := 0) (eg_dok_n (by decide +kernel)) dk_225_0) q hq
theorem dn_225 : eg_mok (225, pg_225) := eg_mok_i dm_225
theorem dm_275 : ∀ q ∈ pg_275, decode (eg_md 275).2.1 q.1 = .ok q.2 := fun q hq => (eg_dok_c (n := 60) (i := 0) (eg_dok_c (n := 60) (i := 60) (eg_dok_n (by decide +kernel)) dk_275_1) dk_275_0) q hq
theorem dn_275 : eg_mok (275, pg_275) := eg_mok_i dm_275
theorem dm_397 : ∀ q ∈ pg_397, decode (eg_md 397).2.1 q.1 = .ok q.2 := fun q hq => (eg_dok_c (n := 60) (i := 0) (eg_dok_n (by decide +kernel)) dk_397_0) q hq
theorem dn_397 : eg_mok (397, pg_397) := eg_mok_i dm_397
theorem dm_438 : ∀ q ∈ pg_438, decode (eg_md 438).2.1 q.1 = .ok q.2 := fun q hq => (eg_dok_c (n := 60) (i := 0) (eg_dok_n (by decide +kernel)) dk_438_0) q hq
theorem dn_438 : eg_mok (438, pg_438) := eg_mok_i dm_438
theorem dm_487 : ∀ q ∈ pg_487, decode (eg_md 487).2.1 q.1 = .ok q.2 := fun q hq => (eg_dok_c (n := 60) (i := 0) (eg_dok_n (by decide +kernel)) dk_487_0) q hq
theorem dn_487 : eg_mok (487, pg_487) := eg_mok_i dm_487
theorem dm_506 : ∀ q ∈ pg_506, decode (eg_md 506).2.1 q.1 = .ok q.2 := fun q hq => (eg_dok_c (n := 60) (i := 0) (eg_dok_n (by decide +kernel)) dk_506_0) q hq
theorem dn_506 : eg_mok (506, pg_506) := eg_mok_i dm_506
theorem dm_543 : ∀ q ∈ pg_543, decode (eg_md 543).2.1 q.1 = .ok q.2 := fun q hq => (eg_dok_c (n := 60) (i := 0) (eg_dok_n (by decide +kernel)) dk_543_0) q hq
theorem dn_543 : eg_mok (543, pg_543) := eg_mok_i dm_543
theorem dm_580 : ∀ q ∈ pg_580, decode (eg_md 580).2.1 q.1 = .ok q.2 := fun q hq => (eg_dok_c (n := 60) (i := 0) (eg_dok_n (by decide +kernel)) dk_580_0) q hq
theorem dn_580 : eg_mok (580, pg_580) := eg_mok_i dm_580
theorem dm_602 : ∀ q ∈ pg_602, decode (eg_md 602).2.1 q.1 = .ok q.2 := fun q hq => (eg_dok_c (n := 60) (i := 0) (eg_dok_n (by decide +kernel)) dk_602_0) q hq
theorem dn_602 : eg_mok (602, pg_602) := eg_mok_i dm_602
theorem dm_676 : ∀ q ∈ pg_676, decode (eg_md 676).2.1 q.1 = .ok q.2 := fun q hq => (eg_dok_c (n := 60) (i := 0) (eg_dok_n (by decide +kernel)) dk_676_0) q hq
theorem dn_676 : eg_mok (676, pg_676) := eg_mok_i dm_676
theorem dm_680 : ∀ q ∈ pg_680, decode (eg_md 680).2.1 q.1 = .ok q.2 := fun q hq => (eg_dok_c (n := 60) (i := 0) (eg_dok_n (by decide +kernel)) dk_680_0) q hq
theorem dn_680 : eg_mok (680, pg_680) := eg_mok_i dm_680
theorem dm_684 : ∀ q ∈ pg_684, decode (eg_md 684).2.1 q.1 = .ok q.2 := fun q hq => (eg_dok_c (n := 60) (i := 0) (eg_dok_n (by decide +kernel)) dk_684_0) q hq
theorem dn_684 : eg_mok (684, pg_684) := eg_mok_i dm_684
theorem dm_688 : ∀ q ∈ pg_688, decode (eg_md 688).2.1 q.1 = .ok q.2 := fun q hq => (eg_dok_c (n := 60) (i := 0) (eg_dok_n (by decide +kernel)) dk_688_0) q hq
theorem dn_688 : eg_mok (688, pg_688) := eg_mok_i dm_688
theorem dm_692 : ∀ q ∈ pg_692, decode (eg_md 692).2.1 q.1 = .ok q.2 := fun q hq => (eg_dok_c (n := 60) (i := 0) (eg_dok_c (n := 60) (i := 60) (eg_dok_n (by decide +kernel)) dk_692_1) dk_692_0) q hq
theorem dn_692 : eg_mok (692, pg_692) := eg_mok_i dm_692
theorem dm_699 : ∀ q ∈ pg_699, decode (eg_md 699).2.1 q.1 = .ok q.2 := fun q hq => (eg_dok_c (n := 60) (i := 0) (eg_dok_n (by decide +kernel)) dk_699_0) q hq
theorem dn_699 : eg_mok (699, pg_699) := eg_mok_i dm_699
theorem dm_702 : ∀ q ∈ pg_702, decode (eg_md 702).2.1 q.1 = .ok q.2 := fun q hq => (eg_dok_c (n := 60) (i := 0) (eg_dok_n (by decide +kernel)) dk_702_0) q hq
theorem dn_702 : eg_mok (702, pg_702) := eg_mok_i dm_702
theorem dm_705 : ∀ q ∈ pg_705, decode (eg_md 705).2.1 q.1 = .ok q.2 := fun q hq => (eg_dok_c (n := 60) (i := 0) (eg_dok_n (by decide +kernel)) dk_705_0) q hq
theorem dn_705 : eg_mok (705, pg_705) := eg_mok_i dm_705
theorem dm_709 : ∀ q ∈ pg_709, decode (eg_md 709).2.1 q.1 = .ok q.2 := fun q hq => (eg_dok_c (n := 60) (i := 0) (eg_dok_c (n := 60) (i := 60) (eg_dok_n (by decide +kernel)) dk_709_1) dk_709_0) q hq
theorem dn_709 : eg_mok (709, pg_709) := eg_mok_i dm_709
theorem dm_714 : ∀ q ∈ pg_714, decode (eg_md 714).2.1 q.1 = .ok q.2 := fun q hq => (eg_dok_c (n := 60) (i := 0) (eg_dok_n (by decide +kernel)) dk_714_0) q hq
theorem dn_714 : eg_mok (714, pg_714) := eg_mok_i dm_714
theorem dm_718 : ∀ q ∈ pg_718, decode (eg_md 718).2.1 q.1 = .ok q.2 := fun q hq => (eg_dok_c (n := 60) (i := 0) (eg_dok_n (by decide +kernel)) dk_718_0) q hq
theorem dn_718 : eg_mok (718, pg_718) := eg_mok_i dm_718
theorem dm_721 : ∀ q ∈ pg_721, decode (eg_md 721).2.1 q.1 = .ok q.2 := fun q hq => (eg_dok_c (n := 60) (i := 0) (eg_dok_n (by decide +kernel)) dk_721_0) q hq
theorem dn_721 : eg_mok (721, pg_721) := eg_mok_i dm_721
theorem dm_724 : ∀ q ∈ pg_724, decode (eg_md 724).2.1 q.1 = .ok q.2 := fun q hq => (eg_dok_c (n := 60) (i := 0) (eg_dok_n (by decide +kernel)) dk_724_0) q hq
theorem dn_724 : eg_mok (724, pg_724) := eg_mok_i dm_724
theorem dm_728 : ∀ q ∈ pg_728, decode (eg_md 728).2.1 q.1 = .ok q.2 := fun q hq => (eg_dok_c (n := 60) (i := 0) (eg_dok_n (by decide +kernel)) dk_728_0) q hq
theorem dn_728 : eg_mok (728, pg_728) := eg_mok_i dm_728
theorem dm_732 : ∀ q ∈ pg_732, decode (eg_md 732).2.1 q.1 = .ok q.2 := fun q hq => (eg_dok_c (n := 60) (i := 0) (eg_dok_n (by decide +kernel)) dk_732_0) q hq
theorem dn_732 : eg_mok (732, pg_732) := eg_mok_i dm_732
theorem dm_736 : ∀ q ∈ pg_736, decode (eg_md 736).2.1 q.1 = .ok q.2 := fun q hq => (eg_dok_c (n := 60) (i := 0) (eg_dok_n (by decide +kernel)) dk_736_0) q hq
theorem dn_736 : eg_mok (736, pg_736) := eg_mok_i dm_736
theorem dm_740 : ∀ q ∈ pg_740, decode (eg_md 740).2.1 q.1 = .ok q.2 := fun q hq => (eg_dok_c (n := 60) (i := 0) (eg_dok_n (by decide +kernel)) dk_740_0) q hq
theorem dn_740 : eg_mok (740, pg_740) := eg_mok_i dm_740
theorem dm_744 : ∀ q ∈ pg_744, decode (eg_md 744).2.1 q.1 = .ok q.2 := fun q hq => (eg_dok_c (n := 60) (i := 0) (eg_dok_n (by decide +kernel)) dk_744_0) q hq
theorem dn_744 : eg_mok (744, pg_744) := eg_mok_i dm_744
theorem dm_748 : ∀ q ∈ pg_748, decode (eg_md 748).2.1 q.1 = .ok q.2 := fun q hq => (eg_dok_c (n := 60) (i := 0) (eg_dok_n (by decide +kernel)) dk_748_0) q hq
theorem dn_748 : eg_mok (748, pg_748) := eg_mok_i dm_748
theorem dm_752 : ∀ q ∈ pg_752, decode (eg_md 752).2.1 q.1 = .ok q.2 := fun q hq => (eg_dok_c (n := 60) (i := 0) (eg_dok_n (by decide +kernel)) dk_752_0) q hq
theorem dn_752 : eg_mok (752, pg_752) := eg_mok_i dm_752
theorem dm_758 : ∀ q ∈ pg_758, decode (eg_md 758).2.1 q.1 = .ok q.2 := fun q hq => (eg_dok_c (n := 60) (i := 0) (eg_dok_n (by decide +kernel)) dk_758_0) q hq
theorem dn_758 : eg_mok (758, pg_758) := eg_mok_i dm_758
theorem dm_762 : ∀ q ∈ pg_762, decode (eg_md 762).2.1 q.1 = .ok q.2 := fun q hq => (eg_dok_c (n := 60) (i := 0) (eg_dok_n (by decide +kernel)) dk_762_0) q hq
theorem dn_762 : eg_mok (762, pg_762) := eg_mok_i dm_762
theorem dm_766 : ∀ q ∈ pg_766, decode (eg_md 766).2.1 q.1 = .ok q.2 := fun q hq => (eg_dok_c (n := 60) (i := 0) (eg_dok_n (by decide +kernel)) dk_766_0) q hq
theorem dn_766 : eg_mok (766, pg_766) := eg_mok_i dm_766
theorem dm_770 : ∀ q ∈ pg_770, decode (eg_md 770).2.1 q.1 = .ok q.2 := fun q hq => (eg_dok_c (n := 60) (i := 0) (eg_dok_n (by decide +kernel)) dk_770_0) q hq
theorem dn_770 : eg_mok (770, pg_770) := eg_mok_i dm_770
theorem dm_774 : ∀ q ∈ pg_774, decode (eg_md 774).2.1 q.1 = .ok q.2 := fun q hq => (eg_dok_c (n := 60) (i := 0) (eg_dok_n (by decide +kernel)) dk_774_0) q hq
theorem dn_774 : eg_mok (774, pg_774) := eg_mok_i dm_774
theorem dm_778 : ∀ q ∈ pg_778, decode (eg_md 778).2.1 q.1 = .ok q.2 := fun q hq => (eg_dok_c (n := 60) (i := 0) (eg_dok_n (by decide +kernel)) dk_778_0) q hq
theorem dn_778 : eg_mok (778, pg_778) := eg_mok_i dm_778
theorem dm_782 : ∀ q ∈ pg_782, decode (eg_md 782).2.1 q.1 = .ok q.2 := fun q hq => (eg_dok_c (n := 60) (i := 0) (eg_dok_n (by decide +kernel)) dk_782_0) q hq
theorem dn_782 : eg_mok (782, pg_782) := eg_mok_i dm_782
theorem dm_786 : ∀ q ∈ pg_786, decode (eg_md 786).2.1 q.1 = .ok q.2 := fun q hq => (eg_dok_c (n := 60) (i := 0) (eg_dok_n (by decide +kernel)) dk_786_0) q hq
theorem dn_786 : eg_mok (786, pg_786) := eg_mok_i dm_786
theorem dm_789 : ∀ q ∈ pg_789, decode (eg_md 789).2.1 q.1 = .ok q.2 := fun q hq => (eg_dok_c (n := 60) (i := 0) (eg_dok_n (by decide +kernel)) dk_789_0) q hq
theorem dn_789 : eg_mok (789, pg_789) := eg_mok_i dm_789
theorem dm_793 : ∀ q ∈ pg_793, decode (eg_md 793).2.1 q.1 = .ok q.2 := fun q hq => (eg_dok_c (n := 60) (i := 0) (eg_dok_c (n := 60) (i := 60) (eg_dok_c (n := 60) (i := 120) (eg_dok_n (by decide +kernel)) dk_793_2) dk_793_1) dk_793_0) q hq
theorem dn_793 : eg_mok (793, pg_793) := eg_mok_i dm_793
theorem dm_797 : ∀ q ∈ pg_797, decode (eg_md 797).2.1 q.1 = .ok q.2 := fun q hq => (eg_dok_c (n := 60) (i := 0) (eg_dok_n (by decide +kernel)) dk_797_0) q hq
theorem dn_797 : eg_mok (797, pg_797) := eg_mok_i dm_797
theorem dm_801 : ∀ q ∈ pg_801, decode (eg_md 801).2.1 q.1 = .ok q.2 := fun q hq => (eg_dok_c (n := 60) (i := 0) (eg_dok_n (by decide +kernel)) dk_801_0) q hq
theorem dn_801 : eg_mok (801, pg_801) := eg_mok_i dm_801
theorem dm_807 : ∀ q ∈ pg_807, decode (eg_md 807).2.1 q.1 = .ok q.2 := fun q hq => (eg_dok_c (n := 60) (i := 0) (eg_dok_n (by decide +kernel)) dk_807_0) q hq
theorem dn_807 : eg_mok (807, pg_807) := eg_mok_i dm_807
theorem dm_811 : ∀ q ∈ pg_811, decode (eg_md 811).2.1 q.1 = .ok q.2 := fun q hq => (eg_dok_c (n := 60) (i := 0) (eg_dok_c (n := 60) (i := 60) (eg_dok_n (by decide +kernel)) dk_811_1) dk_811_0) q hq
theorem dn_811 : eg_mok (811, pg_811) := eg_mok_i dm_811
theorem dm_815 : ∀ q ∈ pg_815, decode (eg_md 815).2.1 q.1 = .ok q.2 := fun q hq => (eg_dok_c (n := 60) (i := 0) (eg_dok_n (by decide +kernel)) dk_815_0) q hq
theorem dn_815 : eg_mok (815, pg_815) := eg_mok_i dm_815
theorem dm_819 : ∀ q ∈ pg_819, decode (eg_md 819).2.1 q.1 = .ok q.2 := fun q hq => (eg_dok_c (n := 60) (i := 0) (eg_dok_n (by decide +kernel)) dk_819_0) q hq
theorem dn_819 : eg_mok (819, pg_819) := eg_mok_i dm_819
theorem dm_823 : ∀ q ∈ pg_823, decode (eg_md 823).2.1 q.1 = .ok q.2 := fun q hq => (eg_dok_c (n := 60) (i := 0) (eg_dok_n (by decide +kernel)) dk_823_0) q hq
theorem dn_823 : eg_mok (823, pg_823) := eg_mok_i dm_823
theorem dm_827 : ∀ q ∈ pg_827, decode (eg_md 827).2.1 q.1 = .ok q.2 := fun q hq => (eg_dok_c (n := 60) (i := 0) (eg_dok_n (by decide +kernel)) dk_827_0) q hq
theorem dn_827 : eg_mok (827, pg_827) := eg_mok_i dm_827
theorem dm_831 : ∀ q ∈ pg_831, decode (eg_md 831).2.1 q.1 = .ok q.2 := fun q hq => (eg_dok_c (n := 60) (i := 0) (eg_dok_n (by decide +kernel)) dk_831_0) q hq
theorem dn_831 : eg_mok (831, pg_831) := eg_mok_i dm_831
theorem dm_835 : ∀ q ∈ pg_835, decode (eg_md 835).2.1 q.1 = .ok q.2 := fun q hq => (eg_dok_c (n := 60) (i := 0) (eg_dok_c (n := 60) (i := 60) (eg_dok_c (n := 60) (i := 120) (eg_dok_n (by decide +kernel)) dk_835_2) dk_835_1) dk_835_0) q hq
theorem dn_835 : eg_mok (835, pg_835) := eg_mok_i dm_835
theorem dm_839 : ∀ q ∈ pg_839, decode (eg_md 839).2.1 q.1 = .ok q.2 := fun q hq => (eg_dok_c (n := 60) (i := 0) (eg_dok_n (by decide +kernel)) dk_839_0) q hq
theorem dn_839 : eg_mok (839, pg_839) := eg_mok_i dm_839
theorem dm_843 : ∀ q ∈ pg_843, decode (eg_md 843).2.1 q.1 = .ok q.2 := fun q hq => (eg_dok_c (n := 60) (i := 0) (eg_dok_n (by decide +kernel)) dk_843_0) q hq
theorem dn_843 : eg_mok (843, pg_843) := eg_mok_i dm_843
theorem dm_847 : ∀ q ∈ pg_847, decode (eg_md 847).2.1 q.1 = .ok q.2 := fun q hq => (eg_dok_c (n := 60) (i := 0) (eg_dok_n (by decide +kernel)) dk_847_0) q hq
theorem dn_847 : eg_mok (847, pg_847) := eg_mok_i dm_847
theorem dm_851 : ∀ q ∈ pg_851, decode (eg_md 851).2.1 q.1 = .ok q.2 := fun q hq => (eg_dok_c (n := 60) (i := 0) (eg_dok_n (by decide +kernel)) dk_851_0) q hq
theorem dn_851 : eg_mok (851, pg_851) := eg_mok_i dm_851
theorem dm_855 : ∀ q ∈ pg_855, decode (eg_md 855).2.1 q.1 = .ok q.2 := fun q hq => (eg_dok_c (n := 60) (i := 0) (eg_dok_n (by decide +kernel)) dk_855_0) q hq
theorem dn_855 : eg_mok (855, pg_855) := eg_mok_i dm_855
theorem dm_859 : ∀ q ∈ pg_859, decode (eg_md 859).2.1 q.1 = .ok q.2 := fun q hq => (eg_dok_c (n := 60) (i := 0) (eg_dok_n (by decide +kernel)) dk_859_0) q hq
theorem dn_859 : eg_mok (859, pg_859) := eg_mok_i dm_859
theorem dm_863 : ∀ q ∈ pg_863, decode (eg_md 863).2.1 q.1 = .ok q.2 := fun q hq => (eg_dok_c (n := 60) (i := 0) (eg_dok_n (by decide +kernel)) dk_863_0) q hq
theorem dn_863 : eg_mok (863, pg_863) := eg_mok_i dm_863
theorem dm_867 : ∀ q ∈ pg_867, decode (eg_md 867).2.1 q.1 = .ok q.2 := fun q hq => (eg_dok_c (n := 60) (i := 0) (eg_dok_n (by decide +kernel)) dk_867_0) q hq
theorem dn_867 : eg_mok (867, pg_867) := eg_mok_i dm_867
theorem dm_871 : ∀ q ∈ pg_871, decode (eg_md 871).2.1 q.1 = .ok q.2 := fun q hq => (eg_dok_c (n := 60) (i := 0) (eg_dok_n (by decide +kernel)) dk_871_0) q hq
theorem dn_871 : eg_mok (871, pg_871) := eg_mok_i dm_871
theorem dm_876 : ∀ q ∈ pg_876, decode (eg_md 876).2.1 q.1 = .ok q.2 := fun q hq => (eg_dok_c (n := 60) (i := 0) (eg_dok_n (by decide +kernel)) dk_876_0) q hq
theorem dn_876 : eg_mok (876, pg_876) := eg_mok_i dm_876
theorem dm_880 : ∀ q ∈ pg_880, decode (eg_md 880).2.1 q.1 = .ok q.2 := fun q hq => (eg_dok_c (n := 60) (i := 0) (eg_dok_n (by decide +kernel)) dk_880_0) q hq
theorem dn_880 : eg_mok (880, pg_880) := eg_mok_i dm_880
theorem dm_883 : ∀ q ∈ pg_883, decode (eg_md 883).2.1 q.1 = .ok q.2 := fun q hq => (eg_dok_c (n := 60) (i := 0) (eg_dok_n (by decide +kernel)) dk_883_0) q hq
theorem dn_883 : eg_mok (883, pg_883) := eg_mok_i dm_883
theorem dm_890 : ∀ q ∈ pg_890, decode (eg_md 890).2.1 q.1 = .ok q.2 := fun q hq => (eg_dok_c (n := 60) (i := 0) (eg_dok_n (by decide +kernel)) dk_890_0) q hq
theorem dn_890 : eg_mok (890, pg_890) := eg_mok_i dm_890
theorem dm_895 : ∀ q ∈ pg_895, decode (eg_md 895).2.1 q.1 = .ok q.2 := fun q hq => (eg_dok_c (n := 60) (i := 0) (eg_dok_n (by decide +kernel)) dk_895_0) q hq
theorem dn_895 : eg_mok (895, pg_895) := eg_mok_i dm_895
theorem dm_899 : ∀ q ∈ pg_899, decode (eg_md 899).2.1 q.1 = .ok q.2 := fun q hq => (eg_dok_c (n := 60) (i := 0) (eg_dok_n (by decide +kernel)) dk_899_0) q hq
theorem dn_899 : eg_mok (899, pg_899) := eg_mok_i dm_899
theorem dm_903 : ∀ q ∈ pg_903, decode (eg_md 903).2.1 q.1 = .ok q.2 := fun q hq => (eg_dok_c (n := 60) (i := 0) (eg_dok_n (by decide +kernel)) dk_903_0) q hq
theorem dn_903 : eg_mok (903, pg_903) := eg_mok_i dm_903
theorem dm_907 : ∀ q ∈ pg_907, decode (eg_md 907).2.1 q.1 = .ok q.2 := fun q hq => (eg_dok_c (n := 60) (i := 0) (eg_dok_n (by decide +kernel)) dk_907_0) q hq
theorem dn_907 : eg_mok (907, pg_907) := eg_mok_i dm_907
theorem dm_911 : ∀ q ∈ pg_911, decode (eg_md 911).2.1 q.1 = .ok q.2 := fun q hq => (eg_dok_c (n := 60) (i := 0) (eg_dok_n (by decide +kernel)) dk_911_0) q hq
theorem dn_911 : eg_mok (911, pg_911) := eg_mok_i dm_911
theorem dm_915 : ∀ q ∈ pg_915, decode (eg_md 915).2.1 q.1 = .ok q.2 := fun q hq => (eg_dok_c (n := 60) (i := 0) (eg_dok_n (by decide +kernel)) dk_915_0) q hq
theorem dn_915 : eg_mok (915, pg_915) := eg_mok_i dm_915
theorem dm_919 : ∀ q ∈ pg_919, decode (eg_md 919).2.1 q.1 = .ok q.2 := fun q hq => (eg_dok_c (n := 60) (i := 0) (eg_dok_c (n := 60) (i := 60) (eg_dok_n (by decide +kernel)) dk_919_1) dk_919_0) q hq
theorem dn_919 : eg_mok (919, pg_919) := eg_mok_i dm_919
theorem dm_924 : ∀ q ∈ pg_924, decode (eg_md 924).2.1 q.1 = .ok q.2 := fun q hq => (eg_dok_c (n := 60) (i := 0) (eg_dok_n (by decide +kernel)) dk_924_0) q hq
theorem dn_924 : eg_mok (924, pg_924) := eg_mok_i dm_924
theorem dm_928 : ∀ q ∈ pg_928, decode (eg_md 928).2.1 q.1 = .ok q.2 := fun q hq => (eg_dok_c (n := 60) (i := 0) (eg_dok_n (by decide +kernel)) dk_928_0) q hq
theorem dn_928 : eg_mok (928, pg_928) := eg_mok_i dm_928
theorem dm_932 : ∀ q ∈ pg_932, decode (eg_md 932).2.1 q.1 = .ok q.2 := fun q hq => (eg_dok_c (n := 60) (i := 0) (eg_dok_c (n := 60) (i := 60) (eg_dok_n (by decide +kernel)) dk_932_1) dk_932_0) q hq
theorem dn_932 : eg_mok (932, pg_932) := eg_mok_i dm_932
theorem dm_937 : ∀ q ∈ pg_937, decode (eg_md 937).2.1 q.1 = .ok q.2 := fun q hq => (eg_dok_c (n := 60) (i := 0) (eg_dok_n (by decide +kernel)) dk_937_0) q hq
theorem dn_937 : eg_mok (937, pg_937) := eg_mok_i dm_937
theorem dm_942 : ∀ q ∈ pg_942, decode (eg_md 942).2.1 q.1 = .ok q.2 := fun q hq => (eg_dok_c (n := 60) (i := 0) (eg_dok_n (by decide +kernel)) dk_942_0) q hq
theorem dn_942 : eg_mok (942, pg_942) := eg_mok_i dm_942
theorem dm_946 : ∀ q ∈ pg_946, decode (eg_md 946).2.1 q.1 = .ok q.2 := fun q hq => (eg_dok_c (n := 60) (i := 0) (eg_dok_n (by decide +kernel)) dk_946_0) q hq
theorem dn_946 : eg_mok (946, pg_946) := eg_mok_i dm_946
theorem dm_950 : ∀ q ∈ pg_950, decode (eg_md 950).2.1 q.1 = .ok q.2 := fun q hq => (eg_dok_c (n := 60) (i := 0) (eg_dok_n (by decide +kernel)) dk_950_0) q hq
theorem dn_950 : eg_mok (950, pg_950) := eg_mok_i dm_950
theorem dm_954 : ∀ q ∈ pg_954, decode (eg_md 954).2.1 q.1 = .ok q.2 := fun q hq => (eg_dok_c (n := 60) (i := 0) (eg_dok_n (by decide +kernel)) dk_954_0) q hq
theorem dn_954 : eg_mok (954, pg_954) := eg_mok_i dm_954
theorem dm_958 : ∀ q ∈ pg_958, decode (eg_md 958).2.1 q.1 = .ok q.2 := fun q hq => (eg_dok_c (n := 60) (i := 0) (eg_dok_n (by decide +kernel)) dk_958_0) q hq
theorem dn_958 : eg_mok (958, pg_958) := eg_mok_i dm_958
theorem dm_962 : ∀ q ∈ pg_962, decode (eg_md 962).2.1 q.1 = .ok q.2 := fun q hq => (eg_dok_c (n := 60) (i := 0) (eg_dok_n (by decide +kernel)) dk_962_0) q hq
theorem dn_962 : eg_mok (962, pg_962) := eg_mok_i dm_962
theorem dm_967 : ∀ q ∈ pg_967, decode (eg_md 967).2.1 q.1 = .ok q.2 := fun q hq => (eg_dok_c (n := 60) (i := 0) (eg_dok_n (by decide +kernel)) dk_967_0) q hq
theorem dn_967 : eg_mok (967, pg_967) := eg_mok_i dm_967
theorem dm_971 : ∀ q ∈ pg_971, decode (eg_md 971).2.1 q.1 = .ok q.2 := fun q hq => (eg_dok_c (n := 60) (i := 0) (eg_dok_c (n := 60) (i := 60) (eg_dok_n (by decide +kernel)) dk_971_1) dk_971_0) q hq
theorem dn_971 : eg_mok (971, pg_971) := eg_mok_i dm_971
theorem dm_975 : ∀ q ∈ pg_975, decode (eg_md 975).2.1 q.1 = .ok q.2 := fun q hq => (eg_dok_c (n := 60) (i := 0) (eg_dok_n (by decide +kernel)) dk_975_0) q hq
theorem dn_975 : eg_mok (975, pg_975) := eg_mok_i dm_975
theorem dm_979 : ∀ q ∈ pg_979, decode (eg_md 979).2.1 q.1 = .ok q.2 := fun q hq => (eg_dok_c (n := 60) (i := 0) (eg_dok_n (by decide +kernel)) dk_979_0) q hq
theorem dn_979 : eg_mok (979, pg_979) := eg_mok_i dm_979
theorem dm_983 : ∀ q ∈ pg_983, decode (eg_md 983).2.1 q.1 = .ok q.2 := fun q hq => (eg_dok_c (n := 60) (i := 0) (eg_dok_n (by decide +kernel)) dk_983_0) q hq
theorem dn_983 : eg_mok (983, pg_983) := eg_mok_i dm_983
theorem dm_987 : ∀ q ∈ pg_987, decode (eg_md 987).2.1 q.1 = .ok q.2 := fun q hq => (eg_dok_c (n := 60) (i := 0) (eg_dok_n (by decide +kernel)) dk_987_0) q hq
theorem dn_987 : eg_mok (987, pg_987) := eg_mok_i dm_987
theorem dm_991 : ∀ q ∈ pg_991, decode (eg_md 991).2.1 q.1 = .ok q.2 := fun q hq => (eg_dok_c (n := 60) (i := 0) (eg_dok_n (by decide +kernel)) dk_991_0) q hq
theorem dn_991 : eg_mok (991, pg_991) := eg_mok_i dm_991
theorem dm_995 : ∀ q ∈ pg_995, decode (eg_md 995).2.1 q.1 = .ok q.2 := fun q hq => (eg_dok_c (n := 60) (i := 0) (eg_dok_n (by decide +kernel)) dk_995_0) q hq
theorem dn_995 : eg_mok (995, pg_995) := eg_mok_i dm_995
theorem dm_999 : ∀ q ∈ pg_999, decode (eg_md 999).2.1 q.1 = .ok q.2 := fun q hq => (eg_dok_c (n := 60) (i := 0) (eg_dok_n (by decide +kernel)) dk_999_0) q hq
theorem dn_999 : eg_mok (999, pg_999) := eg_mok_i dm_999
theorem dm_1003 : ∀ q ∈ pg_1003, decode (eg_md 1003).2.1 q.1 = .ok q.2 := fun q hq => (eg_dok_c (n := 60) (i := 0) (eg_dok_n (by decide +kernel)) dk_1003_0) q hq
theorem dn_1003 : eg_mok (1003, pg_1003) := eg_mok_i dm_1003
theorem dm_1009 : ∀ q ∈ pg_1009, decode (eg_md 1009).2.1 q.1 = .ok q.2 := fun q hq => (eg_dok_c (n := 60) (i := 0) (eg_dok_n (by decide +kernel)) dk_1009_0) q hq
theorem dn_1009 : eg_mok (1009, pg_1009) := eg_mok_i dm_1009
theorem dm_1013 : ∀ q ∈ pg_1013, decode (eg_md 1013).2.1 q.1 = .ok q.2 := fun q hq => (eg_dok_c (n := 60) (i := 0) (eg_dok_n (by decide +kernel)) dk_1013_0) q hq
theorem dn_1013 : eg_mok (1013, pg_1013) := eg_mok_i dm_1013
theorem dm_1019 : ∀ q ∈ pg_1019, decode (eg_md 1019).2.1 q.1 = .ok q.2 := fun q hq => (eg_dok_c (n := 60) (i := 0) (eg_dok_n (by decide +kernel)) dk_1019_0) q hq
theorem dn_1019 : eg_mok (1019, pg_1019) := eg_mok_i dm_1019
theorem dm_1023 : ∀ q ∈ pg_1023, decode (eg_md 1023).2.1 q.1 = .ok q.2 := fun q hq => (eg_dok_c (n := 60) (i := 0) (eg_dok_n (by decide +kernel)) dk_1023_0) q hq
theorem dn_1023 : eg_mok (1023, pg_1023) := eg_mok_i dm_1023
theorem dm_1027 : ∀ q ∈ pg_1027, decode (eg_md 1027).2.1 q.1 = .ok q.2 := fun q hq => (eg_dok_c (n := 60) (i := 0) (eg_dok_n (by decide +kernel)) dk_1027_0) q hq
theorem dn_1027 : eg_mok (1027, pg_1027) := eg_mok_i dm_1027
theorem dm_1031 : ∀ q ∈ pg_1031, decode (eg_md 1031).2.1 q.1 = .ok q.2 := fun q hq => (eg_dok_c (n := 60) (i := 0) (eg_dok_c (n := 60) (i := 60) (eg_dok_n (by decide +kernel)) dk_1031_1) dk_1031_0) q hq
theorem dn_1031 : eg_mok (1031, pg_1031) := eg_mok_i dm_1031
theorem dm_1035 : ∀ q ∈ pg_1035, decode (eg_md 1035).2.1 q.1 = .ok q.2 := fun q hq => (eg_dok_c (n := 60) (i := 0) (eg_dok_n (by decide +kernel)) dk_1035_0) q hq
theorem dn_1035 : eg_mok (1035, pg_1035) := eg_mok_i dm_1035
theorem dm_1040 : ∀ q ∈ pg_1040, decode (eg_md 1040).2.1 q.1 = .ok q.2 := fun q hq => (eg_dok_c (n := 60) (i := 0) (eg_dok_n (by decide +kernel)) dk_1040_0) q hq
theorem dn_1040 : eg_mok (1040, pg_1040) := eg_mok_i dm_1040
theorem dm_1044 : ∀ q ∈ pg_1044, decode (eg_md 1044).2.1 q.1 = .ok q.2 := fun q hq => (eg_dok_c (n := 60) (i := 0) (eg_dok_n (by decide +kernel)) dk_1044_0) q hq
theorem dn_1044 : eg_mok (1044, pg_1044) := eg_mok_i dm_1044
theorem dm_1050 : ∀ q ∈ pg_1050, decode (eg_md 1050).2.1 q.1 = .ok q.2 := fun q hq => (eg_dok_c (n := 60) (i := 0) (eg_dok_n (by decide +kernel)) dk_1050_0) q hq
theorem dn_1050 : eg_mok (1050, pg_1050) := eg_mok_i dm_1050
theorem dm_1054 : ∀ q ∈ pg_1054, decode (eg_md 1054).2.1 q.1 = .ok q.2 := fun q hq => (eg_dok_c (n := 60) (i := 0) (eg_dok_n (by decide +kernel)) dk_1054_0) q hq
theorem dn_1054 : eg_mok (1054, pg_1054) := eg_mok_i dm_1054
theorem dm_1058 : ∀ q ∈ pg_1058, decode (eg_md 1058).2.1 q.1 = .ok q.2 := fun q hq => (eg_dok_c (n := 60) (i := 0) (eg_dok_n (by decide +kernel)) dk_1058_0) q hq
theorem dn_1058 : eg_mok (1058, pg_1058) := eg_mok_i dm_1058
theorem dm_1062 : ∀ q ∈ pg_1062, decode (eg_md 1062).2.1 q.1 = .ok q.2 := fun q hq => (eg_dok_c (n := 60) (i := 0) (eg_dok_n (by decide +kernel)) dk_1062_0) q hq
theorem dn_1062 : eg_mok (1062, pg_1062) := eg_mok_i dm_1062
theorem dm_1066 : ∀ q ∈ pg_1066, decode (eg_md 1066).2.1 q.1 = .ok q.2 := fun q hq => (eg_dok_c (n := 60) (i := 0) (eg_dok_n (by decide +kernel)) dk_1066_0) q hq
theorem dn_1066 : eg_mok (1066, pg_1066) := eg_mok_i dm_1066
theorem dm_1073 : ∀ q ∈ pg_1073, decode (eg_md 1073).2.1 q.1 = .ok q.2 := fun q hq => (eg_dok_c (n := 60) (i := 0) (eg_dok_n (by decide +kernel)) dk_1073_0) q hq
theorem dn_1073 : eg_mok (1073, pg_1073) := eg_mok_i dm_1073
theorem dm_1077 : ∀ q ∈ pg_1077, decode (eg_md 1077).2.1 q.1 = .ok q.2 := fun q hq => (eg_dok_c (n := 60) (i := 0) (eg_dok_c (n := 60) (i := 60) (eg_dok_n (by decide +kernel)) dk_1077_1) dk_1077_0) q hq
theorem dn_1077 : eg_mok (1077, pg_1077) := eg_mok_i dm_1077
theorem dm_1081 : ∀ q ∈ pg_1081, decode (eg_md 1081).2.1 q.1 = .ok q.2 := fun q hq => (eg_dok_c (n := 60) (i := 0) (eg_dok_n (by decide +kernel)) dk_1081_0) q hq
theorem dn_1081 : eg_mok (1081, pg_1081) := eg_mok_i dm_1081
theorem dm_1085 : ∀ q ∈ pg_1085, decode (eg_md 1085).2.1 q.1 = .ok q.2 := fun q hq => (eg_dok_c (n := 60) (i := 0) (eg_dok_n (by decide +kernel)) dk_1085_0) q hq
theorem dn_1085 : eg_mok (1085, pg_1085) := eg_mok_i dm_1085
theorem dm_1089 : ∀ q ∈ pg_1089, decode (eg_md 1089).2.1 q.1 = .ok q.2 := fun q hq => (eg_dok_c (n := 60) (i := 0) (eg_dok_c (n := 60) (i := 60) (eg_dok_n (by decide +kernel)) dk_1089_1) dk_1089_0) q hq
theorem dn_1089 : eg_mok (1089, pg_1089) := eg_mok_i dm_1089
theorem dm_1093 : ∀ q ∈ pg_1093, decode (eg_md 1093).2.1 q.1 = .ok q.2 := fun q hq => (eg_dok_c (n := 60) (i := 0) (eg_dok_c (n := 60) (i := 60) (eg_dok_n (by decide +kernel)) dk_1093_1) dk_1093_0) q hq
theorem dn_1093 : eg_mok (1093, pg_1093) := eg_mok_i dm_1093
theorem dm_1097 : ∀ q ∈ pg_1097, decode (eg_md 1097).2.1 q.1 = .ok q.2 := fun q hq => (eg_dok_c (n := 60) (i := 0) (eg_dok_n (by decide +kernel)) dk_1097_0) q hq
theorem dn_1097 : eg_mok (1097, pg_1097) := eg_mok_i dm_1097
theorem dm_1101 : ∀ q ∈ pg_1101, decode (eg_md 1101).2.1 q.1 = .ok q.2 := fun q hq => (eg_dok_c (n := 60) (i := 0) (eg_dok_n (by decide +kernel)) dk_1101_0) q hq
theorem dn_1101 : eg_mok (1101, pg_1101) := eg_mok_i dm_1101
theorem dm_1105 : ∀ q ∈ pg_1105, decode (eg_md 1105).2.1 q.1 = .ok q.2 := fun q hq => (eg_dok_c (n := 60) (i := 0) (eg_dok_c (n := 60) (i := 60) (eg_dok_n (by decide +kernel)) dk_1105_1) dk_1105_0) q hq
theorem dn_1105 : eg_mok (1105, pg_1105) := eg_mok_i dm_1105
theorem dm_1109 : ∀ q ∈ pg_1109, decode (eg_md 1109).2.1 q.1 = .ok q.2 := fun q hq => (eg_dok_c (n := 60) (i := 0) (eg_dok_n (by decide +kernel)) dk_1109_0) q hq
theorem dn_1109 : eg_mok (1109, pg_1109) := eg_mok_i dm_1109
theorem dm_1113 : ∀ q ∈ pg_1113, decode (eg_md 1113).2.1 q.1 = .ok q.2 := fun q hq => (eg_dok_c (n := 60) (i := 0) (eg_dok_n (by decide +kernel)) dk_1113_0) q hq
theorem dn_1113 : eg_mok (1113, pg_1113) := eg_mok_i dm_1113
theorem dm_1117 : ∀ q ∈ pg_1117, decode (eg_md 1117).2.1 q.1 = .ok q.2 := fun q hq => (eg_dok_c (n := 60) (i := 0) (eg_dok_n (by decide +kernel)) dk_1117_0) q hq
theorem dn_1117 : eg_mok (1117, pg_1117) := eg_mok_i dm_1117
theorem dm_1121 : ∀ q ∈ pg_1121, decode (eg_md 1121).2.1 q.1 = .ok q.2 := fun q hq => (eg_dok_c (n := 60) (i := 0) (eg_dok_n (by decide +kernel)) dk_1121_0) q hq
theorem dn_1121 : eg_mok (1121, pg_1121) := eg_mok_i dm_1121
theorem dm_1125 : ∀ q ∈ pg_1125, decode (eg_md 1125).2.1 q.1 = .ok q.2 := fun q hq => (eg_dok_c (n := 60) (i := 0) (eg_dok_n (by decide +kernel)) dk_1125_0) q hq
theorem dn_1125 : eg_mok (1125, pg_1125) := eg_mok_i dm_1125
theorem dm_1129 : ∀ q ∈ pg_1129, decode (eg_md 1129).2.1 q.1 = .ok q.2 := fun q hq => (eg_dok_c (n := 60) (i := 0) (eg_dok_c (n := 60) (i := 60) (eg_dok_n (by decide +kernel)) dk_1129_1) dk_1129_0) q hq
theorem dn_1129 : eg_mok (1129, pg_1129) := eg_mok_i dm_1129
theorem dm_1132 : ∀ q ∈ pg_1132, decode (eg_md 1132).2.1 q.1 = .ok q.2 := fun q hq => (eg_dok_c (n := 60) (i := 0) (eg_dok_n (by decide +kernel)) dk_1132_0) q hq
theorem dn_1132 : eg_mok (1132, pg_1132) := eg_mok_i dm_1132
theorem dm_1136 : ∀ q ∈ pg_1136, decode (eg_md 1136).2.1 q.1 = .ok q.2 := fun q hq => (eg_dok_c (n := 60) (i := 0) (eg_dok_n (by decide +kernel)) dk_1136_0) q hq
theorem dn_1136 : eg_mok (1136, pg_1136) := eg_mok_i dm_1136
theorem dm_1140 : ∀ q ∈ pg_1140, decode (eg_md 1140).2.1 q.1 = .ok q.2 := fun q hq => (eg_dok_c (n := 60) (i := 0) (eg_dok_n (by decide +kernel)) dk_1140_0) q hq
theorem dn_1140 : eg_mok (1140, pg_1140) := eg_mok_i dm_1140
theorem dm_1147 : ∀ q ∈ pg_1147, decode (eg_md 1147).2.1 q.1 = .ok q.2 := fun q hq => (eg_dok_c (n := 60) (i := 0) (eg_dok_n (by decide +kernel)) dk_1147_0) q hq
theorem dn_1147 : eg_mok (1147, pg_1147) := eg_mok_i dm_1147
theorem dm_1151 : ∀ q ∈ pg_1151, decode (eg_md 1151).2.1 q.1 = .ok q.2 := fun q hq => (eg_dok_c (n := 60) (i := 0) (eg_dok_n (by decide +kernel)) dk_1151_0) q hq
theorem dn_1151 : eg_mok (1151, pg_1151) := eg_mok_i dm_1151
theorem dm_1156 : ∀ q ∈ pg_1156, decode (eg_md 1156).2.1 q.1 = .ok q.2 := fun q hq => (eg_dok_c (n := 60) (i := 0) (eg_dok_n (by decide +kernel)) dk_1156_0) q hq
theorem dn_1156 : eg_mok (1156, pg_1156) := eg_mok_i dm_1156
theorem dm_1160 : ∀ q ∈ pg_1160, decode (eg_md 1160).2.1 q.1 = .ok q.2 := fun q hq => (eg_dok_c (n := 60) (i := 0) (eg_dok_n (by decide +kernel)) dk_1160_0) q hq
theorem dn_1160 : eg_mok (1160, pg_1160) := eg_mok_i dm_1160
theorem dm_1164 : ∀ q ∈ pg_1164, decode (eg_md 1164).2.1 q.1 = .ok q.2 := fun q hq => (eg_dok_c (n := 60) (i := 0) (eg_dok_n (by decide +kernel)) dk_1164_0) q hq
theorem dn_1164 : eg_mok (1164, pg_1164) := eg_mok_i dm_1164
theorem dm_1168 : ∀ q ∈ pg_1168, decode (eg_md 1168).2.1 q.1 = .ok q.2 := fun q hq => (eg_dok_c (n := 60) (i := 0) (eg_dok_n (by decide +kernel)) dk_1168_0) q hq
theorem dn_1168 : eg_mok (1168, pg_1168) := eg_mok_i dm_1168
theorem dm_1172 : ∀ q ∈ pg_1172, decode (eg_md 1172).2.1 q.1 = .ok q.2 := fun q hq => (eg_dok_c (n := 60) (i := 0) (eg_dok_n (by decide +kernel)) dk_1172_0) q hq
theorem dn_1172 : eg_mok (1172, pg_1172) := eg_mok_i dm_1172
theorem dm_1176 : ∀ q ∈ pg_1176, decode (eg_md 1176).2.1 q.1 = .ok q.2 := fun q hq => (eg_dok_c (n := 60) (i := 0) (eg_dok_n (by decide +kernel)) dk_1176_0) q hq
theorem dn_1176 : eg_mok (1176, pg_1176) := eg_mok_i dm_1176
theorem dm_1182 : ∀ q ∈ pg_1182, decode (eg_md 1182).2.1 q.1 = .ok q.2 := fun q hq => (eg_dok_c (n := 60) (i := 0) (eg_dok_n (by decide +kernel)) dk_1182_0) q hq
theorem dn_1182 : eg_mok (1182, pg_1182) := eg_mok_i dm_1182
theorem dm_1186 : ∀ q ∈ pg_1186, decode (eg_md 1186).2.1 q.1 = .ok q.2 := fun q hq => (eg_dok_c (n := 60) (i := 0) (eg_dok_n (by decide +kernel)) dk_1186_0) q hq
theorem dn_1186 : eg_mok (1186, pg_1186) := eg_mok_i dm_1186
theorem dm_1192 : ∀ q ∈ pg_1192, decode (eg_md 1192).2.1 q.1 = .ok q.2 := fun q hq => (eg_dok_c (n := 60) (i := 0) (eg_dok_n (by decide +kernel)) dk_1192_0) q hq
theorem dn_1192 : eg_mok (1192, pg_1192) := eg_mok_i dm_1192
theorem dm_1196 : ∀ q ∈ pg_1196, decode (eg_md 1196).2.1 q.1 = .ok q.2 := fun q hq => (eg_dok_c (n := 60) (i := 0) (eg_dok_n (by decide +kernel)) dk_1196_0) q hq
theorem dn_1196 : eg_mok (1196, pg_1196) := eg_mok_i dm_1196
theorem dm_1200 : ∀ q ∈ pg_1200, decode (eg_md 1200).2.1 q.1 = .ok q.2 := fun q hq => (eg_dok_c (n := 60) (i := 0) (eg_dok_n (by decide +kernel)) dk_1200_0) q hq
theorem dn_1200 : eg_mok (1200, pg_1200) := eg_mok_i dm_1200
theorem dm_1205 : ∀ q ∈ pg_1205, decode (eg_md 1205).2.1 q.1 = .ok q.2 := fun q hq => (eg_dok_c (n := 60) (i := 0) (eg_dok_n (by decide +kernel)) dk_1205_0) q hq
theorem dn_1205 : eg_mok (1205, pg_1205) := eg_mok_i dm_1205
theorem dm_1209 : ∀ q ∈ pg_1209, decode (eg_md 1209).2.1 q.1 = .ok q.2 := fun q hq => (eg_dok_c (n := 60) (i := 0) (eg_dok_n (by decide +kernel)) dk_1209_0) q hq
theorem dn_1209 : eg_mok (1209, pg_1209) := eg_mok_i dm_1209
theorem dm_1216 : ∀ q ∈ pg_1216, decode (eg_md 1216).2.1 q.1 = .ok q.2 := fun q hq => (eg_dok_c (n := 60) (i := 0) (eg_dok_n (by decide +kernel)) dk_1216_0) q hq
theorem dn_1216 : eg_mok (1216, pg_1216) := eg_mok_i dm_1216
theorem dm_1221 : ∀ q ∈ pg_1221, decode (eg_md 1221).2.1 q.1 = .ok q.2 := fun q hq => (eg_dok_c (n := 60) (i := 0) (eg_dok_n (by decide +kernel)) dk_1221_0) q hq
theorem dn_1221 : eg_mok (1221, pg_1221) := eg_mok_i dm_1221
theorem dm_1226 : ∀ q ∈ pg_1226, decode (eg_md 1226).2.1 q.1 = .ok q.2 := fun q hq => (eg_dok_c (n := 60) (i := 0) (eg_dok_c (n := 60) (i := 60) (eg_dok_n (by decide +kernel)) dk_1226_1) dk_1226_0) q hq
theorem dn_1226 : eg_mok (1226, pg_1226) := eg_mok_i dm_1226
theorem dm_1234 : ∀ q ∈ pg_1234, decode (eg_md 1234).2.1 q.1 = .ok q.2 := fun q hq => (eg_dok_c (n := 60) (i := 0) (eg_dok_n (by decide +kernel)) dk_1234_0) q hq
theorem dn_1234 : eg_mok (1234, pg_1234) := eg_mok_i dm_1234
theorem dm_1238 : ∀ q ∈ pg_1238, decode (eg_md 1238).2.1 q.1 = .ok q.2 := fun q hq => (eg_dok_c (n := 60) (i := 0) (eg_dok_n (by decide +kernel)) dk_1238_0) q hq
theorem dn_1238 : eg_mok (1238, pg_1238) := eg_mok_i dm_1238
theorem dm_1242 : ∀ q ∈ pg_1242, decode (eg_md 1242).2.1 q.1 = .ok q.2 := fun q hq => (eg_dok_c (n := 60) (i := 0) (eg_dok_n (by decide +kernel)) dk_1242_0) q hq
theorem dn_1242 : eg_mok (1242, pg_1242) := eg_mok_i dm_1242
theorem dm_1246 : ∀ q ∈ pg_1246, decode (eg_md 1246).2.1 q.1 = .ok q.2 := fun q hq => (eg_dok_c (n := 60) (i := 0) (eg_dok_n (by decide +kernel)) dk_1246_0) q hq
theorem dn_1246 : eg_mok (1246, pg_1246) := eg_mok_i dm_1246
theorem dm_1252 : ∀ q ∈ pg_1252, decode (eg_md 1252).2.1 q.1 = .ok q.2 := fun q hq => (eg_dok_c (n := 60) (i := 0) (eg_dok_n (by decide +kernel)) dk_1252_0) q hq
theorem dn_1252 : eg_mok (1252, pg_1252) := eg_mok_i dm_1252
theorem dm_1256 : ∀ q ∈ pg_1256, decode (eg_md 1256).2.1 q.1 = .ok q.2 := fun q hq => (eg_dok_c (n := 60) (i := 0) (eg_dok_n (by decide +kernel)) dk_1256_0) q hq
theorem dn_1256 : eg_mok (1256, pg_1256) := eg_mok_i dm_1256
theorem dm_1260 : ∀ q ∈ pg_1260, decode (eg_md 1260).2.1 q.1 = .ok q.2 := fun q hq => (eg_dok_c (n := 60) (i := 0) (eg_dok_n (by decide +kernel)) dk_1260_0) q hq
theorem dn_1260 : eg_mok (1260, pg_1260) := eg_mok_i dm_1260
theorem dm_1263 : ∀ q ∈ pg_1263, decode (eg_md 1263).2.1 q.1 = .ok q.2 := fun q hq => (eg_dok_c (n := 60) (i := 0) (eg_dok_n (by decide +kernel)) dk_1263_0) q hq
theorem dn_1263 : eg_mok (1263, pg_1263) := eg_mok_i dm_1263
theorem dm_1268 : ∀ q ∈ pg_1268, decode (eg_md 1268).2.1 q.1 = .ok q.2 := fun q hq => (eg_dok_c (n := 60) (i := 0) (eg_dok_n (by decide +kernel)) dk_1268_0) q hq
theorem dn_1268 : eg_mok (1268, pg_1268) := eg_mok_i dm_1268
theorem dm_1272 : ∀ q ∈ pg_1272, decode (eg_md 1272).2.1 q.1 = .ok q.2 := fun q hq => (eg_dok_c (n := 60) (i := 0) (eg_dok_n (by decide +kernel)) dk_1272_0) q hq
theorem dn_1272 : eg_mok (1272, pg_1272) := eg_mok_i dm_1272
theorem dm_1276 : ∀ q ∈ pg_1276, decode (eg_md 1276).2.1 q.1 = .ok q.2 := fun q hq => (eg_dok_c (n := 60) (i := 0) (eg_dok_n (by decide +kernel)) dk_1276_0) q hq
theorem dn_1276 : eg_mok (1276, pg_1276) := eg_mok_i dm_1276
theorem dm_1280 : ∀ q ∈ pg_1280, decode (eg_md 1280).2.1 q.1 = .ok q.2 := fun q hq => (eg_dok_c (n := 60) (i := 0) (eg_dok_n (by decide +kernel)) dk_1280_0) q hq
theorem dn_1280 : eg_mok (1280, pg_1280) := eg_mok_i dm_1280
theorem dm_1287 : ∀ q ∈ pg_1287, decode (eg_md 1287).2.1 q.1 = .ok q.2 := fun q hq => (eg_dok_c (n := 60) (i := 0) (eg_dok_n (by decide +kernel)) dk_1287_0) q hq
theorem dn_1287 : eg_mok (1287, pg_1287) := eg_mok_i dm_1287
theorem dm_1293 : ∀ q ∈ pg_1293, decode (eg_md 1293).2.1 q.1 = .ok q.2 := fun q hq => (eg_dok_c (n := 60) (i := 0) (eg_dok_n (by decide +kernel)) dk_1293_0) q hq
theorem dn_1293 : eg_mok (1293, pg_1293) := eg_mok_i dm_1293
theorem dm_1297 : ∀ q ∈ pg_1297, decode (eg_md 1297).2.1 q.1 = .ok q.2 := fun q hq => (eg_dok_c (n := 60) (i := 0) (eg_dok_n (by decide +kernel)) dk_1297_0) q hq
theorem dn_1297 : eg_mok (1297, pg_1297) := eg_mok_i dm_1297
theorem dm_1301 : ∀ q ∈ pg_1301, decode (eg_md 1301).2.1 q.1 = .ok q.2 := fun q hq => (eg_dok_c (n := 60) (i := 0) (eg_dok_n (by decide +kernel)) dk_1301_0) q hq
theorem dn_1301 : eg_mok (1301, pg_1301) := eg_mok_i dm_1301
theorem dm_1305 : ∀ q ∈ pg_1305, decode (eg_md 1305).2.1 q.1 = .ok q.2 := fun q hq => (eg_dok_c (n := 60) (i := 0) (eg_dok_n (by decide +kernel)) dk_1305_0) q hq
theorem dn_1305 : eg_mok (1305, pg_1305) := eg_mok_i dm_1305
theorem dm_1309 : ∀ q ∈ pg_1309, decode (eg_md 1309).2.1 q.1 = .ok q.2 := fun q hq => (eg_dok_c (n := 60) (i := 0) (eg_dok_c (n := 60) (i := 60) (eg_dok_n (by decide +kernel)) dk_1309_1) dk_1309_0) q hq
theorem dn_1309 : eg_mok (1309, pg_1309) := eg_mok_i dm_1309
theorem dm_1313 : ∀ q ∈ pg_1313, decode (eg_md 1313).2.1 q.1 = .ok q.2 := fun q hq => (eg_dok_c (n := 60) (i := 0) (eg_dok_n (by decide +kernel)) dk_1313_0) q hq
theorem dn_1313 : eg_mok (1313, pg_1313) := eg_mok_i dm_1313
theorem dm_1317 : ∀ q ∈ pg_1317, decode (eg_md 1317).2.1 q.1 = .ok q.2 := fun q hq => (eg_dok_c (n := 60) (i := 0) (eg_dok_n (by decide +kernel)) dk_1317_0) q hq
theorem dn_1317 : eg_mok (1317, pg_1317) := eg_mok_i dm_1317
theorem dm_1321 : ∀ q ∈ pg_1321, decode (eg_md 1321).2.1 q.1 = .ok q.2 := fun q hq => (eg_dok_c (n := 60) (i := 0) (eg_dok_n (by decide +kernel)) dk_1321_0) q hq
theorem dn_1321 : eg_mok (1321, pg_1321) := eg_mok_i dm_1321
theorem dm_1326 : ∀ q ∈ pg_1326, decode (eg_md 1326).2.1 q.1 = .ok q.2 := fun q hq => (eg_dok_c (n := 60) (i := 0) (eg_dok_n (by decide +kernel)) dk_1326_0) q hq
theorem dn_1326 : eg_mok (1326, pg_1326) := eg_mok_i dm_1326
theorem dm_1330 : ∀ q ∈ pg_1330, decode (eg_md 1330).2.1 q.1 = .ok q.2 := fun q hq => (eg_dok_c (n := 60) (i := 0) (eg_dok_n (by decide +kernel)) dk_1330_0) q hq
theorem dn_1330 : eg_mok (1330, pg_1330) := eg_mok_i dm_1330
theorem dm_1335 : ∀ q ∈ pg_1335, decode (eg_md 1335).2.1 q.1 = .ok q.2 := fun q hq => (eg_dok_c (n := 60) (i := 0) (eg_dok_n (by decide +kernel)) dk_1335_0) q hq
theorem dn_1335 : eg_mok (1335, pg_1335) := eg_mok_i dm_1335
theorem dm_1339 : ∀ q ∈ pg_1339, decode (eg_md 1339).2.1 q.1 = .ok q.2 := fun q hq => (eg_dok_c (n := 60) (i := 0) (eg_dok_n (by decide +kernel)) dk_1339_0) q hq
theorem dn_1339 : eg_mok (1339, pg_1339) := eg_mok_i dm_1339
theorem dm_1343 : ∀ q ∈ pg_1343, decode (eg_md 1343).2.1 q.1 = .ok q.2 := fun q hq => (eg_dok_c (n := 60) (i := 0) (eg_dok_n (by decide +kernel)) dk_1343_0) q hq
theorem dn_1343 : eg_mok (1343, pg_1343) := eg_mok_i dm_1343
theorem dm_1346 : ∀ q ∈ pg_1346, decode (eg_md 1346).2.1 q.1 = .ok q.2 := fun q hq => (eg_dok_c (n := 60) (i := 0) (eg_dok_n (by decide +kernel)) dk_1346_0) q hq
theorem dn_1346 : eg_mok (1346, pg_1346) := eg_mok_i dm_1346
theorem dm_1351 : ∀ q ∈ pg_1351, decode (eg_md 1351).2.1 q.1 = .ok q.2 := fun q hq => (eg_dok_c (n := 60) (i := 0) (eg_dok_n (by decide +kernel)) dk_1351_0) q hq
theorem dn_1351 : eg_mok (1351, pg_1351) := eg_mok_i dm_1351
theorem dm_1355 : ∀ q ∈ pg_1355, decode (eg_md 1355).2.1 q.1 = .ok q.2 := fun q hq => (eg_dok_c (n := 60) (i := 0) (eg_dok_n (by decide +kernel)) dk_1355_0) q hq
theorem dn_1355 : eg_mok (1355, pg_1355) := eg_mok_i dm_1355
theorem dm_1359 : ∀ q ∈ pg_1359, decode (eg_md 1359).2.1 q.1 = .ok q.2 := fun q hq => (eg_dok_c (n := 60) (i := 0) (eg_dok_n (by decide +kernel)) dk_1359_0) q hq
theorem dn_1359 : eg_mok (1359, pg_1359) := eg_mok_i dm_1359
theorem dm_1367 : ∀ q ∈ pg_1367, decode (eg_md 1367).2.1 q.1 = .ok q.2 := fun q hq => (eg_dok_c (n := 60) (i := 0) (eg_dok_c (n := 60) (i := 60) (eg_dok_n (by decide +kernel)) dk_1367_1) dk_1367_0) q hq
theorem dn_1367 : eg_mok (1367, pg_1367) := eg_mok_i dm_1367
theorem dm_1436 : ∀ q ∈ pg_1436, decode (eg_md 1436).2.1 q.1 = .ok q.2 := fun q hq => (eg_dok_c (n := 60) (i := 0) (eg_dok_c (n := 60) (i := 60) (eg_dok_n (by decide +kernel)) dk_1436_1) dk_1436_0) q hq
theorem dn_1436 : eg_mok (1436, pg_1436) := eg_mok_i dm_1436
theorem dm_1442 : ∀ q ∈ pg_1442, decode (eg_md 1442).2.1 q.1 = .ok q.2 := fun q hq => (eg_dok_c (n := 60) (i := 0) (eg_dok_n (by decide +kernel)) dk_1442_0) q hq
theorem dn_1442 : eg_mok (1442, pg_1442) := eg_mok_i dm_1442
theorem dm_1447 : ∀ q ∈ pg_1447, decode (eg_md 1447).2.1 q.1 = .ok q.2 := fun q hq => (eg_dok_c (n := 60) (i := 0) (eg_dok_n (by decide +kernel)) dk_1447_0) q hq
theorem dn_1447 : eg_mok (1447, pg_1447) := eg_mok_i dm_1447
theorem dm_1451 : ∀ q ∈ pg_1451, decode (eg_md 1451).2.1 q.1 = .ok q.2 := fun q hq => (eg_dok_c (n := 60) (i := 0) (eg_dok_n (by decide +kernel)) dk_1451_0) q hq
theorem dn_1451 : eg_mok (1451, pg_1451) := eg_mok_i dm_1451
theorem dm_1455 : ∀ q ∈ pg_1455, decode (eg_md 1455).2.1 q.1 = .ok q.2 := fun q hq => (eg_dok_c (n := 60) (i := 0) (eg_dok_c (n := 60) (i := 60) (eg_dok_c (n := 60) (i := 120) (eg_dok_c (n := 60) (i := 180) (eg_dok_n (by decide +kernel)) dk_1455_3) dk_1455_2) dk_1455_1) dk_1455_0) q hq
theorem dn_1455 : eg_mok (1455, pg_1455) := eg_mok_i dm_1455
theorem dm_1483 : ∀ q ∈ pg_1483, decode (eg_md 1483).2.1 q.1 = .ok q.2 := fun q hq => (eg_dok_c (n := 60) (i := 0) (eg_dok_n (by decide +kernel)) dk_1483_0) q hq
theorem dn_1483 : eg_mok (1483, pg_1483) := eg_mok_i dm_1483
theorem dm_1650 : ∀ q ∈ pg_1650, decode (eg_md 1650).2.1 q.1 = .ok q.2 := fun q hq => (eg_dok_c (n := 60) (i := 0) (eg_dok_c (n := 60) (i := 60) (eg_dok_n (by decide +kernel)) dk_1650_1) dk_1650_0) q hq
theorem dn_1650 : eg_mok (1650, pg_1650) := eg_mok_i dm_1650
theorem dm_1654 : ∀ q ∈ pg_1654, decode (eg_md 1654).2.1 q.1 = .ok q.2 := fun q hq => (eg_dok_c (n := 60) (i := 0) (eg_dok_n (by decide +kernel)) dk_1654_0) q hq
theorem dn_1654 : eg_mok (1654, pg_1654) := eg_mok_i dm_1654
theorem dm_1658 : ∀ q ∈ pg_1658, decode (eg_md 1658).2.1 q.1 = .ok q.2 := fun q hq => (eg_dok_c (n := 60) (i := 0) (eg_dok_c (n := 60) (i := 60) (eg_dok_c (n := 60) (i := 120) (eg_dok_n (by decide +kernel)) dk_1658_2) dk_1658_1) dk_1658_0) q hq
theorem dn_1658 : eg_mok (1658, pg_1658) := eg_mok_i dm_1658
theorem dm_1662 : ∀ q ∈ pg_1662, decode (eg_md 1662).2.1 q.1 = .ok q.2 := fun q hq => (eg_dok_c (n := 60) (i := 0) (eg_dok_n (by decide +kernel)) dk_1662_0) q hq
theorem dn_1662 : eg_mok (1662, pg_1662) := eg_mok_i dm_1662
theorem dm_1665 : ∀ q ∈ pg_1665, decode (eg_md 1665).2.1 q.1 = .ok q.2 := fun q hq => (eg_dok_c (n := 60) (i := 0) (eg_dok_n (by decide +kernel)) dk_1665_0) q hq
theorem dn_1665 : eg_mok (1665, pg_1665) := eg_mok_i dm_1665
theorem dm_1668 : ∀ q ∈ pg_1668, decode (eg_md 1668).2.1 q.1 = .ok q.2 := fun q hq => (eg_dok_c (n := 60) (i := 0) (eg_dok_n (by decide +kernel)) dk_1668_0) q hq
theorem dn_1668 : eg_mok (1668, pg_1668) := eg_mok_i dm_1668
theorem dm_1672 : ∀ q ∈ pg_1672, decode (eg_md 1672).2.1 q.1 = .ok q.2 := fun q hq => (eg_dok_c (n := 60) (i := 0) (eg_dok_c (n := 60) (i := 60) (eg_dok_c (n := 60) (i := 120) (eg_dok_c (n := 60) (i := 180) (eg_dok_n (by decide +kernel)) dk_1672_3) dk_1672_2) dk_1672_1) dk_1672_0) q hq
theorem dn_1672 : eg_mok (1672, pg_1672) := eg_mok_i dm_1672
theorem dm_1676 : ∀ q ∈ pg_1676, decode (eg_md 1676).2.1 q.1 = .ok q.2 := fun q hq => (eg_dok_c (n := 60) (i := 0) (eg_dok_n (by decide +kernel)) dk_1676_0) q hq
theorem dn_1676 : eg_mok (1676, pg_1676) := eg_mok_i dm_1676
theorem dm_1680 : ∀ q ∈ pg_1680, decode (eg_md 1680).2.1 q.1 = .ok q.2 := fun q hq => (eg_dok_c (n := 60) (i := 0) (eg_dok_n (by decide +kernel)) dk_1680_0) q hq
theorem dn_1680 : eg_mok (1680, pg_1680) := eg_mok_i dm_1680
theorem dm_1683 : ∀ q ∈ pg_1683, decode (eg_md 1683).2.1 q.1 = .ok q.2 := fun q hq => (eg_dok_c (n := 60) (i := 0) (eg_dok_n (by decide +kernel)) dk_1683_0) q hq
theorem dn_1683 : eg_mok (1683, pg_1683) := eg_mok_i dm_1683
theorem dm_1687 : ∀ q ∈ pg_1687, decode (eg_md 1687).2.1 q.1 = .ok q.2 := fun q hq => (eg_dok_c (n := 60) (i := 0) (eg_dok_n (by decide +kernel)) dk_1687_0) q hq
theorem dn_1687 : eg_mok (1687, pg_1687) := eg_mok_i dm_1687
theorem dm_1691 : ∀ q ∈ pg_1691, decode (eg_md 1691).2.1 q.1 = .ok q.2 := fun q hq => (eg_dok_c (n := 60) (i := 0) (eg_dok_n (by decide +kernel)) dk_1691_0) q hq
theorem dn_1691 : eg_mok (1691, pg_1691) := eg_mok_i dm_1691
theorem dm_1695 : ∀ q ∈ pg_1695, decode (eg_md 1695).2.1 q.1 = .ok q.2 := fun q hq => (eg_dok_c (n := 60) (i := 0) (eg_dok_n (by decide +kernel)) dk_1695_0) q hq
theorem dn_1695 : eg_mok (1695, pg_1695) := eg_mok_i dm_1695
theorem dm_1698 : ∀ q ∈ pg_1698, decode (eg_md 1698).2.1 q.1 = .ok q.2 := fun q hq => (eg_dok_c (n := 60) (i := 0) (eg_dok_n (by decide +kernel)) dk_1698_0) q hq
theorem dn_1698 : eg_mok (1698, pg_1698) := eg_mok_i dm_1698
theorem dm_1702 : ∀ q ∈ pg_1702, decode (eg_md 1702).2.1 q.1 = .ok q.2 := fun q hq => (eg_dok_c (n := 60) (i := 0) (eg_dok_n (by decide +kernel)) dk_1702_0) q hq
theorem dn_1702 : eg_mok (1702, pg_1702) := eg_mok_i dm_1702
theorem dm_1706 : ∀ q ∈ pg_1706, decode (eg_md 1706).2.1 q.1 = .ok q.2 := fun q hq => (eg_dok_c (n := 60) (i := 0) (eg_dok_n (by decide +kernel)) dk_1706_0) q hq
theorem dn_1706 : eg_mok (1706, pg_1706) := eg_mok_i dm_1706
theorem dm_1710 : ∀ q ∈ pg_1710, decode (eg_md 1710).2.1 q.1 = .ok q.2 := fun q hq => (eg_dok_c (n := 60) (i := 0) (eg_dok_n (by decide +kernel)) dk_1710_0) q hq
theorem dn_1710 : eg_mok (1710, pg_1710) := eg_mok_i dm_1710
theorem dm_1714 : ∀ q ∈ pg_1714, decode (eg_md 1714).2.1 q.1 = .ok q.2 := fun q hq => (eg_dok_c (n := 60) (i := 0) (eg_dok_n (by decide +kernel)) dk_1714_0) q hq
theorem dn_1714 : eg_mok (1714, pg_1714) := eg_mok_i dm_1714
theorem dm_1718 : ∀ q ∈ pg_1718, decode (eg_md 1718).2.1 q.1 = .ok q.2 := fun q hq => (eg_dok_c (n := 60) (i := 0) (eg_dok_n (by decide +kernel)) dk_1718_0) q hq
theorem dn_1718 : eg_mok (1718, pg_1718) := eg_mok_i dm_1718
theorem dm_1722 : ∀ q ∈ pg_1722, decode (eg_md 1722).2.1 q.1 = .ok q.2 := fun q hq => (eg_dok_c (n := 60) (i := 0) (eg_dok_c (n := 60) (i := 60) (eg_dok_n (by decide +kernel)) dk_1722_1) dk_1722_0) q hq
theorem dn_1722 : eg_mok (1722, pg_1722) := eg_mok_i dm_1722
theorem dm_1726 : ∀ q ∈ pg_1726, decode (eg_md 1726).2.1 q.1 = .ok q.2 := fun q hq => (eg_dok_c (n := 60) (i := 0) (eg_dok_n (by decide +kernel)) dk_1726_0) q hq
theorem dn_1726 : eg_mok (1726, pg_1726) := eg_mok_i dm_1726
theorem dm_1730 : ∀ q ∈ pg_1730, decode (eg_md 1730).2.1 q.1 = .ok q.2 := fun q hq => (eg_dok_c (n := 60) (i := 0) (eg_dok_n (by decide +kernel)) dk_1730_0) q hq
theorem dn_1730 : eg_mok (1730, pg_1730) := eg_mok_i dm_1730
theorem dm_1734 : ∀ q ∈ pg_1734, decode (eg_md 1734).2.1 q.1 = .ok q.2 := fun q hq => (eg_dok_c (n := 60) (i := 0) (eg_dok_n (by decide +kernel)) dk_1734_0) q hq
theorem dn_1734 : eg_mok (1734, pg_1734) := eg_mok_i dm_1734
theorem dm_1738 : ∀ q ∈ pg_1738, decode (eg_md 1738).2.1 q.1 = .ok q.2 := fun q hq => (eg_dok_c (n := 60) (i := 0) (eg_dok_n (by decide +kernel)) dk_1738_0) q hq
theorem dn_1738 : eg_mok (1738, pg_1738) := eg_mok_i dm_1738
theorem dm_1742 : ∀ q ∈ pg_1742, decode (eg_md 1742).2.1 q.1 = .ok q.2 := fun q hq => (eg_dok_c (n := 60) (i := 0) (eg_dok_n (by decide +kernel)) dk_1742_0) q hq
theorem dn_1742 : eg_mok (1742, pg_1742) := eg_mok_i dm_1742
theorem dm_1746 : ∀ q ∈ pg_1746, decode (eg_md 1746).2.1 q.1 = .ok q.2 := fun q hq => (eg_dok_c (n := 60) (i := 0) (eg_dok_c (n := 60) (i := 60) (eg_dok_n (by decide +kernel)) dk_1746_1) dk_1746_0) q hq
theorem dn_1746 : eg_mok (1746, pg_1746) := eg_mok_i dm_1746
theorem dm_1750 : ∀ q ∈ pg_1750, decode (eg_md 1750).2.1 q.1 = .ok q.2 := fun q hq => (eg_dok_c (n := 60) (i := 0) (eg_dok_n (by decide +kernel)) dk_1750_0) q hq
theorem dn_1750 : eg_mok (1750, pg_1750) := eg_mok_i dm_1750
theorem dm_1754 : ∀ q ∈ pg_1754, decode (eg_md 1754).2.1 q.1 = .ok q.2 := fun q hq => (eg_dok_c (n := 60) (i := 0) (eg_dok_n (by decide +kernel)) dk_1754_0) q hq
theorem dn_1754 : eg_mok (1754, pg_1754) := eg_mok_i dm_1754
theorem dm_1758 : ∀ q ∈ pg_1758, decode (eg_md 1758).2.1 q.1 = .ok q.2 := fun q hq => (eg_dok_c (n := 60) (i := 0) (eg_dok_n (by decide +kernel)) dk_1758_0) q hq
theorem dn_1758 : eg_mok (1758, pg_1758) := eg_mok_i dm_1758
theorem dm_1762 : ∀ q ∈ pg_1762, decode (eg_md 1762).2.1 q.1 = .ok q.2 := fun q hq => (eg_dok_c (n := 60) (i := 0) (eg_dok_n (by decide +kernel)) dk_1762_0) q hq
theorem dn_1762 : eg_mok (1762, pg_1762) := eg_mok_i dm_1762
theorem dm_1766 : ∀ q ∈ pg_1766, decode (eg_md 1766).2.1 q.1 = .ok q.2 := fun q hq => (eg_dok_c (n := 60) (i := 0) (eg_dok_n (by decide +kernel)) dk_1766_0) q hq
theorem dn_1766 : eg_mok (1766, pg_1766) := eg_mok_i dm_1766
theorem dm_1770 : ∀ q ∈ pg_1770, decode (eg_md 1770).2.1 q.1 = .ok q.2 := fun q hq => (eg_dok_c (n := 60) (i := 0) (eg_dok_n (by decide +kernel)) dk_1770_0) q hq
theorem dn_1770 : eg_mok (1770, pg_1770) := eg_mok_i dm_1770
theorem dm_1774 : ∀ q ∈ pg_1774, decode (eg_md 1774).2.1 q.1 = .ok q.2 := fun q hq => (eg_dok_c (n := 60) (i := 0) (eg_dok_c (n := 60) (i := 60) (eg_dok_n (by decide +kernel)) dk_1774_1) dk_1774_0) q hq
theorem dn_1774 : eg_mok (1774, pg_1774) := eg_mok_i dm_1774
theorem dm_1778 : ∀ q ∈ pg_1778, decode (eg_md 1778).2.1 q.1 = .ok q.2 := fun q hq => (eg_dok_c (n := 60) (i := 0) (eg_dok_n (by decide +kernel)) dk_1778_0) q hq
theorem dn_1778 : eg_mok (1778, pg_1778) := eg_mok_i dm_1778
theorem dm_1782 : ∀ q ∈ pg_1782, decode (eg_md 1782).2.1 q.1 = .ok q.2 := fun q hq => (eg_dok_c (n := 60) (i := 0) (eg_dok_n (by decide +kernel)) dk_1782_0) q hq
theorem dn_1782 : eg_mok (1782, pg_1782) := eg_mok_i dm_1782
theorem dm_1786 : ∀ q ∈ pg_1786, decode (eg_md 1786).2.1 q.1 = .ok q.2 := fun q hq => (eg_dok_c (n := 60) (i := 0) (eg_dok_n (by decide +kernel)) dk_1786_0) q hq
theorem dn_1786 : eg_mok (1786, pg_1786) := eg_mok_i dm_1786
theorem dm_1790 : ∀ q ∈ pg_1790, decode (eg_md 1790).2.1 q.1 = .ok q.2 := fun q hq => (eg_dok_c (n := 60) (i := 0) (eg_dok_n (by decide +kernel)) dk_1790_0) q hq
theorem dn_1790 : eg_mok (1790, pg_1790) := eg_mok_i dm_1790
theorem dm_1794 : ∀ q ∈ pg_1794, decode (eg_md 1794).2.1 q.1 = .ok q.2 := fun q hq => (eg_dok_c (n := 60) (i := 0) (eg_dok_n (by decide +kernel)) dk_1794_0) q hq
theorem dn_1794 : eg_mok (1794, pg_1794) := eg_mok_i dm_1794
theorem dm_1798 : ∀ q ∈ pg_1798, decode (eg_md 1798).2.1 q.1 = .ok q.2 := fun q hq => (eg_dok_c (n := 60) (i := 0) (eg_dok_n (by decide +kernel)) dk_1798_0) q hq
theorem dn_1798 : eg_mok (1798, pg_1798) := eg_mok_i dm_1798
theorem dm_1802 : ∀ q ∈ pg_1802, decode (eg_md 1802).2.1 q.1 = .ok q.2 := fun q hq => (eg_dok_c (n := 60) (i := 0) (eg_dok_n (by decide +kernel)) dk_1802_0) q hq
theorem dn_1802 : eg_mok (1802, pg_1802) := eg_mok_i dm_1802
theorem dm_1806 : ∀ q ∈ pg_1806, decode (eg_md 1806).2.1 q.1 = .ok q.2 := fun q hq => (eg_dok_c (n := 60) (i := 0) (eg_dok_n (by decide +kernel)) dk_1806_0) q hq
theorem dn_1806 : eg_mok (1806, pg_1806) := eg_mok_i dm_1806
theorem dm_1810 : ∀ q ∈ pg_1810, decode (eg_md 1810).2.1 q.1 = .ok q.2 := fun q hq => (eg_dok_c (n := 60) (i := 0) (eg_dok_n (by decide +kernel)) dk_1810_0) q hq
theorem dn_1810 : eg_mok (1810, pg_1810) := eg_mok_i dm_1810
theorem dm_1814 : ∀ q ∈ pg_1814, decode (eg_md 1814).2.1 q.1 = .ok q.2 := fun q hq => (eg_dok_c (n := 60) (i := 0) (eg_dok_n (by decide +kernel)) dk_1814_0) q hq
theorem dn_1814 : eg_mok (1814, pg_1814) := eg_mok_i dm_1814
theorem dm_1818 : ∀ q ∈ pg_1818, decode (eg_md 1818).2.1 q.1 = .ok q.2 := fun q hq => (eg_dok_c (n := 60) (i := 0) (eg_dok_c (n := 60) (i := 60) (eg_dok_n (by decide +kernel)) dk_1818_1) dk_1818_0) q hq
theorem dn_1818 : eg_mok (1818, pg_1818) := eg_mok_i dm_1818
theorem dm_1822 : ∀ q ∈ pg_1822, decode (eg_md 1822).2.1 q.1 = .ok q.2 := fun q hq => (eg_dok_c (n := 60) (i := 0) (eg_dok_n (by decide +kernel)) dk_1822_0) q hq
theorem dn_1822 : eg_mok (1822, pg_1822) := eg_mok_i dm_1822
theorem dm_1826 : ∀ q ∈ pg_1826, decode (eg_md 1826).2.1 q.1 = .ok q.2 := fun q hq => (eg_dok_c (n := 60) (i := 0) (eg_dok_n (by decide +kernel)) dk_1826_0) q hq
theorem dn_1826 : eg_mok (1826, pg_1826) := eg_mok_i dm_1826
theorem dm_1829 : ∀ q ∈ pg_1829, decode (eg_md 1829).2.1 q.1 = .ok q.2 := fun q hq => (eg_dok_c (n := 60) (i := 0) (eg_dok_n (by decide +kernel)) dk_1829_0) q hq
theorem dn_1829 : eg_mok (1829, pg_1829) := eg_mok_i dm_1829
theorem dm_1833 : ∀ q ∈ pg_1833, decode (eg_md 1833).2.1 q.1 = .ok q.2 := fun q hq => (eg_dok_c (n := 60) (i := 0) (eg_dok_n (by decide +kernel)) dk_1833_0) q hq
theorem dn_1833 : eg_mok (1833, pg_1833) := eg_mok_i dm_1833
theorem dm_1837 : ∀ q ∈ pg_1837, decode (eg_md 1837).2.1 q.1 = .ok q.2 := fun q hq => (eg_dok_c (n := 60) (i := 0) (eg_dok_n (by decide +kernel)) dk_1837_0) q hq
theorem dn_1837 : eg_mok (1837, pg_1837) := eg_mok_i dm_1837
theorem dm_1841 : ∀ q ∈ pg_1841, decode (eg_md 1841).2.1 q.1 = .ok q.2 := fun q hq => (eg_dok_c (n := 60) (i := 0) (eg_dok_n (by decide +kernel)) dk_1841_0) q hq
theorem dn_1841 : eg_mok (1841, pg_1841) := eg_mok_i dm_1841
theorem dm_1845 : ∀ q ∈ pg_1845, decode (eg_md 1845).2.1 q.1 = .ok q.2 := fun q hq => (eg_dok_c (n := 60) (i := 0) (eg_dok_n (by decide +kernel)) dk_1845_0) q hq
theorem dn_1845 : eg_mok (1845, pg_1845) := eg_mok_i dm_1845
theorem dm_1849 : ∀ q ∈ pg_1849, decode (eg_md 1849).2.1 q.1 = .ok q.2 := fun q hq => (eg_dok_c (n := 60) (i := 0) (eg_dok_n (by decide +kernel)) dk_1849_0) q hq
theorem dn_1849 : eg_mok (1849, pg_1849) := eg_mok_i dm_1849
theorem dm_1853 : ∀ q ∈ pg_1853, decode (eg_md 1853).2.1 q.1 = .ok q.2 := fun q hq => (eg_dok_c (n := 60) (i := 0) (eg_dok_n (by decide +kernel)) dk_1853_0) q hq
theorem dn_1853 : eg_mok (1853, pg_1853) := eg_mok_i dm_1853
theorem dm_1857 : ∀ q ∈ pg_1857, decode (eg_md 1857).2.1 q.1 = .ok q.2 := fun q hq => (eg_dok_c (n := 60) (i := 0) (eg_dok_c (n := 60) (i := 60) (eg_dok_n (by decide +kernel)) dk_1857_1) dk_1857_0) q hq
theorem dn_1857 : eg_mok (1857, pg_1857) := eg_mok_i dm_1857
theorem dm_1861 : ∀ q ∈ pg_1861, decode (eg_md 1861).2.1 q.1 = .ok q.2 := fun q hq => (eg_dok_c (n := 60) (i := 0) (eg_dok_c (n := 60) (i := 60) (eg_dok_n (by decide +kernel)) dk_1861_1) dk_1861_0) q hq
theorem dn_1861 : eg_mok (1861, pg_1861) := eg_mok_i dm_1861
theorem dm_1865 : ∀ q ∈ pg_1865, decode (eg_md 1865).2.1 q.1 = .ok q.2 := fun q hq => (eg_dok_c (n := 60) (i := 0) (eg_dok_n (by decide +kernel)) dk_1865_0) q hq
theorem dn_1865 : eg_mok (1865, pg_1865) := eg_mok_i dm_1865
theorem dm_1869 : ∀ q ∈ pg_1869, decode (eg_md 1869).2.1 q.1 = .ok q.2 := fun q hq => (eg_dok_c (n := 60) (i := 0) (eg_dok_n (by decide +kernel)) dk_1869_0) q hq
theorem dn_1869 : eg_mok (1869, pg_1869) := eg_mok_i dm_1869
theorem dm_1873 : ∀ q ∈ pg_1873, decode (eg_md 1873).2.1 q.1 = .ok q.2 := fun q hq => (eg_dok_c (n := 60) (i := 0) (eg_dok_n (by decide +kernel)) dk_1873_0) q hq
theorem dn_1873 : eg_mok (1873, pg_1873) := eg_mok_i dm_1873
theorem dm_1876 : ∀ q ∈ pg_1876, decode (eg_md 1876).2.1 q.1 = .ok q.2 := fun q hq => (eg_dok_c (n := 60) (i := 0) (eg_dok_n (by decide +kernel)) dk_1876_0) q hq
theorem dn_1876 : eg_mok (1876, pg_1876) := eg_mok_i dm_1876
theorem dm_1879 : ∀ q ∈ pg_1879, decode (eg_md 1879).2.1 q.1 = .ok q.2 := fun q hq => (eg_dok_c (n := 60) (i := 0) (eg_dok_n (by decide +kernel)) dk_1879_0) q hq
theorem dn_1879 : eg_mok (1879, pg_1879) := eg_mok_i dm_1879
theorem dm_1883 : ∀ q ∈ pg_1883, decode (eg_md 1883).2.1 q.1 = .ok q.2 := fun q hq => (eg_dok_c (n := 60) (i := 0) (eg_dok_n (by decide +kernel)) dk_1883_0) q hq
theorem dn_1883 : eg_mok (1883, pg_1883) := eg_mok_i dm_1883
theorem dm_1887 : ∀ q ∈ pg_1887, decode (eg_md 1887).2.1 q.1 = .ok q.2 := fun q hq => (eg_dok_c (n := 60) (i := 0) (eg_dok_n (by decide +kernel)) dk_1887_0) q hq
theorem dn_1887 : eg_mok (1887, pg_1887) := eg_mok_i dm_1887
theorem dm_1891 : ∀ q ∈ pg_1891, decode (eg_md 1891).2.1 q.1 = .ok q.2 := fun q hq => (eg_dok_c (n := 60) (i := 0) (eg_dok_n (by decide +kernel)) dk_1891_0) q hq
theorem dn_1891 : eg_mok (1891, pg_1891) := eg_mok_i dm_1891
theorem dm_1895 : ∀ q ∈ pg_1895, decode (eg_md 1895).2.1 q.1 = .ok q.2 := fun q hq => (eg_dok_c (n := 60) (i := 0) (eg_dok_n (by decide +kernel)) dk_1895_0) q hq
theorem dn_1895 : eg_mok (1895, pg_1895) := eg_mok_i dm_1895
theorem dm_1899 : ∀ q ∈ pg_1899, decode (eg_md 1899).2.1 q.1 = .ok q.2 := fun q hq => (eg_dok_c (n := 60) (i := 0) (eg_dok_n (by decide +kernel)) dk_1899_0) q hq
theorem dn_1899 : eg_mok (1899, pg_1899) := eg_mok_i dm_1899
theorem dm_1902 : ∀ q ∈ pg_1902, decode (eg_md 1902).2.1 q.1 = .ok q.2 := fun q hq => (eg_dok_c (n := 60) (i := 0) (eg_dok_n (by decide +kernel)) dk_1902_0) q hq
theorem dn_1902 : eg_mok (1902, pg_1902) := eg_mok_i dm_1902
theorem dm_1906 : ∀ q ∈ pg_1906, decode (eg_md 1906).2.1 q.1 = .ok q.2 := fun q hq => (eg_dok_c (n := 60) (i := 0) (eg_dok_n (by decide +kernel)) dk_1906_0) q hq
theorem dn_1906 : eg_mok (1906, pg_1906) := eg_mok_i dm_1906
theorem dm_1910 : ∀ q ∈ pg_1910, decode (eg_md 1910).2.1 q.1 = .ok q.2 := fun q hq => (eg_dok_c (n := 60) (i := 0) (eg_dok_n (by decide +kernel)) dk_1910_0) q hq
theorem dn_1910 : eg_mok (1910, pg_1910) := eg_mok_i dm_1910
theorem dm_1914 : ∀ q ∈ pg_1914, decode (eg_md 1914).2.1 q.1 = .ok q.2 := fun q hq => (eg_dok_c (n := 60) (i := 0) (eg_dok_c (n := 60) (i := 60) (eg_dok_n (by decide +kernel)) dk_1914_1) dk_1914_0) q hq
theorem dn_1914 : eg_mok (1914, pg_1914) := eg_mok_i dm_1914
theorem dm_1918 : ∀ q ∈ pg_1918, decode (eg_md 1918).2.1 q.1 = .ok q.2 := fun q hq => (eg_dok_c (n := 60) (i := 0) (eg_dok_n (by decide +kernel)) dk_1918_0) q hq
theorem dn_1918 : eg_mok (1918, pg_1918) := eg_mok_i dm_1918
theorem dm_1922 : ∀ q ∈ pg_1922, decode (eg_md 1922).2.1 q.1 = .ok q.2 := fun q hq => (eg_dok_c (n := 60) (i := 0) (eg_dok_n (by decide +kernel)) dk_1922_0) q hq
theorem dn_1922 : eg_mok (1922, pg_1922) := eg_mok_i dm_1922
theorem dm_1926 : ∀ q ∈ pg_1926, decode (eg_md 1926).2.1 q.1 = .ok q.2 := fun q hq => (eg_dok_c (n := 60) (i := 0) (eg_dok_c (n := 60) (i := 60) (eg_dok_n (by decide +kernel)) dk_1926_1) dk_1926_0) q hq
theorem dn_1926 : eg_mok (1926, pg_1926) := eg_mok_i dm_1926
theorem dm_1930 : ∀ q ∈ pg_1930, decode (eg_md 1930).2.1 q.1 = .ok q.2 := fun q hq => (eg_dok_c (n := 60) (i := 0) (eg_dok_n (by decide +kernel)) dk_1930_0) q hq
theorem dn_1930 : eg_mok (1930, pg_1930) := eg_mok_i dm_1930
theorem dm_1934 : ∀ q ∈ pg_1934, decode (eg_md 1934).2.1 q.1 = .ok q.2 := fun q hq => (eg_dok_c (n := 60) (i := 0) (eg_dok_n (by decide +kernel)) dk_1934_0) q hq
theorem dn_1934 : eg_mok (1934, pg_1934) := eg_mok_i dm_1934
theorem dm_1938 : ∀ q ∈ pg_1938, decode (eg_md 1938).2.1 q.1 = .ok q.2 := fun q hq => (eg_dok_c (n := 60) (i := 0) (eg_dok_n (by decide +kernel)) dk_1938_0) q hq
theorem dn_1938 : eg_mok (1938, pg_1938) := eg_mok_i dm_1938
theorem dm_1942 : ∀ q ∈ pg_1942, decode (eg_md 1942).2.1 q.1 = .ok q.2 := fun q hq => (eg_dok_c (n := 60) (i := 0) (eg_dok_n (by decide +kernel)) dk_1942_0) q hq
theorem dn_1942 : eg_mok (1942, pg_1942) := eg_mok_i dm_1942
theorem dm_1946 : ∀ q ∈ pg_1946, decode (eg_md 1946).2.1 q.1 = .ok q.2 := fun q hq => (eg_dok_c (n := 60) (i := 0) (eg_dok_n (by decide +kernel)) dk_1946_0) q hq
theorem dn_1946 : eg_mok (1946, pg_1946) := eg_mok_i dm_1946
theorem dm_1950 : ∀ q ∈ pg_1950, decode (eg_md 1950).2.1 q.1 = .ok q.2 := fun q hq => (eg_dok_c (n := 60) (i := 0) (eg_dok_c (n := 60) (i := 60) (eg_dok_c (n := 60) (i := 120) (eg_dok_n (by decide +kernel)) dk_1950_2) dk_1950_1) dk_1950_0) q hq
theorem dn_1950 : eg_mok (1950, pg_1950) := eg_mok_i dm_1950
theorem dm_1954 : ∀ q ∈ pg_1954, decode (eg_md 1954).2.1 q.1 = .ok q.2 := fun q hq => (eg_dok_c (n := 60) (i := 0) (eg_dok_n (by decide +kernel)) dk_1954_0) q hq
theorem dn_1954 : eg_mok (1954, pg_1954) := eg_mok_i dm_1954
theorem dm_1958 : ∀ q ∈ pg_1958, decode (eg_md 1958).2.1 q.1 = .ok q.2 := fun q hq => (eg_dok_c (n := 60) (i := 0) (eg_dok_n (by decide +kernel)) dk_1958_0) q hq
theorem dn_1958 : eg_mok (1958, pg_1958) := eg_mok_i dm_1958
theorem dm_1962 : ∀ q ∈ pg_1962, decode (eg_md 1962).2.1 q.1 = .ok q.2 := fun q hq => (eg_dok_c (n := 60) (i := 0) (eg_dok_n (by decide +kernel)) dk_1962_0) q hq
theorem dn_1962 : eg_mok (1962, pg_1962) := eg_mok_i dm_1962
theorem dm_1966 : ∀ q ∈ pg_1966, decode (eg_md 1966).2.1 q.1 = .ok q.2 := fun q hq => (eg_dok_c (n := 60) (i := 0) (eg_dok_c (n := 60) (i := 60) (eg_dok_n (by decide +kernel)) dk_1966_1) dk_1966_0) q hq
theorem dn_1966 : eg_mok (1966, pg_1966) := eg_mok_i dm_1966
theorem dm_1970 : ∀ q ∈ pg_1970, decode (eg_md 1970).2.1 q.1 = .ok q.2 := fun q hq => (eg_dok_c (n := 60) (i := 0) (eg_dok_n (by decide +kernel)) dk_1970_0) q hq
theorem dn_1970 : eg_mok (1970, pg_1970) := eg_mok_i dm_1970
theorem dm_1974 : ∀ q ∈ pg_1974, decode (eg_md 1974).2.1 q.1 = .ok q.2 := fun q hq => (eg_dok_c (n := 60) (i := 0) (eg_dok_n (by decide +kernel)) dk_1974_0) q hq
theorem dn_1974 : eg_mok (1974, pg_1974) := eg_mok_i dm_1974
theorem dm_1978 : ∀ q ∈ pg_1978, decode (eg_md 1978).2.1 q.1 = .ok q.2 := fun q hq => (eg_dok_c (n := 60) (i := 0) (eg_dok_c (n := 60) (i := 60) (eg_dok_n (by decide +kernel)) dk_1978_1) dk_1978_0) q hq
theorem dn_1978 : eg_mok (1978, pg_1978) := eg_mok_i dm_1978
theorem dm_1982 : ∀ q ∈ pg_1982, decode (eg_md 1982).2.1 q.1 = .ok q.2 := fun q hq => (eg_dok_c (n := 60) (i := 0) (eg_dok_n (by decide +kernel)) dk_1982_0) q hq
theorem dn_1982 : eg_mok (1982, pg_1982) := eg_mok_i dm_1982
theorem dm_1986 : ∀ q ∈ pg_1986, decode (eg_md 1986).2.1 q.1 = .ok q.2 := fun q hq => (eg_dok_c (n := 60) (i := 0) (eg_dok_c (n := 60) (i := 60) (eg_dok_n (by decide +kernel)) dk_1986_1) dk_1986_0) q hq
theorem dn_1986 : eg_mok (1986, pg_1986) := eg_mok_i dm_1986
theorem dm_1990 : ∀ q ∈ pg_1990, decode (eg_md 1990).2.1 q.1 = .ok q.2 := fun q hq => (eg_dok_c (n := 60) (i := 0) (eg_dok_n (by decide +kernel)) dk_1990_0) q hq
theorem dn_1990 : eg_mok (1990, pg_1990) := eg_mok_i dm_1990
theorem dm_1993 : ∀ q ∈ pg_1993, decode (eg_md 1993).2.1 q.1 = .ok q.2 := fun q hq => (eg_dok_c (n := 60) (i := 0) (eg_dok_n (by decide +kernel)) dk_1993_0) q hq
theorem dn_1993 : eg_mok (1993, pg_1993) := eg_mok_i dm_1993
theorem dm_1997 : ∀ q ∈ pg_1997, decode (eg_md 1997).2.1 q.1 = .ok q.2 := fun q hq => (eg_dok_c (n := 60) (i := 0) (eg_dok_n (by decide +kernel)) dk_1997_0) q hq
theorem dn_1997 : eg_mok (1997, pg_1997) := eg_mok_i dm_1997
theorem dm_2001 : ∀ q ∈ pg_2001, decode (eg_md 2001).2.1 q.1 = .ok q.2 := fun q hq => (eg_dok_c (n := 60) (i := 0) (eg_dok_n (by decide +kernel)) dk_2001_0) q hq
theorem dn_2001 : eg_mok (2001, pg_2001) := eg_mok_i dm_2001
theorem dm_2005 : ∀ q ∈ pg_2005, decode (eg_md 2005).2.1 q.1 = .ok q.2 := fun q hq => (eg_dok_c (n := 60) (i := 0) (eg_dok_c (n := 60) (i := 60) (eg_dok_c (n := 60) (i := 120) (eg_dok_n (by decide +kernel)) dk_2005_2) dk_2005_1) dk_2005_0) q hq
theorem dn_2005 : eg_mok (2005, pg_2005) := eg_mok_i dm_2005
theorem dm_2009 : ∀ q ∈ pg_2009, decode (eg_md 2009).2.1 q.1 = .ok q.2 := fun q hq => (eg_dok_c (n := 60) (i := 0) (eg_dok_n (by decide +kernel)) dk_2009_0) q hq
theorem dn_2009 : eg_mok (2009, pg_2009) := eg_mok_i dm_2009
theorem dm_2013 : ∀ q ∈ pg_2013, decode (eg_md 2013).2.1 q.1 = .ok q.2 := fun q hq => (eg_dok_c (n := 60) (i := 0) (eg_dok_n (by decide +kernel)) dk_2013_0) q hq
theorem dn_2013 : eg_mok (2013, pg_2013) := eg_mok_i dm_2013
theorem dm_2016 : ∀ q ∈ pg_2016, decode (eg_md 2016).2.1 q.1 = .ok q.2 := fun q hq => (eg_dok_c (n := 60) (i := 0) (eg_dok_n (by decide +kernel)) dk_2016_0) q hq
theorem dn_2016 : eg_mok (2016, pg_2016) := eg_mok_i dm_2016
theorem dm_2020 : ∀ q ∈ pg_2020, decode (eg_md 2020).2.1 q.1 = .ok q.2 := fun q hq => (eg_dok_c (n := 60) (i := 0) (eg_dok_n (by decide +kernel)) dk_2020_0) q hq
theorem dn_2020 : eg_mok (2020, pg_2020) := eg_mok_i dm_2020
theorem dm_2024 : ∀ q ∈ pg_2024, decode (eg_md 2024).2.1 q.1 = .ok q.2 := fun q hq => (eg_dok_c (n := 60) (i := 0) (eg_dok_n (by decide +kernel)) dk_2024_0) q hq
theorem dn_2024 : eg_mok (2024, pg_2024) := eg_mok_i dm_2024
theorem dm_2028 : ∀ q ∈ pg_2028, decode (eg_md 2028).2.1 q.1 = .ok q.2 := fun q hq => (eg_dok_c (n := 60) (i := 0) (eg_dok_n (by decide +kernel)) dk_2028_0) q hq
theorem dn_2028 : eg_mok (2028, pg_2028) := eg_mok_i dm_2028
theorem dm_2032 : ∀ q ∈ pg_2032, decode (eg_md 2032).2.1 q.1 = .ok q.2 := fun q hq => (eg_dok_c (n := 60) (i := 0) (eg_dok_n (by decide +kernel)) dk_2032_0) q hq
theorem dn_2032 : eg_mok (2032, pg_2032) := eg_mok_i dm_2032
theorem dm_2036 : ∀ q ∈ pg_2036, decode (eg_md 2036).2.1 q.1 = .ok q.2 := fun q hq => (eg_dok_c (n := 60) (i := 0) (eg_dok_n (by decide +kernel)) dk_2036_0) q hq
theorem dn_2036 : eg_mok (2036, pg_2036) := eg_mok_i dm_2036
theorem dm_2040 : ∀ q ∈ pg_2040, decode (eg_md 2040).2.1 q.1 = .ok q.2 := fun q hq => (eg_dok_c (n := 60) (i := 0) (eg_dok_c (n := 60) (i := 60) (eg_dok_n (by decide +kernel)) dk_2040_1) dk_2040_0) q hq
theorem dn_2040 : eg_mok (2040, pg_2040) := eg_mok_i dm_2040
theorem dm_2044 : ∀ q ∈ pg_2044, decode (eg_md 2044).2.1 q.1 = .ok q.2 := fun q hq => (eg_dok_c (n := 60) (i := 0) (eg_dok_n (by decide +kernel)) dk_2044_0) q hq
theorem dn_2044 : eg_mok (2044, pg_2044) := eg_mok_i dm_2044
theorem dm_2049 : ∀ q ∈ pg_2049, decode (eg_md 2049).2.1 q.1 = .ok q.2 := fun q hq => (eg_dok_c (n := 60) (i := 0) (eg_dok_n (by decide +kernel)) dk_2049_0) q hq
theorem dn_2049 : eg_mok (2049, pg_2049) := eg_mok_i dm_2049
theorem dm_2053 : ∀ q ∈ pg_2053, decode (eg_md 2053).2.1 q.1 = .ok q.2 := fun q hq => (eg_dok_c (n := 60) (i := 0) (eg_dok_n (by decide +kernel)) dk_2053_0) q hq
theorem dn_2053 : eg_mok (2053, pg_2053) := eg_mok_i dm_2053
theorem dm_2057 : ∀ q ∈ pg_2057, decode (eg_md 2057).2.1 q.1 = .ok q.2 := fun q hq => (eg_dok_c (n := 60) (i := 0) (eg_dok_c (n := 60) (i := 60) (eg_dok_c (n := 60) (i := 120) (eg_dok_n (by decide +kernel)) dk_2057_2) dk_2057_1) dk_2057_0) q hq
theorem dn_2057 : eg_mok (2057, pg_2057) := eg_mok_i dm_2057
theorem dm_2061 : ∀ q ∈ pg_2061, decode (eg_md 2061).2.1 q.1 = .ok q.2 := fun q hq => (eg_dok_c (n := 60) (i := 0) (eg_dok_c (n := 60) (i := 60) (eg_dok_n (by decide +kernel)) dk_2061_1) dk_2061_0) q hq
theorem dn_2061 : eg_mok (2061, pg_2061) := eg_mok_i dm_2061
theorem dm_2065 : ∀ q ∈ pg_2065, decode (eg_md 2065).2.1 q.1 = .ok q.2 := fun q hq => (eg_dok_c (n := 60) (i := 0) (eg_dok_c (n := 60) (i := 60) (eg_dok_n (by decide +kernel)) dk_2065_1) dk_2065_0) q hq
theorem dn_2065 : eg_mok (2065, pg_2065) := eg_mok_i dm_2065
theorem dm_2069 : ∀ q ∈ pg_2069, decode (eg_md 2069).2.1 q.1 = .ok q.2 := fun q hq => (eg_dok_c (n := 60) (i := 0) (eg_dok_n (by decide +kernel)) dk_2069_0) q hq
theorem dn_2069 : eg_mok (2069, pg_2069) := eg_mok_i dm_2069
theorem dm_2073 : ∀ q ∈ pg_2073, decode (eg_md 2073).2.1 q.1 = .ok q.2 := fun q hq => (eg_dok_c (n := 60) (i := 0) (eg_dok_c (n := 60) (i := 60) (eg_dok_n (by decide +kernel)) dk_2073_1) dk_2073_0) q hq
theorem dn_2073 : eg_mok (2073, pg_2073) := eg_mok_i dm_2073
theorem dm_2077 : ∀ q ∈ pg_2077, decode (eg_md 2077).2.1 q.1 = .ok q.2 := fun q hq => (eg_dok_c (n := 60) (i := 0) (eg_dok_n (by decide +kernel)) dk_2077_0) q hq
theorem dn_2077 : eg_mok (2077, pg_2077) := eg_mok_i dm_2077
theorem dm_2081 : ∀ q ∈ pg_2081, decode (eg_md 2081).2.1 q.1 = .ok q.2 := fun q hq => (eg_dok_c (n := 60) (i := 0) (eg_dok_n (by decide +kernel)) dk_2081_0) q hq
theorem dn_2081 : eg_mok (2081, pg_2081) := eg_mok_i dm_2081
theorem dm_2085 : ∀ q ∈ pg_2085, decode (eg_md 2085).2.1 q.1 = .ok q.2 := fun q hq => (eg_dok_c (n := 60) (i := 0) (eg_dok_n (by decide +kernel)) dk_2085_0) q hq
theorem dn_2085 : eg_mok (2085, pg_2085) := eg_mok_i dm_2085
theorem dm_2089 : ∀ q ∈ pg_2089, decode (eg_md 2089).2.1 q.1 = .ok q.2 := fun q hq => (eg_dok_c (n := 60) (i := 0) (eg_dok_c (n := 60) (i := 60) (eg_dok_n (by decide +kernel)) dk_2089_1) dk_2089_0) q hq
theorem dn_2089 : eg_mok (2089, pg_2089) := eg_mok_i dm_2089
theorem dm_2093 : ∀ q ∈ pg_2093, decode (eg_md 2093).2.1 q.1 = .ok q.2 := fun q hq => (eg_dok_c (n := 60) (i := 0) (eg_dok_c (n := 60) (i := 60) (eg_dok_c (n := 60) (i := 120) (eg_dok_n (by decide +kernel)) dk_2093_2) dk_2093_1) dk_2093_0) q hq
theorem dn_2093 : eg_mok (2093, pg_2093) := eg_mok_i dm_2093
theorem dm_2097 : ∀ q ∈ pg_2097, decode (eg_md 2097).2.1 q.1 = .ok q.2 := fun q hq => (eg_dok_c (n := 60) (i := 0) (eg_dok_c (n := 60) (i := 60) (eg_dok_n (by decide +kernel)) dk_2097_1) dk_2097_0) q hq
theorem dn_2097 : eg_mok (2097, pg_2097) := eg_mok_i dm_2097
theorem dm_2101 : ∀ q ∈ pg_2101, decode (eg_md 2101).2.1 q.1 = .ok q.2 := fun q hq => (eg_dok_c (n := 60) (i := 0) (eg_dok_n (by decide +kernel)) dk_2101_0) q hq
theorem dn_2101 : eg_mok (2101, pg_2101) := eg_mok_i dm_2101
theorem dm_2105 : ∀ q ∈ pg_2105, decode (eg_md 2105).2.1 q.1 = .ok q.2 := fun q hq => (eg_dok_c (n := 60) (i := 0) (eg_dok_c (n := 60) (i := 60) (eg_dok_c (n := 60) (i := 120) (eg_dok_n (by decide +kernel)) dk_2105_2) dk_2105_1) dk_2105_0) q hq
theorem dn_2105 : eg_mok (2105, pg_2105) := eg_mok_i dm_2105
theorem dm_2109 : ∀ q ∈ pg_2109, decode (eg_md 2109).2.1 q.1 = .ok q.2 := fun q hq => (eg_dok_c (n := 60) (i := 0) (eg_dok_c (n := 60) (i := 60) (eg_dok_n (by decide +kernel)) dk_2109_1) dk_2109_0) q hq
theorem dn_2109 : eg_mok (2109, pg_2109) := eg_mok_i dm_2109
theorem dm_2113 : ∀ q ∈ pg_2113, decode (eg_md 2113).2.1 q.1 = .ok q.2 := fun q hq => (eg_dok_c (n := 60) (i := 0) (eg_dok_n (by decide +kernel)) dk_2113_0) q hq
theorem dn_2113 : eg_mok (2113, pg_2113) := eg_mok_i dm_2113
theorem dm_2117 : ∀ q ∈ pg_2117, decode (eg_md 2117).2.1 q.1 = .ok q.2 := fun q hq => (eg_dok_c (n := 60) (i := 0) (eg_dok_n (by decide +kernel)) dk_2117_0) q hq
theorem dn_2117 : eg_mok (2117, pg_2117) := eg_mok_i dm_2117
theorem dm_2121 : ∀ q ∈ pg_2121, decode (eg_md 2121).2.1 q.1 = .ok q.2 := fun q hq => (eg_dok_c (n := 60) (i := 0) (eg_dok_n (by decide +kernel)) dk_2121_0) q hq
theorem dn_2121 : eg_mok (2121, pg_2121) := eg_mok_i dm_2121
theorem dm_9999 : ∀ q ∈ pg_9999, decode (eg_md 9999).2.1 q.1 = .ok q.2 := fun q hq => (eg_dok_c (n := 60) (i := 0) (eg_dok_c (n := 60) (i := 60) (eg_dok_c (n := 60) (i := 120) (eg_dok_c (n := 60) (i := 180) (eg_dok_c (n := 60) (i := 240) (eg_dok_c (n := 60) (i := 300) (eg_dok_c (n := 60) (i := 360) (eg_dok_c (n := 60) (i := 420) (eg_dok_c (n := 60) (i := 480) (eg_dok_c (n := 60) (i := 540) (eg_dok_c (n := 60) (i := 600) (eg_dok_c (n := 60) (i := 660) (eg_dok_c (n := 60) (i := 720) (eg_dok_n (by decide +kernel)) dk_9999_12) dk_9999_11) dk_9999_10) dk_9999_9) dk_9999_8) dk_9999_7) dk_9999_6) dk_9999_5) dk_9999_4) dk_9999_3) dk_9999_2) dk_9999_1) dk_9999_0) q hq
theorem dn_9999 : eg_mok (9999, pg_9999) := eg_mok_i dm_9999
theorem db_0 : ∀ x ∈ ([] : List (Nat × eg_W)), eg_mok x := fun _ h => nomatch h
theorem db_1 : ∀ x ∈ ([] : List (Nat × eg_W)), eg_mok x := fun _ h => nomatch h
theorem db_2 : ∀ x ∈ [((147, pg_147) : Nat × eg_W), ((155, pg_155) : Nat × eg_W), ((172, pg_172) : Nat × eg_W), ((178, pg_178) : Nat × eg_W), ((182, pg_182) : Nat × eg_W), ((188, pg_188) : Nat × eg_W)], eg_mok x := List.forall_mem_cons.mpr ⟨dn_147, List.forall_mem_cons.mpr ⟨dn_155, List.forall_mem_cons.mpr ⟨dn_172, List.forall_mem_cons.mpr ⟨dn_178, List.forall_mem_cons.mpr ⟨dn_182, List.forall_mem_cons.mpr ⟨dn_188, fun _ h => nomatch h⟩⟩⟩⟩⟩⟩
theorem db_3 : ∀ x ∈ [((192, pg_192) : Nat × eg_W), ((195, pg_195) : Nat × eg_W), ((198, pg_198) : Nat × eg_W), ((203, pg_203) : Nat × eg_W), ((225, pg_225) : Nat × eg_W)], eg_mok x := List.forall_mem_cons.mpr ⟨dn_192, List.forall_mem_cons.mpr ⟨dn_195, List.forall_mem_cons.mpr ⟨dn_198, List.forall_mem_cons.mpr ⟨dn_203, List.forall_mem_cons.mpr ⟨dn_225, fun _ h => nomatch h⟩⟩⟩⟩⟩
theorem db_4 : ∀ x ∈ [((275, pg_275) : Nat × eg_W)], eg_mok x := List.forall_mem_cons.mpr ⟨dn_275, fun _ h => nomatch h⟩
theorem db_5 : ∀ x ∈ ([] : List (Nat × eg_W)), eg_mok x := fun _ h => nomatch h
theorem db_6 : ∀ x ∈ [((397, pg_397) : Nat × eg_W), ((438, pg_438) : Nat × eg_W)], eg_mok x := List.forall_mem_cons.mpr ⟨dn_397, List.forall_mem_cons.mpr ⟨dn_438, fun _ h => nomatch h⟩⟩
theorem db_7 : ∀ x ∈ [((487, pg_487) : Nat × eg_W), ((506, pg_506) : Nat × eg_W)], eg_mok x := List.forall_mem_cons.mpr ⟨dn_487, List.forall_mem_cons.mpr ⟨dn_506, fun _ h => nomatch h⟩⟩
theorem db_8 : ∀ x ∈ [((543, pg_543) : Nat × eg_W)], eg_mok x := List.forall_mem_cons.mpr ⟨dn_543, fun _ h => nomatch h⟩
theorem db_9 : ∀ x ∈ [((580, pg_580) : Nat × eg_W), ((602, pg_602) : Nat × eg_W)], eg_mok x := List.forall_mem_cons.mpr ⟨dn_580, List.forall_mem_cons.mpr ⟨dn_602, fun _ h => nomatch h⟩⟩
theorem db_10 : ∀ x ∈ [((676, pg_676) : Nat × eg_W), ((680, pg_680) : Nat × eg_W), ((684, pg_684) : Nat × eg_W), ((688, pg_688) : Nat × eg_W), ((692, pg_692) : Nat × eg_W), ((699, pg_699) : Nat × eg_W), ((702, pg_702) : Nat × eg_W)], eg_mok x := List.forall_mem_cons.mpr ⟨dn_676, List.forall_mem_cons.mpr ⟨dn_680, List.forall_mem_cons.mpr ⟨dn_684, List.forall_mem_cons.mpr ⟨dn_688, List.forall_mem_cons.mpr ⟨dn_692, List.forall_mem_cons.mpr ⟨dn_699, List.forall_mem_cons.mpr ⟨dn_702, fun _ h => nomatch h⟩⟩⟩⟩⟩⟩⟩
theorem db_11 : ∀ x ∈ [((705, pg_705) : Nat × eg_W), ((709, pg_709) : Nat × eg_W), ((714, pg_714) : Nat × eg_W), ((718, pg_718) : Nat × eg_W), ((721, pg_721) : Nat × eg_W), ((724, pg_724) : Nat × eg_W), ((728, pg_728) : Nat × eg_W), ((732, pg_732) : Nat × eg_W), ((736, pg_736) : Nat × eg_W), ((740, pg_740) : Nat × eg_W), ((744, pg_744) : Nat × eg_W), ((748, pg_748) : Nat × eg_W), ((752, pg_752) : Nat × eg_W), ((758, pg_758) : Nat × eg_W), ((762, pg_762) : Nat × eg_W), ((766, pg_766) : Nat × eg_W)], eg_mok x := List.forall_mem_cons.mpr ⟨dn_705, List.forall_mem_cons.mpr ⟨dn_709, List.forall_mem_cons.mpr ⟨dn_714, List.forall_mem_cons.mpr ⟨dn_718, List.forall_mem_cons.mpr ⟨dn_721, List.forall_mem_cons.mpr ⟨dn_724, List.forall_mem_cons.mpr ⟨dn_728, List.forall_mem_cons.mpr ⟨dn_732, List.forall_mem_cons.mpr ⟨dn_736, List.forall_mem_cons.mpr ⟨dn_740, List.forall_mem_cons.mpr ⟨dn_744, List.forall_mem_cons.mpr ⟨dn_748, List.forall_mem_cons.mpr ⟨dn_752, List.forall_mem_cons.mpr ⟨dn_758, List.forall_mem_cons.mpr ⟨dn_762, List.forall_mem_cons.mpr ⟨dn_766, fun _ h => nomatch h⟩⟩⟩⟩⟩⟩⟩⟩⟩⟩⟩⟩⟩⟩⟩⟩
theorem db_12 : ∀ x ∈ [((770, pg_770) : Nat × eg_W), ((774, pg_774) : Nat × eg_W), ((778, pg_778) : Nat × eg_W), ((782, pg_782) : Nat × eg_W), ((786, pg_786) : Nat × eg_W), ((789, pg_789) : Nat × eg_W), ((793, pg_793) : Nat × eg_W), ((797, pg_797) : Nat × eg_W), ((801, pg_801) : Nat × eg_W), ((807, pg_807) : Nat × eg_W), ((811, pg_811) : Nat × eg_W), ((815, pg_815) : Nat × eg_W), ((819, pg_819) : Nat × eg_W), ((823, pg_823) : Nat × eg_W), ((827, pg_827) : Nat × eg_W), ((831, pg_831) : Nat × eg_W)], eg_mok x := List.forall_mem_cons.mpr ⟨dn_770, List.forall_mem_cons.mpr ⟨dn_774, List.forall_mem_cons.mpr ⟨dn_778, List.forall_mem_cons.mpr ⟨dn_782, List.forall_mem_cons.mpr ⟨dn_786, List.forall_mem_cons.mpr ⟨dn_789, List.forall_mem_cons.mpr ⟨dn_793, List.forall_mem_cons.mpr ⟨dn_797, List.forall_mem_cons.mpr ⟨dn_801, List.forall_mem_cons.mpr ⟨dn_807, List.forall_mem_cons.mpr ⟨dn_811, List.forall_mem_cons.mpr ⟨dn_815, List.forall_mem_cons.mpr ⟨dn_819, List.forall_mem_cons.mpr ⟨dn_823, List.forall_mem_cons.mpr ⟨dn_827, List.forall_mem_cons.mpr ⟨dn_831, fun _ h => nomatch h⟩⟩⟩⟩⟩⟩⟩⟩⟩⟩⟩⟩⟩⟩⟩⟩
theorem db_13 : ∀ x ∈ [((835, pg_835) : Nat × eg_W), ((839, pg_839) : Nat × eg_W), ((843, pg_843) : Nat × eg_W), ((847, pg_847) : Nat × eg_W), ((851, pg_851) : Nat × eg_W), ((855, pg_855) : Nat × eg_W), ((859, pg_859) : Nat × eg_W), ((863, pg_863) : Nat × eg_W), ((867, pg_867) : Nat × eg_W), ((871, pg_871) : Nat × eg_W), ((876, pg_876) : Nat × eg_W), ((880, pg_880) : Nat × eg_W), ((883, pg_883) : Nat × eg_W), ((890, pg_890) : Nat × eg_W), ((895, pg_895) : Nat × eg_W)], eg_mok x := List.forall_mem_cons.mpr ⟨dn_835, List.forall_mem_cons.mpr ⟨dn_839, List.forall_mem_cons.mpr ⟨dn_843, List.forall_mem_cons.mpr ⟨dn_847, List.forall_mem_cons.mpr ⟨dn_851, List.forall_mem_cons.mpr ⟨dn_855, List.forall_mem_cons.mpr ⟨dn_859, List.forall_mem_cons.mpr ⟨dn_863, List.forall_mem_cons.mpr ⟨dn_867, List.forall_mem_cons.mpr ⟨dn_871, List.forall_mem_cons.mpr ⟨dn_876, List.forall_mem_cons.mpr ⟨dn_880, List.forall_mem_cons.mpr ⟨dn_883, List.forall_mem_cons.mpr ⟨dn_890, List.forall_mem_cons.mpr ⟨dn_895, fun _ h => nomatch h⟩⟩⟩⟩⟩⟩⟩⟩⟩⟩⟩⟩⟩⟩⟩
theorem db_14 : ∀ x ∈ [((899, pg_899) : Nat × eg_W), ((903, pg_903) : Nat × eg_W), ((907, pg_907) : Nat × eg_W), ((911, pg_911) : Nat × eg_W), ((915, pg_915) : Nat × eg_W), ((919, pg_919) : Nat × eg_W), ((924, pg_924) : Nat × eg_W), ((928, pg_928) : Nat × eg_W), ((932, pg_932) : Nat × eg_W), ((937, pg_937) : Nat × eg_W), ((942, pg_942) : Nat × eg_W), ((946, pg_946) : Nat × eg_W), ((950, pg_950) : Nat × eg_W), ((954, pg_954) : Nat × eg_W), ((958, pg_958) : Nat × eg_W)], eg_mok x := List.forall_mem_cons.mpr ⟨dn_899, List.forall_mem_cons.mpr ⟨dn_903, List.forall_mem_cons.mpr ⟨dn_907, List.forall_mem_cons.mpr ⟨dn_911, List.forall_mem_cons.mpr ⟨dn_915, List.forall_mem_cons.mpr ⟨dn_919, List.forall_mem_cons.mpr ⟨dn_924, List.forall_mem_cons.mpr ⟨dn_928, List.forall_mem_cons.mpr ⟨dn_932, List.forall_mem_cons.mpr ⟨dn_937, List.forall_mem_cons.mpr ⟨dn_942, List.forall_mem_cons.mpr ⟨dn_946, List.forall_mem_cons.mpr ⟨dn_950, List.forall_mem_cons.mpr ⟨dn_954, List.forall_mem_cons.mpr ⟨dn_958, fun _ h => nomatch h⟩⟩⟩⟩⟩⟩⟩⟩⟩⟩⟩⟩⟩⟩⟩
theorem db_15 : ∀ x ∈ [((962, pg_962) : Nat × eg_W), ((967, pg_967) : Nat × eg_W), ((971, pg_971) : Nat × eg_W), ((975, pg_975) : Nat × eg_W), ((979, pg_979) : Nat × eg_W), ((983, pg_983) : Nat × eg_W), ((987, pg_987) : Nat × eg_W), ((991, pg_991) : Nat × eg_W), ((995, pg_995) : Nat × eg_W), ((999, pg_999) : Nat × eg_W), ((1003, pg_1003) : Nat × eg_W), ((1009, pg_1009) : Nat × eg_W), ((1013, pg_1013) : Nat × eg_W), ((1019, pg_1019) : Nat × eg_W), ((1023, pg_1023) : Nat × eg_W)], eg_mok x := List.forall_mem_cons.mpr ⟨dn_962, List.forall_mem_cons.mpr ⟨dn_967, List.forall_mem_cons.mpr ⟨dn_971, List.forall_mem_cons.mpr ⟨dn_975, List.forall_mem_cons.mpr ⟨dn_979, List.forall_mem_cons.mpr ⟨dn_983, List.forall_mem_cons.mpr ⟨dn_987, List.forall_mem_cons.mpr ⟨dn_991, List.forall_mem_cons.mpr ⟨dn_995, List.forall_mem_cons.mpr ⟨dn_999, List.forall_mem_cons.mpr ⟨dn_1003, List.forall_mem_cons.mpr ⟨dn_1009, List.forall_mem_cons.mpr ⟨dn_1013, List.forall_mem_cons.mpr ⟨dn_1019, List.forall_mem_cons.mpr ⟨dn_1023, fun _ h => nomatch h⟩⟩⟩⟩⟩⟩⟩⟩⟩⟩⟩⟩⟩⟩⟩
theorem db_16 : ∀ x ∈ [((1027, pg_1027) : Nat × eg_W), ((1031, pg_1031) : Nat × eg_W), ((1035, pg_1035) : Nat × eg_W), ((1040, pg_1040) : Nat × eg_W), ((1044, pg_1044) : Nat × eg_W), ((1050, pg_1050) : Nat × eg_W), ((1054, pg_1054) : Nat × eg_W), ((1058, pg_1058) : Nat × eg_W), ((1062, pg_1062) : Nat × eg_W), ((1066, pg_1066) : Nat × eg_W), ((1073, pg_1073) : Nat × eg_W), ((1077, pg_1077) : Nat × eg_W), ((1081, pg_1081) : Nat × eg_W), ((1085, pg_1085) : Nat × eg_W)], eg_mok x := List.forall_mem_cons.mpr ⟨dn_1027, List.forall_mem_cons.mpr ⟨dn_1031, List.forall_mem_cons.mpr ⟨dn_1035, List.forall_mem_cons.mpr ⟨dn_1040, List.forall_mem_cons.mpr ⟨dn_1044, List.forall_mem_cons.mpr ⟨dn_1050, List.forall_mem_cons.mpr ⟨dn_1054, List.forall_mem_cons.mpr ⟨dn_1058, List.forall_mem_cons.mpr ⟨dn_1062, List.forall_mem_cons.mpr ⟨dn_1066, List.forall_mem_cons.mpr ⟨dn_1073, List.forall_mem_cons.mpr ⟨dn_1077, List.forall_mem_cons.mpr ⟨dn_1081, List.forall_mem_cons.mpr ⟨dn_1085, fun _ h => nomatch h⟩⟩⟩⟩⟩⟩⟩⟩⟩⟩⟩⟩⟩⟩
theorem db_17 : ∀ x ∈ [((1089, pg_1089) : Nat × eg_W), ((1093, pg_1093) : Nat × eg_W), ((1097, pg_1097) : Nat × eg_W), ((1101, pg_1101) : Nat × eg_W), ((1105, pg_1105) : Nat × eg_W), ((1109, pg_1109) : Nat × eg_W), ((1113, pg_1113) : Nat × eg_W), ((1117, pg_1117) : Nat × eg_W), ((1121, pg_1121) : Nat × eg_W), ((1125, pg_1125) : Nat × eg_W), ((1129, pg_1129) : Nat × eg_W), ((1132, pg_1132) : Nat × eg_W), ((1136, pg_1136) : Nat × eg_W), ((1140, pg_1140) : Nat × eg_W), ((1147, pg_1147) : Nat × eg_W), ((1151, pg_1151) : Nat × eg_W)], eg_mok x := List.forall_mem_cons.mpr ⟨dn_1089, List.forall_mem_cons.mpr ⟨dn_1093, List.forall_mem_cons.mpr ⟨dn_1097, List.forall_mem_cons.mpr ⟨dn_1101, List.forall_mem_cons.mpr ⟨dn_1105, List.forall_mem_cons.mpr ⟨dn_1109, List.forall_mem_cons.mpr ⟨dn_1113, List.forall_mem_cons.mpr ⟨dn_1117, List.forall_mem_cons.mpr ⟨dn_1121, List.forall_mem_cons.mpr ⟨dn_1125, List.forall_mem_cons.mpr ⟨dn_1129, List.forall_mem_cons.mpr ⟨dn_1132, List.forall_mem_cons.mpr ⟨dn_1136, List.forall_mem_cons.mpr ⟨dn_1140, List.forall_mem_cons.mpr ⟨dn_1147, List.forall_mem_cons.mpr ⟨dn_1151, fun _ h => nomatch h⟩⟩⟩⟩⟩⟩⟩⟩⟩⟩⟩⟩⟩⟩⟩⟩
theorem db_18 : ∀ x ∈ [((1156, pg_1156) : Nat × eg_W), ((1160, pg_1160) : Nat × eg_W), ((1164, pg_1164) : Nat × eg_W), ((1168, pg_1168) : Nat × eg_W), ((1172, pg_1172) : Nat × eg_W), ((1176, pg_1176) : Nat × eg_W), ((1182, pg_1182) : Nat × eg_W), ((1186, pg_1186) : Nat × eg_W), ((1192, pg_1192) : Nat × eg_W), ((1196, pg_1196) : Nat × eg_W), ((1200, pg_1200) : Nat × eg_W), ((1205, pg_1205) : Nat × eg_W), ((1209, pg_1209) : Nat × eg_W)], eg_mok x := List.forall_mem_cons.mpr ⟨dn_1156, List.forall_mem_cons.mpr ⟨dn_1160, List.forall_mem_cons.mpr ⟨dn_1164, List.forall_mem_cons.mpr ⟨dn_1168, List.forall_mem_cons.mpr ⟨dn_1172, List.forall_mem_cons.mpr ⟨dn_1176, List.forall_mem_cons.mpr ⟨dn_1182, List.forall_mem_cons.mpr ⟨dn_1186, List.forall_mem_cons.mpr ⟨dn_1192, List.forall_mem_cons.mpr ⟨dn_1196, List.forall_mem_cons.mpr ⟨dn_1200, List.forall_mem_cons.mpr ⟨dn_1205, List.forall_mem_cons.mpr ⟨dn_1209, fun _ h => nomatch h⟩⟩⟩⟩⟩⟩⟩⟩⟩⟩⟩⟩⟩
theorem db_19 : ∀ x ∈ [((1216, pg_1216) : Nat × eg_W), ((1221, pg_1221) : Nat × eg_W), ((1226, pg_1226) : Nat × eg_W), ((1234, pg_1234) : Nat × eg_W), ((1238, pg_1238) : Nat × eg_W), ((1242, pg_1242) : Nat × eg_W), ((1246, pg_1246) : Nat × eg_W), ((1252, pg_1252) : Nat × eg_W), ((1256, pg_1256) : Nat × eg_W), ((1260, pg_1260) : Nat × eg_W), ((1263, pg_1263) : Nat × eg_W), ((1268, pg_1268) : Nat × eg_W), ((1272, pg_1272) : Nat × eg_W), ((1276, pg_1276) : Nat × eg_W)], eg_mok x := List.forall_mem_cons.mpr ⟨dn_1216, List.forall_mem_cons.mpr ⟨dn_1221, List.forall_mem_cons.mpr ⟨dn_1226, List.forall_mem_cons.mpr ⟨dn_1234, List.forall_mem_cons.mpr ⟨dn_1238, List.forall_mem_cons.mpr ⟨dn_1242, List.forall_mem_cons.mpr ⟨dn_1246, List.forall_mem_cons.mpr ⟨dn_1252, List.forall_mem_cons.mpr ⟨dn_1256, List.forall_mem_cons.mpr ⟨dn_1260, List.forall_mem_cons.mpr ⟨dn_1263, List.forall_mem_cons.mpr ⟨dn_1268, List.forall_mem_cons.mpr ⟨dn_1272, List.forall_mem_cons.mpr ⟨dn_1276, fun _ h => nomatch h⟩⟩⟩⟩⟩⟩⟩⟩⟩⟩⟩⟩⟩⟩
theorem db_20 : ∀ x ∈ [((1280, pg_1280) : Nat × eg_W), ((1287, pg_1287) : Nat × eg_W), ((1293, pg_1293) : Nat × eg_W), ((1297, pg_1297) : Nat × eg_W), ((1301, pg_1301) : Nat × eg_W), ((1305, pg_1305) : Nat × eg_W), ((1309, pg_1309) : Nat × eg_W), ((1313, pg_1313) : Nat × eg_W), ((1317, pg_1317) : Nat × eg_W), ((1321, pg_1321) : Nat × eg_W), ((1326, pg_1326) : Nat × eg_W), ((1330, pg_1330) : Nat × eg_W), ((1335, pg_1335) : Nat × eg_W), ((1339, pg_1339) : Nat × eg_W), ((1343, pg_1343) : Nat × eg_W)], eg_mok x := List.forall_mem_cons.mpr ⟨dn_1280, List.forall_mem_cons.mpr ⟨dn_1287, List.forall_mem_cons.mpr ⟨dn_1293, List.forall_mem_cons.mpr ⟨dn_1297, List.forall_mem_cons.mpr ⟨dn_1301, List.forall_mem_cons.mpr ⟨dn_1305, List.forall_mem_cons.mpr ⟨dn_1309, List.forall_mem_cons.mpr ⟨dn_1313, List.forall_mem_cons.mpr ⟨dn_1317, List.forall_mem_cons.mpr ⟨dn_1321, List.forall_mem_cons.mpr ⟨dn_1326, List.forall_mem_cons.mpr ⟨dn_1330, List.forall_mem_cons.mpr ⟨dn_1335, List.forall_mem_cons.mpr ⟨dn_1339, List.forall_mem_cons.mpr ⟨dn_1343, fun _ h => nomatch h⟩⟩⟩⟩⟩⟩⟩⟩⟩⟩⟩⟩⟩⟩⟩
theorem db_21 : ∀ x ∈ [((1346, pg_1346) : Nat × eg_W), ((1351, pg_1351) : Nat × eg_W), ((1355, pg_1355) : Nat × eg_W), ((1359, pg_1359) : Nat × eg_W), ((1367, pg_1367) : Nat × eg_W)], eg_mok x := List.forall_mem_cons.mpr ⟨dn_1346, List.forall_mem_cons.mpr ⟨dn_1351, List.forall_mem_cons.mpr ⟨dn_1355, List.forall_mem_cons.mpr ⟨dn_1359, List.forall_mem_cons.mpr ⟨dn_1367, fun _ h => nomatch h⟩⟩⟩⟩⟩
theorem db_22 : ∀ x ∈ [((1436, pg_1436) : Nat × eg_W), ((1442, pg_1442) : Nat × eg_W), ((1447, pg_1447) : Nat × eg_W), ((1451, pg_1451) : Nat × eg_W), ((1455, pg_1455) : Nat × eg_W)], eg_mok x := List.forall_mem_cons.mpr ⟨dn_1436, List.forall_mem_cons.mpr ⟨dn_1442, List.forall_mem_cons.mpr ⟨dn_1447, List.forall_mem_cons.mpr ⟨dn_1451, List.forall_mem_cons.mpr ⟨dn_1455, fun _ h => nomatch h⟩⟩⟩⟩⟩
theorem db_23 : ∀ x ∈ [((1483, pg_1483) : Nat × eg_W)], eg_mok x := List.forall_mem_cons.mpr ⟨dn_1483, fun _ h => nomatch h⟩
theorem db_24 : ∀ x ∈ ([] : List (Nat × eg_W)), eg_mok x := fun _ h => nomatch h
theorem db_25 : ∀ x ∈ [((1650, pg_1650) : Nat × eg_W), ((1654, pg_1654) : Nat × eg_W), ((1658, pg_1658) : Nat × eg_W), ((1662, pg_1662) : Nat × eg_W)], eg_mok x := List.forall_mem_cons.mpr ⟨dn_1650, List.forall_mem_cons.mpr ⟨dn_1654, List.forall_mem_cons.mpr ⟨dn_1658, List.forall_mem_cons.mpr ⟨dn_1662, fun _ h => nomatch h⟩⟩⟩⟩
theorem db_26 : ∀ x ∈ [((1665, pg_1665) : Nat × eg_W), ((1668, pg_1668) : Nat × eg_W), ((1672, pg_1672) : Nat × eg_W), ((1676, pg_1676) : Nat × eg_W), ((1680, pg_1680) : Nat × eg_W), ((1683, pg_1683) : Nat × eg_W), ((1687, pg_1687) : Nat × eg_W), ((1691, pg_1691) : Nat × eg_W), ((1695, pg_1695) : Nat × eg_W), ((1698, pg_1698) : Nat × eg_W), ((1702, pg_1702) : Nat × eg_W), ((1706, pg_1706) : Nat × eg_W), ((1710, pg_1710) : Nat × eg_W), ((1714, pg_1714) : Nat × eg_W), ((1718, pg_1718) : Nat × eg_W), ((1722, pg_1722) : Nat × eg_W), ((1726, pg_1726) : Nat × eg_W)], eg_mok x := List.forall_mem_cons.mpr ⟨dn_1665, List.forall_mem_cons.mpr ⟨dn_1668, List.forall_mem_cons.mpr ⟨dn_1672, List.forall_mem_cons.mpr ⟨dn_1676, List.forall_mem_cons.mpr ⟨dn_1680, List.forall_mem_cons.mpr ⟨dn_1683, List.forall_mem_cons.mpr ⟨dn_1687, List.forall_mem_cons.mpr ⟨dn_1691, List.forall_mem_cons.mpr ⟨dn_1695, List.forall_mem_cons.mpr ⟨dn_1698, List.forall_mem_cons.mpr ⟨dn_1702, List.forall_mem_cons.mpr ⟨dn_1706, List.forall_mem_cons.mpr ⟨dn_1710, List.forall_mem_cons.mpr ⟨dn_1714, List.forall_mem_cons.mpr ⟨dn_1718, List.forall_mem_cons.mpr ⟨dn_1722, List.forall_mem_cons.mpr ⟨dn_1726, fun _ h => nomatch h⟩⟩⟩⟩⟩⟩⟩⟩⟩⟩⟩⟩⟩⟩⟩⟩⟩
theorem db_27 : ∀ x ∈ [((1730, pg_1730) : Nat × eg_W), ((1734, pg_1734) : Nat × eg_W), ((1738, pg_1738) : Nat × eg_W), ((1742, pg_1742) : Nat × eg_W), ((1746, pg_1746) : Nat × eg_W), ((1750, pg_1750) : Nat × eg_W), ((1754, pg_1754) : Nat × eg_W), ((1758, pg_1758) : Nat × eg_W), ((1762, pg_1762) : Nat × eg_W), ((1766, pg_1766) : Nat × eg_W), ((1770, pg_1770) : Nat × eg_W), ((1774, pg_1774) : Nat × eg_W), ((1778, pg_1778) : Nat × eg_W), ((1782, pg_1782) : Nat × eg_W), ((1786, pg_1786) : Nat × eg_W), ((1790, pg_1790) : Nat × eg_W)], eg_mok x := List.forall_mem_cons.mpr ⟨dn_1730, List.forall_mem_cons.mpr ⟨dn_1734, List.forall_mem_cons.mpr ⟨dn_1738, List.forall_mem_cons.mpr ⟨dn_1742, List.forall_mem_cons.mpr ⟨dn_1746, List.forall_mem_cons.mpr ⟨dn_1750, List.forall_mem_cons.mpr ⟨dn_1754, List.forall_mem_cons.mpr ⟨dn_1758, List.forall_mem_cons.mpr ⟨dn_1762, List.forall_mem_cons.mpr ⟨dn_1766, List.forall_mem_cons.mpr ⟨dn_1770, List.forall_mem_cons.mpr ⟨dn_1774, List.forall_mem_cons.mpr ⟨dn_1778, List.forall_mem_cons.mpr ⟨dn_1782, List.forall_mem_cons.mpr ⟨dn_1786, List.forall_mem_cons.mpr ⟨dn_1790, fun _ h => nomatch h⟩⟩⟩⟩⟩⟩⟩⟩⟩⟩⟩⟩⟩⟩⟩⟩
theorem db_28 : ∀ x ∈ [((1794, pg_1794) : Nat × eg_W), ((1798, pg_1798) : Nat × eg_W), ((1802, pg_1802) : Nat × eg_W), ((1806, pg_1806) : Nat × eg_W), ((1810, pg_1810) : Nat × eg_W), ((1814, pg_1814) : Nat × eg_W), ((1818, pg_1818) : Nat × eg_W), ((1822, pg_1822) : Nat × eg_W), ((1826, pg_1826) : Nat × eg_W), ((1829, pg_1829) : Nat × eg_W), ((1833, pg_1833) : Nat × eg_W), ((1837, pg_1837) : Nat × eg_W), ((1841, pg_1841) : Nat × eg_W), ((1845, pg_1845) : Nat × eg_W), ((1849, pg_1849) : Nat × eg_W), ((1853, pg_1853) : Nat × eg_W)], eg_mok x := List.forall_mem_cons.mpr ⟨dn_1794, List.forall_mem_cons.mpr ⟨dn_1798, List.forall_mem_cons.mpr ⟨dn_1802, List.forall_mem_cons.mpr ⟨dn_1806, List.forall_mem_cons.mpr ⟨dn_1810, List.forall_mem_cons.mpr ⟨dn_1814, List.forall_mem_cons.mpr ⟨dn_1818, List.forall_mem_cons.mpr ⟨dn_1822, List.forall_mem_cons.mpr ⟨dn_1826, List.forall_mem_cons.mpr ⟨dn_1829, List.forall_mem_cons.mpr ⟨dn_1833, List.forall_mem_cons.mpr ⟨dn_1837, List.forall_mem_cons.mpr ⟨dn_1841, List.forall_mem_cons.mpr ⟨dn_1845, List.forall_mem_cons.mpr ⟨dn_1849, List.forall_mem_cons.mpr ⟨dn_1853, fun _ h => nomatch h⟩⟩⟩⟩⟩⟩⟩⟩⟩⟩⟩⟩⟩⟩⟩⟩
theorem db_29 : ∀ x ∈ [((1857, pg_1857) : Nat × eg_W), ((1861, pg_1861) : Nat × eg_W), ((1865, pg_1865) : Nat × eg_W), ((1869, pg_1869) : Nat × eg_W), ((1873, pg_1873) : Nat × eg_W), ((1876, pg_1876) : Nat × eg_W), ((1879, pg_1879) : Nat × eg_W), ((1883, pg_1883) : Nat × eg_W), ((1887, pg_1887) : Nat × eg_W), ((1891, pg_1891) : Nat × eg_W), ((1895, pg_1895) : Nat × eg_W), ((1899, pg_1899) : Nat × eg_W), ((1902, pg_1902) : Nat × eg_W), ((1906, pg_1906) : Nat × eg_W), ((1910, pg_1910) : Nat × eg_W), ((1914, pg_1914) : Nat × eg_W), ((1918, pg_1918) : Nat × eg_W)], eg_mok x := List.forall_mem_cons.mpr ⟨dn_1857, List.forall_mem_cons.mpr ⟨dn_1861, List.forall_mem_cons.mpr ⟨dn_1865, List.forall_mem_cons.mpr ⟨dn_1869, List.forall_mem_cons.mpr ⟨dn_1873, List.forall_mem_cons.mpr ⟨dn_1876, List.forall_mem_cons.mpr ⟨dn_1879, List.forall_mem_cons.mpr ⟨dn_1883, List.forall_mem_cons.mpr ⟨dn_1887, List.forall_mem_cons.mpr ⟨dn_1891, List.forall_mem_cons.mpr ⟨dn_1895, List.forall_mem_cons.mpr ⟨dn_1899, List.forall_mem_cons.mpr ⟨dn_1902, List.forall_mem_cons.mpr ⟨dn_1906, List.forall_mem_cons.mpr ⟨dn_1910, List.forall_mem_cons.mpr ⟨dn_1914, List.forall_mem_cons.mpr ⟨dn_1918, fun _ h => nomatch h⟩⟩⟩⟩⟩⟩⟩⟩⟩⟩⟩⟩⟩⟩⟩⟩⟩
theorem db_30 : ∀ x ∈ [((1922, pg_1922) : Nat × eg_W), ((1926, pg_1926) : Nat × eg_W), ((1930, pg_1930) : Nat × eg_W), ((1934, pg_1934) : Nat × eg_W), ((1938, pg_1938) : Nat × eg_W), ((1942, pg_1942) : Nat × eg_W), ((1946, pg_1946) : Nat × eg_W), ((1950, pg_1950) : Nat × eg_W), ((1954, pg_1954) : Nat × eg_W), ((1958, pg_1958) : Nat × eg_W), ((1962, pg_1962) : Nat × eg_W), ((1966, pg_1966) : Nat × eg_W), ((1970, pg_1970) : Nat × eg_W), ((1974, pg_1974) : Nat × eg_W), ((1978, pg_1978) : Nat × eg_W), ((1982, pg_1982) : Nat × eg_W)], eg_mok x := List.forall_mem_cons.mpr ⟨dn_1922, List.forall_mem_cons.mpr ⟨dn_1926, List.forall_mem_cons.mpr ⟨dn_1930, List.forall_mem_cons.mpr ⟨dn_1934, List.forall_mem_cons.mpr ⟨dn_1938, List.forall_mem_cons.mpr ⟨dn_1942, List.forall_mem_cons.mpr ⟨dn_1946, List.forall_mem_cons.mpr ⟨dn_1950, List.forall_mem_cons.mpr ⟨dn_1954, List.forall_mem_cons.mpr ⟨dn_1958, List.forall_mem_cons.mpr ⟨dn_1962, List.forall_mem_cons.mpr ⟨dn_1966, List.forall_mem_cons.mpr ⟨dn_1970, List.forall_mem_cons.mpr ⟨dn_1974, List.forall_mem_cons.mpr ⟨dn_1978, List.forall_mem_cons.mpr ⟨dn_1982, fun _ h => nomatch h⟩⟩⟩⟩⟩⟩⟩⟩⟩⟩⟩⟩⟩⟩⟩⟩
theorem db_31 : ∀ x ∈ [((1986, pg_1986) : Nat × eg_W), ((1990, pg_1990) : Nat × eg_W), ((1993, pg_1993) : Nat × eg_W), ((1997, pg_1997) : Nat × eg_W), ((2001, pg_2001) : Nat × eg_W), ((2005, pg_2005) : Nat × eg_W), ((2009, pg_2009) : Nat × eg_W), ((2013, pg_2013) : Nat × eg_W), ((2016, pg_2016) : Nat × eg_W), ((2020, pg_2020) : Nat × eg_W), ((2024, pg_2024) : Nat × eg_W), ((2028, pg_2028) : Nat × eg_W), ((2032, pg_2032) : Nat × eg_W), ((2036, pg_2036) : Nat × eg_W), ((2040, pg_2040) : Nat × eg_W), ((2044, pg_2044) : Nat × eg_W)], eg_mok x := List.forall_mem_cons.mpr ⟨dn_1986, List.forall_mem_cons.mpr ⟨dn_1990, List.forall_mem_cons.mpr ⟨dn_1993, List.forall_mem_cons.mpr ⟨dn_1997, List.forall_mem_cons.mpr ⟨dn_2001, List.forall_mem_cons.mpr ⟨dn_2005, List.forall_mem_cons.mpr ⟨dn_2009, List.forall_mem_cons.mpr ⟨dn_2013, List.forall_mem_cons.mpr ⟨dn_2016, List.forall_mem_cons.mpr ⟨dn_2020, List.forall_mem_cons.mpr ⟨dn_2024, List.forall_mem_cons.mpr ⟨dn_2028, List.forall_mem_cons.mpr ⟨dn_2032, List.forall_mem_cons.mpr ⟨dn_2036, List.forall_mem_cons.mpr ⟨dn_2040, List.forall_mem_cons.mpr ⟨dn_2044, fun _ h => nomatch h⟩⟩⟩⟩⟩⟩⟩⟩⟩⟩⟩⟩⟩⟩⟩⟩
theorem db_32 : ∀ x ∈ [((2049, pg_2049) : Nat × eg_W), ((2053, pg_2053) : Nat × eg_W), ((2057, pg_2057) : Nat × eg_W), ((2061, pg_2061) : Nat × eg_W), ((2065, pg_2065) : Nat × eg_W), ((2069, pg_2069) : Nat × eg_W), ((2073, pg_2073) : Nat × eg_W), ((2077, pg_2077) : Nat × eg_W), ((2081, pg_2081) : Nat × eg_W), ((2085, pg_2085) : Nat × eg_W), ((2089, pg_2089) : Nat × eg_W), ((2093, pg_2093) : Nat × eg_W), ((2097, pg_2097) : Nat × eg_W), ((2101, pg_2101) : Nat × eg_W), ((2105, pg_2105) : Nat × eg_W), ((2109, pg_2109) : Nat × eg_W)], eg_mok x := List.forall_mem_cons.mpr ⟨dn_2049, List.forall_mem_cons.mpr ⟨dn_2053, List.forall_mem_cons.mpr ⟨dn_2057, List.forall_mem_cons.mpr ⟨dn_2061, List.forall_mem_cons.mpr ⟨dn_2065, List.forall_mem_cons.mpr ⟨dn_2069, List.forall_mem_cons.mpr ⟨dn_2073, List.forall_mem_cons.mpr ⟨dn_2077, List.forall_mem_cons.mpr ⟨dn_2081, List.forall_mem_cons.mpr ⟨dn_2085, List.forall_mem_cons.mpr ⟨dn_2089, List.forall_mem_cons.mpr ⟨dn_2093, List.forall_mem_cons.mpr ⟨dn_2097, List.forall_mem_cons.mpr ⟨dn_2101, List.forall_mem_cons.mpr ⟨dn_2105, List.forall_mem_cons.mpr ⟨dn_2109, fun _ h => nomatch h⟩⟩⟩⟩⟩⟩⟩⟩⟩⟩⟩⟩⟩⟩⟩⟩
theorem db_33 : ∀ x ∈ [((2113, pg_2113) : Nat × eg_W), ((2117, pg_2117) : Nat × eg_W), ((2121, pg_2121) : Nat × eg_W)], eg_mok x := List.forall_mem_cons.mpr ⟨dn_2113, List.forall_mem_cons.mpr ⟨dn_2117, List.forall_mem_cons.mpr ⟨dn_2121, fun _ h => nomatch h⟩⟩⟩
set_option maxRecDepth 100000 in
theorem eg_pt_ok : ∀ l ∈ eg_pt, ∀ x ∈ l, eg_mok x := by
  unfold eg_pt
  exact List.forall_mem_cons.mpr ⟨db_0, List.forall_mem_cons.mpr ⟨db_1, List.forall_mem_cons.mpr ⟨db_2, List.forall_mem_cons.mpr ⟨db_3, List.forall_mem_cons.mpr ⟨db_4, List.forall_mem_cons.mpr ⟨db_5, List.forall_mem_cons.mpr ⟨db_6, List.forall_mem_cons.mpr ⟨db_7, List.forall_mem_cons.mpr ⟨db_8, List.forall_mem_cons.mpr ⟨db_9, List.forall_mem_cons.mpr ⟨db_10, List.forall_mem_cons.mpr ⟨db_11, List.forall_mem_cons.mpr ⟨db_12, List.forall_mem_cons.mpr ⟨db_13, List.forall_mem_cons.mpr ⟨db_14, List.forall_mem_cons.mpr ⟨db_15, List.forall_mem_cons.mpr ⟨db_16, List.forall_mem_cons.mpr ⟨db_17, List.forall_mem_cons.mpr ⟨db_18, List.forall_mem_cons.mpr ⟨db_19, List.forall_mem_cons.mpr ⟨db_20, List.forall_mem_cons.mpr ⟨db_21, List.forall_mem_cons.mpr ⟨db_22, List.forall_mem_cons.mpr ⟨db_23, List.forall_mem_cons.mpr ⟨db_24, List.forall_mem_cons.mpr ⟨db_25, List.forall_mem_cons.mpr ⟨db_26, List.forall_mem_cons.mpr ⟨db_27, List.forall_mem_cons.mpr ⟨db_28, List.forall_mem_cons.mpr ⟨db_29, List.forall_mem_cons.mpr ⟨db_30, List.forall_mem_cons.mpr ⟨db_31, List.forall_mem_cons.mpr ⟨db_32, List.forall_mem_cons.mpr ⟨db_33, fun _ h => nomatch h⟩⟩⟩⟩⟩⟩⟩⟩⟩⟩⟩⟩⟩⟩⟩⟩⟩⟩⟩⟩⟩⟩⟩⟩⟩⟩⟩⟩⟩⟩⟩⟩⟩⟩
theorem eg_pg_ok : eg_pgok := by
  intro u q hq
  unfold eg_pg at hq
  cases hu : Nat.beq u 9999 with
  | true =>
    rw [hu] at hq
    obtain rfl := Nat.eq_of_beq_eq_true hu
    exact dm_9999 q hq
  | false =>
    rw [hu] at hq
    simp only at hq
    cases hl : eg_nth eg_pt (u / 64) with
    | none => rw [hl] at hq; cases hq
    | some l =>
      rw [hl] at hq
      simp only at hq
      rw [eg_nth_eq] at hl
      cases h : eg_find u l with
      | none => rw [h] at hq; cases hq
      | some w =>
        rw [h] at hq
        exact eg_pt_ok l (List.mem_of_getElem? hl) (u, w) (eg_find_mem h) q hq
