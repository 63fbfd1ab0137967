section
-- ===== PART A: goes FIRST, ahead of the names: the tables' words, and 'selects' of the private methods out of them =====
/-- a private method of a class that the tables say can be made, by its rows of tables_1 -/
def lw_okq (q : MethodName × Nat) : Prop := (q.1.cls ≠ "java/lang/invoke/MethodHandle" ∧ q.1.cls ≠ "java/lang/invoke/VarHandle") ∧ Cond.instantiable q.1.cls q.2 ∈ tables_1 ∧ Cond.privateMethod q.1 ∈ tables_1 ∧ Cond.instanceMethod q.1 ∈ tables_1
theorem lw_p0 : lw_okq (⟨"PromiseTrees$Tokens", "readRun", "(I)I"⟩, 12) := ⟨⟨by decide +kernel, by decide +kernel⟩, List.mem_of_getElem? (i := 50) (by decide +kernel), List.mem_of_getElem? (i := 588) (by decide +kernel), List.mem_of_getElem? (i := 589) (by decide +kernel)⟩
theorem lw_p1 : lw_okq (⟨"PromiseTrees$Tokens", "kindOfWord", "(J)I"⟩, 12) := ⟨⟨by decide +kernel, by decide +kernel⟩, List.mem_of_getElem? (i := 50) (by decide +kernel), List.mem_of_getElem? (i := 593) (by decide +kernel), List.mem_of_getElem? (i := 594) (by decide +kernel)⟩
theorem lw_p2 : lw_okq (⟨"PromiseTrees$Tokens", "addToken", "(IIJ)V"⟩, 12) := ⟨⟨by decide +kernel, by decide +kernel⟩, List.mem_of_getElem? (i := 50) (by decide +kernel), List.mem_of_getElem? (i := 597) (by decide +kernel), List.mem_of_getElem? (i := 598) (by decide +kernel)⟩
theorem lw_p3 : lw_okq (⟨"PromiseTrees$LandReader", "readLine", "()Z"⟩, 10) := ⟨⟨by decide +kernel, by decide +kernel⟩, List.mem_of_getElem? (i := 275) (by decide +kernel), List.mem_of_getElem? (i := 619) (by decide +kernel), List.mem_of_getElem? (i := 620) (by decide +kernel)⟩
theorem lw_p4 : lw_okq (⟨"PromiseTrees$LandReader", "readSize", "()Z"⟩, 10) := ⟨⟨by decide +kernel, by decide +kernel⟩, List.mem_of_getElem? (i := 275) (by decide +kernel), List.mem_of_getElem? (i := 623) (by decide +kernel), List.mem_of_getElem? (i := 624) (by decide +kernel)⟩
theorem lw_p5 : lw_okq (⟨"PromiseTrees$LandReader", "readMan", "()Z"⟩, 10) := ⟨⟨by decide +kernel, by decide +kernel⟩, List.mem_of_getElem? (i := 275) (by decide +kernel), List.mem_of_getElem? (i := 641) (by decide +kernel), List.mem_of_getElem? (i := 642) (by decide +kernel)⟩
theorem lw_p6 : lw_okq (⟨"PromiseTrees$LandReader", "readNewName", "()Z"⟩, 10) := ⟨⟨by decide +kernel, by decide +kernel⟩, List.mem_of_getElem? (i := 275) (by decide +kernel), List.mem_of_getElem? (i := 645) (by decide +kernel), List.mem_of_getElem? (i := 646) (by decide +kernel)⟩
theorem lw_p7 : lw_okq (⟨"PromiseTrees$LandReader", "readCell", "()Z"⟩, 10) := ⟨⟨by decide +kernel, by decide +kernel⟩, List.mem_of_getElem? (i := 275) (by decide +kernel), List.mem_of_getElem? (i := 665) (by decide +kernel), List.mem_of_getElem? (i := 666) (by decide +kernel)⟩
theorem lw_p8 : lw_okq (⟨"PromiseTrees$LandReader", "readPromise", "()Z"⟩, 10) := ⟨⟨by decide +kernel, by decide +kernel⟩, List.mem_of_getElem? (i := 275) (by decide +kernel), List.mem_of_getElem? (i := 672) (by decide +kernel), List.mem_of_getElem? (i := 673) (by decide +kernel)⟩
theorem lw_p9 : lw_okq (⟨"PromiseTrees$LandReader", "readToldMan", "()Z"⟩, 10) := ⟨⟨by decide +kernel, by decide +kernel⟩, List.mem_of_getElem? (i := 275) (by decide +kernel), List.mem_of_getElem? (i := 676) (by decide +kernel), List.mem_of_getElem? (i := 677) (by decide +kernel)⟩
theorem lw_p10 : lw_okq (⟨"PromiseTrees$LandReader", "readClash", "()Z"⟩, 10) := ⟨⟨by decide +kernel, by decide +kernel⟩, List.mem_of_getElem? (i := 275) (by decide +kernel), List.mem_of_getElem? (i := 690) (by decide +kernel), List.mem_of_getElem? (i := 691) (by decide +kernel)⟩
theorem lw_p11 : lw_okq (⟨"PromiseTrees$LandReader", "readToldPromise", "()Z"⟩, 10) := ⟨⟨by decide +kernel, by decide +kernel⟩, List.mem_of_getElem? (i := 275) (by decide +kernel), List.mem_of_getElem? (i := 694) (by decide +kernel), List.mem_of_getElem? (i := 695) (by decide +kernel)⟩
theorem lw_p12 : lw_okq (⟨"PromiseTrees$LandReader", "readGrows", "()Z"⟩, 10) := ⟨⟨by decide +kernel, by decide +kernel⟩, List.mem_of_getElem? (i := 275) (by decide +kernel), List.mem_of_getElem? (i := 698) (by decide +kernel), List.mem_of_getElem? (i := 699) (by decide +kernel)⟩
theorem lw_p13 : lw_okq (⟨"PromiseTrees$LandReader", "readStorm", "()Z"⟩, 10) := ⟨⟨by decide +kernel, by decide +kernel⟩, List.mem_of_getElem? (i := 275) (by decide +kernel), List.mem_of_getElem? (i := 702) (by decide +kernel), List.mem_of_getElem? (i := 703) (by decide +kernel)⟩
theorem lw_p14 : lw_okq (⟨"PromiseTrees", "closeText", "()V"⟩, 16) := ⟨⟨by decide +kernel, by decide +kernel⟩, List.mem_of_getElem? (i := 25) (by decide +kernel), List.mem_of_getElem? (i := 710) (by decide +kernel), List.mem_of_getElem? (i := 711) (by decide +kernel)⟩
theorem lw_p15 : lw_okq (⟨"PromiseTrees", "act", "(II)I"⟩, 16) := ⟨⟨by decide +kernel, by decide +kernel⟩, List.mem_of_getElem? (i := 25) (by decide +kernel), List.mem_of_getElem? (i := 782) (by decide +kernel), List.mem_of_getElem? (i := 783) (by decide +kernel)⟩
def lw_privs_1 : List (MethodName × Nat) := [(⟨"PromiseTrees$Tokens", "readRun", "(I)I"⟩, 12), (⟨"PromiseTrees$Tokens", "kindOfWord", "(J)I"⟩, 12), (⟨"PromiseTrees$Tokens", "addToken", "(IIJ)V"⟩, 12), (⟨"PromiseTrees$LandReader", "readLine", "()Z"⟩, 10), (⟨"PromiseTrees$LandReader", "readSize", "()Z"⟩, 10), (⟨"PromiseTrees$LandReader", "readMan", "()Z"⟩, 10), (⟨"PromiseTrees$LandReader", "readNewName", "()Z"⟩, 10), (⟨"PromiseTrees$LandReader", "readCell", "()Z"⟩, 10), (⟨"PromiseTrees$LandReader", "readPromise", "()Z"⟩, 10), (⟨"PromiseTrees$LandReader", "readToldMan", "()Z"⟩, 10), (⟨"PromiseTrees$LandReader", "readClash", "()Z"⟩, 10), (⟨"PromiseTrees$LandReader", "readToldPromise", "()Z"⟩, 10), (⟨"PromiseTrees$LandReader", "readGrows", "()Z"⟩, 10), (⟨"PromiseTrees$LandReader", "readStorm", "()Z"⟩, 10), (⟨"PromiseTrees", "closeText", "()V"⟩, 16), (⟨"PromiseTrees", "act", "(II)I"⟩, 16)]
theorem lw_r1 : ∀ q ∈ lw_privs_1, lw_okq q := List.forall_mem_cons.mpr ⟨lw_p0, List.forall_mem_cons.mpr ⟨lw_p1, List.forall_mem_cons.mpr ⟨lw_p2, List.forall_mem_cons.mpr ⟨lw_p3, List.forall_mem_cons.mpr ⟨lw_p4, List.forall_mem_cons.mpr ⟨lw_p5, List.forall_mem_cons.mpr ⟨lw_p6, List.forall_mem_cons.mpr ⟨lw_p7, List.forall_mem_cons.mpr ⟨lw_p8, List.forall_mem_cons.mpr ⟨lw_p9, List.forall_mem_cons.mpr ⟨lw_p10, List.forall_mem_cons.mpr ⟨lw_p11, List.forall_mem_cons.mpr ⟨lw_p12, List.forall_mem_cons.mpr ⟨lw_p13, List.forall_mem_cons.mpr ⟨lw_p14, List.forall_mem_cons.mpr ⟨lw_p15, fun _ h => absurd h List.not_mem_nil⟩⟩⟩⟩⟩⟩⟩⟩⟩⟩⟩⟩⟩⟩⟩⟩
theorem lw_p16 : lw_okq (⟨"PromiseTrees$World", "layDown", "(II)I"⟩, 10) := ⟨⟨by decide +kernel, by decide +kernel⟩, List.mem_of_getElem? (i := 316) (by decide +kernel), List.mem_of_getElem? (i := 811) (by decide +kernel), List.mem_of_getElem? (i := 812) (by decide +kernel)⟩
theorem lw_p17 : lw_okq (⟨"PromiseTrees$World", "grow", "()V"⟩, 10) := ⟨⟨by decide +kernel, by decide +kernel⟩, List.mem_of_getElem? (i := 316) (by decide +kernel), List.mem_of_getElem? (i := 850) (by decide +kernel), List.mem_of_getElem? (i := 851) (by decide +kernel)⟩
theorem lw_p18 : lw_okq (⟨"PromiseTrees$World", "shadersOf", "(III)I"⟩, 10) := ⟨⟨by decide +kernel, by decide +kernel⟩, List.mem_of_getElem? (i := 316) (by decide +kernel), List.mem_of_getElem? (i := 854) (by decide +kernel), List.mem_of_getElem? (i := 855) (by decide +kernel)⟩
theorem lw_p19 : lw_okq (⟨"PromiseTrees$World", "shadersOfTree", "(I)I"⟩, 10) := ⟨⟨by decide +kernel, by decide +kernel⟩, List.mem_of_getElem? (i := 316) (by decide +kernel), List.mem_of_getElem? (i := 874) (by decide +kernel), List.mem_of_getElem? (i := 875) (by decide +kernel)⟩
theorem lw_p20 : lw_okq (⟨"PromiseTrees", "tryBreaking", "(I)Z"⟩, 16) := ⟨⟨by decide +kernel, by decide +kernel⟩, List.mem_of_getElem? (i := 25) (by decide +kernel), List.mem_of_getElem? (i := 892) (by decide +kernel), List.mem_of_getElem? (i := 893) (by decide +kernel)⟩
theorem lw_p21 : lw_okq (⟨"PromiseTrees$World", "uprightCells", "()J"⟩, 10) := ⟨⟨by decide +kernel, by decide +kernel⟩, List.mem_of_getElem? (i := 316) (by decide +kernel), List.mem_of_getElem? (i := 919) (by decide +kernel), List.mem_of_getElem? (i := 920) (by decide +kernel)⟩
theorem lw_p22 : lw_okq (⟨"PromiseTrees$Reckoning", "openWords", "(LPromiseTrees$World;)I"⟩, 8) := ⟨⟨by decide +kernel, by decide +kernel⟩, List.mem_of_getElem? (i := 384) (by decide +kernel), List.mem_of_getElem? (i := 941) (by decide +kernel), List.mem_of_getElem? (i := 942) (by decide +kernel)⟩
theorem lw_p23 : lw_okq (⟨"PromiseTrees$Reckoning", "canAllBeKept", "(LPromiseTrees$World;I)Z"⟩, 8) := ⟨⟨by decide +kernel, by decide +kernel⟩, List.mem_of_getElem? (i := 384) (by decide +kernel), List.mem_of_getElem? (i := 952) (by decide +kernel), List.mem_of_getElem? (i := 953) (by decide +kernel)⟩
theorem lw_p24 : lw_okq (⟨"PromiseTrees$Reckoning", "hasTime", "(LPromiseTrees$World;II)Z"⟩, 8) := ⟨⟨by decide +kernel, by decide +kernel⟩, List.mem_of_getElem? (i := 384) (by decide +kernel), List.mem_of_getElem? (i := 956) (by decide +kernel), List.mem_of_getElem? (i := 957) (by decide +kernel)⟩
theorem lw_p25 : lw_okq (⟨"PromiseTrees$Reckoning", "closesRing", "(III)Z"⟩, 8) := ⟨⟨by decide +kernel, by decide +kernel⟩, List.mem_of_getElem? (i := 384) (by decide +kernel), List.mem_of_getElem? (i := 972) (by decide +kernel), List.mem_of_getElem? (i := 973) (by decide +kernel)⟩
theorem lw_p26 : lw_okq (⟨"PromiseTrees$World", "drawStorm", "()V"⟩, 10) := ⟨⟨by decide +kernel, by decide +kernel⟩, List.mem_of_getElem? (i := 316) (by decide +kernel), List.mem_of_getElem? (i := 1051) (by decide +kernel), List.mem_of_getElem? (i := 1052) (by decide +kernel)⟩
theorem lw_p27 : lw_okq (⟨"PromiseTrees$World", "draw", "(I)I"⟩, 10) := ⟨⟨by decide +kernel, by decide +kernel⟩, List.mem_of_getElem? (i := 316) (by decide +kernel), List.mem_of_getElem? (i := 1055) (by decide +kernel), List.mem_of_getElem? (i := 1056) (by decide +kernel)⟩
theorem lw_p28 : lw_okq (⟨"PromiseTrees$World", "drawActs", "()V"⟩, 10) := ⟨⟨by decide +kernel, by decide +kernel⟩, List.mem_of_getElem? (i := 316) (by decide +kernel), List.mem_of_getElem? (i := 1061) (by decide +kernel), List.mem_of_getElem? (i := 1062) (by decide +kernel)⟩
theorem lw_p29 : lw_okq (⟨"PromiseTrees$Book", "readLine", "()Z"⟩, 10) := ⟨⟨by decide +kernel, by decide +kernel⟩, List.mem_of_getElem? (i := 421) (by decide +kernel), List.mem_of_getElem? (i := 1084) (by decide +kernel), List.mem_of_getElem? (i := 1085) (by decide +kernel)⟩
theorem lw_p30 : lw_okq (⟨"PromiseTrees$Book", "readDays", "()Z"⟩, 10) := ⟨⟨by decide +kernel, by decide +kernel⟩, List.mem_of_getElem? (i := 421) (by decide +kernel), List.mem_of_getElem? (i := 1088) (by decide +kernel), List.mem_of_getElem? (i := 1089) (by decide +kernel)⟩
theorem lw_p31 : lw_okq (⟨"PromiseTrees$Book", "readDeed", "()Z"⟩, 10) := ⟨⟨by decide +kernel, by decide +kernel⟩, List.mem_of_getElem? (i := 421) (by decide +kernel), List.mem_of_getElem? (i := 1095) (by decide +kernel), List.mem_of_getElem? (i := 1096) (by decide +kernel)⟩
def lw_privs_2 : List (MethodName × Nat) := [(⟨"PromiseTrees$World", "layDown", "(II)I"⟩, 10), (⟨"PromiseTrees$World", "grow", "()V"⟩, 10), (⟨"PromiseTrees$World", "shadersOf", "(III)I"⟩, 10), (⟨"PromiseTrees$World", "shadersOfTree", "(I)I"⟩, 10), (⟨"PromiseTrees", "tryBreaking", "(I)Z"⟩, 16), (⟨"PromiseTrees$World", "uprightCells", "()J"⟩, 10), (⟨"PromiseTrees$Reckoning", "openWords", "(LPromiseTrees$World;)I"⟩, 8), (⟨"PromiseTrees$Reckoning", "canAllBeKept", "(LPromiseTrees$World;I)Z"⟩, 8), (⟨"PromiseTrees$Reckoning", "hasTime", "(LPromiseTrees$World;II)Z"⟩, 8), (⟨"PromiseTrees$Reckoning", "closesRing", "(III)Z"⟩, 8), (⟨"PromiseTrees$World", "drawStorm", "()V"⟩, 10), (⟨"PromiseTrees$World", "draw", "(I)I"⟩, 10), (⟨"PromiseTrees$World", "drawActs", "()V"⟩, 10), (⟨"PromiseTrees$Book", "readLine", "()Z"⟩, 10), (⟨"PromiseTrees$Book", "readDays", "()Z"⟩, 10), (⟨"PromiseTrees$Book", "readDeed", "()Z"⟩, 10)]
theorem lw_r2 : ∀ q ∈ lw_privs_2, lw_okq q := List.forall_mem_cons.mpr ⟨lw_p16, List.forall_mem_cons.mpr ⟨lw_p17, List.forall_mem_cons.mpr ⟨lw_p18, List.forall_mem_cons.mpr ⟨lw_p19, List.forall_mem_cons.mpr ⟨lw_p20, List.forall_mem_cons.mpr ⟨lw_p21, List.forall_mem_cons.mpr ⟨lw_p22, List.forall_mem_cons.mpr ⟨lw_p23, List.forall_mem_cons.mpr ⟨lw_p24, List.forall_mem_cons.mpr ⟨lw_p25, List.forall_mem_cons.mpr ⟨lw_p26, List.forall_mem_cons.mpr ⟨lw_p27, List.forall_mem_cons.mpr ⟨lw_p28, List.forall_mem_cons.mpr ⟨lw_p29, List.forall_mem_cons.mpr ⟨lw_p30, List.forall_mem_cons.mpr ⟨lw_p31, fun _ h => absurd h List.not_mem_nil⟩⟩⟩⟩⟩⟩⟩⟩⟩⟩⟩⟩⟩⟩⟩⟩
theorem lw_p32 : lw_okq (⟨"PromiseTrees$SentenceReader", "readCond", "(I)Z"⟩, 4) := ⟨⟨by decide +kernel, by decide +kernel⟩, List.mem_of_getElem? (i := 480) (by decide +kernel), List.mem_of_getElem? (i := 1131) (by decide +kernel), List.mem_of_getElem? (i := 1132) (by decide +kernel)⟩
theorem lw_p33 : lw_okq (⟨"PromiseTrees$SentenceReader", "readAll", "(I)Z"⟩, 4) := ⟨⟨by decide +kernel, by decide +kernel⟩, List.mem_of_getElem? (i := 480) (by decide +kernel), List.mem_of_getElem? (i := 1135) (by decide +kernel), List.mem_of_getElem? (i := 1136) (by decide +kernel)⟩
theorem lw_p34 : lw_okq (⟨"PromiseTrees$SentenceReader", "readOne", "(I)Z"⟩, 4) := ⟨⟨by decide +kernel, by decide +kernel⟩, List.mem_of_getElem? (i := 480) (by decide +kernel), List.mem_of_getElem? (i := 1139) (by decide +kernel), List.mem_of_getElem? (i := 1140) (by decide +kernel)⟩
theorem lw_p35 : lw_okq (⟨"PromiseTrees$SentenceReader", "readBracket", "(I)Z"⟩, 4) := ⟨⟨by decide +kernel, by decide +kernel⟩, List.mem_of_getElem? (i := 480) (by decide +kernel), List.mem_of_getElem? (i := 1147) (by decide +kernel), List.mem_of_getElem? (i := 1148) (by decide +kernel)⟩
theorem lw_p36 : lw_okq (⟨"PromiseTrees$SentenceReader", "readNot", "(I)Z"⟩, 4) := ⟨⟨by decide +kernel, by decide +kernel⟩, List.mem_of_getElem? (i := 480) (by decide +kernel), List.mem_of_getElem? (i := 1151) (by decide +kernel), List.mem_of_getElem? (i := 1152) (by decide +kernel)⟩
theorem lw_p37 : lw_okq (⟨"PromiseTrees$SentenceReader", "readMan", "(I)Z"⟩, 4) := ⟨⟨by decide +kernel, by decide +kernel⟩, List.mem_of_getElem? (i := 480) (by decide +kernel), List.mem_of_getElem? (i := 1159) (by decide +kernel), List.mem_of_getElem? (i := 1160) (by decide +kernel)⟩
theorem lw_p38 : lw_okq (⟨"PromiseTrees$SentenceReader", "readMeasure", "(I)Z"⟩, 4) := ⟨⟨by decide +kernel, by decide +kernel⟩, List.mem_of_getElem? (i := 480) (by decide +kernel), List.mem_of_getElem? (i := 1166) (by decide +kernel), List.mem_of_getElem? (i := 1167) (by decide +kernel)⟩
theorem lw_p39 : lw_okq (⟨"PromiseTrees$SentenceReader", "readState", "(I)Z"⟩, 4) := ⟨⟨by decide +kernel, by decide +kernel⟩, List.mem_of_getElem? (i := 480) (by decide +kernel), List.mem_of_getElem? (i := 1172) (by decide +kernel), List.mem_of_getElem? (i := 1173) (by decide +kernel)⟩
theorem lw_p40 : lw_okq (⟨"PromiseTrees$Sentence", "negate", "(I)I"⟩, 5) := ⟨⟨by decide +kernel, by decide +kernel⟩, List.mem_of_getElem? (i := 458) (by decide +kernel), List.mem_of_getElem? (i := 1192) (by decide +kernel), List.mem_of_getElem? (i := 1193) (by decide +kernel)⟩
theorem lw_p41 : lw_okq (⟨"PromiseTrees$Sentence", "join", "(IZ)I"⟩, 5) := ⟨⟨by decide +kernel, by decide +kernel⟩, List.mem_of_getElem? (i := 458) (by decide +kernel), List.mem_of_getElem? (i := 1196) (by decide +kernel), List.mem_of_getElem? (i := 1197) (by decide +kernel)⟩
theorem lw_p42 : lw_okq (⟨"PromiseTrees$Sentence", "plainlySaid", "(LPromiseTrees$World;I)I"⟩, 5) := ⟨⟨by decide +kernel, by decide +kernel⟩, List.mem_of_getElem? (i := 458) (by decide +kernel), List.mem_of_getElem? (i := 1200) (by decide +kernel), List.mem_of_getElem? (i := 1201) (by decide +kernel)⟩
theorem lw_p43 : lw_okq (⟨"PromiseTrees$Sentence", "measured", "(LPromiseTrees$World;I)I"⟩, 5) := ⟨⟨by decide +kernel, by decide +kernel⟩, List.mem_of_getElem? (i := 458) (by decide +kernel), List.mem_of_getElem? (i := 1218) (by decide +kernel), List.mem_of_getElem? (i := 1219) (by decide +kernel)⟩
theorem lw_p44 : lw_okq (⟨"PromiseTrees$Sentence", "holdsOf", "(LPromiseTrees$World;II)Z"⟩, 5) := ⟨⟨by decide +kernel, by decide +kernel⟩, List.mem_of_getElem? (i := 458) (by decide +kernel), List.mem_of_getElem? (i := 1222) (by decide +kernel), List.mem_of_getElem? (i := 1223) (by decide +kernel)⟩
theorem lw_p45 : lw_okq (⟨"java/lang/Throwable", "fillInStackTrace", "(I)Ljava/lang/Throwable;"⟩, 6) := ⟨⟨by decide +kernel, by decide +kernel⟩, List.mem_of_getElem? (i := 1286) (by decide +kernel), List.mem_of_getElem? (i := 1284) (by decide +kernel), List.mem_of_getElem? (i := 1285) (by decide +kernel)⟩
theorem lw_p46 : lw_okq (⟨"PromiseTreesModel", "four", "(I)V"⟩, 54) := ⟨⟨by decide +kernel, by decide +kernel⟩, List.mem_of_getElem? (i := 1331) (by decide +kernel), List.mem_of_getElem? (i := 1329) (by decide +kernel), List.mem_of_getElem? (i := 1330) (by decide +kernel)⟩
theorem lw_p47 : lw_okq (⟨"PromiseTreesModel", "clears", "()V"⟩, 54) := ⟨⟨by decide +kernel, by decide +kernel⟩, List.mem_of_getElem? (i := 1331) (by decide +kernel), List.mem_of_getElem? (i := 1366) (by decide +kernel), List.mem_of_getElem? (i := 1367) (by decide +kernel)⟩
def lw_privs_3 : List (MethodName × Nat) := [(⟨"PromiseTrees$SentenceReader", "readCond", "(I)Z"⟩, 4), (⟨"PromiseTrees$SentenceReader", "readAll", "(I)Z"⟩, 4), (⟨"PromiseTrees$SentenceReader", "readOne", "(I)Z"⟩, 4), (⟨"PromiseTrees$SentenceReader", "readBracket", "(I)Z"⟩, 4), (⟨"PromiseTrees$SentenceReader", "readNot", "(I)Z"⟩, 4), (⟨"PromiseTrees$SentenceReader", "readMan", "(I)Z"⟩, 4), (⟨"PromiseTrees$SentenceReader", "readMeasure", "(I)Z"⟩, 4), (⟨"PromiseTrees$SentenceReader", "readState", "(I)Z"⟩, 4), (⟨"PromiseTrees$Sentence", "negate", "(I)I"⟩, 5), (⟨"PromiseTrees$Sentence", "join", "(IZ)I"⟩, 5), (⟨"PromiseTrees$Sentence", "plainlySaid", "(LPromiseTrees$World;I)I"⟩, 5), (⟨"PromiseTrees$Sentence", "measured", "(LPromiseTrees$World;I)I"⟩, 5), (⟨"PromiseTrees$Sentence", "holdsOf", "(LPromiseTrees$World;II)Z"⟩, 5), (⟨"java/lang/Throwable", "fillInStackTrace", "(I)Ljava/lang/Throwable;"⟩, 6), (⟨"PromiseTreesModel", "four", "(I)V"⟩, 54), (⟨"PromiseTreesModel", "clears", "()V"⟩, 54)]
theorem lw_r3 : ∀ q ∈ lw_privs_3, lw_okq q := List.forall_mem_cons.mpr ⟨lw_p32, List.forall_mem_cons.mpr ⟨lw_p33, List.forall_mem_cons.mpr ⟨lw_p34, List.forall_mem_cons.mpr ⟨lw_p35, List.forall_mem_cons.mpr ⟨lw_p36, List.forall_mem_cons.mpr ⟨lw_p37, List.forall_mem_cons.mpr ⟨lw_p38, List.forall_mem_cons.mpr ⟨lw_p39, List.forall_mem_cons.mpr ⟨lw_p40, List.forall_mem_cons.mpr ⟨lw_p41, List.forall_mem_cons.mpr ⟨lw_p42, List.forall_mem_cons.mpr ⟨lw_p43, List.forall_mem_cons.mpr ⟨lw_p44, List.forall_mem_cons.mpr ⟨lw_p45, List.forall_mem_cons.mpr ⟨lw_p46, List.forall_mem_cons.mpr ⟨lw_p47, fun _ h => absurd h List.not_mem_nil⟩⟩⟩⟩⟩⟩⟩⟩⟩⟩⟩⟩⟩⟩⟩⟩
theorem lw_p48 : lw_okq (⟨"PromiseTreesModel", "taken", "(I)V"⟩, 54) := ⟨⟨by decide +kernel, by decide +kernel⟩, List.mem_of_getElem? (i := 1331) (by decide +kernel), List.mem_of_getElem? (i := 1537) (by decide +kernel), List.mem_of_getElem? (i := 1538) (by decide +kernel)⟩
theorem lw_p49 : lw_okq (⟨"PromiseTreesModel", "next", "()V"⟩, 54) := ⟨⟨by decide +kernel, by decide +kernel⟩, List.mem_of_getElem? (i := 1331) (by decide +kernel), List.mem_of_getElem? (i := 1541) (by decide +kernel), List.mem_of_getElem? (i := 1542) (by decide +kernel)⟩
theorem lw_p50 : lw_okq (⟨"PromiseTreesModel", "peek", "()I"⟩, 54) := ⟨⟨by decide +kernel, by decide +kernel⟩, List.mem_of_getElem? (i := 1331) (by decide +kernel), List.mem_of_getElem? (i := 1545) (by decide +kernel), List.mem_of_getElem? (i := 1546) (by decide +kernel)⟩
theorem lw_p51 : lw_okq (⟨"PromiseTreesModel", "line", "()Z"⟩, 54) := ⟨⟨by decide +kernel, by decide +kernel⟩, List.mem_of_getElem? (i := 1331) (by decide +kernel), List.mem_of_getElem? (i := 1555) (by decide +kernel), List.mem_of_getElem? (i := 1556) (by decide +kernel)⟩
theorem lw_p52 : lw_okq (⟨"PromiseTreesModel", "isWord", "(J)Z"⟩, 54) := ⟨⟨by decide +kernel, by decide +kernel⟩, List.mem_of_getElem? (i := 1331) (by decide +kernel), List.mem_of_getElem? (i := 1559) (by decide +kernel), List.mem_of_getElem? (i := 1560) (by decide +kernel)⟩
theorem lw_p53 : lw_okq (⟨"PromiseTreesModel", "isOnce", "(I)Z"⟩, 54) := ⟨⟨by decide +kernel, by decide +kernel⟩, List.mem_of_getElem? (i := 1331) (by decide +kernel), List.mem_of_getElem? (i := 1563) (by decide +kernel), List.mem_of_getElem? (i := 1564) (by decide +kernel)⟩
theorem lw_p54 : lw_okq (⟨"PromiseTreesModel", "bad", "(I)Z"⟩, 54) := ⟨⟨by decide +kernel, by decide +kernel⟩, List.mem_of_getElem? (i := 1331) (by decide +kernel), List.mem_of_getElem? (i := 1570) (by decide +kernel), List.mem_of_getElem? (i := 1571) (by decide +kernel)⟩
theorem lw_p55 : lw_okq (⟨"PromiseTreesModel", "puts", "(III)Z"⟩, 54) := ⟨⟨by decide +kernel, by decide +kernel⟩, List.mem_of_getElem? (i := 1331) (by decide +kernel), List.mem_of_getElem? (i := 1574) (by decide +kernel), List.mem_of_getElem? (i := 1575) (by decide +kernel)⟩
theorem lw_p56 : lw_okq (⟨"PromiseTreesModel", "takes", "(II)Z"⟩, 54) := ⟨⟨by decide +kernel, by decide +kernel⟩, List.mem_of_getElem? (i := 1331) (by decide +kernel), List.mem_of_getElem? (i := 1578) (by decide +kernel), List.mem_of_getElem? (i := 1579) (by decide +kernel)⟩
theorem lw_p57 : lw_okq (⟨"PromiseTreesModel", "fresh", "(I)Z"⟩, 54) := ⟨⟨by decide +kernel, by decide +kernel⟩, List.mem_of_getElem? (i := 1331) (by decide +kernel), List.mem_of_getElem? (i := 1585) (by decide +kernel), List.mem_of_getElem? (i := 1586) (by decide +kernel)⟩
theorem lw_p58 : lw_okq (⟨"PromiseTreesModel", "isName", "()Z"⟩, 54) := ⟨⟨by decide +kernel, by decide +kernel⟩, List.mem_of_getElem? (i := 1331) (by decide +kernel), List.mem_of_getElem? (i := 1589) (by decide +kernel), List.mem_of_getElem? (i := 1590) (by decide +kernel)⟩
theorem lw_p59 : lw_okq (⟨"PromiseTreesModel", "find", "(II)I"⟩, 54) := ⟨⟨by decide +kernel, by decide +kernel⟩, List.mem_of_getElem? (i := 1331) (by decide +kernel), List.mem_of_getElem? (i := 1593) (by decide +kernel), List.mem_of_getElem? (i := 1594) (by decide +kernel)⟩
theorem lw_p60 : lw_okq (⟨"PromiseTreesModel", "putsCell", "(II)Z"⟩, 54) := ⟨⟨by decide +kernel, by decide +kernel⟩, List.mem_of_getElem? (i := 1331) (by decide +kernel), List.mem_of_getElem? (i := 1597) (by decide +kernel), List.mem_of_getElem? (i := 1598) (by decide +kernel)⟩
theorem lw_p61 : lw_okq (⟨"PromiseTreesModel", "hasSomething", "(II)Z"⟩, 54) := ⟨⟨by decide +kernel, by decide +kernel⟩, List.mem_of_getElem? (i := 1331) (by decide +kernel), List.mem_of_getElem? (i := 1601) (by decide +kernel), List.mem_of_getElem? (i := 1602) (by decide +kernel)⟩
theorem lw_p62 : lw_okq (⟨"PromiseTreesModel", "readPromise", "()Z"⟩, 54) := ⟨⟨by decide +kernel, by decide +kernel⟩, List.mem_of_getElem? (i := 1331) (by decide +kernel), List.mem_of_getElem? (i := 1605) (by decide +kernel), List.mem_of_getElem? (i := 1606) (by decide +kernel)⟩
theorem lw_p63 : lw_okq (⟨"PromiseTreesModel", "takesName", "(II)Z"⟩, 54) := ⟨⟨by decide +kernel, by decide +kernel⟩, List.mem_of_getElem? (i := 1331) (by decide +kernel), List.mem_of_getElem? (i := 1609) (by decide +kernel), List.mem_of_getElem? (i := 1610) (by decide +kernel)⟩
def lw_privs_4 : List (MethodName × Nat) := [(⟨"PromiseTreesModel", "taken", "(I)V"⟩, 54), (⟨"PromiseTreesModel", "next", "()V"⟩, 54), (⟨"PromiseTreesModel", "peek", "()I"⟩, 54), (⟨"PromiseTreesModel", "line", "()Z"⟩, 54), (⟨"PromiseTreesModel", "isWord", "(J)Z"⟩, 54), (⟨"PromiseTreesModel", "isOnce", "(I)Z"⟩, 54), (⟨"PromiseTreesModel", "bad", "(I)Z"⟩, 54), (⟨"PromiseTreesModel", "puts", "(III)Z"⟩, 54), (⟨"PromiseTreesModel", "takes", "(II)Z"⟩, 54), (⟨"PromiseTreesModel", "fresh", "(I)Z"⟩, 54), (⟨"PromiseTreesModel", "isName", "()Z"⟩, 54), (⟨"PromiseTreesModel", "find", "(II)I"⟩, 54), (⟨"PromiseTreesModel", "putsCell", "(II)Z"⟩, 54), (⟨"PromiseTreesModel", "hasSomething", "(II)Z"⟩, 54), (⟨"PromiseTreesModel", "readPromise", "()Z"⟩, 54), (⟨"PromiseTreesModel", "takesName", "(II)Z"⟩, 54)]
theorem lw_r4 : ∀ q ∈ lw_privs_4, lw_okq q := List.forall_mem_cons.mpr ⟨lw_p48, List.forall_mem_cons.mpr ⟨lw_p49, List.forall_mem_cons.mpr ⟨lw_p50, List.forall_mem_cons.mpr ⟨lw_p51, List.forall_mem_cons.mpr ⟨lw_p52, List.forall_mem_cons.mpr ⟨lw_p53, List.forall_mem_cons.mpr ⟨lw_p54, List.forall_mem_cons.mpr ⟨lw_p55, List.forall_mem_cons.mpr ⟨lw_p56, List.forall_mem_cons.mpr ⟨lw_p57, List.forall_mem_cons.mpr ⟨lw_p58, List.forall_mem_cons.mpr ⟨lw_p59, List.forall_mem_cons.mpr ⟨lw_p60, List.forall_mem_cons.mpr ⟨lw_p61, List.forall_mem_cons.mpr ⟨lw_p62, List.forall_mem_cons.mpr ⟨lw_p63, fun _ h => absurd h List.not_mem_nil⟩⟩⟩⟩⟩⟩⟩⟩⟩⟩⟩⟩⟩⟩⟩⟩
theorem lw_p64 : lw_okq (⟨"PromiseTreesModel", "looksAt", "(II)Z"⟩, 54) := ⟨⟨by decide +kernel, by decide +kernel⟩, List.mem_of_getElem? (i := 1331) (by decide +kernel), List.mem_of_getElem? (i := 1613) (by decide +kernel), List.mem_of_getElem? (i := 1614) (by decide +kernel)⟩
theorem lw_p65 : lw_okq (⟨"PromiseTreesModel", "sign", "(I)Z"⟩, 54) := ⟨⟨by decide +kernel, by decide +kernel⟩, List.mem_of_getElem? (i := 1331) (by decide +kernel), List.mem_of_getElem? (i := 1617) (by decide +kernel), List.mem_of_getElem? (i := 1618) (by decide +kernel)⟩
theorem lw_p66 : lw_okq (⟨"PromiseTreesModel", "isSign", "(I)Z"⟩, 54) := ⟨⟨by decide +kernel, by decide +kernel⟩, List.mem_of_getElem? (i := 1331) (by decide +kernel), List.mem_of_getElem? (i := 1621) (by decide +kernel), List.mem_of_getElem? (i := 1622) (by decide +kernel)⟩
theorem lw_p67 : lw_okq (⟨"PromiseTreesModel", "isWordOf", "(I)Z"⟩, 54) := ⟨⟨by decide +kernel, by decide +kernel⟩, List.mem_of_getElem? (i := 1331) (by decide +kernel), List.mem_of_getElem? (i := 1633) (by decide +kernel), List.mem_of_getElem? (i := 1634) (by decide +kernel)⟩
theorem lw_p68 : lw_okq (⟨"PromiseTreesModel", "throwsIf", "(Z)Z"⟩, 54) := ⟨⟨by decide +kernel, by decide +kernel⟩, List.mem_of_getElem? (i := 1331) (by decide +kernel), List.mem_of_getElem? (i := 1637) (by decide +kernel), List.mem_of_getElem? (i := 1638) (by decide +kernel)⟩
theorem lw_p69 : lw_okq (⟨"PromiseTreesModel", "isShaded", "(I)Z"⟩, 54) := ⟨⟨by decide +kernel, by decide +kernel⟩, List.mem_of_getElem? (i := 1331) (by decide +kernel), List.mem_of_getElem? (i := 1641) (by decide +kernel), List.mem_of_getElem? (i := 1642) (by decide +kernel)⟩
theorem lw_p70 : lw_okq (⟨"PromiseTreesModel", "isUp", "(I)Z"⟩, 54) := ⟨⟨by decide +kernel, by decide +kernel⟩, List.mem_of_getElem? (i := 1331) (by decide +kernel), List.mem_of_getElem? (i := 1645) (by decide +kernel), List.mem_of_getElem? (i := 1646) (by decide +kernel)⟩
theorem lw_p71 : lw_okq (⟨"PromiseTreesModel", "isShadedAt", "(III)Z"⟩, 54) := ⟨⟨by decide +kernel, by decide +kernel⟩, List.mem_of_getElem? (i := 1331) (by decide +kernel), List.mem_of_getElem? (i := 1649) (by decide +kernel), List.mem_of_getElem? (i := 1650) (by decide +kernel)⟩
theorem lw_p72 : lw_okq (⟨"PromiseTreesModel", "shadesAt", "(IIII)Z"⟩, 54) := ⟨⟨by decide +kernel, by decide +kernel⟩, List.mem_of_getElem? (i := 1331) (by decide +kernel), List.mem_of_getElem? (i := 1653) (by decide +kernel), List.mem_of_getElem? (i := 1654) (by decide +kernel)⟩
theorem lw_p73 : lw_okq (⟨"PromiseTreesModel", "isMan", "(I)Z"⟩, 54) := ⟨⟨by decide +kernel, by decide +kernel⟩, List.mem_of_getElem? (i := 1331) (by decide +kernel), List.mem_of_getElem? (i := 1661) (by decide +kernel), List.mem_of_getElem? (i := 1662) (by decide +kernel)⟩
theorem lw_p74 : lw_okq (⟨"PromiseTreesModel", "stands", "(I)Z"⟩, 54) := ⟨⟨by decide +kernel, by decide +kernel⟩, List.mem_of_getElem? (i := 1331) (by decide +kernel), List.mem_of_getElem? (i := 1665) (by decide +kernel), List.mem_of_getElem? (i := 1666) (by decide +kernel)⟩
theorem lw_p75 : lw_okq (⟨"PromiseTreesModel", "givenBy", "(I)I"⟩, 54) := ⟨⟨by decide +kernel, by decide +kernel⟩, List.mem_of_getElem? (i := 1331) (by decide +kernel), List.mem_of_getElem? (i := 1669) (by decide +kernel), List.mem_of_getElem? (i := 1670) (by decide +kernel)⟩
theorem lw_p76 : lw_okq (⟨"PromiseTreesModel", "isCell", "(II)Z"⟩, 54) := ⟨⟨by decide +kernel, by decide +kernel⟩, List.mem_of_getElem? (i := 1331) (by decide +kernel), List.mem_of_getElem? (i := 1677) (by decide +kernel), List.mem_of_getElem? (i := 1678) (by decide +kernel)⟩
theorem lw_p77 : lw_okq (⟨"PromiseTreesModel", "whatIn", "(II)I"⟩, 54) := ⟨⟨by decide +kernel, by decide +kernel⟩, List.mem_of_getElem? (i := 1331) (by decide +kernel), List.mem_of_getElem? (i := 1681) (by decide +kernel), List.mem_of_getElem? (i := 1682) (by decide +kernel)⟩
theorem lw_p78 : lw_okq (⟨"PromiseTreesModel", "treeAt", "(II)I"⟩, 54) := ⟨⟨by decide +kernel, by decide +kernel⟩, List.mem_of_getElem? (i := 1331) (by decide +kernel), List.mem_of_getElem? (i := 1685) (by decide +kernel), List.mem_of_getElem? (i := 1686) (by decide +kernel)⟩
theorem lw_p79 : lw_okq (⟨"PromiseTreesModel", "stumpAt", "(II)I"⟩, 54) := ⟨⟨by decide +kernel, by decide +kernel⟩, List.mem_of_getElem? (i := 1331) (by decide +kernel), List.mem_of_getElem? (i := 1689) (by decide +kernel), List.mem_of_getElem? (i := 1690) (by decide +kernel)⟩
def lw_privs_5 : List (MethodName × Nat) := [(⟨"PromiseTreesModel", "looksAt", "(II)Z"⟩, 54), (⟨"PromiseTreesModel", "sign", "(I)Z"⟩, 54), (⟨"PromiseTreesModel", "isSign", "(I)Z"⟩, 54), (⟨"PromiseTreesModel", "isWordOf", "(I)Z"⟩, 54), (⟨"PromiseTreesModel", "throwsIf", "(Z)Z"⟩, 54), (⟨"PromiseTreesModel", "isShaded", "(I)Z"⟩, 54), (⟨"PromiseTreesModel", "isUp", "(I)Z"⟩, 54), (⟨"PromiseTreesModel", "isShadedAt", "(III)Z"⟩, 54), (⟨"PromiseTreesModel", "shadesAt", "(IIII)Z"⟩, 54), (⟨"PromiseTreesModel", "isMan", "(I)Z"⟩, 54), (⟨"PromiseTreesModel", "stands", "(I)Z"⟩, 54), (⟨"PromiseTreesModel", "givenBy", "(I)I"⟩, 54), (⟨"PromiseTreesModel", "isCell", "(II)Z"⟩, 54), (⟨"PromiseTreesModel", "whatIn", "(II)I"⟩, 54), (⟨"PromiseTreesModel", "treeAt", "(II)I"⟩, 54), (⟨"PromiseTreesModel", "stumpAt", "(II)I"⟩, 54)]
theorem lw_r5 : ∀ q ∈ lw_privs_5, lw_okq q := List.forall_mem_cons.mpr ⟨lw_p64, List.forall_mem_cons.mpr ⟨lw_p65, List.forall_mem_cons.mpr ⟨lw_p66, List.forall_mem_cons.mpr ⟨lw_p67, List.forall_mem_cons.mpr ⟨lw_p68, List.forall_mem_cons.mpr ⟨lw_p69, List.forall_mem_cons.mpr ⟨lw_p70, List.forall_mem_cons.mpr ⟨lw_p71, List.forall_mem_cons.mpr ⟨lw_p72, List.forall_mem_cons.mpr ⟨lw_p73, List.forall_mem_cons.mpr ⟨lw_p74, List.forall_mem_cons.mpr ⟨lw_p75, List.forall_mem_cons.mpr ⟨lw_p76, List.forall_mem_cons.mpr ⟨lw_p77, List.forall_mem_cons.mpr ⟨lw_p78, List.forall_mem_cons.mpr ⟨lw_p79, fun _ h => absurd h List.not_mem_nil⟩⟩⟩⟩⟩⟩⟩⟩⟩⟩⟩⟩⟩⟩⟩⟩
theorem lw_p80 : lw_okq (⟨"PromiseTreesModel", "doorAt", "(II)I"⟩, 54) := ⟨⟨by decide +kernel, by decide +kernel⟩, List.mem_of_getElem? (i := 1331) (by decide +kernel), List.mem_of_getElem? (i := 1693) (by decide +kernel), List.mem_of_getElem? (i := 1694) (by decide +kernel)⟩
theorem lw_p81 : lw_okq (⟨"PromiseTreesModel", "isShut", "(II)Z"⟩, 54) := ⟨⟨by decide +kernel, by decide +kernel⟩, List.mem_of_getElem? (i := 1331) (by decide +kernel), List.mem_of_getElem? (i := 1697) (by decide +kernel), List.mem_of_getElem? (i := 1698) (by decide +kernel)⟩
theorem lw_p82 : lw_okq (⟨"PromiseTreesModel", "modeSet", "(I)I"⟩, 54) := ⟨⟨by decide +kernel, by decide +kernel⟩, List.mem_of_getElem? (i := 1331) (by decide +kernel), List.mem_of_getElem? (i := 1705) (by decide +kernel), List.mem_of_getElem? (i := 1706) (by decide +kernel)⟩
theorem lw_p83 : lw_okq (⟨"PromiseTreesModel", "shutMany", "()I"⟩, 54) := ⟨⟨by decide +kernel, by decide +kernel⟩, List.mem_of_getElem? (i := 1331) (by decide +kernel), List.mem_of_getElem? (i := 1709) (by decide +kernel), List.mem_of_getElem? (i := 1710) (by decide +kernel)⟩
theorem lw_p84 : lw_okq (⟨"PromiseTreesModel", "wood", "()I"⟩, 54) := ⟨⟨by decide +kernel, by decide +kernel⟩, List.mem_of_getElem? (i := 1331) (by decide +kernel), List.mem_of_getElem? (i := 1716) (by decide +kernel), List.mem_of_getElem? (i := 1717) (by decide +kernel)⟩
theorem lw_p85 : lw_okq (⟨"PromiseTreesModel", "whyKeep", "(I)I"⟩, 54) := ⟨⟨by decide +kernel, by decide +kernel⟩, List.mem_of_getElem? (i := 1331) (by decide +kernel), List.mem_of_getElem? (i := 1724) (by decide +kernel), List.mem_of_getElem? (i := 1725) (by decide +kernel)⟩
theorem lw_p86 : lw_okq (⟨"PromiseTreesModel", "keepsAll", "()V"⟩, 54) := ⟨⟨by decide +kernel, by decide +kernel⟩, List.mem_of_getElem? (i := 1331) (by decide +kernel), List.mem_of_getElem? (i := 1728) (by decide +kernel), List.mem_of_getElem? (i := 1729) (by decide +kernel)⟩
theorem lw_p87 : lw_okq (⟨"PromiseTreesModel", "keeps", "(I)V"⟩, 54) := ⟨⟨by decide +kernel, by decide +kernel⟩, List.mem_of_getElem? (i := 1331) (by decide +kernel), List.mem_of_getElem? (i := 1732) (by decide +kernel), List.mem_of_getElem? (i := 1733) (by decide +kernel)⟩
theorem lw_p88 : lw_okq (⟨"PromiseTreesModel", "fall", "(I)V"⟩, 54) := ⟨⟨by decide +kernel, by decide +kernel⟩, List.mem_of_getElem? (i := 1331) (by decide +kernel), List.mem_of_getElem? (i := 1740) (by decide +kernel), List.mem_of_getElem? (i := 1741) (by decide +kernel)⟩
theorem lw_p89 : lw_okq (⟨"PromiseTreesModel", "fallSet", "(I)I"⟩, 54) := ⟨⟨by decide +kernel, by decide +kernel⟩, List.mem_of_getElem? (i := 1331) (by decide +kernel), List.mem_of_getElem? (i := 1744) (by decide +kernel), List.mem_of_getElem? (i := 1745) (by decide +kernel)⟩
theorem lw_p90 : lw_okq (⟨"PromiseTreesModel", "trunkOf", "(I)I"⟩, 54) := ⟨⟨by decide +kernel, by decide +kernel⟩, List.mem_of_getElem? (i := 1331) (by decide +kernel), List.mem_of_getElem? (i := 1748) (by decide +kernel), List.mem_of_getElem? (i := 1749) (by decide +kernel)⟩
theorem lw_p91 : lw_okq (⟨"PromiseTreesModel", "stepX", "(I)I"⟩, 54) := ⟨⟨by decide +kernel, by decide +kernel⟩, List.mem_of_getElem? (i := 1331) (by decide +kernel), List.mem_of_getElem? (i := 1752) (by decide +kernel), List.mem_of_getElem? (i := 1753) (by decide +kernel)⟩
theorem lw_p92 : lw_okq (⟨"PromiseTreesModel", "isAlongX", "(I)Z"⟩, 54) := ⟨⟨by decide +kernel, by decide +kernel⟩, List.mem_of_getElem? (i := 1331) (by decide +kernel), List.mem_of_getElem? (i := 1756) (by decide +kernel), List.mem_of_getElem? (i := 1757) (by decide +kernel)⟩
theorem lw_p93 : lw_okq (⟨"PromiseTreesModel", "stepY", "(I)I"⟩, 54) := ⟨⟨by decide +kernel, by decide +kernel⟩, List.mem_of_getElem? (i := 1331) (by decide +kernel), List.mem_of_getElem? (i := 1766) (by decide +kernel), List.mem_of_getElem? (i := 1767) (by decide +kernel)⟩
theorem lw_p94 : lw_okq (⟨"PromiseTreesModel", "whyWater", "(I)I"⟩, 54) := ⟨⟨by decide +kernel, by decide +kernel⟩, List.mem_of_getElem? (i := 1331) (by decide +kernel), List.mem_of_getElem? (i := 1778) (by decide +kernel), List.mem_of_getElem? (i := 1779) (by decide +kernel)⟩
theorem lw_p95 : lw_okq (⟨"PromiseTreesModel", "waters", "(I)V"⟩, 54) := ⟨⟨by decide +kernel, by decide +kernel⟩, List.mem_of_getElem? (i := 1331) (by decide +kernel), List.mem_of_getElem? (i := 1782) (by decide +kernel), List.mem_of_getElem? (i := 1783) (by decide +kernel)⟩
def lw_privs_6 : List (MethodName × Nat) := [(⟨"PromiseTreesModel", "doorAt", "(II)I"⟩, 54), (⟨"PromiseTreesModel", "isShut", "(II)Z"⟩, 54), (⟨"PromiseTreesModel", "modeSet", "(I)I"⟩, 54), (⟨"PromiseTreesModel", "shutMany", "()I"⟩, 54), (⟨"PromiseTreesModel", "wood", "()I"⟩, 54), (⟨"PromiseTreesModel", "whyKeep", "(I)I"⟩, 54), (⟨"PromiseTreesModel", "keepsAll", "()V"⟩, 54), (⟨"PromiseTreesModel", "keeps", "(I)V"⟩, 54), (⟨"PromiseTreesModel", "fall", "(I)V"⟩, 54), (⟨"PromiseTreesModel", "fallSet", "(I)I"⟩, 54), (⟨"PromiseTreesModel", "trunkOf", "(I)I"⟩, 54), (⟨"PromiseTreesModel", "stepX", "(I)I"⟩, 54), (⟨"PromiseTreesModel", "isAlongX", "(I)Z"⟩, 54), (⟨"PromiseTreesModel", "stepY", "(I)I"⟩, 54), (⟨"PromiseTreesModel", "whyWater", "(I)I"⟩, 54), (⟨"PromiseTreesModel", "waters", "(I)V"⟩, 54)]
theorem lw_r6 : ∀ q ∈ lw_privs_6, lw_okq q := List.forall_mem_cons.mpr ⟨lw_p80, List.forall_mem_cons.mpr ⟨lw_p81, List.forall_mem_cons.mpr ⟨lw_p82, List.forall_mem_cons.mpr ⟨lw_p83, List.forall_mem_cons.mpr ⟨lw_p84, List.forall_mem_cons.mpr ⟨lw_p85, List.forall_mem_cons.mpr ⟨lw_p86, List.forall_mem_cons.mpr ⟨lw_p87, List.forall_mem_cons.mpr ⟨lw_p88, List.forall_mem_cons.mpr ⟨lw_p89, List.forall_mem_cons.mpr ⟨lw_p90, List.forall_mem_cons.mpr ⟨lw_p91, List.forall_mem_cons.mpr ⟨lw_p92, List.forall_mem_cons.mpr ⟨lw_p93, List.forall_mem_cons.mpr ⟨lw_p94, List.forall_mem_cons.mpr ⟨lw_p95, fun _ h => absurd h List.not_mem_nil⟩⟩⟩⟩⟩⟩⟩⟩⟩⟩⟩⟩⟩⟩⟩⟩
theorem lw_p96 : lw_okq (⟨"PromiseTreesModel", "goesOn", "(I)I"⟩, 54) := ⟨⟨by decide +kernel, by decide +kernel⟩, List.mem_of_getElem? (i := 1331) (by decide +kernel), List.mem_of_getElem? (i := 1793) (by decide +kernel), List.mem_of_getElem? (i := 1794) (by decide +kernel)⟩
theorem lw_p97 : lw_okq (⟨"PromiseTreesModel", "day", "()V"⟩, 54) := ⟨⟨by decide +kernel, by decide +kernel⟩, List.mem_of_getElem? (i := 1331) (by decide +kernel), List.mem_of_getElem? (i := 1797) (by decide +kernel), List.mem_of_getElem? (i := 1798) (by decide +kernel)⟩
theorem lw_p98 : lw_okq (⟨"PromiseTreesModel", "tries", "()V"⟩, 54) := ⟨⟨by decide +kernel, by decide +kernel⟩, List.mem_of_getElem? (i := 1331) (by decide +kernel), List.mem_of_getElem? (i := 1821) (by decide +kernel), List.mem_of_getElem? (i := 1822) (by decide +kernel)⟩
theorem lw_p99 : lw_okq (⟨"PromiseTreesModel", "back", "()V"⟩, 54) := ⟨⟨by decide +kernel, by decide +kernel⟩, List.mem_of_getElem? (i := 1331) (by decide +kernel), List.mem_of_getElem? (i := 1825) (by decide +kernel), List.mem_of_getElem? (i := 1826) (by decide +kernel)⟩
theorem lw_p100 : lw_okq (⟨"PromiseTreesModel", "wayOf", "(II)I"⟩, 54) := ⟨⟨by decide +kernel, by decide +kernel⟩, List.mem_of_getElem? (i := 1331) (by decide +kernel), List.mem_of_getElem? (i := 1833) (by decide +kernel), List.mem_of_getElem? (i := 1834) (by decide +kernel)⟩
theorem lw_p101 : lw_okq (⟨"PromiseTreesModel", "doorOf", "(I)I"⟩, 54) := ⟨⟨by decide +kernel, by decide +kernel⟩, List.mem_of_getElem? (i := 1331) (by decide +kernel), List.mem_of_getElem? (i := 1837) (by decide +kernel), List.mem_of_getElem? (i := 1838) (by decide +kernel)⟩
theorem lw_p102 : lw_okq (⟨"PromiseTreesModel", "isInTime", "(I)Z"⟩, 54) := ⟨⟨by decide +kernel, by decide +kernel⟩, List.mem_of_getElem? (i := 1331) (by decide +kernel), List.mem_of_getElem? (i := 1849) (by decide +kernel), List.mem_of_getElem? (i := 1850) (by decide +kernel)⟩
theorem lw_p103 : lw_okq (⟨"PromiseTreesModel", "rings", "(I)Z"⟩, 54) := ⟨⟨by decide +kernel, by decide +kernel⟩, List.mem_of_getElem? (i := 1331) (by decide +kernel), List.mem_of_getElem? (i := 1861) (by decide +kernel), List.mem_of_getElem? (i := 1862) (by decide +kernel)⟩
theorem lw_p104 : lw_okq (⟨"PromiseTreesModel", "octet", "(I)I"⟩, 54) := ⟨⟨by decide +kernel, by decide +kernel⟩, List.mem_of_getElem? (i := 1331) (by decide +kernel), List.mem_of_getElem? (i := 1873) (by decide +kernel), List.mem_of_getElem? (i := 1874) (by decide +kernel)⟩
theorem lw_p105 : lw_okq (⟨"PromiseTreesModel", "thirst", "(I)I"⟩, 54) := ⟨⟨by decide +kernel, by decide +kernel⟩, List.mem_of_getElem? (i := 1331) (by decide +kernel), List.mem_of_getElem? (i := 1892) (by decide +kernel), List.mem_of_getElem? (i := 1893) (by decide +kernel)⟩
theorem lw_p106 : lw_okq (⟨"PromiseTreesModel", "draws", "(II)I"⟩, 54) := ⟨⟨by decide +kernel, by decide +kernel⟩, List.mem_of_getElem? (i := 1331) (by decide +kernel), List.mem_of_getElem? (i := 1923) (by decide +kernel), List.mem_of_getElem? (i := 1924) (by decide +kernel)⟩
theorem lw_p107 : lw_okq (⟨"PromiseTreesModel", "draw", "(I)I"⟩, 54) := ⟨⟨by decide +kernel, by decide +kernel⟩, List.mem_of_getElem? (i := 1331) (by decide +kernel), List.mem_of_getElem? (i := 1927) (by decide +kernel), List.mem_of_getElem? (i := 1928) (by decide +kernel)⟩
theorem lw_p108 : lw_okq (⟨"PromiseTreesModel", "drawsWord", "(I)V"⟩, 54) := ⟨⟨by decide +kernel, by decide +kernel⟩, List.mem_of_getElem? (i := 1331) (by decide +kernel), List.mem_of_getElem? (i := 1932) (by decide +kernel), List.mem_of_getElem? (i := 1933) (by decide +kernel)⟩
theorem lw_p109 : lw_okq (⟨"PromiseTreesModel", "bookLine", "()Z"⟩, 54) := ⟨⟨by decide +kernel, by decide +kernel⟩, List.mem_of_getElem? (i := 1331) (by decide +kernel), List.mem_of_getElem? (i := 1944) (by decide +kernel), List.mem_of_getElem? (i := 1945) (by decide +kernel)⟩
theorem lw_p110 : lw_okq (⟨"PromiseTreesModel", "does", "(II)I"⟩, 54) := ⟨⟨by decide +kernel, by decide +kernel⟩, List.mem_of_getElem? (i := 1331) (by decide +kernel), List.mem_of_getElem? (i := 1948) (by decide +kernel), List.mem_of_getElem? (i := 1949) (by decide +kernel)⟩
theorem lw_p111 : lw_okq (⟨"PromiseTreesModel", "nots", "()V"⟩, 54) := ⟨⟨by decide +kernel, by decide +kernel⟩, List.mem_of_getElem? (i := 1331) (by decide +kernel), List.mem_of_getElem? (i := 1960) (by decide +kernel), List.mem_of_getElem? (i := 1961) (by decide +kernel)⟩
def lw_privs_7 : List (MethodName × Nat) := [(⟨"PromiseTreesModel", "goesOn", "(I)I"⟩, 54), (⟨"PromiseTreesModel", "day", "()V"⟩, 54), (⟨"PromiseTreesModel", "tries", "()V"⟩, 54), (⟨"PromiseTreesModel", "back", "()V"⟩, 54), (⟨"PromiseTreesModel", "wayOf", "(II)I"⟩, 54), (⟨"PromiseTreesModel", "doorOf", "(I)I"⟩, 54), (⟨"PromiseTreesModel", "isInTime", "(I)Z"⟩, 54), (⟨"PromiseTreesModel", "rings", "(I)Z"⟩, 54), (⟨"PromiseTreesModel", "octet", "(I)I"⟩, 54), (⟨"PromiseTreesModel", "thirst", "(I)I"⟩, 54), (⟨"PromiseTreesModel", "draws", "(II)I"⟩, 54), (⟨"PromiseTreesModel", "draw", "(I)I"⟩, 54), (⟨"PromiseTreesModel", "drawsWord", "(I)V"⟩, 54), (⟨"PromiseTreesModel", "bookLine", "()Z"⟩, 54), (⟨"PromiseTreesModel", "does", "(II)I"⟩, 54), (⟨"PromiseTreesModel", "nots", "()V"⟩, 54)]
theorem lw_r7 : ∀ q ∈ lw_privs_7, lw_okq q := List.forall_mem_cons.mpr ⟨lw_p96, List.forall_mem_cons.mpr ⟨lw_p97, List.forall_mem_cons.mpr ⟨lw_p98, List.forall_mem_cons.mpr ⟨lw_p99, List.forall_mem_cons.mpr ⟨lw_p100, List.forall_mem_cons.mpr ⟨lw_p101, List.forall_mem_cons.mpr ⟨lw_p102, List.forall_mem_cons.mpr ⟨lw_p103, List.forall_mem_cons.mpr ⟨lw_p104, List.forall_mem_cons.mpr ⟨lw_p105, List.forall_mem_cons.mpr ⟨lw_p106, List.forall_mem_cons.mpr ⟨lw_p107, List.forall_mem_cons.mpr ⟨lw_p108, List.forall_mem_cons.mpr ⟨lw_p109, List.forall_mem_cons.mpr ⟨lw_p110, List.forall_mem_cons.mpr ⟨lw_p111, fun _ h => absurd h List.not_mem_nil⟩⟩⟩⟩⟩⟩⟩⟩⟩⟩⟩⟩⟩⟩⟩⟩
theorem lw_p112 : lw_okq (⟨"PromiseTreesModel", "code", "(III)V"⟩, 54) := ⟨⟨by decide +kernel, by decide +kernel⟩, List.mem_of_getElem? (i := 1331) (by decide +kernel), List.mem_of_getElem? (i := 1964) (by decide +kernel), List.mem_of_getElem? (i := 1965) (by decide +kernel)⟩
theorem lw_p113 : lw_okq (⟨"PromiseTreesModel", "joins", "(I)V"⟩, 54) := ⟨⟨by decide +kernel, by decide +kernel⟩, List.mem_of_getElem? (i := 1331) (by decide +kernel), List.mem_of_getElem? (i := 1968) (by decide +kernel), List.mem_of_getElem? (i := 1969) (by decide +kernel)⟩
theorem lw_p114 : lw_okq (⟨"PromiseTreesModel", "behind", "()Z"⟩, 54) := ⟨⟨by decide +kernel, by decide +kernel⟩, List.mem_of_getElem? (i := 1331) (by decide +kernel), List.mem_of_getElem? (i := 1972) (by decide +kernel), List.mem_of_getElem? (i := 1973) (by decide +kernel)⟩
theorem lw_p115 : lw_okq (⟨"PromiseTreesModel", "operand", "()Z"⟩, 54) := ⟨⟨by decide +kernel, by decide +kernel⟩, List.mem_of_getElem? (i := 1331) (by decide +kernel), List.mem_of_getElem? (i := 1976) (by decide +kernel), List.mem_of_getElem? (i := 1977) (by decide +kernel)⟩
theorem lw_p116 : lw_okq (⟨"PromiseTreesModel", "leafOf", "()I"⟩, 54) := ⟨⟨by decide +kernel, by decide +kernel⟩, List.mem_of_getElem? (i := 1331) (by decide +kernel), List.mem_of_getElem? (i := 1980) (by decide +kernel), List.mem_of_getElem? (i := 1981) (by decide +kernel)⟩
theorem lw_p117 : lw_okq (⟨"PromiseTreesModel", "isSaid", "(I)Z"⟩, 54) := ⟨⟨by decide +kernel, by decide +kernel⟩, List.mem_of_getElem? (i := 1331) (by decide +kernel), List.mem_of_getElem? (i := 1988) (by decide +kernel), List.mem_of_getElem? (i := 1989) (by decide +kernel)⟩
theorem lw_p118 : lw_okq (⟨"PromiseTreesModel", "isLeaf", "(IIII)Z"⟩, 54) := ⟨⟨by decide +kernel, by decide +kernel⟩, List.mem_of_getElem? (i := 1331) (by decide +kernel), List.mem_of_getElem? (i := 1992) (by decide +kernel), List.mem_of_getElem? (i := 1993) (by decide +kernel)⟩
def lw_privs_8 : List (MethodName × Nat) := [(⟨"PromiseTreesModel", "code", "(III)V"⟩, 54), (⟨"PromiseTreesModel", "joins", "(I)V"⟩, 54), (⟨"PromiseTreesModel", "behind", "()Z"⟩, 54), (⟨"PromiseTreesModel", "operand", "()Z"⟩, 54), (⟨"PromiseTreesModel", "leafOf", "()I"⟩, 54), (⟨"PromiseTreesModel", "isSaid", "(I)Z"⟩, 54), (⟨"PromiseTreesModel", "isLeaf", "(IIII)Z"⟩, 54)]
theorem lw_r8 : ∀ q ∈ lw_privs_8, lw_okq q := List.forall_mem_cons.mpr ⟨lw_p112, List.forall_mem_cons.mpr ⟨lw_p113, List.forall_mem_cons.mpr ⟨lw_p114, List.forall_mem_cons.mpr ⟨lw_p115, List.forall_mem_cons.mpr ⟨lw_p116, List.forall_mem_cons.mpr ⟨lw_p117, List.forall_mem_cons.mpr ⟨lw_p118, fun _ h => absurd h List.not_mem_nil⟩⟩⟩⟩⟩⟩⟩
def lw_privs : List (MethodName × Nat) := lw_privs_1 ++ (lw_privs_2 ++ (lw_privs_3 ++ (lw_privs_4 ++ (lw_privs_5 ++ (lw_privs_6 ++ (lw_privs_7 ++ (lw_privs_8)))))))
def lw_tbl : List Cond := k2_sels lw_privs ++ tables_1
theorem lw_privs_ok : ∀ q ∈ lw_privs, lw_okq q := by
  show ∀ q ∈ lw_privs_1 ++ (lw_privs_2 ++ (lw_privs_3 ++ (lw_privs_4 ++ (lw_privs_5 ++ (lw_privs_6 ++ (lw_privs_7 ++ (lw_privs_8))))))), lw_okq q
  exact List.forall_mem_append.mpr ⟨lw_r1, List.forall_mem_append.mpr ⟨lw_r2, List.forall_mem_append.mpr ⟨lw_r3, List.forall_mem_append.mpr ⟨lw_r4, List.forall_mem_append.mpr ⟨lw_r5, List.forall_mem_append.mpr ⟨lw_r6, List.forall_mem_append.mpr ⟨lw_r7, lw_r8⟩⟩⟩⟩⟩⟩⟩
end
section
def RX0 : String := "PromiseTrees$Book"
def TX0 : u_T := fun k => match k with
  | 0 => ("PromiseTrees$Book", "tokens", "LPromiseTrees$Tokens;", true)
  | 1 => ("PromiseTrees$Book", "land", "LPromiseTrees$Land;", true)
  | 2 => ("PromiseTrees$Book", "deeds", "[I", true)
  | 3 => ("PromiseTrees$Book", "whose", "[I", true)
  | 4 => ("PromiseTrees$Book", "lines", "I", false)
  | 5 => ("PromiseTrees$Book", "judged", "Z", false)
  | 6 => ("PromiseTrees$Book", "why", "I", false)
  | 7 => ("PromiseTrees$Book", "fine", "I", false)
  | 8 => ("PromiseTrees$Book", "dayThen", "I", false)
  | _ => ("PromiseTrees$Book", "fellThen", "I", false)
def tyX0 : Nat → FieldType := fun k => match k with
  | 0 => .object "PromiseTrees$Tokens"
  | 1 => .object "PromiseTrees$Land"
  | 2 => .array .int
  | 3 => .array .int
  | 4 => .int
  | 5 => .boolean
  | 6 => .int
  | 7 => .int
  | 8 => .int
  | _ => .int
theorem nmX0 : ∀ a, a < 10 → ∀ b, b < 10 → a ≠ b → (TX0 a).2.1 ≠ (TX0 b).2.1 := by decide +kernel
theorem tyX0_ok : ∀ k, k < 10 → parseFieldDescriptor (TX0 k).2.2.1 = some (tyX0 k) := by decide +kernel
def RX1 : String := "PromiseTrees$Land"
def TX1 : u_T := fun k => match k with
  | 0 => ("PromiseTrees$Land", "wide", "I", false)
  | 1 => ("PromiseTrees$Land", "high", "I", false)
  | 2 => ("PromiseTrees$Land", "grows", "I", false)
  | 3 => ("PromiseTrees$Land", "storm", "I", false)
  | 4 => ("PromiseTrees$Land", "men", "I", false)
  | 5 => ("PromiseTrees$Land", "promises", "I", false)
  | 6 => ("PromiseTrees$Land", "clashes", "I", false)
  | 7 => ("PromiseTrees$Land", "manNames", "[J", true)
  | 8 => ("PromiseTrees$Land", "doorX", "[I", true)
  | 9 => ("PromiseTrees$Land", "doorY", "[I", true)
  | 10 => ("PromiseTrees$Land", "promiseNames", "[J", true)
  | 11 => ("PromiseTrees$Land", "giver", "[I", true)
  | 12 => ("PromiseTrees$Land", "taker", "[I", true)
  | 13 => ("PromiseTrees$Land", "treeX", "[I", true)
  | 14 => ("PromiseTrees$Land", "treeY", "[I", true)
  | 15 => ("PromiseTrees$Land", "planted", "[I", true)
  | 16 => ("PromiseTrees$Land", "till", "[I", true)
  | 17 => ("PromiseTrees$Land", "clash", "[I", true)
  | 18 => ("PromiseTrees$Land", "leanX", "[I", true)
  | _ => ("PromiseTrees$Land", "leanY", "[I", true)
def tyX1 : Nat → FieldType := fun k => match k with
  | 0 => .int
  | 1 => .int
  | 2 => .int
  | 3 => .int
  | 4 => .int
  | 5 => .int
  | 6 => .int
  | 7 => .array .long
  | 8 => .array .int
  | 9 => .array .int
  | 10 => .array .long
  | 11 => .array .int
  | 12 => .array .int
  | 13 => .array .int
  | 14 => .array .int
  | 15 => .array .int
  | 16 => .array .int
  | 17 => .array .int
  | 18 => .array .int
  | _ => .array .int
theorem nmX1 : ∀ a, a < 20 → ∀ b, b < 20 → a ≠ b → (TX1 a).2.1 ≠ (TX1 b).2.1 := by decide +kernel
theorem tyX1_ok : ∀ k, k < 20 → parseFieldDescriptor (TX1 k).2.2.1 = some (tyX1 k) := by decide +kernel
def RX2 : String := "PromiseTrees$LandReader"
def TX2 : u_T := fun k => match k with
  | 0 => ("PromiseTrees$LandReader", "tokens", "LPromiseTrees$Tokens;", true)
  | 1 => ("PromiseTrees$LandReader", "draft", "LPromiseTrees$Land;", true)
  | 2 => ("PromiseTrees$LandReader", "lines", "I", false)
  | 3 => ("PromiseTrees$LandReader", "sized", "Z", false)
  | 4 => ("PromiseTrees$LandReader", "grown", "Z", false)
  | 5 => ("PromiseTrees$LandReader", "stormy", "Z", false)
  | 6 => ("PromiseTrees$LandReader", "taken", "J", false)
  | 7 => ("PromiseTrees$LandReader", "x", "I", false)
  | 8 => ("PromiseTrees$LandReader", "y", "I", false)
  | _ => ("PromiseTrees$LandReader", "found", "I", false)
def tyX2 : Nat → FieldType := fun k => match k with
  | 0 => .object "PromiseTrees$Tokens"
  | 1 => .object "PromiseTrees$Land"
  | 2 => .int
  | 3 => .boolean
  | 4 => .boolean
  | 5 => .boolean
  | 6 => .long
  | 7 => .int
  | 8 => .int
  | _ => .int
theorem nmX2 : ∀ a, a < 10 → ∀ b, b < 10 → a ≠ b → (TX2 a).2.1 ≠ (TX2 b).2.1 := by decide +kernel
theorem tyX2_ok : ∀ k, k < 10 → parseFieldDescriptor (TX2 k).2.2.1 = some (tyX2 k) := by decide +kernel
def RX3 : String := "PromiseTrees$Past"
def TX3 : u_T := fun k => match k with
  | 0 => ("PromiseTrees$Past", "worlds", "[LPromiseTrees$World;", true)
  | 1 => ("PromiseTrees$Past", "newest", "I", false)
  | _ => ("PromiseTrees$Past", "many", "I", false)
def tyX3 : Nat → FieldType := fun k => match k with
  | 0 => .array (.object "PromiseTrees$World")
  | 1 => .int
  | _ => .int
theorem nmX3 : ∀ a, a < 3 → ∀ b, b < 3 → a ≠ b → (TX3 a).2.1 ≠ (TX3 b).2.1 := by decide +kernel
theorem tyX3_ok : ∀ k, k < 3 → parseFieldDescriptor (TX3 k).2.2.1 = some (tyX3 k) := by decide +kernel
def RX4 : String := "PromiseTrees$Reckoning"
def TX4 : u_T := fun k => match k with
  | 0 => ("PromiseTrees$Reckoning", "land", "LPromiseTrees$Land;", true)
  | 1 => ("PromiseTrees$Reckoning", "chosenBits", "I", false)
  | 2 => ("PromiseTrees$Reckoning", "ringWords", "[I", true)
  | 3 => ("PromiseTrees$Reckoning", "ringLength", "I", false)
  | 4 => ("PromiseTrees$Reckoning", "sureBits", "I", false)
  | 5 => ("PromiseTrees$Reckoning", "askedMan", "I", false)
  | 6 => ("PromiseTrees$Reckoning", "latestPrice", "I", false)
  | _ => ("PromiseTrees$Reckoning", "draftWords", "[I", true)
def tyX4 : Nat → FieldType := fun k => match k with
  | 0 => .object "PromiseTrees$Land"
  | 1 => .int
  | 2 => .array .int
  | 3 => .int
  | 4 => .int
  | 5 => .int
  | 6 => .int
  | _ => .array .int
theorem nmX4 : ∀ a, a < 8 → ∀ b, b < 8 → a ≠ b → (TX4 a).2.1 ≠ (TX4 b).2.1 := by decide +kernel
theorem tyX4_ok : ∀ k, k < 8 → parseFieldDescriptor (TX4 k).2.2.1 = some (tyX4 k) := by decide +kernel
def RX5 : String := "PromiseTrees$Sentence"
def TX5 : u_T := fun k => match k with
  | 0 => ("PromiseTrees$Sentence", "steps", "[I", true)
  | 1 => ("PromiseTrees$Sentence", "signs", "[I", true)
  | 2 => ("PromiseTrees$Sentence", "values", "[I", true)
  | 3 => ("PromiseTrees$Sentence", "length", "I", false)
  | _ => ("PromiseTrees$Sentence", "sets", "[I", true)
def tyX5 : Nat → FieldType := fun k => match k with
  | 0 => .array .int
  | 1 => .array .int
  | 2 => .array .int
  | 3 => .int
  | _ => .array .int
theorem nmX5 : ∀ a, a < 5 → ∀ b, b < 5 → a ≠ b → (TX5 a).2.1 ≠ (TX5 b).2.1 := by decide +kernel
theorem tyX5_ok : ∀ k, k < 5 → parseFieldDescriptor (TX5 k).2.2.1 = some (tyX5 k) := by decide +kernel
def RX6 : String := "PromiseTrees$SentenceReader"
def TX6 : u_T := fun k => match k with
  | 0 => ("PromiseTrees$SentenceReader", "tokens", "LPromiseTrees$Tokens;", true)
  | 1 => ("PromiseTrees$SentenceReader", "land", "LPromiseTrees$Land;", true)
  | 2 => ("PromiseTrees$SentenceReader", "draft", "LPromiseTrees$Sentence;", true)
  | _ => ("PromiseTrees$SentenceReader", "ones", "I", false)
def tyX6 : Nat → FieldType := fun k => match k with
  | 0 => .object "PromiseTrees$Tokens"
  | 1 => .object "PromiseTrees$Land"
  | 2 => .object "PromiseTrees$Sentence"
  | _ => .int
theorem nmX6 : ∀ a, a < 4 → ∀ b, b < 4 → a ≠ b → (TX6 a).2.1 ≠ (TX6 b).2.1 := by decide +kernel
theorem tyX6_ok : ∀ k, k < 4 → parseFieldDescriptor (TX6 k).2.2.1 = some (tyX6 k) := by decide +kernel
def RX7 : String := "PromiseTrees$Tape"
def TX7 : u_T := fun k => match k with
  | 0 => ("PromiseTrees$Tape", "bytes", "[B", true)
  | _ => ("PromiseTrees$Tape", "length", "I", false)
def tyX7 : Nat → FieldType := fun k => match k with
  | 0 => .array .byte
  | _ => .int
theorem nmX7 : ∀ a, a < 2 → ∀ b, b < 2 → a ≠ b → (TX7 a).2.1 ≠ (TX7 b).2.1 := by decide +kernel
theorem tyX7_ok : ∀ k, k < 2 → parseFieldDescriptor (TX7 k).2.2.1 = some (tyX7 k) := by decide +kernel
def RX8 : String := "PromiseTrees$Tokens"
def TX8 : u_T := fun k => match k with
  | 0 => ("PromiseTrees$Tokens", "tape", "LPromiseTrees$Tape;", true)
  | 1 => ("PromiseTrees$Tokens", "keywordCodes", "[J", true)
  | 2 => ("PromiseTrees$Tokens", "kinds", "[I", true)
  | 3 => ("PromiseTrees$Tokens", "places", "[I", true)
  | 4 => ("PromiseTrees$Tokens", "values", "[J", true)
  | 5 => ("PromiseTrees$Tokens", "many", "I", false)
  | 6 => ("PromiseTrees$Tokens", "next", "I", false)
  | 7 => ("PromiseTrees$Tokens", "kind", "I", false)
  | 8 => ("PromiseTrees$Tokens", "faultKind", "I", false)
  | 9 => ("PromiseTrees$Tokens", "faultAt", "I", false)
  | 10 => ("PromiseTrees$Tokens", "at", "I", false)
  | _ => ("PromiseTrees$Tokens", "value", "J", false)
def tyX8 : Nat → FieldType := fun k => match k with
  | 0 => .object "PromiseTrees$Tape"
  | 1 => .array .long
  | 2 => .array .int
  | 3 => .array .int
  | 4 => .array .long
  | 5 => .int
  | 6 => .int
  | 7 => .int
  | 8 => .int
  | 9 => .int
  | 10 => .int
  | _ => .long
theorem nmX8 : ∀ a, a < 12 → ∀ b, b < 12 → a ≠ b → (TX8 a).2.1 ≠ (TX8 b).2.1 := by decide +kernel
theorem tyX8_ok : ∀ k, k < 12 → parseFieldDescriptor (TX8 k).2.2.1 = some (tyX8 k) := by decide +kernel
def RX9 : String := "PromiseTrees$World"
def TX9 : u_T := fun k => match k with
  | 0 => ("PromiseTrees$World", "land", "LPromiseTrees$Land;", true)
  | 1 => ("PromiseTrees$World", "tall", "[I", true)
  | 2 => ("PromiseTrees$World", "state", "[I", true)
  | 3 => ("PromiseTrees$World", "wateredOn", "[I", true)
  | 4 => ("PromiseTrees$World", "keptSoFar", "[I", true)
  | 5 => ("PromiseTrees$World", "keptOn", "[I", true)
  | 6 => ("PromiseTrees$World", "shut", "J", false)
  | 7 => ("PromiseTrees$World", "day", "I", false)
  | 8 => ("PromiseTrees$World", "struck", "[I", true)
  | _ => ("PromiseTrees$World", "drawState", "I", false)
def tyX9 : Nat → FieldType := fun k => match k with
  | 0 => .object "PromiseTrees$Land"
  | 1 => .array .int
  | 2 => .array .int
  | 3 => .array .int
  | 4 => .array .int
  | 5 => .array .int
  | 6 => .long
  | 7 => .int
  | 8 => .array .int
  | _ => .int
theorem nmX9 : ∀ a, a < 10 → ∀ b, b < 10 → a ≠ b → (TX9 a).2.1 ≠ (TX9 b).2.1 := by decide +kernel
theorem tyX9_ok : ∀ k, k < 10 → parseFieldDescriptor (TX9 k).2.2.1 = some (tyX9 k) := by decide +kernel
def RX10 : String := "PromiseTrees"
def TX10 : u_T := fun k => match k with
  | 0 => ("PromiseTrees", "tape", "LPromiseTrees$Tape;", true)
  | 1 => ("PromiseTrees", "tokens", "LPromiseTrees$Tokens;", true)
  | 2 => ("PromiseTrees", "land", "LPromiseTrees$Land;", true)
  | 3 => ("PromiseTrees", "landReader", "LPromiseTrees$LandReader;", true)
  | 4 => ("PromiseTrees", "world", "LPromiseTrees$World;", true)
  | 5 => ("PromiseTrees", "trial", "LPromiseTrees$World;", true)
  | 6 => ("PromiseTrees", "past", "LPromiseTrees$Past;", true)
  | 7 => ("PromiseTrees", "reckoning", "LPromiseTrees$Reckoning;", true)
  | 8 => ("PromiseTrees", "book", "LPromiseTrees$Book;", true)
  | 9 => ("PromiseTrees", "sentence", "LPromiseTrees$Sentence;", true)
  | 10 => ("PromiseTrees", "sentenceReader", "LPromiseTrees$SentenceReader;", true)
  | 11 => ("PromiseTrees", "imageLands", "[LPromiseTrees$Land;", true)
  | 12 => ("PromiseTrees", "imageWorlds", "[LPromiseTrees$World;", true)
  | 13 => ("PromiseTrees", "imageSentences", "[LPromiseTrees$Sentence;", true)
  | 14 => ("PromiseTrees", "imageTaken", "[Z", true)
  | _ => ("PromiseTrees", "faultKind", "I", false)
def tyX10 : Nat → FieldType := fun k => match k with
  | 0 => .object "PromiseTrees$Tape"
  | 1 => .object "PromiseTrees$Tokens"
  | 2 => .object "PromiseTrees$Land"
  | 3 => .object "PromiseTrees$LandReader"
  | 4 => .object "PromiseTrees$World"
  | 5 => .object "PromiseTrees$World"
  | 6 => .object "PromiseTrees$Past"
  | 7 => .object "PromiseTrees$Reckoning"
  | 8 => .object "PromiseTrees$Book"
  | 9 => .object "PromiseTrees$Sentence"
  | 10 => .object "PromiseTrees$SentenceReader"
  | 11 => .array (.object "PromiseTrees$Land")
  | 12 => .array (.object "PromiseTrees$World")
  | 13 => .array (.object "PromiseTrees$Sentence")
  | 14 => .array .boolean
  | _ => .int
theorem nmX10 : ∀ a, a < 16 → ∀ b, b < 16 → a ≠ b → (TX10 a).2.1 ≠ (TX10 b).2.1 := by decide +kernel
theorem tyX10_ok : ∀ k, k < 16 → parseFieldDescriptor (TX10 k).2.2.1 = some (tyX10 k) := by decide +kernel
def RX11 : String := "PromiseTreesModel"
def TX11 : u_T := fun k => match k with
  | 0 => ("PromiseTreesModel", "thrown", "I", false)
  | 1 => ("PromiseTreesModel", "tape", "[B", true)
  | 2 => ("PromiseTreesModel", "length", "I", false)
  | 3 => ("PromiseTreesModel", "size", "I", false)
  | 4 => ("PromiseTreesModel", "p", "I", false)
  | 5 => ("PromiseTreesModel", "limit", "I", false)
  | 6 => ("PromiseTreesModel", "s", "[I", true)
  | 7 => ("PromiseTreesModel", "h", "[I", true)
  | 8 => ("PromiseTreesModel", "read", "[I", true)
  | 9 => ("PromiseTreesModel", "names", "[J", true)
  | 10 => ("PromiseTreesModel", "reserved", "[J", true)
  | 11 => ("PromiseTreesModel", "token", "I", false)
  | 12 => ("PromiseTreesModel", "at", "I", false)
  | 13 => ("PromiseTreesModel", "span", "I", false)
  | 14 => ("PromiseTreesModel", "number", "I", false)
  | 15 => ("PromiseTreesModel", "fault", "I", false)
  | 16 => ("PromiseTreesModel", "faultAt", "I", false)
  | 17 => ("PromiseTreesModel", "word", "J", false)
  | 18 => ("PromiseTreesModel", "got", "I", false)
  | 19 => ("PromiseTreesModel", "lines", "I", false)
  | 20 => ("PromiseTreesModel", "onces", "I", false)
  | 21 => ("PromiseTreesModel", "row", "[I", true)
  | 22 => ("PromiseTreesModel", "struck", "I", false)
  | 23 => ("PromiseTreesModel", "undone", "[I", true)
  | 24 => ("PromiseTreesModel", "before", "[I", true)
  | 25 => ("PromiseTreesModel", "undoMany", "I", false)
  | 26 => ("PromiseTreesModel", "steps", "[I", true)
  | 27 => ("PromiseTreesModel", "walk", "[I", true)
  | 28 => ("PromiseTreesModel", "chosenSet", "I", false)
  | 29 => ("PromiseTreesModel", "hasChosen", "Z", false)
  | 30 => ("PromiseTreesModel", "pick", "[I", true)
  | 31 => ("PromiseTreesModel", "ringRow", "[I", true)
  | 32 => ("PromiseTreesModel", "ringMany", "I", false)
  | 33 => ("PromiseTreesModel", "surelySet", "I", false)
  | 34 => ("PromiseTreesModel", "askMan", "I", false)
  | 35 => ("PromiseTreesModel", "hasSworn", "Z", false)
  | 36 => ("PromiseTreesModel", "parts", "[I", true)
  | 37 => ("PromiseTreesModel", "rests", "[I", true)
  | 38 => ("PromiseTreesModel", "priceNow", "I", false)
  | 39 => ("PromiseTreesModel", "hasPrice", "Z", false)
  | 40 => ("PromiseTreesModel", "seed", "I", false)
  | 41 => ("PromiseTreesModel", "toldMany", "I", false)
  | 42 => ("PromiseTreesModel", "toldAt", "[I", true)
  | 43 => ("PromiseTreesModel", "hasTold", "Z", false)
  | 44 => ("PromiseTreesModel", "stack", "[I", true)
  | 45 => ("PromiseTreesModel", "codes", "I", false)
  | 46 => ("PromiseTreesModel", "ones", "I", false)
  | 47 => ("PromiseTreesModel", "top", "I", false)
  | 48 => ("PromiseTreesModel", "deep", "I", false)
  | 49 => ("PromiseTreesModel", "isWhole", "Z", false)
  | 50 => ("PromiseTreesModel", "truths", "[Z", true)
  | 51 => ("PromiseTreesModel", "kept", "[I", true)
  | 52 => ("PromiseTreesModel", "namesKept", "[J", true)
  | _ => ("PromiseTreesModel", "areKept", "[Z", true)
def tyX11 : Nat → FieldType := fun k => match k with
  | 0 => .int
  | 1 => .array .byte
  | 2 => .int
  | 3 => .int
  | 4 => .int
  | 5 => .int
  | 6 => .array .int
  | 7 => .array .int
  | 8 => .array .int
  | 9 => .array .long
  | 10 => .array .long
  | 11 => .int
  | 12 => .int
  | 13 => .int
  | 14 => .int
  | 15 => .int
  | 16 => .int
  | 17 => .long
  | 18 => .int
  | 19 => .int
  | 20 => .int
  | 21 => .array .int
  | 22 => .int
  | 23 => .array .int
  | 24 => .array .int
  | 25 => .int
  | 26 => .array .int
  | 27 => .array .int
  | 28 => .int
  | 29 => .boolean
  | 30 => .array .int
  | 31 => .array .int
  | 32 => .int
  | 33 => .int
  | 34 => .int
  | 35 => .boolean
  | 36 => .array .int
  | 37 => .array .int
  | 38 => .int
  | 39 => .boolean
  | 40 => .int
  | 41 => .int
  | 42 => .array .int
  | 43 => .boolean
  | 44 => .array .int
  | 45 => .int
  | 46 => .int
  | 47 => .int
  | 48 => .int
  | 49 => .boolean
  | 50 => .array .boolean
  | 51 => .array .int
  | 52 => .array .long
  | _ => .array .boolean
theorem nmX11 : ∀ a, a < 54 → ∀ b, b < 54 → a ≠ b → (TX11 a).2.1 ≠ (TX11 b).2.1 := by decide +kernel
theorem tyX11_ok : ∀ k, k < 54 → parseFieldDescriptor (TX11 k).2.2.1 = some (tyX11 k) := by decide +kernel
abbrev vwCl : List vw_C := [(RX0, TX0, 10), (RX1, TX1, 20), (RX2, TX2, 10), (RX3, TX3, 3), (RX4, TX4, 8), (RX5, TX5, 5), (RX6, TX6, 4), (RX7, TX7, 2), (RX8, TX8, 12), (RX9, TX9, 10), (RX10, TX10, 16), (RX11, TX11, 54)]
theorem in_X0 : ∀ w ∈ u_ws RX0 TX0 10, w ∈ lw_tbl := by decide +kernel
theorem in_X1 : ∀ w ∈ u_ws RX1 TX1 20, w ∈ lw_tbl := by decide +kernel
theorem in_X2 : ∀ w ∈ u_ws RX2 TX2 10, w ∈ lw_tbl := by decide +kernel
theorem in_X3 : ∀ w ∈ u_ws RX3 TX3 3, w ∈ lw_tbl := by decide +kernel
theorem in_X4 : ∀ w ∈ u_ws RX4 TX4 8, w ∈ lw_tbl := by decide +kernel
theorem in_X5 : ∀ w ∈ u_ws RX5 TX5 5, w ∈ lw_tbl := by decide +kernel
theorem in_X6 : ∀ w ∈ u_ws RX6 TX6 4, w ∈ lw_tbl := by decide +kernel
theorem in_X7 : ∀ w ∈ u_ws RX7 TX7 2, w ∈ lw_tbl := by decide +kernel
theorem in_X8 : ∀ w ∈ u_ws RX8 TX8 12, w ∈ lw_tbl := by decide +kernel
theorem in_X9 : ∀ w ∈ u_ws RX9 TX9 10, w ∈ lw_tbl := by decide +kernel
theorem in_X10 : ∀ w ∈ u_ws RX10 TX10 16, w ∈ lw_tbl := by decide +kernel
theorem in_X11 : ∀ w ∈ u_ws RX11 TX11 54, w ∈ lw_tbl := by decide +kernel
end
section
/-! the engine's tables, by program (wip/p1/gen2.py): the classes whose code is walked; of each its references, with the places of the words that speak of them -/
def eg_own : List String := ["PromiseTrees$Book", "PromiseTrees$Land", "PromiseTrees$LandReader", "PromiseTrees$Past", "PromiseTrees$Reckoning", "PromiseTrees$Sentence", "PromiseTrees$SentenceReader", "PromiseTrees$Tape", "PromiseTrees$Tokens", "PromiseTrees$World", "PromiseTrees", "PromiseTreesModel", "PromiseTreesLaw", "java/lang/Integer", "java/lang/Long", "java/lang/Math", "java/lang/String", "java/lang/StringLatin1", "jdk/internal/util/Preconditions"]
/-- fields: index, class, field, place of fieldLink -/
def eg_fx : List (List (Nat × Nat × Nat × Nat)) := [
  [(9, 0, 2, 547), (15, 0, 3, 548), (18, 0, 4, 549), (22, 0, 5, 550), (26, 0, 6, 551), (29, 0, 7, 552), (32, 0, 8, 553), (35, 0, 9, 554), (38, 0, 0, 545), (42, 0, 1, 546), (51, 8, 7, 235), (105, 9, 7, 458)],
  [(9, 1, 0, 277), (15, 1, 1, 280), (18, 1, 2, 283), (21, 1, 3, 287), (24, 1, 4, 291), (27, 1, 5, 296), (30, 1, 6, 302), (33, 1, 7, 305), (37, 1, 8, 307), (41, 1, 9, 311), (44, 1, 10, 315), (47, 1, 11, 317), (50, 1, 12, 322), (53, 1, 13, 326), (56, 1, 14, 330), (59, 1, 15, 334), (62, 1, 16, 337), (65, 1, 17, 343), (68, 1, 18, 348), (71, 1, 19, 350)],
  [(12, 2, 1, 402), (18, 2, 0, 401), (25, 2, 3, 406), (29, 2, 4, 407), (32, 2, 5, 408), (35, 2, 6, 409), (39, 2, 2, 404), (48, 8, 7, 237), (88, 1, 0, 278), (91, 1, 1, 281), (94, 1, 4, 292), (100, 1, 7, 306), (111, 1, 8, 308), (115, 2, 7, 410), (118, 1, 9, 312), (121, 2, 8, 411), (124, 1, 5, 299), (127, 1, 10, 316), (133, 1, 11, 319), (136, 2, 9, 412), (139, 1, 12, 323), (142, 1, 13, 327), (145, 1, 14, 331), (148, 1, 15, 336), (151, 1, 16, 339), (158, 1, 6, 303), (164, 1, 17, 345), (167, 1, 2, 284), (170, 1, 3, 288)],
  [(13, 3, 0, 492), (17, 3, 1, 493), (21, 3, 2, 494)],
  [(9, 4, 1, 509), (15, 4, 2, 511), (19, 4, 3, 513), (22, 4, 4, 515), (25, 4, 5, 517), (28, 4, 6, 519), (31, 4, 7, 521), (34, 4, 0, 508), (42, 1, 5, 297), (62, 9, 2, 447), (65, 1, 17, 344), (72, 1, 11, 318), (75, 9, 5, 453), (78, 9, 7, 457), (81, 1, 16, 338), (84, 1, 4, 293), (91, 1, 12, 324), (94, 7, 1, 161), (113, 9, 1, 444)],
  [(9, 5, 0, 582), (13, 5, 1, 583), (16, 5, 2, 584), (19, 5, 3, 585), (23, 5, 4, 586), (40, 9, 0, 441), (46, 1, 5, 300), (71, 9, 1, 445), (78, 1, 16, 341)],
  [(12, 6, 2, 608), (18, 6, 0, 606), (22, 6, 1, 607), (29, 6, 3, 610), (42, 8, 7, 236)],
  [(9, 7, 0, 157), (15, 7, 1, 158)],
  [(11, 8, 1, 228), (15, 8, 2, 229), (19, 8, 3, 230), (22, 8, 4, 231), (25, 8, 5, 232), (29, 8, 6, 233), (32, 8, 7, 234), (35, 8, 8, 238), (38, 8, 9, 240), (41, 8, 10, 242), (44, 8, 11, 243), (48, 8, 0, 227), (68, 7, 1, 160)],
  [(9, 9, 1, 442), (15, 9, 2, 446), (18, 9, 3, 449), (21, 9, 4, 450), (24, 9, 5, 452), (27, 9, 6, 454), (31, 9, 7, 456), (35, 9, 8, 460), (38, 9, 9, 461), (41, 9, 0, 440), (45, 1, 15, 335), (50, 1, 5, 298), (61, 1, 4, 294), (64, 1, 8, 310), (67, 1, 9, 314), (74, 1, 14, 333), (77, 1, 13, 329), (101, 1, 17, 347), (104, 1, 11, 321), (126, 1, 18, 349), (129, 1, 19, 351), (138, 1, 16, 342), (141, 1, 2, 285), (160, 1, 3, 289)],
  [(18, 10, 0, 623), (24, 10, 1, 624), (28, 10, 2, 625), (37, 10, 3, 626), (46, 10, 4, 627), (50, 10, 5, 628), (56, 10, 6, 629), (63, 10, 7, 630), (72, 10, 8, 631), (79, 10, 9, 632), (86, 10, 10, 633), (90, 10, 11, 634), (94, 10, 12, 635), (98, 10, 13, 636), (102, 10, 14, 637), (106, 10, 15, 638), (110, 7, 1, 159), (127, 8, 9, 241), (130, 2, 1, 403), (143, 2, 2, 405), (146, 8, 8, 239), (154, 1, 11, 320), (158, 1, 12, 325), (161, 1, 13, 328), (164, 1, 14, 332), (167, 9, 1, 443), (170, 1, 16, 340), (173, 9, 2, 448), (179, 1, 17, 346), (185, 1, 8, 309), (188, 1, 9, 313), (201, 9, 4, 451), (220, 9, 7, 459), (223, 9, 6, 455), (266, 1, 1, 282), (269, 1, 0, 279), (286, 1, 5, 301), (292, 4, 1, 510), (298, 4, 3, 514), (301, 4, 2, 512), (308, 4, 4, 516), (311, 4, 5, 518), (321, 4, 6, 520), (338, 6, 2, 609), (343, 6, 3, 611), (352, 1, 4, 295), (355, 1, 6, 304), (358, 1, 2, 286), (361, 1, 3, 290)],
  [(1, 11, 0, 1488), (7, 11, 2, 1490), (14, 11, 1, 1489), (18, 11, 3, 1491), (21, 11, 4, 1492), (24, 11, 5, 1493), (33, 11, 6, 1494), (37, 11, 7, 1495), (40, 11, 8, 1496), (43, 11, 9, 1497), (47, 11, 10, 1498), (50, 11, 21, 1509), (53, 11, 23, 1511), (56, 11, 24, 1512), (59, 11, 26, 1514), (62, 11, 27, 1515), (65, 11, 30, 1518), (68, 11, 31, 1519), (71, 11, 32, 1520), (74, 11, 36, 1524), (77, 11, 37, 1525), (80, 11, 42, 1530), (83, 11, 44, 1532), (86, 11, 50, 1538), (90, 11, 51, 1539), (93, 11, 52, 1540), (96, 11, 53, 1541), (152, 11, 12, 1500), (155, 11, 13, 1501), (158, 11, 11, 1499), (168, 11, 14, 1502), (171, 11, 17, 1505), (175, 11, 15, 1503), (178, 11, 16, 1504), (194, 11, 18, 1506), (212, 11, 20, 1508), (246, 11, 19, 1507), (255, 11, 25, 1513), (318, 11, 22, 1510), (384, 11, 29, 1517), (388, 11, 28, 1516), (400, 11, 35, 1523), (403, 11, 33, 1521), (406, 11, 34, 1522), (412, 11, 38, 1526), (415, 11, 39, 1527), (421, 11, 40, 1528), (434, 11, 41, 1529), (443, 11, 43, 1531), (446, 11, 45, 1533), (449, 11, 47, 1535), (456, 11, 48, 1536), (462, 11, 46, 1534), (465, 11, 49, 1537)],
  [],
  [],
  [],
  [],
  [],
  [],
  []]
/-- calls: index, kind (0 virtual, 1 init, 2 static, 3 init of a nest mate, 4 Object's), place of the link, of the code, the callee's class, its parameters, places of instanceMethod or static, selects, initialized -/
def eg_cx : List (List (Nat × Nat × Nat × Nat × Nat × Nat × Nat × Nat × Nat)) := [
  [(3, 4, 544, 150, 0, 0, 149, 0, 0), (46, 0, 1201, 736, 8, 0, 734, 735, 122), (54, 0, 1202, 1205, 0, 0, 1204, 29, 132), (58, 0, 1222, 827, 8, 0, 825, 826, 122), (61, 0, 1210, 748, 8, 1, 746, 747, 122), (65, 0, 1206, 1209, 0, 0, 1208, 30, 132), (68, 0, 1213, 1216, 0, 0, 1215, 31, 132), (71, 0, 1211, 752, 8, 2, 750, 751, 122), (75, 0, 1212, 758, 8, 0, 756, 757, 122), (79, 0, 1217, 774, 8, 0, 772, 773, 122), (83, 0, 1218, 782, 1, 1, 780, 781, 127), (89, 2, 1219, 1221, 0, 1, 1220, 0, 132), (95, 0, 1227, 1186, 9, 2, 1184, 1185, 129), (99, 0, 1228, 958, 9, 0, 956, 957, 129), (102, 0, 1229, 962, 9, 1, 960, 961, 129), (108, 0, 1230, 880, 9, 1, 878, 879, 129)],
  [(3, 4, 276, 150, 0, 0, 149, 0, 0), (74, 2, 1036, 789, 1, 2, 788, 0, 127), (78, 2, 802, 804, 15, 1, 803, 0, 136), (84, 2, 805, 807, 1, 1, 806, 0, 127)],
  [(3, 4, 398, 150, 0, 0, 149, 0, 0), (11, 3, 400, 275, 1, 0, 274, 0, 127), (22, 0, 729, 732, 1, 0, 730, 731, 127), (43, 0, 733, 736, 8, 0, 734, 735, 122), (51, 0, 737, 740, 2, 0, 739, 3, 128), (55, 0, 824, 827, 8, 0, 825, 826, 122), (58, 0, 745, 748, 8, 1, 746, 747, 122), (62, 0, 741, 744, 2, 0, 743, 4, 128), (65, 0, 759, 762, 2, 0, 761, 5, 128), (68, 0, 790, 793, 2, 0, 792, 8, 128), (71, 0, 808, 811, 2, 0, 810, 10, 128), (74, 0, 816, 819, 2, 0, 818, 12, 128), (77, 0, 820, 823, 2, 0, 822, 13, 128), (80, 0, 749, 752, 8, 2, 750, 751, 122), (84, 0, 755, 758, 8, 0, 756, 757, 122), (97, 0, 763, 766, 2, 0, 765, 6, 128), (104, 0, 771, 774, 8, 0, 772, 773, 122), (108, 0, 783, 786, 2, 0, 785, 7, 128), (130, 0, 794, 797, 2, 0, 796, 9, 128), (154, 0, 798, 801, 1, 1, 799, 800, 127), (161, 0, 812, 815, 2, 0, 814, 11, 128), (173, 0, 767, 770, 8, 0, 768, 769, 122), (176, 0, 775, 778, 1, 1, 776, 777, 127), (180, 0, 779, 782, 1, 1, 780, 781, 127), (183, 2, 787, 789, 1, 2, 788, 0, 127)],
  [(3, 4, 488, 150, 0, 0, 149, 0, 0), (24, 1, 491, 438, 9, 1, 437, 0, 129), (27, 0, 916, 919, 9, 1, 917, 918, 129), (31, 2, 920, 695, 15, 2, 694, 0, 136)],
  [(3, 4, 507, 150, 0, 0, 149, 0, 0), (38, 0, 1059, 1062, 4, 1, 1061, 22, 131), (47, 2, 1064, 1066, 13, 1, 1065, 0, 141), (53, 0, 1070, 1073, 4, 2, 1072, 23, 131), (59, 0, 1063, 880, 9, 1, 878, 879, 129), (68, 0, 1074, 1077, 4, 3, 1076, 24, 131), (87, 0, 1090, 1093, 4, 3, 1092, 25, 131), (99, 0, 1106, 1109, 1, 1, 1107, 1108, 127), (102, 0, 1110, 699, 7, 1, 697, 698, 121), (105, 2, 1111, 1113, 4, 2, 1112, 0, 131), (109, 2, 1130, 1132, 4, 2, 1131, 0, 131), (116, 2, 1141, 1143, 15, 2, 1142, 0, 136)],
  [(1, 4, 581, 150, 0, 0, 149, 0, 0), (28, 0, 1310, 1313, 5, 1, 1312, 40, 133), (32, 0, 1314, 1317, 5, 2, 1316, 41, 133), (36, 0, 1318, 1321, 5, 2, 1320, 42, 133), (51, 0, 1322, 880, 9, 1, 878, 879, 129), (54, 0, 1323, 1326, 9, 0, 1324, 1325, 129), (58, 0, 1331, 1109, 1, 1, 1107, 1108, 127), (61, 0, 1332, 1335, 1, 1, 1333, 1334, 127), (64, 0, 1336, 1339, 5, 2, 1338, 43, 133), (67, 0, 1340, 1343, 5, 3, 1342, 44, 133), (74, 2, 1344, 1346, 5, 3, 1345, 0, 133)],
  [(3, 4, 603, 150, 0, 0, 149, 0, 0), (11, 3, 605, 580, 5, 0, 579, 0, 133), (26, 0, 1247, 843, 5, 0, 841, 842, 133), (33, 0, 1248, 736, 8, 0, 734, 735, 122), (38, 0, 1249, 1252, 6, 1, 1251, 32, 134), (45, 0, 1264, 748, 8, 1, 746, 747, 122), (48, 0, 1253, 1256, 6, 1, 1255, 33, 134), (51, 0, 1273, 1276, 5, 3, 1274, 1275, 133), (55, 0, 1257, 1260, 6, 1, 1259, 34, 134), (58, 2, 1261, 1263, 6, 1, 1262, 0, 134), (61, 0, 1265, 1268, 6, 1, 1267, 35, 134), (64, 0, 1269, 1272, 6, 1, 1271, 36, 134), (67, 0, 1277, 1280, 6, 1, 1279, 37, 134), (70, 0, 1284, 1287, 6, 1, 1286, 38, 134), (73, 0, 1290, 1293, 6, 1, 1292, 39, 134), (76, 0, 1281, 770, 8, 0, 768, 769, 122), (80, 0, 1282, 774, 8, 0, 772, 773, 122), (84, 0, 1283, 778, 1, 1, 776, 777, 127), (90, 0, 1288, 752, 8, 2, 750, 751, 122), (94, 0, 1289, 758, 8, 0, 756, 757, 122)],
  [(3, 4, 156, 150, 0, 0, 149, 0, 0)],
  [(3, 4, 173, 150, 0, 0, 149, 0, 0), (54, 0, 175, 178, 16, 0, 176, 177, 123), (60, 0, 185, 188, 16, 1, 186, 187, 123), (64, 2, 223, 225, 8, 2, 224, 0, 122), (72, 2, 693, 695, 15, 2, 694, 0, 136), (78, 0, 696, 699, 7, 1, 697, 698, 121), (82, 2, 700, 702, 8, 1, 701, 0, 122), (86, 2, 703, 705, 8, 1, 704, 0, 122), (89, 0, 706, 709, 8, 1, 708, 0, 122), (92, 2, 719, 721, 8, 1, 720, 0, 122), (95, 2, 722, 724, 8, 1, 723, 0, 122), (98, 0, 715, 718, 8, 3, 717, 2, 122), (104, 0, 711, 714, 8, 1, 713, 1, 122), (110, 0, 753, 736, 8, 0, 734, 735, 122), (113, 0, 754, 748, 8, 1, 746, 747, 122)],
  [(3, 4, 439, 150, 0, 0, 149, 0, 0), (53, 0, 891, 880, 9, 1, 878, 879, 129), (57, 2, 872, 789, 1, 2, 788, 0, 127), (70, 0, 864, 867, 1, 2, 865, 866, 127), (80, 0, 934, 937, 9, 1, 935, 936, 129), (84, 0, 972, 975, 9, 3, 974, 18, 129), (88, 0, 992, 995, 9, 1, 994, 19, 129), (91, 0, 1327, 1330, 9, 1, 1328, 1329, 129), (94, 0, 1004, 863, 9, 2, 861, 862, 129), (97, 0, 1005, 871, 9, 2, 869, 870, 129), (107, 0, 925, 928, 9, 1, 926, 927, 129), (111, 2, 938, 695, 15, 2, 694, 0, 136), (116, 0, 1187, 911, 9, 2, 909, 910, 129), (119, 0, 1188, 924, 9, 2, 922, 923, 129), (123, 0, 929, 932, 9, 2, 931, 16, 129), (132, 0, 933, 859, 1, 2, 857, 858, 127), (135, 0, 968, 971, 9, 0, 970, 17, 129), (144, 0, 963, 958, 9, 0, 956, 957, 129), (148, 0, 964, 967, 9, 0, 965, 966, 129), (151, 0, 1169, 1172, 9, 0, 1171, 26, 129), (154, 0, 1179, 1182, 9, 0, 1181, 28, 129), (157, 0, 1173, 1176, 9, 1, 1175, 27, 129), (163, 0, 1178, 907, 1, 1, 905, 906, 127), (166, 0, 1183, 1186, 9, 2, 1184, 1185, 129), (170, 0, 1032, 1035, 1, 0, 1033, 1034, 127), (174, 0, 1037, 1040, 9, 0, 1039, 21, 129), (179, 2, 1042, 1044, 9, 1, 1043, 0, 129)],
  [(1, 4, 148, 150, 0, 0, 149, 0, 0), (9, 3, 153, 155, 7, 0, 154, 0, 121), (12, 1, 170, 172, 8, 1, 171, 0, 122), (17, 3, 273, 275, 1, 0, 274, 0, 127), (34, 1, 395, 397, 2, 1, 396, 0, 128), (43, 1, 436, 438, 9, 1, 437, 0, 129), (55, 1, 485, 487, 3, 1, 486, 0, 130), (62, 1, 504, 506, 4, 1, 505, 0, 131), (69, 1, 541, 543, 0, 2, 542, 0, 132), (78, 3, 578, 580, 5, 0, 579, 0, 133), (85, 1, 600, 602, 6, 2, 601, 0, 134), (113, 0, 677, 680, 7, 1, 678, 679, 121), (117, 0, 689, 692, 8, 1, 690, 691, 122), (120, 0, 725, 728, 2, 0, 726, 727, 128), (124, 0, 828, 831, 10, 0, 830, 14, 120), (133, 0, 832, 835, 1, 1, 833, 834, 127), (136, 0, 836, 839, 9, 0, 837, 838, 129), (139, 0, 840, 843, 5, 0, 841, 842, 133), (142, 0, 844, 847, 3, 0, 845, 846, 130), (147, 0, 904, 907, 1, 1, 905, 906, 127), (176, 0, 1429, 1330, 9, 1, 1328, 1329, 129), (182, 0, 1024, 1027, 1, 1, 1025, 1026, 127), (191, 0, 1437, 1109, 1, 1, 1107, 1108, 127), (195, 0, 877, 880, 9, 1, 878, 879, 129), (198, 0, 1438, 1335, 1, 1, 1333, 1334, 127), (204, 2, 1347, 1066, 13, 1, 1065, 0, 141), (209, 0, 856, 859, 1, 2, 857, 858, 127), (213, 0, 860, 863, 9, 2, 861, 862, 129), (217, 0, 868, 871, 9, 2, 869, 870, 129), (227, 2, 881, 883, 14, 1, 882, 0, 142), (232, 0, 887, 890, 9, 0, 888, 889, 129), (236, 0, 892, 895, 9, 1, 893, 894, 129), (239, 0, 900, 903, 10, 2, 902, 15, 120), (242, 0, 908, 911, 9, 2, 909, 910, 129), (245, 0, 912, 915, 3, 1, 913, 914, 130), (249, 0, 921, 924, 9, 2, 922, 923, 129), (253, 0, 955, 958, 9, 0, 956, 957, 129), (256, 0, 959, 962, 9, 1, 960, 961, 129), (259, 0, 980, 983, 3, 1, 981, 982, 130), (263, 0, 988, 991, 9, 1, 989, 990, 129), (272, 0, 1000, 1003, 9, 2, 1001, 1002, 129), (275, 0, 1010, 1013, 10, 1, 1012, 20, 120), (278, 0, 1014, 919, 9, 1, 917, 918, 129), (280, 0, 1015, 928, 9, 1, 926, 927, 129), (283, 0, 1028, 1031, 9, 2, 1029, 1030, 129), (289, 0, 1055, 1058, 4, 1, 1056, 1057, 131), (295, 0, 1086, 1089, 4, 1, 1087, 1088, 131), (304, 0, 1102, 1105, 4, 1, 1103, 1104, 131), (314, 0, 1126, 1129, 4, 3, 1127, 1128, 131), (318, 0, 1137, 1140, 4, 1, 1138, 1139, 131), (324, 0, 1152, 967, 9, 0, 965, 966, 129), (327, 0, 1165, 1168, 9, 2, 1166, 1167, 129), (330, 0, 1197, 1200, 0, 0, 1198, 1199, 132), (331, 0, 1223, 1226, 0, 1, 1224, 1225, 132), (334, 0, 1235, 1238, 0, 1, 1236, 1237, 132), (337, 0, 1243, 1246, 6, 0, 1244, 1245, 134), (340, 0, 1294, 1297, 5, 1, 1295, 1296, 133), (346, 0, 1302, 1305, 5, 0, 1303, 1304, 133), (349, 0, 1306, 1309, 5, 1, 1307, 1308, 133)],
  [(10, 0, 1447, 1451, 11, 1, 1449, 46, 135), (27, 4, 1460, 150, 0, 0, 149, 0, 0), (145, 0, 1484, 1487, 11, 0, 1486, 47, 135), (148, 0, 1663, 1666, 11, 0, 1665, 50, 135), (161, 2, 1667, 1669, 11, 1, 1668, 0, 135), (165, 2, 1670, 1672, 11, 1, 1671, 0, 135), (181, 0, 1739, 1742, 11, 1, 1741, 66, 135), (184, 0, 1688, 1691, 11, 1, 1690, 54, 135), (187, 0, 1659, 1662, 11, 0, 1661, 49, 135), (190, 2, 1700, 1702, 11, 3, 1701, 0, 135), (197, 0, 1696, 1699, 11, 2, 1698, 56, 135), (201, 0, 1707, 1710, 11, 0, 1709, 58, 135), (205, 0, 1711, 1714, 11, 2, 1713, 59, 135), (209, 0, 1731, 1734, 11, 2, 1733, 64, 135), (215, 2, 1685, 1687, 11, 2, 1686, 0, 135), (218, 0, 1692, 1695, 11, 3, 1694, 55, 135), (221, 0, 1719, 1722, 11, 2, 1721, 61, 135), (224, 0, 1677, 1680, 11, 1, 1679, 52, 135), (228, 0, 1681, 1684, 11, 1, 1683, 53, 135), (231, 0, 1703, 1706, 11, 1, 1705, 57, 135), (234, 0, 1715, 1718, 11, 2, 1717, 60, 135), (237, 0, 1723, 1726, 11, 0, 1725, 62, 135), (240, 0, 1727, 1730, 11, 2, 1729, 63, 135), (243, 0, 1655, 1658, 11, 1, 1657, 48, 135), (249, 0, 1673, 1676, 11, 0, 1675, 51, 135), (252, 0, 1735, 1738, 11, 1, 1737, 65, 135), (258, 0, 1763, 1766, 11, 1, 1765, 70, 135), (261, 0, 1771, 1774, 11, 4, 1773, 72, 135), (265, 0, 1767, 1770, 11, 3, 1769, 71, 135), (268, 0, 1783, 1786, 11, 1, 1785, 74, 135), (271, 0, 1751, 1754, 11, 1, 1753, 67, 135), (274, 0, 1755, 1758, 11, 1, 1757, 68, 135), (278, 0, 1759, 1762, 11, 1, 1761, 69, 135), (281, 0, 1779, 1782, 11, 1, 1781, 73, 135), (284, 0, 1787, 1790, 11, 1, 1789, 75, 135), (288, 0, 1803, 1806, 11, 2, 1805, 78, 135), (291, 0, 1807, 1810, 11, 2, 1809, 79, 135), (294, 0, 1811, 1814, 11, 2, 1813, 80, 135), (297, 0, 1795, 1798, 11, 2, 1797, 76, 135), (300, 0, 1799, 1802, 11, 2, 1801, 77, 135), (303, 0, 1815, 1818, 11, 2, 1817, 81, 135), (306, 2, 1831, 1833, 11, 1, 1832, 0, 135), (309, 0, 1823, 1826, 11, 1, 1825, 82, 135), (312, 0, 1827, 1830, 11, 0, 1829, 83, 135), (315, 0, 1834, 1837, 11, 0, 1836, 84, 135), (321, 0, 1866, 1869, 11, 1, 1868, 90, 135), (324, 0, 1870, 1873, 11, 1, 1872, 91, 135), (327, 0, 1884, 1887, 11, 1, 1886, 93, 135), (330, 2, 1878, 1880, 11, 1, 1879, 0, 135), (333, 0, 1874, 1877, 11, 1, 1876, 92, 135), (336, 2, 1881, 1883, 11, 1, 1882, 0, 135), (339, 0, 1862, 1865, 11, 1, 1864, 89, 135), (342, 2, 1904, 1906, 11, 2, 1905, 0, 135), (345, 0, 1858, 1861, 11, 1, 1860, 88, 135), (348, 0, 1915, 1918, 11, 0, 1917, 97, 135), (351, 0, 1842, 1845, 11, 1, 1844, 85, 135), (354, 0, 1846, 1849, 11, 0, 1848, 86, 135), (357, 0, 1850, 1853, 11, 1, 1852, 87, 135), (360, 0, 1896, 1899, 11, 1, 1898, 94, 135), (363, 0, 1900, 1903, 11, 1, 1902, 95, 135), (366, 0, 1911, 1914, 11, 1, 1913, 96, 135), (369, 0, 1939, 1942, 11, 0, 1941, 98, 135), (372, 0, 1943, 1946, 11, 0, 1945, 99, 135), (375, 0, 1955, 1958, 11, 1, 1957, 101, 135), (378, 0, 1951, 1954, 11, 2, 1953, 100, 135), (381, 0, 1967, 1970, 11, 1, 1969, 102, 135), (391, 0, 1979, 1982, 11, 1, 1981, 103, 135), (394, 0, 1991, 1994, 11, 1, 1993, 104, 135), (397, 2, 1995, 1997, 11, 2, 1996, 0, 135), (409, 0, 2010, 2013, 11, 1, 2012, 105, 135), (418, 2, 2018, 2020, 11, 2, 2019, 0, 135), (425, 0, 2045, 2048, 11, 1, 2047, 107, 135), (428, 0, 2050, 2053, 11, 1, 2052, 108, 135), (431, 0, 2041, 2044, 11, 2, 2043, 106, 135), (437, 0, 2062, 2065, 11, 0, 2064, 109, 135), (440, 0, 2066, 2069, 11, 2, 2068, 110, 135), (452, 0, 2082, 2085, 11, 3, 2084, 112, 135), (459, 0, 2098, 2101, 11, 0, 2100, 116, 135), (468, 0, 2078, 2081, 11, 0, 2080, 111, 135), (471, 0, 2086, 2089, 11, 1, 2088, 113, 135), (474, 0, 2090, 2093, 11, 0, 2092, 114, 135), (477, 0, 2094, 2097, 11, 0, 2096, 115, 135), (480, 0, 2110, 2113, 11, 4, 2112, 118, 135), (483, 0, 2106, 2109, 11, 1, 2108, 117, 135)],
  [(7, 0, 1364, 1367, 10, 2, 1365, 1366, 120), (15, 0, 1433, 1436, 10, 2, 1434, 1435, 120), (18, 1, 145, 147, 10, 0, 146, 0, 120), (21, 1, 1457, 1459, 11, 0, 1458, 0, 135), (22, 0, 673, 676, 10, 5, 674, 675, 120), (26, 0, 1443, 1446, 11, 5, 1444, 1445, 135), (27, 0, 681, 684, 10, 1, 682, 683, 120), (31, 0, 1452, 1455, 11, 1, 1453, 1454, 135), (32, 0, 685, 688, 10, 0, 686, 687, 120), (36, 0, 1651, 1654, 11, 0, 1652, 1653, 135), (37, 0, 848, 851, 10, 0, 849, 850, 120), (40, 0, 1743, 1746, 11, 0, 1744, 1745, 135), (46, 0, 1747, 1750, 11, 2, 1748, 1749, 135), (47, 0, 1439, 1442, 11, 0, 1440, 1441, 135), (52, 0, 1775, 1778, 11, 2, 1776, 1777, 135), (53, 0, 852, 855, 10, 2, 853, 854, 120), (56, 0, 1791, 1794, 11, 2, 1792, 1793, 135), (57, 0, 873, 876, 10, 1, 874, 875, 120), (61, 0, 1819, 1822, 11, 1, 1820, 1821, 135), (62, 0, 896, 899, 10, 1, 897, 898, 120), (65, 0, 1838, 1841, 11, 1, 1839, 1840, 135), (66, 0, 939, 942, 10, 1, 940, 941, 120), (69, 0, 1854, 1857, 11, 1, 1855, 1856, 135), (70, 0, 943, 946, 10, 1, 944, 945, 120), (73, 0, 1888, 1891, 11, 1, 1889, 1890, 135), (74, 0, 947, 950, 10, 1, 948, 949, 120), (77, 0, 1892, 1895, 11, 1, 1893, 1894, 135), (78, 0, 951, 954, 10, 1, 952, 953, 120), (81, 0, 1907, 1910, 11, 1, 1908, 1909, 135), (82, 0, 976, 979, 10, 0, 977, 978, 120), (85, 0, 1919, 1922, 11, 0, 1920, 1921, 135), (86, 0, 984, 987, 10, 1, 985, 986, 120), (89, 0, 1923, 1926, 11, 1, 1924, 1925, 135), (90, 0, 996, 999, 10, 1, 997, 998, 120), (93, 0, 1927, 1930, 11, 1, 1928, 1929, 135), (94, 0, 1006, 1009, 10, 1, 1007, 1008, 120), (97, 0, 1931, 1934, 11, 1, 1932, 1933, 135), (98, 0, 1016, 1019, 10, 1, 1017, 1018, 120), (101, 0, 1935, 1938, 11, 1, 1936, 1937, 135), (102, 0, 1020, 1023, 10, 2, 1021, 1022, 120), (105, 0, 1947, 1950, 11, 2, 1948, 1949, 135), (106, 0, 1047, 1050, 10, 2, 1048, 1049, 120), (109, 0, 1959, 1962, 11, 2, 1960, 1961, 135), (110, 0, 1051, 1054, 10, 0, 1052, 1053, 120), (113, 0, 1963, 1966, 11, 0, 1964, 1965, 135), (114, 0, 1078, 1081, 10, 0, 1079, 1080, 120), (117, 0, 1971, 1974, 11, 0, 1972, 1973, 135), (118, 0, 1082, 1085, 10, 0, 1083, 1084, 120), (121, 0, 1975, 1978, 11, 0, 1976, 1977, 135), (122, 0, 1094, 1097, 10, 1, 1095, 1096, 120), (125, 0, 1983, 1986, 11, 1, 1984, 1985, 135), (126, 0, 1098, 1101, 10, 0, 1099, 1100, 120), (129, 0, 1987, 1990, 11, 0, 1988, 1989, 135), (130, 0, 1114, 1117, 10, 0, 1115, 1116, 120), (133, 0, 1998, 2001, 11, 0, 1999, 2000, 135), (134, 0, 1118, 1121, 10, 0, 1119, 1120, 120), (137, 0, 2002, 2005, 11, 0, 2003, 2004, 135), (138, 0, 1122, 1125, 10, 2, 1123, 1124, 120), (141, 0, 2006, 2009, 11, 2, 2007, 2008, 135), (142, 0, 1133, 1136, 10, 0, 1134, 1135, 120), (145, 0, 2014, 2017, 11, 0, 2015, 2016, 135), (146, 0, 1144, 1147, 10, 0, 1145, 1146, 120), (149, 0, 2021, 2024, 11, 0, 2022, 2023, 135), (150, 0, 1148, 1151, 10, 2, 1149, 1150, 120), (153, 0, 2025, 2028, 11, 2, 2026, 2027, 135), (154, 0, 1153, 1156, 10, 0, 1154, 1155, 120), (157, 0, 2029, 2032, 11, 0, 2030, 2031, 135), (158, 0, 1157, 1160, 10, 1, 1158, 1159, 120), (161, 0, 2033, 2036, 11, 1, 2034, 2035, 135), (162, 0, 1161, 1164, 10, 2, 1162, 1163, 120), (165, 0, 2037, 2040, 11, 2, 2038, 2039, 135), (166, 0, 1189, 1192, 10, 3, 1190, 1191, 120), (170, 0, 2054, 2057, 11, 3, 2055, 2056, 135), (171, 0, 1193, 1196, 10, 1, 1194, 1195, 120), (174, 0, 2058, 2061, 11, 1, 2059, 2060, 135), (175, 0, 1231, 1234, 10, 1, 1232, 1233, 120), (178, 0, 2070, 2073, 11, 1, 2071, 2072, 135), (179, 0, 1239, 1242, 10, 0, 1240, 1241, 120), (182, 0, 2074, 2077, 11, 0, 2075, 2076, 135), (183, 0, 1298, 1301, 10, 1, 1299, 1300, 120), (186, 0, 2102, 2105, 11, 1, 2103, 2104, 135), (187, 0, 1348, 1351, 10, 1, 1349, 1350, 120), (190, 0, 2114, 2117, 11, 1, 2115, 2116, 135), (191, 0, 1352, 1355, 10, 1, 1353, 1354, 120), (194, 0, 2118, 2121, 11, 1, 2119, 2120, 135), (195, 0, 1356, 1359, 10, 1, 1357, 1358, 120), (198, 0, 2122, 2125, 11, 1, 2123, 2124, 135)],
  [],
  [],
  [],
  [(335, 0, 179, 182, 16, 0, 180, 181, 123), (492, 0, 189, 192, 16, 0, 190, 191, 123), (495, 2, 193, 195, 17, 2, 194, 0, 124), (1059, 2, 201, 203, 18, 3, 202, 0, 125)],
  [(9, 2, 196, 198, 16, 2, 197, 0, 123)],
  []]
/-- constants: index, value, place -/
def eg_kx : List (List (Nat × Value × Nat)) := [
  [],
  [],
  [],
  [],
  [],
  [],
  [],
  [],
  [(102, .long (10), 710), (108, .long (27), 226)],
  [(169, .int (1103515245), 1177), (177, .long (-1), 1041), (183, .long (9187201950435737471), 1045), (185, .long (-72340172838076674), 1046)],
  [],
  [(99, .long (1818324580), 1461), (101, .long (7168366), 1462), (103, .long (31651020294157157), 1463), (105, .long (427020088168), 1464), (107, .long (444301539187), 1465), (109, .long (495874699885), 1466), (111, .long (1801810036), 1467), (113, .long (108243635103086), 1468), (115, .long (440005911908), 1469), (117, .long (33602674774664548), 1470), (119, .long (6578553), 1471), (121, .long (28530), 1472), (123, .long (6385252), 1473), (125, .long (7237492), 1474), (127, .long (126943688025203), 1475), (129, .long (1717922924), 1476), (131, .long (495875091824), 1477), (133, .long (126892147762532), 1478), (135, .long (25209), 1479), (137, .long (29807), 1480), (139, .long (1952541804), 1481), (141, .long (1953066092), 1482), (143, .long (121450625394034), 1483), (424, .int (1103515245), 2049)],
  [],
  [(265, .int (1431655765), 1067), (266, .int (858993459), 1068), (267, .int (252645135), 1069)],
  [(314, .long (6148914691236517205), 884), (316, .long (3689348814741910323), 885), (318, .long (1085102592571150095), 886)],
  [],
  [],
  [],
  []]
/-- classes: index, class, places of classLink, instantiable, initialized -/
def eg_nx : List (List (Nat × Nat × Nat × Nat × Nat)) := [
  [],
  [],
  [(9, 1, 399, 272, 127)],
  [(11, 9, 489, 435, 129)],
  [],
  [],
  [(9, 5, 604, 577, 133)],
  [],
  [],
  [],
  [(7, 7, 151, 152, 121), (10, 8, 168, 169, 122), (15, 1, 271, 272, 127), (32, 2, 393, 394, 128), (41, 9, 434, 435, 129), (53, 3, 483, 484, 130), (60, 4, 502, 503, 131), (67, 0, 539, 540, 132), (76, 5, 576, 577, 133), (83, 6, 598, 599, 134)],
  [],
  [(8, 10, 143, 144, 120), (19, 11, 1456, 1450, 135)],
  [],
  [],
  [],
  [],
  [],
  []]
/-- arrays' types: 0 to 3 of numbers, from 4 on of references -/
def eg_ty : List FieldType := [.int, .long, .byte, .boolean, .object RX1, .object RX9, .object RX5]
def eg_AO : List Nat := [1, 9, 5]
/-- what the constructors make: cells, slots -/
def eg_bl : List (Nat × Nat × Nat) := [(147, 181, 6027), (155, 1, 940), (172, 4, 2846), (275, 13, 118), (397, 14, 138), (438, 6, 52), (487, 57, 504), (506, 2, 12), (543, 2, 80), (580, 4, 192), (602, 5, 197), (1459, 21, 2771)]
end
section
/-! THE ENGINE: a machine over lists, run by the kernel. A value of it is a Value, read so: .int, .long, .null as they are; .ref k: the k-th cell that the law has made; .retAddr j: the j-th int of the script; .float 0: some int; .float 1: the script; .float 2: the class's one String constant; .float 3: its bytes; .float 4: a reference of which nothing is known -/
abbrev eg_C : Type := (Nat × List Value) ⊕ (Nat × List Value)
abbrev eg_L : Type := List (Nat × Value)
abbrev eg_R : Type := Nat × eg_L × List Value × List eg_C
/-- the method's place, its class, depth left, cells and slots left, pc, locals, stack, heap -/
abbrev eg_F : Type := Nat → Nat → Nat → Nat → Nat → Nat → eg_L → List Value → List eg_C → Option eg_R
def eg_md (u : Nat) : MethodName × ByteArray × Nat × Option FieldType := match Nat.beq u 9999 with
  | true => (x, code, maxLocals, ret)
  | false => match lw_tbl[u]? with
    | some (.code y b n r) => (y, b, n, r)
    | _ => (⟨"", "", ""⟩, ⟨#[]⟩, 0, none)
def eg_find {α : Type} (k : Nat) : List (Nat × α) → Option α
  | [] => none
  | q :: l => match Nat.beq q.1 k with
    | true => some q.2
    | false => eg_find k l
def eg_bud (u : Nat) : Nat × Nat := match eg_find u eg_bl with
  | some q => q
  | none => (0, 0)
def eg_nth {α : Type} : List α → Nat → Option α
  | [], _ => none
  | a :: _, 0 => some a
  | _ :: l, k + 1 => eg_nth l k
def eg_put {α : Type} : List α → Nat → α → List α
  | [], _, _ => []
  | _ :: l, 0, v => v :: l
  | a :: l, k + 1, v => a :: eg_put l k v
def eg_at {α : Type} (o : Nat) (t : List (List (Nat × α))) (k : Nat) : Option α := match eg_nth t o with
  | some l => eg_find k l
  | none => none
def eg_isI : Value → Bool
  | .int _ => true
  | .retAddr _ => true
  | .float w => w == 0
  | _ => false
def eg_isJ : Value → Bool
  | .long _ => true
  | _ => false
def eg_isA : Value → Bool
  | .ref _ => true
  | .float w => w == 1 || w == 2 || w == 3
  | _ => false
def eg_isQ : Value → Bool
  | .ref _ => true
  | .null => true
  | .float w => w == 1 || w == 2 || w == 3 || w == 4
  | _ => false
/-- loads: (kind, index) -/
def eg_ldk (i : Instr) (len : Nat) : Option (Nat × Nat) := match i with
  | .iload_n k => bif Nat.beq len 1 then some (0, k.val) else none
  | .iload k => bif Nat.beq len 2 then some (0, k) else none
  | .lload_n k => bif Nat.beq len 1 then some (1, k.val) else none
  | .lload k => bif Nat.beq len 2 then some (1, k) else none
  | .aload_n k => bif Nat.beq len 1 then some (2, k.val) else none
  | .aload k => bif Nat.beq len 2 then some (2, k) else none
  | _ => none
def eg_ld (i : Instr) (len : Nat) (ls : eg_L) : Option Value := match eg_ldk i len with
  | some (t, k) => match eg_find k ls with
    | some v => bif (match t with
      | 0 => eg_isI v
      | 1 => eg_isJ v
      | _ => eg_isA v) then some v else none
    | none => none
  | none => none
/-- constants -/
def eg_cn (o : Nat) (i : Instr) (len : Nat) : Option Value := match i with
  | .iconst n => bif Nat.beq len 1 then some (.int (Int32.ofInt n)) else none
  | .bipush n => bif Nat.beq len 2 then some (.int (Int8.ofInt n).toInt32) else none
  | .sipush n => bif Nat.beq len 3 then some (.int (Int16.ofInt n).toInt32) else none
  | .lconst n => bif Nat.beq len 1 then some (.long (Int64.ofNat n.val)) else none
  | .ldc k => bif Nat.beq len 2 then (match eg_at o eg_kx k with
    | some (.int v, _) => some (.int v)
    | _ => bif Nat.beq o 8 && Nat.beq k 52 then some (.float 2) else none) else none
  | .ldc_w k => bif Nat.beq len 3 then (match eg_at o eg_kx k with
    | some (.int v, _) => some (.int v)
    | _ => none) else none
  | .ldc2_w k => bif Nat.beq len 3 then (match eg_at o eg_kx k with
    | some (.long v, _) => some (.long v)
    | _ => none) else none
  | _ => none
/-- two numbers, the upper one first -/
def eg_ii (f : Int32 → Int32 → Int32) : Value → Value → Option Value
  | .int y, .int x => some (.int (f x y))
  | _, _ => none
def eg_iz (f : Int32 → Int32 → Int32) : Value → Value → Option Value
  | .int y, .int x => if y = 0 then none else some (.int (f x y))
  | _, _ => none
def eg_it (f : Int32 → Int32 → Int32) : Value → Value → Option Value
  | .int y, .int x => some (.int (f x y))
  | .int _, .retAddr _ => some (.float 0)
  | _, _ => none
def eg_ll (f : Int64 → Int64 → Int64) : Value → Value → Option Value
  | .long y, .long x => some (.long (f x y))
  | _, _ => none
def eg_li (f : Int64 → Int32 → Int64) : Value → Value → Option Value
  | .int y, .long x => some (.long (f x y))
  | _, _ => none
def eg_b2 (i : Instr) (y x : Value) : Option Value := match i with
  | .iadd => eg_ii (fun x y => x + y) y x
  | .isub => eg_ii (fun x y => x - y) y x
  | .imul => eg_ii (fun x y => x * y) y x
  | .iand => eg_ii (fun x y => x &&& y) y x
  | .ior => eg_ii (fun x y => x ||| y) y x
  | .ixor => eg_ii (fun x y => x ^^^ y) y x
  | .idiv => eg_iz (fun x y => x / y) y x
  | .irem => eg_iz (fun x y => x - x / y * y) y x
  | .ishl => eg_ii (fun x y => x <<< (y &&& 31)) y x
  | .ishr => eg_it (fun x y => x >>> (y &&& 31)) y x
  | .iushr => eg_it (fun x y => (x.toUInt32 >>> (y.toUInt32 &&& Int32.toUInt32 31)).toInt32) y x
  | .ladd => eg_ll (fun x y => x + y) y x
  | .lsub => eg_ll (fun x y => x - y) y x
  | .lmul => eg_ll (fun x y => x * y) y x
  | .land => eg_ll (fun x y => x &&& y) y x
  | .lor => eg_ll (fun x y => x ||| y) y x
  | .lxor => eg_ll (fun x y => x ^^^ y) y x
  | .lshl => eg_li (fun x y => x <<< (y.toInt64 &&& 63)) y x
  | .lshr => eg_li (fun x y => x >>> (y.toInt64 &&& 63)) y x
  | .lushr => eg_li (fun x y => (x.toUInt64 >>> (y.toInt64.toUInt64 &&& Int64.toUInt64 63)).toInt64) y x
  | .lcmp => (match y, x with
    | .long y, .long x => some (.int (lg_cmp x y))
    | _, _ => none)
  | _ => none
/-- one number -/
def eg_b1 (i : Instr) (x : Value) : Option Value := match i with
  | .ineg => (match x with
    | .int x => some (.int (-x))
    | _ => none)
  | .i2l => (match x with
    | .int x => some (.long x.toInt64)
    | _ => none)
  | .l2i => (match x with
    | .long x => some (.int x.toInt32)
    | _ => none)
  | .i2b => (match x with
    | .int x => some (.int x.toInt8.toInt32)
    | .float w => bif w == 0 then some (.float 0) else none
    | _ => none)
  | .i2c => (match x with
    | .int x => some (.int (x.toUInt32 % 65536).toInt32)
    | _ => none)
  | _ => none
def eg_is1 (v : Value) : Bool := Nat.beq v.category 1
/-- the stack alone; all of length 1 -/
def eg_alu (i : Instr) (len : Nat) (st : List Value) : Option (List Value) := bif Nat.beq len 1 then (match st with
  | y :: st => match eg_b1 i y with
    | some v => some (v :: st)
    | none => match i with
      | .dup => bif eg_is1 y then some (y :: y :: st) else none
      | .pop => bif eg_is1 y then some st else none
      | _ => match st with
        | x :: st => match eg_b2 i y x with
          | some v => some (v :: st)
          | none => match i with
            | .dup_x1 => bif eg_is1 y && eg_is1 x then some (y :: x :: y :: st) else none
            | .dup2 => bif eg_is1 y && eg_is1 x then some (y :: x :: y :: x :: st) else none
            | _ => none
        | [] => none
  | [] => none) else none
/-- what an int may be -/
def eg_rng (en : List (Int × Int)) : Value → Option (Int × Int)
  | .int v => some (v.toInt, v.toInt)
  | .retAddr j => eg_nth en j
  | _ => none
def eg_lt (a b : Int × Int) : Option Bool := if a.2 < b.1 then some true else if b.2 ≤ a.1 then some false else none
def eg_eq (a b : Int × Int) : Option Bool := if a.2 < b.1 then some false else if b.2 < a.1 then some false else if a.1 = a.2 ∧ b.1 = b.2 ∧ a.1 = b.1 then some true else none
def eg_cmp (en : List (Int × Int)) (c : ClassFile.Cond) (x y : Value) : Option Bool := match eg_rng en x with
  | some a => match eg_rng en y with
    | some b => match c with
      | .eq => eg_eq a b
      | .ne => (eg_eq a b).map (fun z => !z)
      | .lt => eg_lt a b
      | .ge => (eg_lt a b).map (fun z => !z)
      | .gt => eg_lt b a
      | .le => (eg_lt b a).map (fun z => !z)
    | none => none
  | none => none
def eg_tgt (pc : Nat) (off : Int) : Option Nat := match (pc : Int) + off with
  | .ofNat t => some t
  | .negSucc _ => none
def eg_go (pc : Nat) (off : Int) (st : List Value) : Option (Nat × List Value) := match eg_tgt pc off with
  | some t => some (t, st)
  | none => none
def eg_br (pc : Nat) (off : Int) (st : List Value) : Option Bool → Option (Nat × List Value)
  | some true => eg_go pc off st
  | some false => some (pc + 3, st)
  | none => none
def eg_jmp (en : List (Int × Int)) (pc : Nat) (i : Instr) (len : Nat) (st : List Value) : Option (Nat × List Value) := match i with
  | .goto off => bif Nat.beq len 3 then eg_go pc off st else none
  | .ifCond c off => bif Nat.beq len 3 then (match st with
    | x :: st => eg_br pc off st (eg_cmp en c x (.int 0))
    | [] => none) else none
  | .if_icmp c off => bif Nat.beq len 3 then (match st with
    | y :: x :: st => eg_br pc off st (eg_cmp en c x y)
    | _ => none) else none
  | .tableswitch d lo hi offs => (match st with
    | x :: st => match eg_rng en x with
      | some a => if a.2 < lo ∨ hi < a.1 then eg_go pc d st
        else if a.1 = a.2 ∧ ¬ a.1 < lo ∧ ¬ hi < a.1 then (match offs[(a.1 - lo).toNat]? with
          | some off => eg_go pc off st
          | none => none)
        else none
      | none => none
    | [] => none)
  | _ => none
def eg_k1 (i : Nat) (q : Nat × Value) : Bool := !(Nat.beq q.1 i) && !(Nat.beq (q.1 + 1) i && Nat.beq q.2.category 2)
def eg_k2 (i : Nat) (q : Nat × Value) : Bool := !(Nat.beq q.1 i) && (!(Nat.beq q.1 (i + 1)) && !(Nat.beq (q.1 + 1) i && Nat.beq q.2.category 2))
def eg_fil {α : Type} (p : α → Bool) : List α → List α
  | [] => []
  | a :: l => match p a with
    | true => a :: eg_fil p l
    | false => eg_fil p l
/-- stores: (kind, index) -/
def eg_stk (i : Instr) (len : Nat) : Option (Nat × Nat) := match i with
  | .istore_n k => bif Nat.beq len 1 then some (0, k.val) else none
  | .istore k => bif Nat.beq len 2 then some (0, k) else none
  | .lstore_n k => bif Nat.beq len 1 then some (1, k.val) else none
  | .lstore k => bif Nat.beq len 2 then some (1, k) else none
  | .astore_n k => bif Nat.beq len 1 then some (2, k.val) else none
  | .astore k => bif Nat.beq len 2 then some (2, k) else none
  | _ => none
def eg_sto (i : Instr) (len nL : Nat) (ls : eg_L) (st : List Value) : Option (eg_L × List Value) := match eg_stk i len with
  | some (t, k) => (match st with
    | v :: st => (match t with
      | 0 => bif eg_isI v && Nat.blt k nL then some ((k, v) :: eg_fil (eg_k1 k) ls, st) else none
      | 1 => bif eg_isJ v && Nat.blt (k + 1) nL then some ((k, v) :: eg_fil (eg_k2 k) ls, st) else none
      | _ => bif eg_isA v && Nat.blt k nL then some ((k, v) :: eg_fil (eg_k1 k) ls, st) else none)
    | [] => none)
  | none => match i with
    | .iinc k n => bif Nat.beq len 3 && Nat.blt k nL then (match eg_find k ls with
      | some (.int x) => some ((k, .int (x + Int32.ofInt n)) :: eg_fil (eg_k1 k) ls, st)
      | _ => none) else none
    | _ => none
/-- the text's bytes -/
def eg_str : List Int32 := [108, 97, 110, 100, 32, 109, 97, 110, 32, 112, 114, 111, 109, 105, 115, 101, 32, 99, 108, 97, 115, 104, 32, 103, 114, 111, 119, 115, 32, 115, 116, 111, 114, 109, 32, 98, 114, 111, 107, 101, 110, 32, 102, 114, 101, 101, 100, 32, 119, 97, 116, 101, 114, 101, 100, 32, 100, 97, 121, 32, 111, 114, 32, 97, 110, 100, 32, 107, 101, 112, 116, 32, 110, 111, 116, 32, 115, 116, 97, 110, 100, 115, 32, 102, 101, 108, 108, 32, 115, 116, 117, 109, 112, 32, 115, 104, 97, 100, 101, 100, 32, 98, 121, 32, 116, 111, 32, 116, 97, 108, 108, 32, 116, 105, 108, 108, 32, 110, 117, 109, 98, 101, 114, 32]
def eg_obj (h : List eg_C) (a : Nat) : Option (Nat × List Value) := match eg_nth h a with
  | some (.inr c) => some c
  | _ => none
def eg_arr (h : List eg_C) (a : Nat) : Option (Nat × List Value) := match eg_nth h a with
  | some (.inl c) => some c
  | _ => none
/-- the place that an index names in a row of n -/
def eg_ix (n : Nat) : Value → Option Nat
  | .int i => if i < 0 then none else (bif Nat.blt i.toNatClampNeg n then some i.toNatClampNeg else none)
  | _ => none
def eg_aty (i : Instr) (t : Nat) : Bool := match i with
  | .iaload => Nat.beq t 0
  | .laload => Nat.beq t 1
  | .baload => Nat.beq t 2 || Nat.beq t 3
  | .aaload => Nat.ble 4 t
  | _ => false
/-- what is read -/
def eg_mem (sc : List Value) (o : Nat) (i : Instr) (len : Nat) (st : List Value) (h : List eg_C) : Option (List Value) := match i with
  | .getfield k => bif Nat.beq len 3 then (match st with
    | .ref a :: st => (match eg_at o eg_fx k with
      | some (ci, fk, _) => (match eg_obj h a with
        | some (cj, fs) => bif Nat.beq ci cj then (match eg_nth fs fk with
          | some v => some (v :: st)
          | none => none) else none
        | none => none)
      | none => none)
    | .float w :: st => bif w == 2 && Nat.beq o 16 then (bif Nat.beq k 9 then some (.float 3 :: st) else bif Nat.beq k 15 then some (.int 0 :: st) else none) else none
    | _ => none) else none
  | .getstatic k => bif Nat.beq len 3 && Nat.beq o 16 then (bif Nat.beq k 38 then some (.int 1 :: st) else bif Nat.beq k 1053 then some (.float 4 :: st) else none) else none
  | .arraylength => bif Nat.beq len 1 then (match st with
    | .float w :: st => bif w == 1 then some (.int (Int32.ofNat sc.length) :: st) else bif w == 3 then some (.int (Int32.ofNat eg_str.length) :: st) else none
    | _ => none) else none
  | i => bif Nat.beq len 1 then (match st with
    | x :: .ref a :: st => (match eg_arr h a with
      | some (t, xs) => bif eg_aty i t then (match eg_ix xs.length x with
        | some k => (match eg_nth xs k with
          | some v => some (v :: st)
          | none => none)
        | none => none) else none
      | none => none)
    | x :: .float w :: st => bif w == 1 && eg_aty i 0 then (match eg_ix sc.length x with
        | some k => (match eg_nth sc k with
          | some v => some (v :: st)
          | none => none)
        | none => none)
      else bif w == 3 && eg_aty i 2 then (match eg_ix eg_str.length x with
        | some k => (match eg_nth eg_str k with
          | some v => some (.int v :: st)
          | none => none)
        | none => none)
      else none
    | _ => none) else none
def eg_tys : List (Nat → FieldType) := [tyX0, tyX1, tyX2, tyX3, tyX4, tyX5, tyX6, tyX7, tyX8, tyX9, tyX10, tyX11]
def eg_fty (ci k : Nat) : FieldType := match eg_nth eg_tys ci with
  | some f => f k
  | none => .int
def eg_fit : FieldType → Value → Bool
  | .int, v => eg_isI v
  | .long, v => eg_isJ v
  | .boolean, .int x => x == 0 || x == 1
  | .object _, v => eg_isQ v
  | .array _, v => eg_isQ v
  | _, _ => false
def eg_finF (ci k : Nat) : Bool := match eg_nth vwCl ci with
  | some q => (q.2.1 k).2.2.2
  | none => true
/-- what is written into an array of type t -/
def eg_nar (t : Nat) : Value → Option Value
  | .int x => match t with
    | 0 => some (.int x)
    | 2 => some (.int x.toInt8.toInt32)
    | 3 => some (.int (x &&& 1))
    | _ => none
  | .retAddr j => match t with
    | 0 => some (.retAddr j)
    | 2 => some (.float 0)
    | _ => none
  | .float w => bif w == 0 && Nat.blt t 3 && !(Nat.beq t 1) then some (.float 0) else none
  | .long x => bif Nat.beq t 1 then some (.long x) else none
  | _ => none
def eg_aty2 (i : Instr) (t : Nat) : Bool := match i with
  | .iastore => Nat.beq t 0
  | .lastore => Nat.beq t 1
  | .bastore => Nat.beq t 2 || Nat.beq t 3
  | _ => false
/-- what is written -/
def eg_wr (u o : Nat) (i : Instr) (len : Nat) (st : List Value) (h : List eg_C) : Option (List Value × List eg_C) := match i with
  | .putfield k => bif Nat.beq len 3 then (match st with
    | v :: .ref a :: st => (match eg_at o eg_fx k with
      | some (ci, fk, _) => (match eg_obj h a with
        | some (cj, fs) => bif Nat.beq ci cj && eg_fit (eg_fty ci fk) v && Nat.blt fk fs.length && (!(eg_finF ci fk) || (Nat.beq o ci && decide ((eg_md u).1.name = "<init>"))) then some (st, eg_put h a (.inr (cj, eg_put fs fk v))) else none
        | none => none)
      | none => none)
    | _ => none) else none
  | .aastore => bif Nat.beq len 1 then (match st with
    | .ref b :: x :: .ref a :: st => (match eg_arr h a with
      | some (t, xs) => (match eg_obj h b with
        | some (ci, _) => (match eg_ix xs.length x with
          | some k => (match eg_nth eg_AO (t - 4) with
            | some cj => bif Nat.ble 4 t && Nat.beq ci cj then some (st, eg_put h a (.inl (t, eg_put xs k (.ref b)))) else none
            | none => none)
          | none => none)
        | none => none)
      | none => none)
    | _ => none) else none
  | i => bif Nat.beq len 1 then (match st with
    | v :: x :: .ref a :: st => (match eg_arr h a with
      | some (t, xs) => bif eg_aty2 i t then (match eg_ix xs.length x with
        | some k => (match eg_nar t v with
          | some w => some (st, eg_put h a (.inl (t, eg_put xs k w)))
          | none => none)
        | none => none) else none
      | none => none)
    | _ => none) else none
def eg_def (ci : Nat) : List Value := match eg_nth vwCl ci with
  | some q => (List.range q.2.2).map (fun k => defaultValue (eg_fty ci k))
  | none => []
def eg_ncl (ci : Nat) : Nat := match eg_nth vwCl ci with
  | some q => q.2.2
  | none => 0
def eg_rep {α : Type} (v : α) : Nat → List α
  | 0 => []
  | n + 1 => v :: eg_rep v n
def eg_pos (k : Nat) : List Nat → Nat → Option Nat
  | [], _ => none
  | a :: l, n => bif Nat.beq a k then some n else eg_pos k l (n + 1)
/-- what is made: stack, heap, cells and slots left -/
def eg_new (o : Nat) (i : Instr) (len : Nat) (st : List Value) (h : List eg_C) (bc bs : Nat) : Option (List Value × List eg_C × Nat × Nat) := match i with
  | .new k => bif Nat.beq len 3 then (match eg_at o eg_nx k with
    | some (ci, _) => bif Nat.ble 1 bc && Nat.ble (eg_ncl ci) bs && Nat.blt ci 12 then some (.ref h.length :: st, h ++ [.inr (ci, eg_def ci)], bc - 1, bs - eg_ncl ci) else none
    | none => none) else none
  | .newarray ty => bif Nat.beq len 2 then (match st with
    | .int n :: st => (match (match ty with
        | .int => some 0
        | .long => some 1
        | .byte => some 2
        | .boolean => some 3
        | _ => none : Option Nat) with
      | some t => if n < 0 then none else bif Nat.ble n.toNatClampNeg 10000 && Nat.ble 1 bc && Nat.ble n.toNatClampNeg bs then some (.ref h.length :: st, h ++ [.inl (t, eg_rep (bif Nat.beq t 1 then .long 0 else .int 0) n.toNatClampNeg)], bc - 1, bs - n.toNatClampNeg) else none
      | none => none)
    | _ => none) else none
  | .anewarray k => bif Nat.beq len 3 then (match st with
    | .int n :: st => (match eg_at o eg_nx k with
      | some (ci, _) => (match eg_pos ci eg_AO 4 with
        | some t => if n < 0 then none else bif Nat.ble n.toNatClampNeg 10000 && Nat.ble 1 bc && Nat.ble n.toNatClampNeg bs then some (.ref h.length :: st, h ++ [.inl (t, eg_rep .null n.toNatClampNeg)], bc - 1, bs - n.toNatClampNeg) else none
        | none => none)
      | none => none)
    | _ => none) else none
  | _ => none
def eg_pop : Nat → List Value → List Value → Option (List Value × List Value)
  | 0, st, acc => some (acc, st)
  | n + 1, v :: st, acc => eg_pop n st (v :: acc)
  | _ + 1, [], _ => none
def eg_args : Nat → List Value → eg_L
  | _, [] => []
  | i, v :: vs => (i, v) :: eg_args (bif Nat.beq v.category 2 then i + 2 else i + 1) vs
def eg_cat : List Value → Nat
  | [] => 0
  | v :: l => v.category + eg_cat l
/-- the value that a return brings -/
def eg_out (u : Nat) (r : eg_R) : Option (Option Value) := match decode (eg_md u).2.1 r.1 with
  | .ok (.ireturn, _) => (match r.2.2.1 with
    | [v] => (match (eg_md u).2.2.2 with
      | some .int => bif eg_isI v then some (some v) else none
      | some .boolean => (match v with
        | .int x => bif x == 0 || x == 1 then some (some v) else none
        | _ => none)
      | some .byte => (match v with
        | .int x => bif x == 0 then some (some v) else none
        | _ => none)
      | some .char => (match v with
        | .int x => bif x.toUInt32.toUInt16.toUInt32.toInt32 == x then some (some v) else none
        | _ => none)
      | _ => none)
    | _ => none)
  | .ok (.lreturn, _) => (match r.2.2.1 with
    | [v] => (match (eg_md u).2.2.2 with
      | some .long => bif eg_isJ v then some (some v) else none
      | _ => none)
    | _ => none)
  | .ok (.return_, _) => (match r.2.2.1 with
    | [] => (match (eg_md u).2.2.2 with
      | none => some none
      | _ => none)
    | _ => none)
  | _ => none
/-- the receiver stands on the stack: what is left, and the arguments with it -/
def eg_rcv (kind o' : Nat) (h : List eg_C) (as st : List Value) : Option (List Value × List Value) := match kind with
  | 0 => (match st with
    | .ref b :: st => (match eg_obj h b with
      | some (ci, _) => bif Nat.beq ci o' then some (.ref b :: as, st) else none
      | none => none)
    | .float w :: st => bif w == 2 && Nat.beq o' 16 then some (.float w :: as, st) else none
    | _ => none)
  | 2 => some (as, st)
  | 4 => none
  | _ => (match st with
    | .ref b :: st => some (.ref b :: as, st)
    | _ => none)
def eg_knd (i : Instr) : Option (Nat × Nat) := match i with
  | .invokevirtual k => some (0, k)
  | .invokespecial k => some (1, k)
  | .invokestatic k => some (2, k)
  | _ => none
def eg_call (bud : Nat → Nat × Nat) (f : eg_F) (u o dp bc bs pc : Nat) (ls : eg_L) (st : List Value) (h : List eg_C) (i : Instr) (len : Nat) : Option eg_R := match eg_knd i with
  | none => none
  | some (ik, k) => bif Nat.beq len 3 then (match eg_at o eg_cx k with
    | none => none
    | some (kind, _, mu, o', np, _) => bif Nat.beq kind 4 then (match st with
        | .ref _ :: st => bif Nat.beq ik 1 && Nat.ble 1 dp && Nat.ble (eg_cat st) 8 then f u o dp bc bs (pc + 3) ls st h else none
        | _ => none)
      else bif (bif Nat.beq kind 3 then Nat.beq ik 1 else Nat.beq ik kind) then (match eg_pop np st [] with
        | none => none
        | some (as, st) => match eg_rcv kind o' h as st with
          | none => none
          | some (as, st) => match dp with
            | 0 => none
            | d + 1 => bif Nat.ble (eg_cat st) 8 && Nat.ble (eg_cat as) (eg_md mu).2.2.1 && Nat.ble (bud mu).1 bc && Nat.ble (bud mu).2 bs then (match f mu o' d (bud mu).1 (bud mu).2 0 (eg_args 0 as) [] h with
              | none => none
              | some r => match eg_out mu r with
                | none => none
                | some v => f u o (d + 1) (bc - (bud mu).1) (bs - (bud mu).2) (pc + 3) ls (v.toList ++ st) r.2.2.2) else none)
      else none) else none
def eg_isR (i : Instr) (len : Nat) : Bool := match i with
  | .ireturn => Nat.beq len 1
  | .lreturn => Nat.beq len 1
  | .return_ => Nat.beq len 1
  | _ => false
def eg_step (en : List (Int × Int)) (sc : List Value) (bud : Nat → Nat × Nat) (sm sp : Nat) (f : eg_F) : eg_F := fun u o dp bc bs pc ls st h =>
  bif Nat.beq u sm && Nat.beq pc sp then some (pc, ls, st, h) else
  match decode (eg_md u).2.1 pc with
  | .error _ => none
  | .ok (i, len) => match eg_ld i len ls with
    | some v => f u o dp bc bs (pc + len) ls (v :: st) h
    | none => match eg_cn o i len with
      | some v => f u o dp bc bs (pc + len) ls (v :: st) h
      | none => match eg_mem sc o i len st h with
        | some st => f u o dp bc bs (pc + len) ls st h
        | none => match eg_jmp en pc i len st with
          | some q => f u o dp bc bs q.1 ls q.2 h
          | none => match eg_alu i len st with
            | some st => f u o dp bc bs (pc + 1) ls st h
            | none => match eg_sto i len (eg_md u).2.2.1 ls st with
              | some q => f u o dp bc bs (pc + len) q.1 q.2 h
              | none => match eg_wr u o i len st h with
                | some q => f u o dp bc bs (pc + len) ls q.1 q.2
                | none => match eg_new o i len st h bc bs with
                  | some q => f u o dp q.2.2.1 q.2.2.2 (pc + len) ls q.1 q.2.1
                  | none => bif eg_isR i len then some (pc, ls, st, h) else eg_call bud f u o dp bc bs pc ls st h i len
noncomputable def eg_run (en : List (Int × Int)) (sc : List Value) (bud : Nat → Nat × Nat) (sm sp : Nat) (n : Nat) : eg_F :=
  Nat.rec (motive := fun _ => eg_F) (fun _ _ _ _ _ _ _ _ _ => none) (fun _ f => eg_step en sc bud sm sp f) n
end
section

theorem ts_1 : (eg_run [] [] eg_bud 9999 0 400 1459 11 10 (eg_bud 1459).1 (eg_bud 1459).2 0 [(0, .ref 0)] [] [.inr (11, eg_def 11)]).isSome = true := by decide +kernel
end
