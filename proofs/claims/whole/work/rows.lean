section
-- ===== PART A: goes FIRST, ahead of the names: the tables' words, and 'selects' of the private methods out of them =====
/-- a private method of a class that the tables say can be made, by its rows of tables_1 -/
def lw_okq (q : MethodName × Nat) : Prop := (q.1.cls ≠ "java/lang/invoke/MethodHandle" ∧ q.1.cls ≠ "java/lang/invoke/VarHandle") ∧ Cond.instantiable q.1.cls q.2 ∈ tables_1 ∧ Cond.privateMethod q.1 ∈ tables_1 ∧ Cond.instanceMethod q.1 ∈ tables_1
theorem lw_p0 : lw_okq (⟨"FiveCards", "readTape", "()I"⟩, 14) := ⟨⟨by decide +kernel, by decide +kernel⟩, List.mem_of_getElem? (i := 27) (by decide +kernel), List.mem_of_getElem? (i := 215) (by decide +kernel), List.mem_of_getElem? (i := 216) (by decide +kernel)⟩
theorem lw_p1 : lw_okq (⟨"FiveCards$Tokens", "add", "(III)V"⟩, 4) := ⟨⟨by decide +kernel, by decide +kernel⟩, List.mem_of_getElem? (i := 86) (by decide +kernel), List.mem_of_getElem? (i := 273) (by decide +kernel), List.mem_of_getElem? (i := 274) (by decide +kernel)⟩
theorem lw_p2 : lw_okq (⟨"FiveCards$Reader", "expect", "(I)V"⟩, 7) := ⟨⟨by decide +kernel, by decide +kernel⟩, List.mem_of_getElem? (i := 80) (by decide +kernel), List.mem_of_getElem? (i := 280) (by decide +kernel), List.mem_of_getElem? (i := 281) (by decide +kernel)⟩
theorem lw_p3 : lw_okq (⟨"FiveCards$Reader", "step", "()V"⟩, 7) := ⟨⟨by decide +kernel, by decide +kernel⟩, List.mem_of_getElem? (i := 80) (by decide +kernel), List.mem_of_getElem? (i := 284) (by decide +kernel), List.mem_of_getElem? (i := 285) (by decide +kernel)⟩
theorem lw_p4 : lw_okq (⟨"FiveCards$Reader", "refuse", "()V"⟩, 7) := ⟨⟨by decide +kernel, by decide +kernel⟩, List.mem_of_getElem? (i := 80) (by decide +kernel), List.mem_of_getElem? (i := 288) (by decide +kernel), List.mem_of_getElem? (i := 289) (by decide +kernel)⟩
theorem lw_p5 : lw_okq (⟨"FiveCards$Reader", "chain", "(II)V"⟩, 7) := ⟨⟨by decide +kernel, by decide +kernel⟩, List.mem_of_getElem? (i := 80) (by decide +kernel), List.mem_of_getElem? (i := 292) (by decide +kernel), List.mem_of_getElem? (i := 293) (by decide +kernel)⟩
theorem lw_p6 : lw_okq (⟨"FiveCards$Reader", "part", "(II)V"⟩, 7) := ⟨⟨by decide +kernel, by decide +kernel⟩, List.mem_of_getElem? (i := 80) (by decide +kernel), List.mem_of_getElem? (i := 296) (by decide +kernel), List.mem_of_getElem? (i := 297) (by decide +kernel)⟩
theorem lw_p7 : lw_okq (⟨"FiveCards$Reader", "one", "(I)V"⟩, 7) := ⟨⟨by decide +kernel, by decide +kernel⟩, List.mem_of_getElem? (i := 80) (by decide +kernel), List.mem_of_getElem? (i := 300) (by decide +kernel), List.mem_of_getElem? (i := 301) (by decide +kernel)⟩
theorem lw_p8 : lw_okq (⟨"FiveCards$Reader", "put", "(I)V"⟩, 7) := ⟨⟨by decide +kernel, by decide +kernel⟩, List.mem_of_getElem? (i := 80) (by decide +kernel), List.mem_of_getElem? (i := 304) (by decide +kernel), List.mem_of_getElem? (i := 305) (by decide +kernel)⟩
theorem lw_p9 : lw_okq (⟨"FiveCards$Reader", "denial", "(I)V"⟩, 7) := ⟨⟨by decide +kernel, by decide +kernel⟩, List.mem_of_getElem? (i := 80) (by decide +kernel), List.mem_of_getElem? (i := 311) (by decide +kernel), List.mem_of_getElem? (i := 312) (by decide +kernel)⟩
theorem lw_p10 : lw_okq (⟨"java/util/ArrayList", "add", "(Ljava/lang/Object;[Ljava/lang/Object;I)V"⟩, 3) := ⟨⟨by decide +kernel, by decide +kernel⟩, List.mem_of_getElem? (i := 35) (by decide +kernel), List.mem_of_getElem? (i := 361) (by decide +kernel), List.mem_of_getElem? (i := 362) (by decide +kernel)⟩
theorem lw_p11 : lw_okq (⟨"java/util/ArrayList", "grow", "()[Ljava/lang/Object;"⟩, 3) := ⟨⟨by decide +kernel, by decide +kernel⟩, List.mem_of_getElem? (i := 35) (by decide +kernel), List.mem_of_getElem? (i := 365) (by decide +kernel), List.mem_of_getElem? (i := 366) (by decide +kernel)⟩
theorem lw_p12 : lw_okq (⟨"java/util/ArrayList", "grow", "(I)[Ljava/lang/Object;"⟩, 3) := ⟨⟨by decide +kernel, by decide +kernel⟩, List.mem_of_getElem? (i := 35) (by decide +kernel), List.mem_of_getElem? (i := 369) (by decide +kernel), List.mem_of_getElem? (i := 370) (by decide +kernel)⟩
theorem lw_p13 : lw_okq (⟨"FiveCards", "isPlace", "(II)Z"⟩, 14) := ⟨⟨by decide +kernel, by decide +kernel⟩, List.mem_of_getElem? (i := 27) (by decide +kernel), List.mem_of_getElem? (i := 563) (by decide +kernel), List.mem_of_getElem? (i := 564) (by decide +kernel)⟩
theorem lw_p14 : lw_okq (⟨"FiveCards$Run", "hitsAmong", "([I)I"⟩, 14) := ⟨⟨by decide +kernel, by decide +kernel⟩, List.mem_of_getElem? (i := 488) (by decide +kernel), List.mem_of_getElem? (i := 610) (by decide +kernel), List.mem_of_getElem? (i := 611) (by decide +kernel)⟩
theorem lw_p15 : lw_okq (⟨"FiveCards$Run", "mostLeft", "()I"⟩, 14) := ⟨⟨by decide +kernel, by decide +kernel⟩, List.mem_of_getElem? (i := 488) (by decide +kernel), List.mem_of_getElem? (i := 627) (by decide +kernel), List.mem_of_getElem? (i := 628) (by decide +kernel)⟩
def lw_privs_1 : List (MethodName × Nat) := [(⟨"FiveCards", "readTape", "()I"⟩, 14), (⟨"FiveCards$Tokens", "add", "(III)V"⟩, 4), (⟨"FiveCards$Reader", "expect", "(I)V"⟩, 7), (⟨"FiveCards$Reader", "step", "()V"⟩, 7), (⟨"FiveCards$Reader", "refuse", "()V"⟩, 7), (⟨"FiveCards$Reader", "chain", "(II)V"⟩, 7), (⟨"FiveCards$Reader", "part", "(II)V"⟩, 7), (⟨"FiveCards$Reader", "one", "(I)V"⟩, 7), (⟨"FiveCards$Reader", "put", "(I)V"⟩, 7), (⟨"FiveCards$Reader", "denial", "(I)V"⟩, 7), (⟨"java/util/ArrayList", "add", "(Ljava/lang/Object;[Ljava/lang/Object;I)V"⟩, 3), (⟨"java/util/ArrayList", "grow", "()[Ljava/lang/Object;"⟩, 3), (⟨"java/util/ArrayList", "grow", "(I)[Ljava/lang/Object;"⟩, 3), (⟨"FiveCards", "isPlace", "(II)Z"⟩, 14), (⟨"FiveCards$Run", "hitsAmong", "([I)I"⟩, 14), (⟨"FiveCards$Run", "mostLeft", "()I"⟩, 14)]
theorem lw_r1 : ∀ q ∈ lw_privs_1, lw_okq q := List.forall_mem_cons.mpr ⟨lw_p0, List.forall_mem_cons.mpr ⟨lw_p1, List.forall_mem_cons.mpr ⟨lw_p2, List.forall_mem_cons.mpr ⟨lw_p3, List.forall_mem_cons.mpr ⟨lw_p4, List.forall_mem_cons.mpr ⟨lw_p5, List.forall_mem_cons.mpr ⟨lw_p6, List.forall_mem_cons.mpr ⟨lw_p7, List.forall_mem_cons.mpr ⟨lw_p8, List.forall_mem_cons.mpr ⟨lw_p9, List.forall_mem_cons.mpr ⟨lw_p10, List.forall_mem_cons.mpr ⟨lw_p11, List.forall_mem_cons.mpr ⟨lw_p12, List.forall_mem_cons.mpr ⟨lw_p13, List.forall_mem_cons.mpr ⟨lw_p14, List.forall_mem_cons.mpr ⟨lw_p15, fun _ h => absurd h List.not_mem_nil⟩⟩⟩⟩⟩⟩⟩⟩⟩⟩⟩⟩⟩⟩⟩⟩
theorem lw_p16 : lw_okq (⟨"FiveCards", "bound", "(LFiveCards$Run;)I"⟩, 14) := ⟨⟨by decide +kernel, by decide +kernel⟩, List.mem_of_getElem? (i := 27) (by decide +kernel), List.mem_of_getElem? (i := 635) (by decide +kernel), List.mem_of_getElem? (i := 636) (by decide +kernel)⟩
theorem lw_p17 : lw_okq (⟨"FiveCards$Leak", "openHits", "(LFiveCards$Run;)I"⟩, 5) := ⟨⟨by decide +kernel, by decide +kernel⟩, List.mem_of_getElem? (i := 646) (by decide +kernel), List.mem_of_getElem? (i := 644) (by decide +kernel), List.mem_of_getElem? (i := 645) (by decide +kernel)⟩
theorem lw_p18 : lw_okq (⟨"FiveCards", "ruled", "(II)I"⟩, 14) := ⟨⟨by decide +kernel, by decide +kernel⟩, List.mem_of_getElem? (i := 27) (by decide +kernel), List.mem_of_getElem? (i := 652) (by decide +kernel), List.mem_of_getElem? (i := 653) (by decide +kernel)⟩
theorem lw_p19 : lw_okq (⟨"FiveCards", "runsTill", "(I)I"⟩, 14) := ⟨⟨by decide +kernel, by decide +kernel⟩, List.mem_of_getElem? (i := 27) (by decide +kernel), List.mem_of_getElem? (i := 656) (by decide +kernel), List.mem_of_getElem? (i := 657) (by decide +kernel)⟩
theorem lw_p20 : lw_okq (⟨"FiveCards", "hitsTill", "(I)I"⟩, 14) := ⟨⟨by decide +kernel, by decide +kernel⟩, List.mem_of_getElem? (i := 27) (by decide +kernel), List.mem_of_getElem? (i := 660) (by decide +kernel), List.mem_of_getElem? (i := 661) (by decide +kernel)⟩
theorem lw_p21 : lw_okq (⟨"FiveCards$Odds", "addSign", "(III)V"⟩, 1) := ⟨⟨by decide +kernel, by decide +kernel⟩, List.mem_of_getElem? (i := 131) (by decide +kernel), List.mem_of_getElem? (i := 691) (by decide +kernel), List.mem_of_getElem? (i := 692) (by decide +kernel)⟩
theorem lw_p22 : lw_okq (⟨"FiveCards", "kindsOfLeaks", "(I)I"⟩, 14) := ⟨⟨by decide +kernel, by decide +kernel⟩, List.mem_of_getElem? (i := 27) (by decide +kernel), List.mem_of_getElem? (i := 777) (by decide +kernel), List.mem_of_getElem? (i := 778) (by decide +kernel)⟩
theorem lw_p23 : lw_okq (⟨"FiveCards", "kindsShutBy", "(I)I"⟩, 14) := ⟨⟨by decide +kernel, by decide +kernel⟩, List.mem_of_getElem? (i := 27) (by decide +kernel), List.mem_of_getElem? (i := 781) (by decide +kernel), List.mem_of_getElem? (i := 782) (by decide +kernel)⟩
theorem lw_p24 : lw_okq (⟨"FiveCards", "hoursOf", "(I)I"⟩, 14) := ⟨⟨by decide +kernel, by decide +kernel⟩, List.mem_of_getElem? (i := 27) (by decide +kernel), List.mem_of_getElem? (i := 785) (by decide +kernel), List.mem_of_getElem? (i := 786) (by decide +kernel)⟩
theorem lw_p25 : lw_okq (⟨"FiveCards", "hitsInDays", "(III)I"⟩, 14) := ⟨⟨by decide +kernel, by decide +kernel⟩, List.mem_of_getElem? (i := 27) (by decide +kernel), List.mem_of_getElem? (i := 843) (by decide +kernel), List.mem_of_getElem? (i := 844) (by decide +kernel)⟩
theorem lw_p26 : lw_okq (⟨"FiveCards", "runsInDays", "(III)I"⟩, 14) := ⟨⟨by decide +kernel, by decide +kernel⟩, List.mem_of_getElem? (i := 27) (by decide +kernel), List.mem_of_getElem? (i := 851) (by decide +kernel), List.mem_of_getElem? (i := 852) (by decide +kernel)⟩
theorem lw_p27 : lw_okq (⟨"FiveCards", "hitsOfAll", "()I"⟩, 14) := ⟨⟨by decide +kernel, by decide +kernel⟩, List.mem_of_getElem? (i := 27) (by decide +kernel), List.mem_of_getElem? (i := 888) (by decide +kernel), List.mem_of_getElem? (i := 889) (by decide +kernel)⟩
theorem lw_p28 : lw_okq (⟨"FiveCardsModel", "spell", "(IJ)V"⟩, 65) := ⟨⟨by decide +kernel, by decide +kernel⟩, List.mem_of_getElem? (i := 935) (by decide +kernel), List.mem_of_getElem? (i := 942) (by decide +kernel), List.mem_of_getElem? (i := 943) (by decide +kernel)⟩
theorem lw_p29 : lw_okq (⟨"FiveCardsModel", "isRun", "(I)Z"⟩, 65) := ⟨⟨by decide +kernel, by decide +kernel⟩, List.mem_of_getElem? (i := 935) (by decide +kernel), List.mem_of_getElem? (i := 1166) (by decide +kernel), List.mem_of_getElem? (i := 1167) (by decide +kernel)⟩
theorem lw_p30 : lw_okq (⟨"FiveCardsModel", "sizeOf", "(I)I"⟩, 65) := ⟨⟨by decide +kernel, by decide +kernel⟩, List.mem_of_getElem? (i := 935) (by decide +kernel), List.mem_of_getElem? (i := 1170) (by decide +kernel), List.mem_of_getElem? (i := 1171) (by decide +kernel)⟩
theorem lw_p31 : lw_okq (⟨"FiveCardsModel", "isHit", "(II)Z"⟩, 65) := ⟨⟨by decide +kernel, by decide +kernel⟩, List.mem_of_getElem? (i := 935) (by decide +kernel), List.mem_of_getElem? (i := 1190) (by decide +kernel), List.mem_of_getElem? (i := 1191) (by decide +kernel)⟩
def lw_privs_2 : List (MethodName × Nat) := [(⟨"FiveCards", "bound", "(LFiveCards$Run;)I"⟩, 14), (⟨"FiveCards$Leak", "openHits", "(LFiveCards$Run;)I"⟩, 5), (⟨"FiveCards", "ruled", "(II)I"⟩, 14), (⟨"FiveCards", "runsTill", "(I)I"⟩, 14), (⟨"FiveCards", "hitsTill", "(I)I"⟩, 14), (⟨"FiveCards$Odds", "addSign", "(III)V"⟩, 1), (⟨"FiveCards", "kindsOfLeaks", "(I)I"⟩, 14), (⟨"FiveCards", "kindsShutBy", "(I)I"⟩, 14), (⟨"FiveCards", "hoursOf", "(I)I"⟩, 14), (⟨"FiveCards", "hitsInDays", "(III)I"⟩, 14), (⟨"FiveCards", "runsInDays", "(III)I"⟩, 14), (⟨"FiveCards", "hitsOfAll", "()I"⟩, 14), (⟨"FiveCardsModel", "spell", "(IJ)V"⟩, 65), (⟨"FiveCardsModel", "isRun", "(I)Z"⟩, 65), (⟨"FiveCardsModel", "sizeOf", "(I)I"⟩, 65), (⟨"FiveCardsModel", "isHit", "(II)Z"⟩, 65)]
theorem lw_r2 : ∀ q ∈ lw_privs_2, lw_okq q := List.forall_mem_cons.mpr ⟨lw_p16, List.forall_mem_cons.mpr ⟨lw_p17, List.forall_mem_cons.mpr ⟨lw_p18, List.forall_mem_cons.mpr ⟨lw_p19, List.forall_mem_cons.mpr ⟨lw_p20, List.forall_mem_cons.mpr ⟨lw_p21, List.forall_mem_cons.mpr ⟨lw_p22, List.forall_mem_cons.mpr ⟨lw_p23, List.forall_mem_cons.mpr ⟨lw_p24, List.forall_mem_cons.mpr ⟨lw_p25, List.forall_mem_cons.mpr ⟨lw_p26, List.forall_mem_cons.mpr ⟨lw_p27, List.forall_mem_cons.mpr ⟨lw_p28, List.forall_mem_cons.mpr ⟨lw_p29, List.forall_mem_cons.mpr ⟨lw_p30, List.forall_mem_cons.mpr ⟨lw_p31, fun _ h => absurd h List.not_mem_nil⟩⟩⟩⟩⟩⟩⟩⟩⟩⟩⟩⟩⟩⟩⟩⟩
theorem lw_p32 : lw_okq (⟨"FiveCardsModel", "mixes", "(II)V"⟩, 65) := ⟨⟨by decide +kernel, by decide +kernel⟩, List.mem_of_getElem? (i := 935) (by decide +kernel), List.mem_of_getElem? (i := 1202) (by decide +kernel), List.mem_of_getElem? (i := 1203) (by decide +kernel)⟩
theorem lw_p33 : lw_okq (⟨"FiveCardsModel", "hitsOf", "(I)I"⟩, 65) := ⟨⟨by decide +kernel, by decide +kernel⟩, List.mem_of_getElem? (i := 935) (by decide +kernel), List.mem_of_getElem? (i := 1208) (by decide +kernel), List.mem_of_getElem? (i := 1209) (by decide +kernel)⟩
theorem lw_p34 : lw_okq (⟨"FiveCardsModel", "nextOf", "(I)I"⟩, 65) := ⟨⟨by decide +kernel, by decide +kernel⟩, List.mem_of_getElem? (i := 935) (by decide +kernel), List.mem_of_getElem? (i := 1217) (by decide +kernel), List.mem_of_getElem? (i := 1218) (by decide +kernel)⟩
theorem lw_p35 : lw_okq (⟨"FiveCardsModel", "byLeft", "(I)I"⟩, 65) := ⟨⟨by decide +kernel, by decide +kernel⟩, List.mem_of_getElem? (i := 935) (by decide +kernel), List.mem_of_getElem? (i := 1221) (by decide +kernel), List.mem_of_getElem? (i := 1222) (by decide +kernel)⟩
theorem lw_p36 : lw_okq (⟨"FiveCardsModel", "alikeOf", "(I)I"⟩, 65) := ⟨⟨by decide +kernel, by decide +kernel⟩, List.mem_of_getElem? (i := 935) (by decide +kernel), List.mem_of_getElem? (i := 1225) (by decide +kernel), List.mem_of_getElem? (i := 1226) (by decide +kernel)⟩
theorem lw_p37 : lw_okq (⟨"FiveCardsModel", "boundOf", "(I)I"⟩, 65) := ⟨⟨by decide +kernel, by decide +kernel⟩, List.mem_of_getElem? (i := 935) (by decide +kernel), List.mem_of_getElem? (i := 1229) (by decide +kernel), List.mem_of_getElem? (i := 1230) (by decide +kernel)⟩
theorem lw_p38 : lw_okq (⟨"FiveCardsModel", "givesOf", "(II)I"⟩, 65) := ⟨⟨by decide +kernel, by decide +kernel⟩, List.mem_of_getElem? (i := 935) (by decide +kernel), List.mem_of_getElem? (i := 1233) (by decide +kernel), List.mem_of_getElem? (i := 1234) (by decide +kernel)⟩
theorem lw_p39 : lw_okq (⟨"FiveCardsModel", "saysOf", "(II)I"⟩, 65) := ⟨⟨by decide +kernel, by decide +kernel⟩, List.mem_of_getElem? (i := 935) (by decide +kernel), List.mem_of_getElem? (i := 1237) (by decide +kernel), List.mem_of_getElem? (i := 1238) (by decide +kernel)⟩
theorem lw_p40 : lw_okq (⟨"FiveCardsModel", "read", "(II)I"⟩, 65) := ⟨⟨by decide +kernel, by decide +kernel⟩, List.mem_of_getElem? (i := 935) (by decide +kernel), List.mem_of_getElem? (i := 1241) (by decide +kernel), List.mem_of_getElem? (i := 1242) (by decide +kernel)⟩
theorem lw_p41 : lw_okq (⟨"FiveCardsModel", "next", "()V"⟩, 65) := ⟨⟨by decide +kernel, by decide +kernel⟩, List.mem_of_getElem? (i := 935) (by decide +kernel), List.mem_of_getElem? (i := 1245) (by decide +kernel), List.mem_of_getElem? (i := 1246) (by decide +kernel)⟩
theorem lw_p42 : lw_okq (⟨"FiveCardsModel", "byteAt", "(I)I"⟩, 65) := ⟨⟨by decide +kernel, by decide +kernel⟩, List.mem_of_getElem? (i := 935) (by decide +kernel), List.mem_of_getElem? (i := 1249) (by decide +kernel), List.mem_of_getElem? (i := 1250) (by decide +kernel)⟩
theorem lw_p43 : lw_okq (⟨"FiveCardsModel", "part", "(J)I"⟩, 65) := ⟨⟨by decide +kernel, by decide +kernel⟩, List.mem_of_getElem? (i := 935) (by decide +kernel), List.mem_of_getElem? (i := 1262) (by decide +kernel), List.mem_of_getElem? (i := 1263) (by decide +kernel)⟩
theorem lw_p44 : lw_okq (⟨"FiveCardsModel", "isWord", "(J)Z"⟩, 65) := ⟨⟨by decide +kernel, by decide +kernel⟩, List.mem_of_getElem? (i := 935) (by decide +kernel), List.mem_of_getElem? (i := 1266) (by decide +kernel), List.mem_of_getElem? (i := 1267) (by decide +kernel)⟩
theorem lw_p45 : lw_okq (⟨"FiveCardsModel", "fail", "()V"⟩, 65) := ⟨⟨by decide +kernel, by decide +kernel⟩, List.mem_of_getElem? (i := 935) (by decide +kernel), List.mem_of_getElem? (i := 1270) (by decide +kernel), List.mem_of_getElem? (i := 1271) (by decide +kernel)⟩
theorem lw_p46 : lw_okq (⟨"FiveCardsModel", "either", "()I"⟩, 65) := ⟨⟨by decide +kernel, by decide +kernel⟩, List.mem_of_getElem? (i := 935) (by decide +kernel), List.mem_of_getElem? (i := 1274) (by decide +kernel), List.mem_of_getElem? (i := 1275) (by decide +kernel)⟩
theorem lw_p47 : lw_okq (⟨"FiveCardsModel", "both", "()I"⟩, 65) := ⟨⟨by decide +kernel, by decide +kernel⟩, List.mem_of_getElem? (i := 935) (by decide +kernel), List.mem_of_getElem? (i := 1278) (by decide +kernel), List.mem_of_getElem? (i := 1279) (by decide +kernel)⟩
def lw_privs_3 : List (MethodName × Nat) := [(⟨"FiveCardsModel", "mixes", "(II)V"⟩, 65), (⟨"FiveCardsModel", "hitsOf", "(I)I"⟩, 65), (⟨"FiveCardsModel", "nextOf", "(I)I"⟩, 65), (⟨"FiveCardsModel", "byLeft", "(I)I"⟩, 65), (⟨"FiveCardsModel", "alikeOf", "(I)I"⟩, 65), (⟨"FiveCardsModel", "boundOf", "(I)I"⟩, 65), (⟨"FiveCardsModel", "givesOf", "(II)I"⟩, 65), (⟨"FiveCardsModel", "saysOf", "(II)I"⟩, 65), (⟨"FiveCardsModel", "read", "(II)I"⟩, 65), (⟨"FiveCardsModel", "next", "()V"⟩, 65), (⟨"FiveCardsModel", "byteAt", "(I)I"⟩, 65), (⟨"FiveCardsModel", "part", "(J)I"⟩, 65), (⟨"FiveCardsModel", "isWord", "(J)Z"⟩, 65), (⟨"FiveCardsModel", "fail", "()V"⟩, 65), (⟨"FiveCardsModel", "either", "()I"⟩, 65), (⟨"FiveCardsModel", "both", "()I"⟩, 65)]
theorem lw_r3 : ∀ q ∈ lw_privs_3, lw_okq q := List.forall_mem_cons.mpr ⟨lw_p32, List.forall_mem_cons.mpr ⟨lw_p33, List.forall_mem_cons.mpr ⟨lw_p34, List.forall_mem_cons.mpr ⟨lw_p35, List.forall_mem_cons.mpr ⟨lw_p36, List.forall_mem_cons.mpr ⟨lw_p37, List.forall_mem_cons.mpr ⟨lw_p38, List.forall_mem_cons.mpr ⟨lw_p39, List.forall_mem_cons.mpr ⟨lw_p40, List.forall_mem_cons.mpr ⟨lw_p41, List.forall_mem_cons.mpr ⟨lw_p42, List.forall_mem_cons.mpr ⟨lw_p43, List.forall_mem_cons.mpr ⟨lw_p44, List.forall_mem_cons.mpr ⟨lw_p45, List.forall_mem_cons.mpr ⟨lw_p46, List.forall_mem_cons.mpr ⟨lw_p47, fun _ h => absurd h List.not_mem_nil⟩⟩⟩⟩⟩⟩⟩⟩⟩⟩⟩⟩⟩⟩⟩⟩
theorem lw_p48 : lw_okq (⟨"FiveCardsModel", "not", "()I"⟩, 65) := ⟨⟨by decide +kernel, by decide +kernel⟩, List.mem_of_getElem? (i := 935) (by decide +kernel), List.mem_of_getElem? (i := 1282) (by decide +kernel), List.mem_of_getElem? (i := 1283) (by decide +kernel)⟩
theorem lw_p49 : lw_okq (⟨"FiveCardsModel", "opens", "()Z"⟩, 65) := ⟨⟨by decide +kernel, by decide +kernel⟩, List.mem_of_getElem? (i := 935) (by decide +kernel), List.mem_of_getElem? (i := 1287) (by decide +kernel), List.mem_of_getElem? (i := 1288) (by decide +kernel)⟩
theorem lw_p50 : lw_okq (⟨"FiveCardsModel", "added", "()I"⟩, 65) := ⟨⟨by decide +kernel, by decide +kernel⟩, List.mem_of_getElem? (i := 935) (by decide +kernel), List.mem_of_getElem? (i := 1291) (by decide +kernel), List.mem_of_getElem? (i := 1292) (by decide +kernel)⟩
theorem lw_p51 : lw_okq (⟨"FiveCardsModel", "term", "()I"⟩, 65) := ⟨⟨by decide +kernel, by decide +kernel⟩, List.mem_of_getElem? (i := 935) (by decide +kernel), List.mem_of_getElem? (i := 1295) (by decide +kernel), List.mem_of_getElem? (i := 1296) (by decide +kernel)⟩
theorem lw_p52 : lw_okq (⟨"FiveCardsModel", "one", "()I"⟩, 65) := ⟨⟨by decide +kernel, by decide +kernel⟩, List.mem_of_getElem? (i := 935) (by decide +kernel), List.mem_of_getElem? (i := 1299) (by decide +kernel), List.mem_of_getElem? (i := 1300) (by decide +kernel)⟩
theorem lw_p53 : lw_okq (⟨"FiveCardsModel", "isSign", "(I)Z"⟩, 65) := ⟨⟨by decide +kernel, by decide +kernel⟩, List.mem_of_getElem? (i := 935) (by decide +kernel), List.mem_of_getElem? (i := 1303) (by decide +kernel), List.mem_of_getElem? (i := 1304) (by decide +kernel)⟩
theorem lw_p54 : lw_okq (⟨"FiveCardsModel", "name", "()I"⟩, 65) := ⟨⟨by decide +kernel, by decide +kernel⟩, List.mem_of_getElem? (i := 935) (by decide +kernel), List.mem_of_getElem? (i := 1307) (by decide +kernel), List.mem_of_getElem? (i := 1308) (by decide +kernel)⟩
theorem lw_p55 : lw_okq (⟨"FiveCardsModel", "counts1", "(I)V"⟩, 65) := ⟨⟨by decide +kernel, by decide +kernel⟩, List.mem_of_getElem? (i := 935) (by decide +kernel), List.mem_of_getElem? (i := 1329) (by decide +kernel), List.mem_of_getElem? (i := 1330) (by decide +kernel)⟩
theorem lw_p56 : lw_okq (⟨"FiveCardsModel", "isLeak", "(I)Z"⟩, 65) := ⟨⟨by decide +kernel, by decide +kernel⟩, List.mem_of_getElem? (i := 935) (by decide +kernel), List.mem_of_getElem? (i := 1342) (by decide +kernel), List.mem_of_getElem? (i := 1343) (by decide +kernel)⟩
theorem lw_p57 : lw_okq (⟨"FiveCardsModel", "countsOf", "(I)I"⟩, 65) := ⟨⟨by decide +kernel, by decide +kernel⟩, List.mem_of_getElem? (i := 935) (by decide +kernel), List.mem_of_getElem? (i := 1354) (by decide +kernel), List.mem_of_getElem? (i := 1355) (by decide +kernel)⟩
theorem lw_p58 : lw_okq (⟨"FiveCardsModel", "kindsBy", "(I)I"⟩, 65) := ⟨⟨by decide +kernel, by decide +kernel⟩, List.mem_of_getElem? (i := 935) (by decide +kernel), List.mem_of_getElem? (i := 1368) (by decide +kernel), List.mem_of_getElem? (i := 1369) (by decide +kernel)⟩
theorem lw_p59 : lw_okq (⟨"FiveCardsModel", "zero", "()V"⟩, 65) := ⟨⟨by decide +kernel, by decide +kernel⟩, List.mem_of_getElem? (i := 935) (by decide +kernel), List.mem_of_getElem? (i := 1396) (by decide +kernel), List.mem_of_getElem? (i := 1397) (by decide +kernel)⟩
theorem lw_p60 : lw_okq (⟨"FiveCardsModel", "expected", "(I)I"⟩, 65) := ⟨⟨by decide +kernel, by decide +kernel⟩, List.mem_of_getElem? (i := 935) (by decide +kernel), List.mem_of_getElem? (i := 1400) (by decide +kernel), List.mem_of_getElem? (i := 1401) (by decide +kernel)⟩
theorem lw_p61 : lw_okq (⟨"FiveCardsModel", "adds", "(JJ)V"⟩, 65) := ⟨⟨by decide +kernel, by decide +kernel⟩, List.mem_of_getElem? (i := 935) (by decide +kernel), List.mem_of_getElem? (i := 1404) (by decide +kernel), List.mem_of_getElem? (i := 1405) (by decide +kernel)⟩
theorem lw_p62 : lw_okq (⟨"FiveCardsModel", "ran", "(III)V"⟩, 65) := ⟨⟨by decide +kernel, by decide +kernel⟩, List.mem_of_getElem? (i := 935) (by decide +kernel), List.mem_of_getElem? (i := 1416) (by decide +kernel), List.mem_of_getElem? (i := 1417) (by decide +kernel)⟩
def lw_privs_4 : List (MethodName × Nat) := [(⟨"FiveCardsModel", "not", "()I"⟩, 65), (⟨"FiveCardsModel", "opens", "()Z"⟩, 65), (⟨"FiveCardsModel", "added", "()I"⟩, 65), (⟨"FiveCardsModel", "term", "()I"⟩, 65), (⟨"FiveCardsModel", "one", "()I"⟩, 65), (⟨"FiveCardsModel", "isSign", "(I)Z"⟩, 65), (⟨"FiveCardsModel", "name", "()I"⟩, 65), (⟨"FiveCardsModel", "counts1", "(I)V"⟩, 65), (⟨"FiveCardsModel", "isLeak", "(I)Z"⟩, 65), (⟨"FiveCardsModel", "countsOf", "(I)I"⟩, 65), (⟨"FiveCardsModel", "kindsBy", "(I)I"⟩, 65), (⟨"FiveCardsModel", "zero", "()V"⟩, 65), (⟨"FiveCardsModel", "expected", "(I)I"⟩, 65), (⟨"FiveCardsModel", "adds", "(JJ)V"⟩, 65), (⟨"FiveCardsModel", "ran", "(III)V"⟩, 65)]
theorem lw_r4 : ∀ q ∈ lw_privs_4, lw_okq q := List.forall_mem_cons.mpr ⟨lw_p48, List.forall_mem_cons.mpr ⟨lw_p49, List.forall_mem_cons.mpr ⟨lw_p50, List.forall_mem_cons.mpr ⟨lw_p51, List.forall_mem_cons.mpr ⟨lw_p52, List.forall_mem_cons.mpr ⟨lw_p53, List.forall_mem_cons.mpr ⟨lw_p54, List.forall_mem_cons.mpr ⟨lw_p55, List.forall_mem_cons.mpr ⟨lw_p56, List.forall_mem_cons.mpr ⟨lw_p57, List.forall_mem_cons.mpr ⟨lw_p58, List.forall_mem_cons.mpr ⟨lw_p59, List.forall_mem_cons.mpr ⟨lw_p60, List.forall_mem_cons.mpr ⟨lw_p61, List.forall_mem_cons.mpr ⟨lw_p62, fun _ h => absurd h List.not_mem_nil⟩⟩⟩⟩⟩⟩⟩⟩⟩⟩⟩⟩⟩⟩⟩
def lw_privs : List (MethodName × Nat) := lw_privs_1 ++ (lw_privs_2 ++ (lw_privs_3 ++ (lw_privs_4)))
def lw_tbl : List Cond := k2_sels lw_privs ++ tables_1
theorem lw_privs_ok : ∀ q ∈ lw_privs, lw_okq q := by
  show ∀ q ∈ lw_privs_1 ++ (lw_privs_2 ++ (lw_privs_3 ++ (lw_privs_4))), lw_okq q
  exact List.forall_mem_append.mpr ⟨lw_r1, List.forall_mem_append.mpr ⟨lw_r2, List.forall_mem_append.mpr ⟨lw_r3, lw_r4⟩⟩⟩
def RX0 : String := "FiveCards$Fraction"
def TX0 : u_T := fun k => match k with
  | 0 => ("FiveCards$Fraction", "above", "J", false)
  | _ => ("FiveCards$Fraction", "below", "J", false)
def tyX0 : Nat → FieldType := fun k => match k with
  | 0 => .long
  | _ => .long
abbrev wsX00 : List Cond := u_ws RX0 TX0 2
theorem nmX0 : ∀ a, a < 2 → ∀ b, b < 2 → a ≠ b → (TX0 a).2.1 ≠ (TX0 b).2.1 := by decide +kernel
theorem tyX0_ok : ∀ k, k < 2 → parseFieldDescriptor (TX0 k).2.2.1 = some (tyX0 k) := by decide +kernel
abbrev cX0_init : ByteArray := prog_2_method_1_code
def yX0_init : MethodName := ⟨RX0, "<init>", "()V"⟩
abbrev cX0_add : ByteArray := prog_2_method_2_code
def yX0_add : MethodName := ⟨RX0, "add", "(JJ)V"⟩
abbrev cX0_greatestDivisor : ByteArray := prog_2_method_3_code
def yX0_greatestDivisor : MethodName := ⟨RX0, "greatestDivisor", "(JJ)J"⟩
def RX1 : String := "FiveCards$Leak"
def TX1 : u_T := fun k => match k with
  | 0 => ("FiveCards$Leak", "kind", "I", true)
  | 1 => ("FiveCards$Leak", "number", "I", true)
  | 2 => ("FiveCards$Leak", "sign", "I", true)
  | 3 => ("FiveCards$Leak", "isShut", "Z", false)
  | _ => ("FiveCards$Leak", "wasShut", "Z", false)
def tyX1 : Nat → FieldType := fun k => match k with
  | 0 => .int
  | 1 => .int
  | 2 => .int
  | 3 => .boolean
  | _ => .boolean
abbrev wsX10 : List Cond := u_ws RX1 TX1 5
theorem nmX1 : ∀ a, a < 5 → ∀ b, b < 5 → a ≠ b → (TX1 a).2.1 ≠ (TX1 b).2.1 := by decide +kernel
theorem tyX1_ok : ∀ k, k < 5 → parseFieldDescriptor (TX1 k).2.2.1 = some (tyX1 k) := by decide +kernel
abbrev cX1_init : ByteArray := prog_3_method_1_code
def yX1_init : MethodName := ⟨RX1, "<init>", "(III)V"⟩
abbrev cX1_isUnder : ByteArray := prog_3_method_2_code
def yX1_isUnder : MethodName := ⟨RX1, "isUnder", "(I)Z"⟩
abbrev cX1_weight : ByteArray := prog_3_method_3_code
def yX1_weight : MethodName := ⟨RX1, "weight", "()I"⟩
abbrev cX1_mostHits : ByteArray := prog_3_method_4_code
def yX1_mostHits : MethodName := ⟨RX1, "mostHits", "(LFiveCards$Run;)I"⟩
abbrev cX1_openHits : ByteArray := prog_3_method_5_code
def yX1_openHits : MethodName := ⟨RX1, "openHits", "(LFiveCards$Run;)I"⟩
def RX2 : String := "FiveCards$Odds"
def TX2 : u_T := fun k => match k with
  | _ => ("FiveCards$Odds", "chosen", "[J", true)
def tyX2 : Nat → FieldType := fun k => match k with
  | _ => .array .long
abbrev wsX20 : List Cond := u_ws RX2 TX2 1
theorem nmX2 : ∀ a, a < 1 → ∀ b, b < 1 → a ≠ b → (TX2 a).2.1 ≠ (TX2 b).2.1 := by decide +kernel
theorem tyX2_ok : ∀ k, k < 1 → parseFieldDescriptor (TX2 k).2.2.1 = some (tyX2 k) := by decide +kernel
abbrev cX2_init : ByteArray := prog_4_method_1_code
def yX2_init : MethodName := ⟨RX2, "<init>", "()V"⟩
abbrev cX2_work : ByteArray := prog_4_method_2_code
def yX2_work : MethodName := ⟨RX2, "work", "(LFiveCards$Run;)V"⟩
abbrev cX2_addSign : ByteArray := prog_4_method_3_code
def yX2_addSign : MethodName := ⟨RX2, "addSign", "(III)V"⟩
abbrev cX2_allOrders : ByteArray := prog_4_method_4_code
def yX2_allOrders : MethodName := ⟨RX2, "allOrders", "()J"⟩
abbrev cX2_ordersWith : ByteArray := prog_4_method_5_code
def yX2_ordersWith : MethodName := ⟨RX2, "ordersWith", "(I)J"⟩
abbrev cX2_choices : ByteArray := prog_4_method_6_code
def yX2_choices : MethodName := ⟨RX2, "choices", "(II)J"⟩
def RX3 : String := "FiveCards$Pack"
def TX3 : u_T := fun k => match k with
  | 0 => ("FiveCards$Pack", "cardsOf", "[I", true)
  | _ => ("FiveCards$Pack", "cards", "I", true)
def tyX3 : Nat → FieldType := fun k => match k with
  | 0 => .array .int
  | _ => .int
abbrev wsX30 : List Cond := u_ws RX3 TX3 2
theorem nmX3 : ∀ a, a < 2 → ∀ b, b < 2 → a ≠ b → (TX3 a).2.1 ≠ (TX3 b).2.1 := by decide +kernel
theorem tyX3_ok : ∀ k, k < 2 → parseFieldDescriptor (TX3 k).2.2.1 = some (tyX3 k) := by decide +kernel
abbrev cX3_init : ByteArray := prog_5_method_1_code
def yX3_init : MethodName := ⟨RX3, "<init>", "(I)V"⟩
def RX4 : String := "FiveCards$Reader"
def TX4 : u_T := fun k => match k with
  | 0 => ("FiveCards$Reader", "tokens", "LFiveCards$Tokens;", true)
  | 1 => ("FiveCards$Reader", "codes", "[I", true)
  | 2 => ("FiveCards$Reader", "ends", "[I", true)
  | 3 => ("FiveCards$Reader", "length", "I", false)
  | 4 => ("FiveCards$Reader", "at", "I", false)
  | 5 => ("FiveCards$Reader", "token", "I", false)
  | _ => ("FiveCards$Reader", "fault", "I", false)
def tyX4 : Nat → FieldType := fun k => match k with
  | 0 => .object "FiveCards$Tokens"
  | 1 => .array .int
  | 2 => .array .int
  | 3 => .int
  | 4 => .int
  | 5 => .int
  | _ => .int
abbrev wsX40 : List Cond := u_ws RX4 TX4 7
theorem nmX4 : ∀ a, a < 7 → ∀ b, b < 7 → a ≠ b → (TX4 a).2.1 ≠ (TX4 b).2.1 := by decide +kernel
theorem tyX4_ok : ∀ k, k < 7 → parseFieldDescriptor (TX4 k).2.2.1 = some (tyX4 k) := by decide +kernel
abbrev cX4_init : ByteArray := prog_6_method_1_code
def yX4_init : MethodName := ⟨RX4, "<init>", "()V"⟩
abbrev cX4_read : ByteArray := prog_6_method_2_code
def yX4_read : MethodName := ⟨RX4, "read", "(LFiveCards$Tape;)I"⟩
abbrev cX4_textRead : ByteArray := prog_6_method_3_code
def yX4_textRead : MethodName := ⟨RX4, "textRead", "()LFiveCards$Text;"⟩
abbrev cX4_expect : ByteArray := prog_6_method_4_code
def yX4_expect : MethodName := ⟨RX4, "expect", "(I)V"⟩
abbrev cX4_step : ByteArray := prog_6_method_5_code
def yX4_step : MethodName := ⟨RX4, "step", "()V"⟩
abbrev cX4_refuse : ByteArray := prog_6_method_6_code
def yX4_refuse : MethodName := ⟨RX4, "refuse", "()V"⟩
abbrev cX4_put : ByteArray := prog_6_method_7_code
def yX4_put : MethodName := ⟨RX4, "put", "(I)V"⟩
abbrev cX4_chain : ByteArray := prog_6_method_8_code
def yX4_chain : MethodName := ⟨RX4, "chain", "(II)V"⟩
abbrev cX4_part : ByteArray := prog_6_method_9_code
def yX4_part : MethodName := ⟨RX4, "part", "(II)V"⟩
abbrev cX4_denial : ByteArray := prog_6_method_10_code
def yX4_denial : MethodName := ⟨RX4, "denial", "(I)V"⟩
abbrev cX4_one : ByteArray := prog_6_method_11_code
def yX4_one : MethodName := ⟨RX4, "one", "(I)V"⟩
abbrev cX4_levelOf : ByteArray := prog_6_method_12_code
def yX4_levelOf : MethodName := ⟨RX4, "levelOf", "(I)I"⟩
def RX5 : String := "FiveCards$Run"
def TX5 : u_T := fun k => match k with
  | 0 => ("FiveCards$Run", "packNumber", "I", true)
  | 1 => ("FiveCards$Run", "pack", "LFiveCards$Pack;", true)
  | 2 => ("FiveCards$Run", "guesser", "I", true)
  | 3 => ("FiveCards$Run", "day", "I", true)
  | 4 => ("FiveCards$Run", "cards", "[I", true)
  | 5 => ("FiveCards$Run", "guesses", "[I", true)
  | 6 => ("FiveCards$Run", "slips", "I", false)
  | 7 => ("FiveCards$Run", "putIn", "I", false)
  | 8 => ("FiveCards$Run", "spare", "[I", true)
  | 9 => ("FiveCards$Run", "left", "[I", true)
  | 10 => ("FiveCards$Run", "keptCards", "[I", true)
  | 11 => ("FiveCards$Run", "keptGuesses", "[I", true)
  | 12 => ("FiveCards$Run", "keptSlips", "I", false)
  | _ => ("FiveCards$Run", "keptPutIn", "I", false)
def tyX5 : Nat → FieldType := fun k => match k with
  | 0 => .int
  | 1 => .object "FiveCards$Pack"
  | 2 => .int
  | 3 => .int
  | 4 => .array .int
  | 5 => .array .int
  | 6 => .int
  | 7 => .int
  | 8 => .array .int
  | 9 => .array .int
  | 10 => .array .int
  | 11 => .array .int
  | 12 => .int
  | _ => .int
abbrev wsX50 : List Cond := u_ws RX5 TX5 14
theorem nmX5 : ∀ a, a < 14 → ∀ b, b < 14 → a ≠ b → (TX5 a).2.1 ≠ (TX5 b).2.1 := by decide +kernel
theorem tyX5_ok : ∀ k, k < 14 → parseFieldDescriptor (TX5 k).2.2.1 = some (tyX5 k) := by decide +kernel
abbrev cX5_init : ByteArray := prog_7_method_1_code
def yX5_init : MethodName := ⟨RX5, "<init>", "(ILFiveCards$Pack;II)V"⟩
abbrev cX5_isOf : ByteArray := prog_7_method_2_code
def yX5_isOf : MethodName := ⟨RX5, "isOf", "(III)Z"⟩
abbrev cX5_hits : ByteArray := prog_7_method_3_code
def yX5_hits : MethodName := ⟨RX5, "hits", "()I"⟩
abbrev cX5_hitsAmong : ByteArray := prog_7_method_4_code
def yX5_hitsAmong : MethodName := ⟨RX5, "hitsAmong", "([I)I"⟩
abbrev cX5_nextHits : ByteArray := prog_7_method_5_code
def yX5_nextHits : MethodName := ⟨RX5, "nextHits", "()I"⟩
abbrev cX5_alike : ByteArray := prog_7_method_6_code
def yX5_alike : MethodName := ⟨RX5, "alike", "()I"⟩
abbrev cX5_hitsByLeft : ByteArray := prog_7_method_7_code
def yX5_hitsByLeft : MethodName := ⟨RX5, "hitsByLeft", "()I"⟩
abbrev cX5_mostLeft : ByteArray := prog_7_method_8_code
def yX5_mostLeft : MethodName := ⟨RX5, "mostLeft", "()I"⟩
abbrev cX5_guessesOf : ByteArray := prog_7_method_9_code
def yX5_guessesOf : MethodName := ⟨RX5, "guessesOf", "(I)I"⟩
abbrev cX5_expectedAbove : ByteArray := prog_7_method_10_code
def yX5_expectedAbove : MethodName := ⟨RX5, "expectedAbove", "()I"⟩
abbrev cX5_takeGuesses : ByteArray := prog_7_method_11_code
def yX5_takeGuesses : MethodName := ⟨RX5, "takeGuesses", "(LFiveCards$Sheet;I)I"⟩
abbrev cX5_writeAnew : ByteArray := prog_7_method_12_code
def yX5_writeAnew : MethodName := ⟨RX5, "writeAnew", "(II)I"⟩
abbrev cX5_cutAt : ByteArray := prog_7_method_13_code
def yX5_cutAt : MethodName := ⟨RX5, "cutAt", "(I)V"⟩
abbrev cX5_hitsIfShuffled : ByteArray := prog_7_method_14_code
def yX5_hitsIfShuffled : MethodName := ⟨RX5, "hitsIfShuffled", "(I)I"⟩
abbrev cX5_mix : ByteArray := prog_7_method_15_code
def yX5_mix : MethodName := ⟨RX5, "mix", "([II)V"⟩
abbrev cX5_keep : ByteArray := prog_7_method_16_code
def yX5_keep : MethodName := ⟨RX5, "keep", "()V"⟩
abbrev cX5_layBack : ByteArray := prog_7_method_17_code
def yX5_layBack : MethodName := ⟨RX5, "layBack", "()V"⟩
def RX6 : String := "FiveCards$Screen"
def TX6 : u_T := fun k => match k with
  | 0 => ("FiveCards$Screen", "hours", "I", true)
  | _ => ("FiveCards$Screen", "kinds", "I", true)
def tyX6 : Nat → FieldType := fun k => match k with
  | 0 => .int
  | _ => .int
abbrev wsX60 : List Cond := u_ws RX6 TX6 2
theorem nmX6 : ∀ a, a < 2 → ∀ b, b < 2 → a ≠ b → (TX6 a).2.1 ≠ (TX6 b).2.1 := by decide +kernel
theorem tyX6_ok : ∀ k, k < 2 → parseFieldDescriptor (TX6 k).2.2.1 = some (tyX6 k) := by decide +kernel
abbrev cX6_init : ByteArray := prog_8_method_1_code
def yX6_init : MethodName := ⟨RX6, "<init>", "(II)V"⟩
def RX7 : String := "FiveCards$Sheet"
def TX7 : u_T := fun k => match k with
  | 0 => ("FiveCards$Sheet", "items", "[I", true)
  | 1 => ("FiveCards$Sheet", "sort", "I", false)
  | _ => ("FiveCards$Sheet", "size", "I", false)
def tyX7 : Nat → FieldType := fun k => match k with
  | 0 => .array .int
  | 1 => .int
  | _ => .int
abbrev wsX70 : List Cond := u_ws RX7 TX7 3
theorem nmX7 : ∀ a, a < 3 → ∀ b, b < 3 → a ≠ b → (TX7 a).2.1 ≠ (TX7 b).2.1 := by decide +kernel
theorem tyX7_ok : ∀ k, k < 3 → parseFieldDescriptor (TX7 k).2.2.1 = some (tyX7 k) := by decide +kernel
abbrev cX7_init : ByteArray := prog_9_method_1_code
def yX7_init : MethodName := ⟨RX7, "<init>", "()V"⟩
abbrev cX7_isMissing : ByteArray := prog_9_method_2_code
def yX7_isMissing : MethodName := ⟨RX7, "isMissing", "()Z"⟩
abbrev cX7_become : ByteArray := prog_9_method_3_code
def yX7_become : MethodName := ⟨RX7, "become", "(II)V"⟩
abbrev cX7_holds : ByteArray := prog_9_method_4_code
def yX7_holds : MethodName := ⟨RX7, "holds", "(II)Z"⟩
abbrev cX7_write : ByteArray := prog_9_method_5_code
def yX7_write : MethodName := ⟨RX7, "write", "(II)V"⟩
def RX8 : String := "FiveCards$Tape"
def TX8 : u_T := fun k => match k with
  | 0 => ("FiveCards$Tape", "bytes", "[I", true)
  | _ => ("FiveCards$Tape", "size", "I", false)
def tyX8 : Nat → FieldType := fun k => match k with
  | 0 => .array .int
  | _ => .int
abbrev wsX80 : List Cond := u_ws RX8 TX8 2
theorem nmX8 : ∀ a, a < 2 → ∀ b, b < 2 → a ≠ b → (TX8 a).2.1 ≠ (TX8 b).2.1 := by decide +kernel
theorem tyX8_ok : ∀ k, k < 2 → parseFieldDescriptor (TX8 k).2.2.1 = some (tyX8 k) := by decide +kernel
abbrev cX8_init : ByteArray := prog_10_method_1_code
def yX8_init : MethodName := ⟨RX8, "<init>", "()V"⟩
abbrev cX8_add : ByteArray := prog_10_method_2_code
def yX8_add : MethodName := ⟨RX8, "add", "(I)V"⟩
abbrev cX8_endFrom : ByteArray := prog_10_method_3_code
def yX8_endFrom : MethodName := ⟨RX8, "endFrom", "(I)I"⟩
abbrev cX8_numberIn : ByteArray := prog_10_method_4_code
def yX8_numberIn : MethodName := ⟨RX8, "numberIn", "(II)I"⟩
abbrev cX8_stands : ByteArray := prog_10_method_5_code
def yX8_stands : MethodName := ⟨RX8, "stands", "(Ljava/lang/String;II)Z"⟩
abbrev cX8_isBlank : ByteArray := prog_10_method_6_code
def yX8_isBlank : MethodName := ⟨RX8, "isBlank", "(I)Z"⟩
abbrev cX8_isLetter : ByteArray := prog_10_method_7_code
def yX8_isLetter : MethodName := ⟨RX8, "isLetter", "(I)Z"⟩
abbrev cX8_isDigit : ByteArray := prog_10_method_8_code
def yX8_isDigit : MethodName := ⟨RX8, "isDigit", "(I)Z"⟩
def RX9 : String := "FiveCards$Text"
def TX9 : u_T := fun k => match k with
  | 0 => ("FiveCards$Text", "codes", "[I", true)
  | 1 => ("FiveCards$Text", "ends", "[I", true)
  | _ => ("FiveCards$Text", "stack", "[I", true)
def tyX9 : Nat → FieldType := fun k => match k with
  | 0 => .array .int
  | 1 => .array .int
  | _ => .array .int
abbrev wsX90 : List Cond := u_ws RX9 TX9 3
theorem nmX9 : ∀ a, a < 3 → ∀ b, b < 3 → a ≠ b → (TX9 a).2.1 ≠ (TX9 b).2.1 := by decide +kernel
theorem tyX9_ok : ∀ k, k < 3 → parseFieldDescriptor (TX9 k).2.2.1 = some (tyX9 k) := by decide +kernel
abbrev cX9_init : ByteArray := prog_11_method_1_code
def yX9_init : MethodName := ⟨RX9, "<init>", "([I[I)V"⟩
abbrev cX9_value : ByteArray := prog_11_method_2_code
def yX9_value : MethodName := ⟨RX9, "value", "(I[I)I"⟩
abbrev cX9_joined : ByteArray := prog_11_method_3_code
def yX9_joined : MethodName := ⟨RX9, "joined", "(III)I"⟩
abbrev cX9_bit : ByteArray := prog_11_method_4_code
def yX9_bit : MethodName := ⟨RX9, "bit", "(Z)I"⟩
def RX10 : String := "FiveCards$Tokens"
def TX10 : u_T := fun k => match k with
  | 0 => ("FiveCards$Tokens", "kinds", "[I", true)
  | 1 => ("FiveCards$Tokens", "places", "[I", true)
  | 2 => ("FiveCards$Tokens", "numbers", "[I", true)
  | _ => ("FiveCards$Tokens", "size", "I", false)
def tyX10 : Nat → FieldType := fun k => match k with
  | 0 => .array .int
  | 1 => .array .int
  | 2 => .array .int
  | _ => .int
abbrev wsX100 : List Cond := u_ws RX10 TX10 4
theorem nmX10 : ∀ a, a < 4 → ∀ b, b < 4 → a ≠ b → (TX10 a).2.1 ≠ (TX10 b).2.1 := by decide +kernel
theorem tyX10_ok : ∀ k, k < 4 → parseFieldDescriptor (TX10 k).2.2.1 = some (tyX10 k) := by decide +kernel
abbrev cX10_init : ByteArray := prog_12_method_1_code
def yX10_init : MethodName := ⟨RX10, "<init>", "()V"⟩
abbrev cX10_cutTape : ByteArray := prog_12_method_2_code
def yX10_cutTape : MethodName := ⟨RX10, "cutTape", "(LFiveCards$Tape;)V"⟩
abbrev cX10_add : ByteArray := prog_12_method_3_code
def yX10_add : MethodName := ⟨RX10, "add", "(III)V"⟩
abbrev cX10_kindOf : ByteArray := prog_12_method_4_code
def yX10_kindOf : MethodName := ⟨RX10, "kindOf", "(LFiveCards$Tape;II)I"⟩
abbrev cX10_wordIn : ByteArray := prog_12_method_5_code
def yX10_wordIn : MethodName := ⟨RX10, "wordIn", "(LFiveCards$Tape;II)I"⟩
abbrev cX10_wordOf : ByteArray := prog_12_method_6_code
def yX10_wordOf : MethodName := ⟨RX10, "wordOf", "(I)Ljava/lang/String;"⟩
def RX11 : String := "FiveCards"
def TX11 : u_T := fun k => match k with
  | 0 => ("FiveCards", "packs", "Ljava/util/ArrayList;", true)
  | 1 => ("FiveCards", "runs", "Ljava/util/ArrayList;", true)
  | 2 => ("FiveCards", "leaks", "Ljava/util/ArrayList;", true)
  | 3 => ("FiveCards", "screens", "Ljava/util/ArrayList;", true)
  | 4 => ("FiveCards", "texts", "Ljava/util/ArrayList;", true)
  | 5 => ("FiveCards", "sheets", "[LFiveCards$Sheet;", true)
  | 6 => ("FiveCards", "tape", "LFiveCards$Tape;", true)
  | 7 => ("FiveCards", "reader", "LFiveCards$Reader;", true)
  | 8 => ("FiveCards", "odds", "LFiveCards$Odds;", true)
  | 9 => ("FiveCards", "names", "[I", true)
  | 10 => ("FiveCards", "rule", "I", false)
  | 11 => ("FiveCards", "imageRuns", "I", false)
  | 12 => ("FiveCards", "imageLeaks", "I", false)
  | _ => ("FiveCards", "imageRule", "I", false)
def tyX11 : Nat → FieldType := fun k => match k with
  | 0 => .object "java/util/ArrayList"
  | 1 => .object "java/util/ArrayList"
  | 2 => .object "java/util/ArrayList"
  | 3 => .object "java/util/ArrayList"
  | 4 => .object "java/util/ArrayList"
  | 5 => .array (.object "FiveCards$Sheet")
  | 6 => .object "FiveCards$Tape"
  | 7 => .object "FiveCards$Reader"
  | 8 => .object "FiveCards$Odds"
  | 9 => .array .int
  | 10 => .int
  | 11 => .int
  | 12 => .int
  | _ => .int
abbrev wsX110 : List Cond := u_ws RX11 TX11 14
theorem nmX11 : ∀ a, a < 14 → ∀ b, b < 14 → a ≠ b → (TX11 a).2.1 ≠ (TX11 b).2.1 := by decide +kernel
theorem tyX11_ok : ∀ k, k < 14 → parseFieldDescriptor (TX11 k).2.2.1 = some (tyX11 k) := by decide +kernel
abbrev cX11_init : ByteArray := prog_1_method_1_code
def yX11_init : MethodName := ⟨RX11, "<init>", "()V"⟩
abbrev cX11_pack : ByteArray := prog_1_method_2_code
def yX11_pack : MethodName := ⟨RX11, "pack", "(I)I"⟩
abbrev cX11_run : ByteArray := prog_1_method_3_code
def yX11_run : MethodName := ⟨RX11, "run", "(III)I"⟩
abbrev cX11_at : ByteArray := prog_1_method_4_code
def yX11_at : MethodName := ⟨RX11, "at", "(III)I"⟩
abbrev cX11_guess : ByteArray := prog_1_method_5_code
def yX11_guess : MethodName := ⟨RX11, "guess", "(III)I"⟩
abbrev cX11_slip : ByteArray := prog_1_method_6_code
def yX11_slip : MethodName := ⟨RX11, "slip", "(III)I"⟩
abbrev cX11_cut : ByteArray := prog_1_method_7_code
def yX11_cut : MethodName := ⟨RX11, "cut", "(II)I"⟩
abbrev cX11_shuffle : ByteArray := prog_1_method_8_code
def yX11_shuffle : MethodName := ⟨RX11, "shuffle", "(II)I"⟩
abbrev cX11_told : ByteArray := prog_1_method_9_code
def yX11_told : MethodName := ⟨RX11, "told", "(II)I"⟩
abbrev cX11_exact : ByteArray := prog_1_method_10_code
def yX11_exact : MethodName := ⟨RX11, "exact", "(III)J"⟩
abbrev cX11_leak : ByteArray := prog_1_method_11_code
def yX11_leak : MethodName := ⟨RX11, "leak", "(III)I"⟩
abbrev cX11_shut : ByteArray := prog_1_method_12_code
def yX11_shut : MethodName := ⟨RX11, "shut", "(II)I"⟩
abbrev cX11_gives : ByteArray := prog_1_method_13_code
def yX11_gives : MethodName := ⟨RX11, "gives", "(II)I"⟩
abbrev cX11_counts : ByteArray := prog_1_method_14_code
def yX11_counts : MethodName := ⟨RX11, "counts", "(I)I"⟩
abbrev cX11_screen : ByteArray := prog_1_method_15_code
def yX11_screen : MethodName := ⟨RX11, "screen", "(II)I"⟩
abbrev cX11_plan : ByteArray := prog_1_method_16_code
def yX11_plan : MethodName := ⟨RX11, "plan", "(II)I"⟩
abbrev cX11_weighs : ByteArray := prog_1_method_17_code
def yX11_weighs : MethodName := ⟨RX11, "weighs", "(I)I"⟩
abbrev cX11_feed : ByteArray := prog_1_method_18_code
def yX11_feed : MethodName := ⟨RX11, "feed", "(IJ)I"⟩
abbrev cX11_text : ByteArray := prog_1_method_19_code
def yX11_text : MethodName := ⟨RX11, "text", "()I"⟩
abbrev cX11_force : ByteArray := prog_1_method_20_code
def yX11_force : MethodName := ⟨RX11, "force", "(I)I"⟩
abbrev cX11_series : ByteArray := prog_1_method_21_code
def yX11_series : MethodName := ⟨RX11, "series", "(III)J"⟩
abbrev cX11_best : ByteArray := prog_1_method_22_code
def yX11_best : MethodName := ⟨RX11, "best", "(I)I"⟩
abbrev cX11_falls : ByteArray := prog_1_method_23_code
def yX11_falls : MethodName := ⟨RX11, "falls", "(III)J"⟩
abbrev cX11_mixed : ByteArray := prog_1_method_24_code
def yX11_mixed : MethodName := ⟨RX11, "mixed", "(III)I"⟩
abbrev cX11_image : ByteArray := prog_1_method_25_code
def yX11_image : MethodName := ⟨RX11, "image", "()I"⟩
abbrev cX11_back : ByteArray := prog_1_method_26_code
def yX11_back : MethodName := ⟨RX11, "back", "()I"⟩
abbrev cX11_count : ByteArray := prog_1_method_27_code
def yX11_count : MethodName := ⟨RX11, "count", "(I)I"⟩
abbrev cX11_sheet : ByteArray := prog_1_method_28_code
def yX11_sheet : MethodName := ⟨RX11, "sheet", "(III)I"⟩
abbrev cX11_cell : ByteArray := prog_1_method_29_code
def yX11_cell : MethodName := ⟨RX11, "cell", "(III)I"⟩
abbrev cX11_copy : ByteArray := prog_1_method_30_code
def yX11_copy : MethodName := ⟨RX11, "copy", "(IIIII)I"⟩
abbrev cX11_runs : ByteArray := prog_1_method_31_code
def yX11_runs : MethodName := ⟨RX11, "runs", "(IIII)I"⟩
abbrev cX11_taken : ByteArray := prog_1_method_32_code
def yX11_taken : MethodName := ⟨RX11, "taken", "(II)I"⟩
abbrev cX11_within : ByteArray := prog_1_method_33_code
def yX11_within : MethodName := ⟨RX11, "within", "(III)Z"⟩
abbrev cX11_among : ByteArray := prog_1_method_34_code
def yX11_among : MethodName := ⟨RX11, "among", "(II)Z"⟩
abbrev cX11_isBits : ByteArray := prog_1_method_35_code
def yX11_isBits : MethodName := ⟨RX11, "isBits", "(II)Z"⟩
abbrev cX11_isPlace : ByteArray := prog_1_method_36_code
def yX11_isPlace : MethodName := ⟨RX11, "isPlace", "(II)Z"⟩
abbrev cX11_readTape : ByteArray := prog_1_method_37_code
def yX11_readTape : MethodName := ⟨RX11, "readTape", "()I"⟩
abbrev cX11_bound : ByteArray := prog_1_method_38_code
def yX11_bound : MethodName := ⟨RX11, "bound", "(LFiveCards$Run;)I"⟩
abbrev cX11_ruled : ByteArray := prog_1_method_39_code
def yX11_ruled : MethodName := ⟨RX11, "ruled", "(II)I"⟩
abbrev cX11_runsTill : ByteArray := prog_1_method_40_code
def yX11_runsTill : MethodName := ⟨RX11, "runsTill", "(I)I"⟩
abbrev cX11_hitsTill : ByteArray := prog_1_method_41_code
def yX11_hitsTill : MethodName := ⟨RX11, "hitsTill", "(I)I"⟩
abbrev cX11_runsInDays : ByteArray := prog_1_method_42_code
def yX11_runsInDays : MethodName := ⟨RX11, "runsInDays", "(III)I"⟩
abbrev cX11_hitsInDays : ByteArray := prog_1_method_43_code
def yX11_hitsInDays : MethodName := ⟨RX11, "hitsInDays", "(III)I"⟩
abbrev cX11_hitsOfAll : ByteArray := prog_1_method_44_code
def yX11_hitsOfAll : MethodName := ⟨RX11, "hitsOfAll", "()I"⟩
abbrev cX11_kindsOfLeaks : ByteArray := prog_1_method_45_code
def yX11_kindsOfLeaks : MethodName := ⟨RX11, "kindsOfLeaks", "(I)I"⟩
abbrev cX11_kindsShutBy : ByteArray := prog_1_method_46_code
def yX11_kindsShutBy : MethodName := ⟨RX11, "kindsShutBy", "(I)I"⟩
abbrev cX11_hoursOf : ByteArray := prog_1_method_47_code
def yX11_hoursOf : MethodName := ⟨RX11, "hoursOf", "(I)I"⟩
def RX12 : String := "FiveCardsModel"
def TX12 : u_T := fun k => match k with
  | 0 => ("FiveCardsModel", "thrown", "I", false)
  | 1 => ("FiveCardsModel", "texts", "[I", true)
  | 2 => ("FiveCardsModel", "textSize", "[I", true)
  | 3 => ("FiveCardsModel", "textCount", "I", false)
  | 4 => ("FiveCardsModel", "rule", "I", false)
  | 5 => ("FiveCardsModel", "tape", "[I", true)
  | 6 => ("FiveCardsModel", "taped", "I", false)
  | 7 => ("FiveCardsModel", "choose", "[J", true)
  | 8 => ("FiveCardsModel", "packOf", "[I", true)
  | 9 => ("FiveCardsModel", "packSize", "[I", true)
  | 10 => ("FiveCardsModel", "packs", "I", false)
  | 11 => ("FiveCardsModel", "runPack", "[I", true)
  | 12 => ("FiveCardsModel", "guesser", "[I", true)
  | 13 => ("FiveCardsModel", "day", "[I", true)
  | 14 => ("FiveCardsModel", "cards", "[I", true)
  | 15 => ("FiveCardsModel", "guesses", "[I", true)
  | 16 => ("FiveCardsModel", "slips", "[I", true)
  | 17 => ("FiveCardsModel", "putIn", "[I", true)
  | 18 => ("FiveCardsModel", "runMany", "I", false)
  | 19 => ("FiveCardsModel", "cutCards", "[I", true)
  | 20 => ("FiveCardsModel", "left", "[I", true)
  | 21 => ("FiveCardsModel", "held", "[J", true)
  | 22 => ("FiveCardsModel", "heldNext", "[J", true)
  | 23 => ("FiveCardsModel", "guessed", "[I", true)
  | 24 => ("FiveCardsModel", "kind", "[I", true)
  | 25 => ("FiveCardsModel", "number", "[I", true)
  | 26 => ("FiveCardsModel", "signOf", "[I", true)
  | 27 => ("FiveCardsModel", "isShut", "[I", true)
  | 28 => ("FiveCardsModel", "leaks", "I", false)
  | 29 => ("FiveCardsModel", "hours", "[I", true)
  | 30 => ("FiveCardsModel", "kinds", "[I", true)
  | 31 => ("FiveCardsModel", "screens", "I", false)
  | 32 => ("FiveCardsModel", "from", "I", false)
  | 33 => ("FiveCardsModel", "size", "I", false)
  | 34 => ("FiveCardsModel", "token", "I", false)
  | 35 => ("FiveCardsModel", "tokenAt", "I", false)
  | 36 => ("FiveCardsModel", "tokenWorth", "J", false)
  | 37 => ("FiveCardsModel", "here", "I", false)
  | 38 => ("FiveCardsModel", "open", "I", false)
  | 39 => ("FiveCardsModel", "bad", "Z", false)
  | 40 => ("FiveCardsModel", "fault", "I", false)
  | 41 => ("FiveCardsModel", "aboutHits", "I", false)
  | 42 => ("FiveCardsModel", "aboutRun", "I", false)
  | 43 => ("FiveCardsModel", "aboutAll", "I", false)
  | 44 => ("FiveCardsModel", "aboutLeaks", "I", false)
  | 45 => ("FiveCardsModel", "aboutDay", "I", false)
  | 46 => ("FiveCardsModel", "aboutNext", "I", false)
  | 47 => ("FiveCardsModel", "above", "J", false)
  | 48 => ("FiveCardsModel", "below", "J", false)
  | 49 => ("FiveCardsModel", "ranMany", "I", false)
  | 50 => ("FiveCardsModel", "ranHits", "I", false)
  | 51 => ("FiveCardsModel", "aside", "[I", true)
  | 52 => ("FiveCardsModel", "imageCards", "[I", true)
  | 53 => ("FiveCardsModel", "imageGuesses", "[I", true)
  | 54 => ("FiveCardsModel", "imageSlips", "[I", true)
  | 55 => ("FiveCardsModel", "imagePutIn", "[I", true)
  | 56 => ("FiveCardsModel", "imageShut", "[I", true)
  | 57 => ("FiveCardsModel", "hasImage", "Z", false)
  | 58 => ("FiveCardsModel", "imageRuns", "I", false)
  | 59 => ("FiveCardsModel", "imageLeaks", "I", false)
  | 60 => ("FiveCardsModel", "imageRule", "I", false)
  | 61 => ("FiveCardsModel", "isThere", "[Z", true)
  | 62 => ("FiveCardsModel", "sorts", "[I", true)
  | 63 => ("FiveCardsModel", "sheetSize", "[I", true)
  | _ => ("FiveCardsModel", "items", "[I", true)
def tyX12 : Nat → FieldType := fun k => match k with
  | 0 => .int
  | 1 => .array .int
  | 2 => .array .int
  | 3 => .int
  | 4 => .int
  | 5 => .array .int
  | 6 => .int
  | 7 => .array .long
  | 8 => .array .int
  | 9 => .array .int
  | 10 => .int
  | 11 => .array .int
  | 12 => .array .int
  | 13 => .array .int
  | 14 => .array .int
  | 15 => .array .int
  | 16 => .array .int
  | 17 => .array .int
  | 18 => .int
  | 19 => .array .int
  | 20 => .array .int
  | 21 => .array .long
  | 22 => .array .long
  | 23 => .array .int
  | 24 => .array .int
  | 25 => .array .int
  | 26 => .array .int
  | 27 => .array .int
  | 28 => .int
  | 29 => .array .int
  | 30 => .array .int
  | 31 => .int
  | 32 => .int
  | 33 => .int
  | 34 => .int
  | 35 => .int
  | 36 => .long
  | 37 => .int
  | 38 => .int
  | 39 => .boolean
  | 40 => .int
  | 41 => .int
  | 42 => .int
  | 43 => .int
  | 44 => .int
  | 45 => .int
  | 46 => .int
  | 47 => .long
  | 48 => .long
  | 49 => .int
  | 50 => .int
  | 51 => .array .int
  | 52 => .array .int
  | 53 => .array .int
  | 54 => .array .int
  | 55 => .array .int
  | 56 => .array .int
  | 57 => .boolean
  | 58 => .int
  | 59 => .int
  | 60 => .int
  | 61 => .array .boolean
  | 62 => .array .int
  | 63 => .array .int
  | _ => .array .int
abbrev wsX120 : List Cond := u_ws RX12 TX12 65
theorem nmX12 : ∀ a, a < 65 → ∀ b, b < 65 → a ≠ b → (TX12 a).2.1 ≠ (TX12 b).2.1 := by decide +kernel
theorem tyX12_ok : ∀ k, k < 65 → parseFieldDescriptor (TX12 k).2.2.1 = some (tyX12 k) := by decide +kernel
abbrev cX12_in : ByteArray := prog_14_method_2_code
def yX12_in : MethodName := ⟨RX12, "in", "(JJJ)Z"⟩
abbrev cX12_init : ByteArray := prog_14_method_3_code
def yX12_init : MethodName := ⟨RX12, "<init>", "()V"⟩
abbrev cX12_spell : ByteArray := prog_14_method_4_code
def yX12_spell : MethodName := ⟨RX12, "spell", "(IJ)V"⟩
abbrev cX12_isRun : ByteArray := prog_14_method_5_code
def yX12_isRun : MethodName := ⟨RX12, "isRun", "(I)Z"⟩
abbrev cX12_isSignOf : ByteArray := prog_14_method_6_code
def yX12_isSignOf : MethodName := ⟨RX12, "isSignOf", "(I)Z"⟩
abbrev cX12_sizeOf : ByteArray := prog_14_method_7_code
def yX12_sizeOf : MethodName := ⟨RX12, "sizeOf", "(I)I"⟩
abbrev cX12_pack : ByteArray := prog_14_method_8_code
def yX12_pack : MethodName := ⟨RX12, "pack", "(I)I"⟩
abbrev cX12_run : ByteArray := prog_14_method_9_code
def yX12_run : MethodName := ⟨RX12, "run", "(III)I"⟩
abbrev cX12_at : ByteArray := prog_14_method_10_code
def yX12_at : MethodName := ⟨RX12, "at", "(III)I"⟩
abbrev cX12_guess : ByteArray := prog_14_method_11_code
def yX12_guess : MethodName := ⟨RX12, "guess", "(III)I"⟩
abbrev cX12_isHit : ByteArray := prog_14_method_12_code
def yX12_isHit : MethodName := ⟨RX12, "isHit", "(II)Z"⟩
abbrev cX12_slip : ByteArray := prog_14_method_13_code
def yX12_slip : MethodName := ⟨RX12, "slip", "(III)I"⟩
abbrev cX12_cut : ByteArray := prog_14_method_14_code
def yX12_cut : MethodName := ⟨RX12, "cut", "(II)I"⟩
abbrev cX12_mixes : ByteArray := prog_14_method_15_code
def yX12_mixes : MethodName := ⟨RX12, "mixes", "(II)V"⟩
abbrev cX12_shuffle : ByteArray := prog_14_method_16_code
def yX12_shuffle : MethodName := ⟨RX12, "shuffle", "(II)I"⟩
abbrev cX12_hitsOf : ByteArray := prog_14_method_17_code
def yX12_hitsOf : MethodName := ⟨RX12, "hitsOf", "(I)I"⟩
abbrev cX12_nextOf : ByteArray := prog_14_method_18_code
def yX12_nextOf : MethodName := ⟨RX12, "nextOf", "(I)I"⟩
abbrev cX12_alikeOf : ByteArray := prog_14_method_19_code
def yX12_alikeOf : MethodName := ⟨RX12, "alikeOf", "(I)I"⟩
abbrev cX12_byLeft : ByteArray := prog_14_method_20_code
def yX12_byLeft : MethodName := ⟨RX12, "byLeft", "(I)I"⟩
abbrev cX12_told : ByteArray := prog_14_method_21_code
def yX12_told : MethodName := ⟨RX12, "told", "(II)I"⟩
abbrev cX12_counts1 : ByteArray := prog_14_method_22_code
def yX12_counts1 : MethodName := ⟨RX12, "counts1", "(I)V"⟩
abbrev cX12_exact : ByteArray := prog_14_method_23_code
def yX12_exact : MethodName := ⟨RX12, "exact", "(III)J"⟩
abbrev cX12_isLeak : ByteArray := prog_14_method_24_code
def yX12_isLeak : MethodName := ⟨RX12, "isLeak", "(I)Z"⟩
abbrev cX12_leak : ByteArray := prog_14_method_25_code
def yX12_leak : MethodName := ⟨RX12, "leak", "(III)I"⟩
abbrev cX12_shut : ByteArray := prog_14_method_26_code
def yX12_shut : MethodName := ⟨RX12, "shut", "(II)I"⟩
abbrev cX12_givesOf : ByteArray := prog_14_method_27_code
def yX12_givesOf : MethodName := ⟨RX12, "givesOf", "(II)I"⟩
abbrev cX12_gives : ByteArray := prog_14_method_28_code
def yX12_gives : MethodName := ⟨RX12, "gives", "(II)I"⟩
abbrev cX12_countsOf : ByteArray := prog_14_method_29_code
def yX12_countsOf : MethodName := ⟨RX12, "countsOf", "(I)I"⟩
abbrev cX12_counts : ByteArray := prog_14_method_30_code
def yX12_counts : MethodName := ⟨RX12, "counts", "(I)I"⟩
abbrev cX12_boundOf : ByteArray := prog_14_method_31_code
def yX12_boundOf : MethodName := ⟨RX12, "boundOf", "(I)I"⟩
abbrev cX12_screen : ByteArray := prog_14_method_32_code
def yX12_screen : MethodName := ⟨RX12, "screen", "(II)I"⟩
abbrev cX12_kindsBy : ByteArray := prog_14_method_33_code
def yX12_kindsBy : MethodName := ⟨RX12, "kindsBy", "(I)I"⟩
abbrev cX12_plan : ByteArray := prog_14_method_34_code
def yX12_plan : MethodName := ⟨RX12, "plan", "(II)I"⟩
abbrev cX12_weighs : ByteArray := prog_14_method_35_code
def yX12_weighs : MethodName := ⟨RX12, "weighs", "(I)I"⟩
abbrev cX12_feed : ByteArray := prog_14_method_36_code
def yX12_feed : MethodName := ⟨RX12, "feed", "(IJ)I"⟩
abbrev cX12_byteAt : ByteArray := prog_14_method_37_code
def yX12_byteAt : MethodName := ⟨RX12, "byteAt", "(I)I"⟩
abbrev cX12_next : ByteArray := prog_14_method_38_code
def yX12_next : MethodName := ⟨RX12, "next", "()V"⟩
abbrev cX12_fail : ByteArray := prog_14_method_39_code
def yX12_fail : MethodName := ⟨RX12, "fail", "()V"⟩
abbrev cX12_isWord : ByteArray := prog_14_method_40_code
def yX12_isWord : MethodName := ⟨RX12, "isWord", "(J)Z"⟩
abbrev cX12_isSign : ByteArray := prog_14_method_41_code
def yX12_isSign : MethodName := ⟨RX12, "isSign", "(I)Z"⟩
abbrev cX12_opens : ByteArray := prog_14_method_42_code
def yX12_opens : MethodName := ⟨RX12, "opens", "()Z"⟩
abbrev cX12_name : ByteArray := prog_14_method_43_code
def yX12_name : MethodName := ⟨RX12, "name", "()I"⟩
abbrev cX12_one : ByteArray := prog_14_method_44_code
def yX12_one : MethodName := ⟨RX12, "one", "()I"⟩
abbrev cX12_term : ByteArray := prog_14_method_45_code
def yX12_term : MethodName := ⟨RX12, "term", "()I"⟩
abbrev cX12_added : ByteArray := prog_14_method_46_code
def yX12_added : MethodName := ⟨RX12, "added", "()I"⟩
abbrev cX12_not : ByteArray := prog_14_method_47_code
def yX12_not : MethodName := ⟨RX12, "not", "()I"⟩
abbrev cX12_both : ByteArray := prog_14_method_48_code
def yX12_both : MethodName := ⟨RX12, "both", "()I"⟩
abbrev cX12_either : ByteArray := prog_14_method_49_code
def yX12_either : MethodName := ⟨RX12, "either", "()I"⟩
abbrev cX12_part : ByteArray := prog_14_method_50_code
def yX12_part : MethodName := ⟨RX12, "part", "(J)I"⟩
abbrev cX12_read : ByteArray := prog_14_method_51_code
def yX12_read : MethodName := ⟨RX12, "read", "(II)I"⟩
abbrev cX12_text : ByteArray := prog_14_method_52_code
def yX12_text : MethodName := ⟨RX12, "text", "()I"⟩
abbrev cX12_force : ByteArray := prog_14_method_53_code
def yX12_force : MethodName := ⟨RX12, "force", "(I)I"⟩
abbrev cX12_saysOf : ByteArray := prog_14_method_54_code
def yX12_saysOf : MethodName := ⟨RX12, "saysOf", "(II)I"⟩
abbrev cX12_common : ByteArray := prog_14_method_55_code
def yX12_common : MethodName := ⟨RX12, "common", "(JJ)J"⟩
abbrev cX12_adds : ByteArray := prog_14_method_56_code
def yX12_adds : MethodName := ⟨RX12, "adds", "(JJ)V"⟩
abbrev cX12_zero : ByteArray := prog_14_method_57_code
def yX12_zero : MethodName := ⟨RX12, "zero", "()V"⟩
abbrev cX12_expected : ByteArray := prog_14_method_58_code
def yX12_expected : MethodName := ⟨RX12, "expected", "(I)I"⟩
abbrev cX12_isGuesser : ByteArray := prog_14_method_59_code
def yX12_isGuesser : MethodName := ⟨RX12, "isGuesser", "(I)Z"⟩
abbrev cX12_series : ByteArray := prog_14_method_60_code
def yX12_series : MethodName := ⟨RX12, "series", "(III)J"⟩
abbrev cX12_ran : ByteArray := prog_14_method_61_code
def yX12_ran : MethodName := ⟨RX12, "ran", "(III)V"⟩
abbrev cX12_best : ByteArray := prog_14_method_62_code
def yX12_best : MethodName := ⟨RX12, "best", "(I)I"⟩
abbrev cX12_falls : ByteArray := prog_14_method_63_code
def yX12_falls : MethodName := ⟨RX12, "falls", "(III)J"⟩
abbrev cX12_mixed : ByteArray := prog_14_method_64_code
def yX12_mixed : MethodName := ⟨RX12, "mixed", "(III)I"⟩
abbrev cX12_image : ByteArray := prog_14_method_65_code
def yX12_image : MethodName := ⟨RX12, "image", "()I"⟩
abbrev cX12_back : ByteArray := prog_14_method_66_code
def yX12_back : MethodName := ⟨RX12, "back", "()I"⟩
abbrev cX12_count : ByteArray := prog_14_method_67_code
def yX12_count : MethodName := ⟨RX12, "count", "(I)I"⟩
abbrev cX12_isSheet : ByteArray := prog_14_method_68_code
def yX12_isSheet : MethodName := ⟨RX12, "isSheet", "(I)Z"⟩
abbrev cX12_sheet : ByteArray := prog_14_method_69_code
def yX12_sheet : MethodName := ⟨RX12, "sheet", "(III)I"⟩
abbrev cX12_cell : ByteArray := prog_14_method_70_code
def yX12_cell : MethodName := ⟨RX12, "cell", "(III)I"⟩
abbrev cX12_copy : ByteArray := prog_14_method_71_code
def yX12_copy : MethodName := ⟨RX12, "copy", "(IIIII)I"⟩
abbrev cX12_runs : ByteArray := prog_14_method_72_code
def yX12_runs : MethodName := ⟨RX12, "runs", "(IIII)I"⟩
abbrev cX12_over : ByteArray := prog_14_method_73_code
def yX12_over : MethodName := ⟨RX12, "over", "(I)I"⟩
abbrev cX12_taken : ByteArray := prog_14_method_74_code
def yX12_taken : MethodName := ⟨RX12, "taken", "(II)I"⟩
def RJx145de : String := "java/io/Serializable"
def TJx145de : u_T := fun k => match k with
  | _ => ("", "", "", false)
def tyJx145de : Nat → FieldType := fun k => match k with
  | _ => .int
abbrev wsJx145de0 : List Cond := u_ws RJx145de TJx145de 0
theorem nmJx145de : ∀ a, a < 0 → ∀ b, b < 0 → a ≠ b → (TJx145de a).2.1 ≠ (TJx145de b).2.1 := by decide +kernel
theorem tyJx145de_ok : ∀ k, k < 0 → parseFieldDescriptor (TJx145de k).2.2.1 = some (tyJx145de k) := by decide +kernel
def RJx9f9b0 : String := "java/lang/CharSequence"
def TJx9f9b0 : u_T := fun k => match k with
  | _ => ("", "", "", false)
def tyJx9f9b0 : Nat → FieldType := fun k => match k with
  | _ => .int
abbrev wsJx9f9b00 : List Cond := u_ws RJx9f9b0 TJx9f9b0 0
theorem nmJx9f9b0 : ∀ a, a < 0 → ∀ b, b < 0 → a ≠ b → (TJx9f9b0 a).2.1 ≠ (TJx9f9b0 b).2.1 := by decide +kernel
theorem tyJx9f9b0_ok : ∀ k, k < 0 → parseFieldDescriptor (TJx9f9b0 k).2.2.1 = some (tyJx9f9b0 k) := by decide +kernel
def RJx8e188 : String := "java/lang/Cloneable"
def TJx8e188 : u_T := fun k => match k with
  | _ => ("", "", "", false)
def tyJx8e188 : Nat → FieldType := fun k => match k with
  | _ => .int
abbrev wsJx8e1880 : List Cond := u_ws RJx8e188 TJx8e188 0
theorem nmJx8e188 : ∀ a, a < 0 → ∀ b, b < 0 → a ≠ b → (TJx8e188 a).2.1 ≠ (TJx8e188 b).2.1 := by decide +kernel
theorem tyJx8e188_ok : ∀ k, k < 0 → parseFieldDescriptor (TJx8e188 k).2.2.1 = some (tyJx8e188 k) := by decide +kernel
def RJxb160c : String := "java/lang/Comparable"
def TJxb160c : u_T := fun k => match k with
  | _ => ("", "", "", false)
def tyJxb160c : Nat → FieldType := fun k => match k with
  | _ => .int
abbrev wsJxb160c0 : List Cond := u_ws RJxb160c TJxb160c 0
theorem nmJxb160c : ∀ a, a < 0 → ∀ b, b < 0 → a ≠ b → (TJxb160c a).2.1 ≠ (TJxb160c b).2.1 := by decide +kernel
theorem tyJxb160c_ok : ∀ k, k < 0 → parseFieldDescriptor (TJxb160c k).2.2.1 = some (tyJxb160c k) := by decide +kernel
def RJxab1ab : String := "java/lang/Iterable"
def TJxab1ab : u_T := fun k => match k with
  | _ => ("", "", "", false)
def tyJxab1ab : Nat → FieldType := fun k => match k with
  | _ => .int
abbrev wsJxab1ab0 : List Cond := u_ws RJxab1ab TJxab1ab 0
theorem nmJxab1ab : ∀ a, a < 0 → ∀ b, b < 0 → a ≠ b → (TJxab1ab a).2.1 ≠ (TJxab1ab b).2.1 := by decide +kernel
theorem tyJxab1ab_ok : ∀ k, k < 0 → parseFieldDescriptor (TJxab1ab k).2.2.1 = some (tyJxab1ab k) := by decide +kernel
def RJ9 : String := "java/lang/Math"
def TJ9 : u_T := fun k => match k with
  | _ => ("", "", "", false)
def tyJ9 : Nat → FieldType := fun k => match k with
  | _ => .int
abbrev wsJ90 : List Cond := u_ws RJ9 TJ9 0
theorem nmJ9 : ∀ a, a < 0 → ∀ b, b < 0 → a ≠ b → (TJ9 a).2.1 ≠ (TJ9 b).2.1 := by decide +kernel
theorem tyJ9_ok : ∀ k, k < 0 → parseFieldDescriptor (TJ9 k).2.2.1 = some (tyJ9 k) := by decide +kernel
abbrev cJ9_abs_067f4 : ByteArray := prog_20_method_61_code
def yJ9_abs_067f4 : MethodName := ⟨RJ9, "abs", "(J)J"⟩
abbrev cJ9_max_7cf53 : ByteArray := prog_20_method_65_code
def yJ9_max_7cf53 : MethodName := ⟨RJ9, "max", "(II)I"⟩
abbrev cJ9_min_7cf53 : ByteArray := prog_20_method_69_code
def yJ9_min_7cf53 : MethodName := ⟨RJ9, "min", "(II)I"⟩
def RJ0 : String := "java/lang/String"
def TJ0 : u_T := fun k => match k with
  | _ => ("", "", "", false)
def tyJ0 : Nat → FieldType := fun k => match k with
  | _ => .int
abbrev wsJ00 : List Cond := u_ws RJ0 TJ0 0
theorem nmJ0 : ∀ a, a < 0 → ∀ b, b < 0 → a ≠ b → (TJ0 a).2.1 ≠ (TJ0 b).2.1 := by decide +kernel
theorem tyJ0_ok : ∀ k, k < 0 → parseFieldDescriptor (TJ0 k).2.2.1 = some (tyJ0 k) := by decide +kernel
abbrev cJ0_length_8abf5 : ByteArray := prog_21_method_54_code
def yJ0_length_8abf5 : MethodName := ⟨RJ0, "length", "()I"⟩
abbrev cJ0_charAt_5068e : ByteArray := prog_21_method_56_code
def yJ0_charAt_5068e : MethodName := ⟨RJ0, "charAt", "(I)C"⟩
abbrev cJ0_coder_7d493 : ByteArray := prog_21_method_152_code
def yJ0_coder_7d493 : MethodName := ⟨RJ0, "coder", "()B"⟩
abbrev cJ0_isLatin1_aae02 : ByteArray := prog_21_method_154_code
def yJ0_isLatin1_aae02 : MethodName := ⟨RJ0, "isLatin1", "()Z"⟩
abbrev cJ0_checkIndex_df160 : ByteArray := prog_21_method_155_code
def yJ0_checkIndex_df160 : MethodName := ⟨RJ0, "checkIndex", "(II)V"⟩
def RJ1 : String := "java/lang/StringLatin1"
def TJ1 : u_T := fun k => match k with
  | _ => ("", "", "", false)
def tyJ1 : Nat → FieldType := fun k => match k with
  | _ => .int
abbrev wsJ10 : List Cond := u_ws RJ1 TJ1 0
theorem nmJ1 : ∀ a, a < 0 → ∀ b, b < 0 → a ≠ b → (TJ1 a).2.1 ≠ (TJ1 b).2.1 := by decide +kernel
theorem tyJ1_ok : ∀ k, k < 0 → parseFieldDescriptor (TJ1 k).2.2.1 = some (tyJ1 k) := by decide +kernel
abbrev cJ1_charAt_3b067 : ByteArray := prog_22_method_2_code
def yJ1_charAt_3b067 : MethodName := ⟨RJ1, "charAt", "([BI)C"⟩
def RJ2 : String := "java/lang/StringUTF16"
def TJ2 : u_T := fun k => match k with
  | _ => ("", "", "", false)
def tyJ2 : Nat → FieldType := fun k => match k with
  | _ => .int
abbrev wsJ20 : List Cond := u_ws RJ2 TJ2 0
theorem nmJ2 : ∀ a, a < 0 → ∀ b, b < 0 → a ≠ b → (TJ2 a).2.1 ≠ (TJ2 b).2.1 := by decide +kernel
theorem tyJ2_ok : ∀ k, k < 0 → parseFieldDescriptor (TJ2 k).2.2.1 = some (tyJ2 k) := by decide +kernel
abbrev cJ2_getChar_3b067 : ByteArray := prog_23_method_5_code
def yJ2_getChar_3b067 : MethodName := ⟨RJ2, "getChar", "([BI)C"⟩
abbrev cJ2_length_9d52b : ByteArray := prog_23_method_6_code
def yJ2_length_9d52b : MethodName := ⟨RJ2, "length", "([B)I"⟩
abbrev cJ2_charAt_3b067 : ByteArray := prog_23_method_83_code
def yJ2_charAt_3b067 : MethodName := ⟨RJ2, "charAt", "([BI)C"⟩
abbrev cJ2_checkIndex_2214a : ByteArray := prog_23_method_91_code
def yJ2_checkIndex_2214a : MethodName := ⟨RJ2, "checkIndex", "(I[B)V"⟩
def RJ10 : String := "java/lang/System"
def TJ10 : u_T := fun k => match k with
  | _ => ("", "", "", false)
def tyJ10 : Nat → FieldType := fun k => match k with
  | _ => .int
abbrev wsJ100 : List Cond := u_ws RJ10 TJ10 0
theorem nmJ10 : ∀ a, a < 0 → ∀ b, b < 0 → a ≠ b → (TJ10 a).2.1 ≠ (TJ10 b).2.1 := by decide +kernel
theorem tyJ10_ok : ∀ k, k < 0 → parseFieldDescriptor (TJ10 k).2.2.1 = some (tyJ10 k) := by decide +kernel
def RJxfd54e : String := "java/lang/constant/Constable"
def TJxfd54e : u_T := fun k => match k with
  | _ => ("", "", "", false)
def tyJxfd54e : Nat → FieldType := fun k => match k with
  | _ => .int
abbrev wsJxfd54e0 : List Cond := u_ws RJxfd54e TJxfd54e 0
theorem nmJxfd54e : ∀ a, a < 0 → ∀ b, b < 0 → a ≠ b → (TJxfd54e a).2.1 ≠ (TJxfd54e b).2.1 := by decide +kernel
theorem tyJxfd54e_ok : ∀ k, k < 0 → parseFieldDescriptor (TJxfd54e k).2.2.1 = some (tyJxfd54e k) := by decide +kernel
def RJx3cf43 : String := "java/lang/constant/ConstantDesc"
def TJx3cf43 : u_T := fun k => match k with
  | _ => ("", "", "", false)
def tyJx3cf43 : Nat → FieldType := fun k => match k with
  | _ => .int
abbrev wsJx3cf430 : List Cond := u_ws RJx3cf43 TJx3cf43 0
theorem nmJx3cf43 : ∀ a, a < 0 → ∀ b, b < 0 → a ≠ b → (TJx3cf43 a).2.1 ≠ (TJx3cf43 b).2.1 := by decide +kernel
theorem tyJx3cf43_ok : ∀ k, k < 0 → parseFieldDescriptor (TJx3cf43 k).2.2.1 = some (tyJx3cf43 k) := by decide +kernel
def RJxa1e45 : String := "java/util/AbstractCollection"
def TJxa1e45 : u_T := fun k => match k with
  | _ => ("", "", "", false)
def tyJxa1e45 : Nat → FieldType := fun k => match k with
  | _ => .int
abbrev wsJxa1e450 : List Cond := u_ws RJxa1e45 TJxa1e45 0
theorem nmJxa1e45 : ∀ a, a < 0 → ∀ b, b < 0 → a ≠ b → (TJxa1e45 a).2.1 ≠ (TJxa1e45 b).2.1 := by decide +kernel
theorem tyJxa1e45_ok : ∀ k, k < 0 → parseFieldDescriptor (TJxa1e45 k).2.2.1 = some (tyJxa1e45 k) := by decide +kernel
abbrev cJxa1e45_init_da8c8 : ByteArray := prog_27_method_1_code
def yJxa1e45_init_da8c8 : MethodName := ⟨RJxa1e45, "<init>", "()V"⟩
def RJxc12de : String := "java/util/AbstractList"
def TJxc12de : u_T := fun k => match k with
  | _ => ("", "", "", false)
def tyJxc12de : Nat → FieldType := fun k => match k with
  | _ => .int
abbrev wsJxc12de0 : List Cond := u_ws RJxc12de TJxc12de 0
theorem nmJxc12de : ∀ a, a < 0 → ∀ b, b < 0 → a ≠ b → (TJxc12de a).2.1 ≠ (TJxc12de b).2.1 := by decide +kernel
theorem tyJxc12de_ok : ∀ k, k < 0 → parseFieldDescriptor (TJxc12de k).2.2.1 = some (tyJxc12de k) := by decide +kernel
abbrev cJxc12de_init_da8c8 : ByteArray := prog_28_method_1_code
def yJxc12de_init_da8c8 : MethodName := ⟨RJxc12de, "<init>", "()V"⟩
def RJx4a65c : String := "java/util/ArrayList"
def TJx4a65c : u_T := fun k => match k with
  | 0 => ("java/util/AbstractList", "modCount", "I", false)
  | 1 => ("java/util/ArrayList", "elementData", "[Ljava/lang/Object;", false)
  | _ => ("java/util/ArrayList", "size", "I", false)
def tyJx4a65c : Nat → FieldType := fun k => match k with
  | 0 => .int
  | 1 => .array (.object "java/lang/Object")
  | _ => .int
abbrev wsJx4a65c0 : List Cond := u_ws RJx4a65c TJx4a65c 3
theorem nmJx4a65c : ∀ a, a < 3 → ∀ b, b < 3 → a ≠ b → (TJx4a65c a).2.1 ≠ (TJx4a65c b).2.1 := by decide +kernel
theorem tyJx4a65c_ok : ∀ k, k < 3 → parseFieldDescriptor (TJx4a65c k).2.2.1 = some (tyJx4a65c k) := by decide +kernel
abbrev cJx4a65c_init_da8c8 : ByteArray := prog_29_method_2_code
def yJx4a65c_init_da8c8 : MethodName := ⟨RJx4a65c, "<init>", "()V"⟩
abbrev cJx4a65c_grow_92f84 : ByteArray := prog_29_method_6_code
def yJx4a65c_grow_92f84 : MethodName := ⟨RJx4a65c, "grow", "(I)[Ljava/lang/Object;"⟩
abbrev cJx4a65c_grow_d5877 : ByteArray := prog_29_method_7_code
def yJx4a65c_grow_d5877 : MethodName := ⟨RJx4a65c, "grow", "()[Ljava/lang/Object;"⟩
abbrev cJx4a65c_size_8abf5 : ByteArray := prog_29_method_8_code
def yJx4a65c_size_8abf5 : MethodName := ⟨RJx4a65c, "size", "()I"⟩
abbrev cJx4a65c_elementData_915e3 : ByteArray := prog_29_method_18_code
def yJx4a65c_elementData_915e3 : MethodName := ⟨RJx4a65c, "elementData", "(I)Ljava/lang/Object;"⟩
abbrev cJx4a65c_get_915e3 : ByteArray := prog_29_method_20_code
def yJx4a65c_get_915e3 : MethodName := ⟨RJx4a65c, "get", "(I)Ljava/lang/Object;"⟩
abbrev cJx4a65c_add_72be8 : ByteArray := prog_29_method_24_code
def yJx4a65c_add_72be8 : MethodName := ⟨RJx4a65c, "add", "(Ljava/lang/Object;[Ljava/lang/Object;I)V"⟩
abbrev cJx4a65c_add_9ea2d : ByteArray := prog_29_method_25_code
def yJx4a65c_add_9ea2d : MethodName := ⟨RJx4a65c, "add", "(Ljava/lang/Object;)Z"⟩
def RJ7 : String := "java/util/Arrays"
def TJ7 : u_T := fun k => match k with
  | _ => ("", "", "", false)
def tyJ7 : Nat → FieldType := fun k => match k with
  | _ => .int
abbrev wsJ70 : List Cond := u_ws RJ7 TJ7 0
theorem nmJ7 : ∀ a, a < 0 → ∀ b, b < 0 → a ≠ b → (TJ7 a).2.1 ≠ (TJ7 b).2.1 := by decide +kernel
theorem tyJ7_ok : ∀ k, k < 0 → parseFieldDescriptor (TJ7 k).2.2.1 = some (tyJ7 k) := by decide +kernel
abbrev cJ7_fill_d0a16 : ByteArray := prog_30_method_101_code
def yJ7_fill_d0a16 : MethodName := ⟨RJ7, "fill", "([JJ)V"⟩
abbrev cJ7_fill_53178 : ByteArray := prog_30_method_103_code
def yJ7_fill_53178 : MethodName := ⟨RJ7, "fill", "([II)V"⟩
abbrev cJ7_copyOf_1904c : ByteArray := prog_30_method_119_code
def yJ7_copyOf_1904c : MethodName := ⟨RJ7, "copyOf", "([Ljava/lang/Object;I)[Ljava/lang/Object;"⟩
abbrev cJ7_copyOf_6403c : ByteArray := prog_30_method_120_code
def yJ7_copyOf_6403c : MethodName := ⟨RJ7, "copyOf", "([Ljava/lang/Object;ILjava/lang/Class;)[Ljava/lang/Object;"⟩
abbrev cJ7_copyOf_59c91 : ByteArray := prog_30_method_123_code
def yJ7_copyOf_59c91 : MethodName := ⟨RJ7, "copyOf", "([II)[I"⟩
def RJx5ef63 : String := "java/util/Collection"
def TJx5ef63 : u_T := fun k => match k with
  | _ => ("", "", "", false)
def tyJx5ef63 : Nat → FieldType := fun k => match k with
  | _ => .int
abbrev wsJx5ef630 : List Cond := u_ws RJx5ef63 TJx5ef63 0
theorem nmJx5ef63 : ∀ a, a < 0 → ∀ b, b < 0 → a ≠ b → (TJx5ef63 a).2.1 ≠ (TJx5ef63 b).2.1 := by decide +kernel
theorem tyJx5ef63_ok : ∀ k, k < 0 → parseFieldDescriptor (TJx5ef63 k).2.2.1 = some (tyJx5ef63 k) := by decide +kernel
def RJxbd725 : String := "java/util/List"
def TJxbd725 : u_T := fun k => match k with
  | _ => ("", "", "", false)
def tyJxbd725 : Nat → FieldType := fun k => match k with
  | _ => .int
abbrev wsJxbd7250 : List Cond := u_ws RJxbd725 TJxbd725 0
theorem nmJxbd725 : ∀ a, a < 0 → ∀ b, b < 0 → a ≠ b → (TJxbd725 a).2.1 ≠ (TJxbd725 b).2.1 := by decide +kernel
theorem tyJxbd725_ok : ∀ k, k < 0 → parseFieldDescriptor (TJxbd725 k).2.2.1 = some (tyJxbd725 k) := by decide +kernel
def RJ15 : String := "java/util/Objects"
def TJ15 : u_T := fun k => match k with
  | _ => ("", "", "", false)
def tyJ15 : Nat → FieldType := fun k => match k with
  | _ => .int
abbrev wsJ150 : List Cond := u_ws RJ15 TJ15 0
theorem nmJ15 : ∀ a, a < 0 → ∀ b, b < 0 → a ≠ b → (TJ15 a).2.1 ≠ (TJ15 b).2.1 := by decide +kernel
theorem tyJ15_ok : ∀ k, k < 0 → parseFieldDescriptor (TJ15 k).2.2.1 = some (tyJ15 k) := by decide +kernel
abbrev cJ15_checkIndex_7cf53 : ByteArray := prog_33_method_17_code
def yJ15_checkIndex_7cf53 : MethodName := ⟨RJ15, "checkIndex", "(II)I"⟩
def RJxf0a74 : String := "java/util/RandomAccess"
def TJxf0a74 : u_T := fun k => match k with
  | _ => ("", "", "", false)
def tyJxf0a74 : Nat → FieldType := fun k => match k with
  | _ => .int
abbrev wsJxf0a740 : List Cond := u_ws RJxf0a74 TJxf0a74 0
theorem nmJxf0a74 : ∀ a, a < 0 → ∀ b, b < 0 → a ≠ b → (TJxf0a74 a).2.1 ≠ (TJxf0a74 b).2.1 := by decide +kernel
theorem tyJxf0a74_ok : ∀ k, k < 0 → parseFieldDescriptor (TJxf0a74 k).2.2.1 = some (tyJxf0a74 k) := by decide +kernel
def RJxa66e6 : String := "java/util/SequencedCollection"
def TJxa66e6 : u_T := fun k => match k with
  | _ => ("", "", "", false)
def tyJxa66e6 : Nat → FieldType := fun k => match k with
  | _ => .int
abbrev wsJxa66e60 : List Cond := u_ws RJxa66e6 TJxa66e6 0
theorem nmJxa66e6 : ∀ a, a < 0 → ∀ b, b < 0 → a ≠ b → (TJxa66e6 a).2.1 ≠ (TJxa66e6 b).2.1 := by decide +kernel
theorem tyJxa66e6_ok : ∀ k, k < 0 → parseFieldDescriptor (TJxa66e6 k).2.2.1 = some (tyJxa66e6 k) := by decide +kernel
def RJ8 : String := "jdk/internal/util/ArraysSupport"
def TJ8 : u_T := fun k => match k with
  | _ => ("", "", "", false)
def tyJ8 : Nat → FieldType := fun k => match k with
  | _ => .int
abbrev wsJ80 : List Cond := u_ws RJ8 TJ8 0
theorem nmJ8 : ∀ a, a < 0 → ∀ b, b < 0 → a ≠ b → (TJ8 a).2.1 ≠ (TJ8 b).2.1 := by decide +kernel
theorem tyJ8_ok : ∀ k, k < 0 → parseFieldDescriptor (TJ8 k).2.2.1 = some (tyJ8 k) := by decide +kernel
abbrev cJ8_newLength_cabcc : ByteArray := prog_36_method_27_code
def yJ8_newLength_cabcc : MethodName := ⟨RJ8, "newLength", "(III)I"⟩
abbrev cJ8_hugeLength_7cf53 : ByteArray := prog_36_method_28_code
def yJ8_hugeLength_7cf53 : MethodName := ⟨RJ8, "hugeLength", "(II)I"⟩
def RJ3 : String := "jdk/internal/util/Preconditions"
def TJ3 : u_T := fun k => match k with
  | _ => ("", "", "", false)
def tyJ3 : Nat → FieldType := fun k => match k with
  | _ => .int
abbrev wsJ30 : List Cond := u_ws RJ3 TJ3 0
theorem nmJ3 : ∀ a, a < 0 → ∀ b, b < 0 → a ≠ b → (TJ3 a).2.1 ≠ (TJ3 b).2.1 := by decide +kernel
theorem tyJ3_ok : ∀ k, k < 0 → parseFieldDescriptor (TJ3 k).2.2.1 = some (tyJ3 k) := by decide +kernel
abbrev cJ3_checkIndex_8e157 : ByteArray := prog_37_method_11_code
def yJ3_checkIndex_8e157 : MethodName := ⟨RJ3, "checkIndex", "(IILjava/util/function/BiFunction;)I"⟩
def RL : String := "FiveCardsLaw"
abbrev cL_law : ByteArray := code
def yL_law : MethodName := ⟨RL, "law", "([I)Z"⟩
abbrev kcl : List vw_C := [(RX0, TX0, 2), (RX1, TX1, 5), (RX2, TX2, 1), (RX3, TX3, 2), (RX4, TX4, 7), (RX5, TX5, 14), (RX6, TX6, 2), (RX7, TX7, 3), (RX8, TX8, 2), (RX9, TX9, 3), (RX10, TX10, 4), (RX11, TX11, 14), (RX12, TX12, 65), (RJx4a65c, TJx4a65c, 3)]
def BIG : List Cond := lw_tbl.filter goodWord
theorem big_of {w : Cond} (i : Nat) (h : tables_1[i]? = some w) (hg : goodWord w = true) : w ∈ BIG := List.mem_filter.mpr ⟨List.mem_append_right _ (List.mem_of_getElem? h), hg⟩
theorem big_sel {q : MethodName × Nat} (i : Nat) (h : lw_privs[i]? = some q) : Cond.selects q.1.cls q.1 q.1 ∈ BIG := List.mem_filter.mpr ⟨List.mem_append_left _ (List.mem_map.mpr ⟨q, List.mem_of_getElem? h, rfl⟩), rfl⟩
theorem big_ws {C : String} {T : u_T} {N : Nat} (is : List Nat) (h : u_ws C T N = is.filterMap (fun i => tables_1[i]?)) (hg : (u_ws C T N).all goodWord = true) : ∀ w ∈ u_ws C T N, w ∈ BIG := by
  intro w hw
  have h1 := List.all_eq_true.mp hg w hw
  rw [h] at hw
  obtain ⟨i, -, hi⟩ := List.mem_filterMap.mp hw
  exact big_of i hi h1
theorem good_cons {y : MethodName} {cc : ByteArray} {nL : Nat} {rt : Option FieldType} {y' : MethodName} {cc' : ByteArray} {nL' : Nat} {rt' : Option FieldType} (h : Cond.code y cc nL rt ∈ BIG) : GoodIn (Cond.code y' cc' nL' rt' :: BIG) (Cond.code y cc nL rt :: BIG) := by
  intro w hw
  rcases List.mem_cons.mp hw with rfl | hw
  · exact ⟨List.mem_cons_of_mem _ h, Or.inl rfl⟩
  · exact ⟨List.mem_cons_of_mem _ hw, good_of_word (List.mem_filter.mp hw).2⟩
end
section
/-! THE LAYER: a heap of ours is a partial map from addresses to contents; AJ: from here the method comes to its end; Fn: a method's contract over such heaps -/
abbrev KX : Type := Launch × va_G × (Nat → ClassId) × (Nat → Nat) × Value
abbrev kE : Type := (Nat × vp_A) ⊕ (Nat × List Value)
abbrev AH : Type := Nat → Option kE
abbrev kI (n : Nat) (f : Nat → Int32) : kE := .inl (0, n, .inl f)
abbrev kL (n : Nat) (f : Nat → Int64) : kE := .inl (1, n, .inr (.inl f))
abbrev kQ (t n : Nat) (f : Nat → Option Nat) : kE := .inl (t, n, .inr (.inr (.inr (.inr f))))
abbrev kB (n : Nat) (f : Nat → Int32) : kE := .inl (4, n, .inl f)
abbrev kO (c : Nat) (fs : List Value) : kE := .inr (c, fs)
def ktyl : List FieldType := [.int, .long, .object "java/lang/Object", .object "FiveCards$Sheet", .boolean]
def ktys (X : KX) : List (ClassId × FieldType) := [(X.2.2.1 0, .int), (X.2.2.1 1, .long), (X.2.2.1 2, .object "java/lang/Object"), (X.2.2.1 3, .object "FiveCards$Sheet"), (X.2.2.1 4, .boolean)]
theorem ktys_at {X : KX} {t : Nat} {ty : FieldType} (h : ktyl[t]? = some ty) : (ktys X)[t]? = some (X.2.2.1 t, ty) := by
  match t, h with
  | 0, h => cases h; rfl
  | 1, h => cases h; rfl
  | 2, h => cases h; rfl
  | 3, h => cases h; rfl
  | 4, h => cases h; rfl
  | t + 5, h => simp [ktyl] at h
def cE (X : KX) : kE → va_E
  | .inl (t, a) => .inl (X.2.2.1 t, a)
  | .inr o => .inr o
def kws (X : KX) (h : AH) (dom : List Nat) : va_W := dom.map (fun a => (a, cE X ((h a).getD (.inr (0, [])))))
def Dom (h : AH) (dom : List Nat) : Prop := ∀ a, (h a).isSome = true ↔ a ∈ dom
def Rep (X : KX) (A : Nat → Prop) (h : AH) (H : Heap) : Prop := ∃ dom : List Nat, Dom h dom ∧ va_P X.2.1 kcl (kws X h dom) H ∧ va_D A (kws X h dom)
def kput (h : AH) (a : Nat) (e : kE) : AH := fun b => if b = a then some e else h b
theorem kput_eq {h : AH} {a : Nat} {e : kE} : kput h a e a = some e := if_pos rfl
theorem kput_ne {h : AH} {a b : Nat} {e : kE} (hb : b ≠ a) : kput h a e b = h b := if_neg hb
theorem kput_put {h : AH} {a : Nat} {e e' : kE} : kput (kput h a e) a e' = kput h a e' := by
  funext b
  simp only [kput]
  by_cases hb : b = a
  · rw [if_pos hb, if_pos hb]
  · rw [if_neg hb, if_neg hb, if_neg hb]
theorem kput_self {h : AH} {a : Nat} {e : kE} (ha : h a = some e) : kput h a e = h := by
  funext b
  simp only [kput]
  by_cases hb : b = a
  · rw [if_pos hb, hb, ha]
  · rw [if_neg hb]
theorem kput_comm {h : AH} {a b : Nat} {e e' : kE} (hab : a ≠ b) : kput (kput h a e) b e' = kput (kput h b e') a e := by
  funext c
  simp only [kput]
  by_cases hb : c = b
  · rw [if_pos hb, if_neg (fun q => hab (q.symm.trans hb)), if_pos hb]
  · rw [if_neg hb]
    by_cases ha : c = a
    · rw [if_pos ha, if_pos ha]
    · rw [if_neg ha, if_neg ha, if_neg hb]
theorem kput_some {h : AH} {a b : Nat} {e : kE} (hb : (h b).isSome = true) : (kput h a e b).isSome = true := by
  simp only [kput]
  by_cases q : b = a
  · rw [if_pos q]; rfl
  · rw [if_neg q]; exact hb
theorem kws_len {X : KX} {h : AH} {dom : List Nat} : (kws X h dom).length = dom.length := List.length_map _
theorem kws_at {X : KX} {h : AH} {dom : List Nat} {a : Nat} {e : kE} (hD : Dom h dom) (ha : h a = some e) : ∃ q : Nat, dom[q]? = some a ∧ (kws X h dom)[q]? = some (a, cE X e) := by
  have hm : a ∈ dom := (hD a).mp (by rw [ha]; rfl)
  obtain ⟨q, hq⟩ := List.getElem?_of_mem hm
  refine ⟨q, hq, ?_⟩
  rw [kws, List.getElem?_map, hq]
  show some (a, cE X ((h a).getD _)) = _
  rw [ha]
  rfl
theorem kws_mem {X : KX} {h : AH} {dom : List Nat} {k : Nat} {p : Nat × va_E} (hp : (kws X h dom)[k]? = some p) : dom[k]? = some p.1 := by
  rw [kws, List.getElem?_map] at hp
  cases hd : dom[k]? with
  | none => rw [hd] at hp; cases hp
  | some a => rw [hd] at hp; cases hp; rfl
theorem dom_inj {X : KX} {A : Nat → Prop} {h : AH} {dom : List Nat} (hD : va_D A (kws X h dom)) {i j a : Nat} (hi : dom[i]? = some a) (hj : dom[j]? = some a) : i = j := by
  refine hD.1 i j (a, cE X ((h a).getD (.inr (0, [])))) (a, cE X ((h a).getD (.inr (0, [])))) ?_ ?_ rfl
  · rw [kws, List.getElem?_map, hi]; rfl
  · rw [kws, List.getElem?_map, hj]; rfl
theorem kws_set {X : KX} {A : Nat → Prop} {h : AH} {dom : List Nat} {a q : Nat} {e : kE} (hD : va_D A (kws X h dom)) (hq : dom[q]? = some a) : (kws X h dom).set q (a, cE X e) = kws X (kput h a e) dom := by
  refine List.ext_getElem? fun i => ?_
  rw [List.getElem?_set]
  by_cases hi : q = i
  · subst hi
    have hl : q < (kws X h dom).length := by rw [kws_len]; exact (List.getElem?_eq_some_iff.mp hq).1
    rw [if_pos rfl, if_pos hl, kws, List.getElem?_map, hq]
    show _ = some (a, cE X ((kput h a e a).getD _))
    rw [kput_eq]
    rfl
  · rw [if_neg hi, kws, kws, List.getElem?_map, List.getElem?_map]
    cases hd : dom[i]? with
    | none => rfl
    | some b =>
      show some (b, _) = some (b, _)
      have hb : b ≠ a := fun z => hi (dom_inj hD hq (by rw [hd, z]))
      rw [kput_ne hb]
theorem Dom.put {h : AH} {dom : List Nat} {a : Nat} {e0 e : kE} (hD : Dom h dom) (ha : h a = some e0) : Dom (kput h a e) dom := by
  intro b
  by_cases hb : b = a
  · subst hb
    rw [kput_eq, ← hD b, ha]
    exact ⟨fun _ => rfl, fun _ => rfl⟩
  · rw [kput_ne hb]
    exact hD b
theorem Dom.fresh {X : KX} {A : Nat → Prop} {h : AH} {dom : List Nat} {q : Nat} {e : va_E} (hd : Dom h dom) (hD : va_D A (kws X h dom ++ [(q, e)])) : h q = none := by
  cases hq : h q with
  | none => rfl
  | some x =>
    obtain ⟨k, h1, h2⟩ := kws_at (X := X) hd hq
    have hl : k < (kws X h dom).length := (List.getElem?_eq_some_iff.mp h2).1
    have h3 : (kws X h dom ++ [(q, e)])[k]? = some (q, cE X x) := by rw [List.getElem?_append_left hl]; exact h2
    have h4 : (kws X h dom ++ [(q, e)])[(kws X h dom).length]? = some (q, e) := by rw [List.getElem?_append_right (Nat.le_refl _), Nat.sub_self]; rfl
    have := hD.1 _ _ _ _ h3 h4 rfl
    omega
theorem kws_app {X : KX} {h : AH} {dom : List Nat} {q : Nat} {e : kE} (hd : Dom h dom) (hq : h q = none) : kws X h dom ++ [(q, cE X e)] = kws X (kput h q e) (dom ++ [q]) := by
  rw [kws, kws, List.map_append]
  congr 1
  · refine List.map_congr_left fun b hb => ?_
    have hbq : b ≠ q := fun z => by
      have := (hd b).mpr hb
      rw [z, hq] at this
      cases this
    rw [kput_ne hbq]
  · show [(q, cE X e)] = [(q, cE X ((kput h q e q).getD _))]
    rw [kput_eq]
    rfl
theorem Dom.new {h : AH} {dom : List Nat} {q : Nat} {e : kE} (hd : Dom h dom) : Dom (kput h q e) (dom ++ [q]) := by
  intro b
  rw [List.mem_append, List.mem_singleton]
  by_cases hb : b = q
  · subst hb
    rw [kput_eq]
    exact ⟨fun _ => Or.inr rfl, fun _ => rfl⟩
  · rw [kput_ne hb, hd b]
    exact ⟨Or.inl, fun z => z.elim id (fun z => absurd z hb)⟩
def k_strs : List (String × Nat × String × Nat) := [("FiveCards", 66, "stop 8 < hits ; keep 4 < hits ; say hits - leaks - 5 ;", 0), ("FiveCards$Tokens", 73, "hits", 1), ("FiveCards$Tokens", 75, "run", 2), ("FiveCards$Tokens", 77, "all", 3), ("FiveCards$Tokens", 79, "leaks", 4), ("FiveCards$Tokens", 81, "day", 5), ("FiveCards$Tokens", 83, "next", 6), ("FiveCards$Tokens", 85, "stop", 7), ("FiveCards$Tokens", 87, "keep", 8), ("FiveCards$Tokens", 89, "say", 9), ("FiveCards$Tokens", 91, "or", 10), ("FiveCards$Tokens", 93, "and", 11), ("FiveCards$Tokens", 95, "not", 12)]
def k_nests : List (String × Nat × MethodName) := [("FiveCards", 36, ⟨"FiveCards$Tape", "<init>", "()V"⟩), ("FiveCards", 43, ⟨"FiveCards$Reader", "<init>", "()V"⟩), ("FiveCards$Reader", 11, ⟨"FiveCards$Tokens", "<init>", "()V"⟩), ("FiveCards", 50, ⟨"FiveCards$Odds", "<init>", "()V"⟩), ("FiveCards", 65, ⟨"FiveCards$Sheet", "<init>", "()V"⟩), ("FiveCards$Reader", 100, ⟨"FiveCards", "among", "(II)Z"⟩), ("FiveCards$Run", 77, ⟨"FiveCards", "among", "(II)Z"⟩), ("FiveCards", 237, ⟨"FiveCards$Fraction", "<init>", "()V"⟩)]
def k_len : List Nat := [54, 4, 3, 3, 5, 3, 4, 4, 4, 3, 2, 3, 3]
def k_byt : List (List Int32) := [[115, 116, 111, 112, 32, 56, 32, 60, 32, 104, 105, 116, 115, 32, 59, 32, 107, 101, 101, 112, 32, 52, 32, 60, 32, 104, 105, 116, 115, 32, 59, 32, 115, 97, 121, 32, 104, 105, 116, 115, 32, 45, 32, 108, 101, 97, 107, 115, 32, 45, 32, 53, 32, 59], [104, 105, 116, 115], [114, 117, 110], [97, 108, 108], [108, 101, 97, 107, 115], [100, 97, 121], [110, 101, 120, 116], [115, 116, 111, 112], [107, 101, 101, 112], [115, 97, 121], [111, 114], [97, 110, 100], [110, 111, 116]]
def k_under : Nat → Int32 := fun j => match j with
  | 0 => -1
  | 1 => 0
  | 2 => 0
  | 3 => 0
  | 4 => 2
  | _ => 4
def k_weights : Nat → Int32 := fun j => match j with
  | 0 => 1
  | 1 => 2
  | 2 => 1
  | 3 => 4
  | 4 => 2
  | _ => 4
/-- what the start gives of statics, texts and of words that aren't on the tables alone -/
def EFX (X : KX) (A : Nat → Prop) (U : State) : Prop :=
  va_Z RX1 "UNDER" "[I" (.ref (X.2.2.2.1 0)) A U U.heap ∧ va_T .int (X.2.2.2.1 0) 6 (fun j => .int (k_under j)) A U U.heap ∧
  va_Z RX1 "WEIGHTS" "[I" (.ref (X.2.2.2.1 1)) A U U.heap ∧ va_T .int (X.2.2.2.1 1) 6 (fun j => .int (k_weights j)) A U U.heap ∧
  va_Z RJx4a65c "DEFAULTCAPACITY_EMPTY_ELEMENTDATA" "[Ljava/lang/Object;" (.ref (X.2.2.2.1 2)) A U U.heap ∧ va_T (.object "java/lang/Object") (X.2.2.2.1 2) 0 (fun _ => .null) A U U.heap ∧
  va_Z "java/lang/String" "COMPACT_STRINGS" "Z" (.int 1) A U U.heap ∧
  va_Z "jdk/internal/util/Preconditions" "SIOOBE_FORMATTER" "Ljava/util/function/BiFunction;" X.2.2.2.2 A U U.heap ∧
  vk_S 13 k_len k_byt (fun i => X.2.2.2.1 (10 + i)) (fun i => X.2.2.2.1 (30 + i)) A U U.heap ∧
  (∀ q ∈ k_strs, vk_R q.1 q.2.1 q.2.2.1 (X.2.2.2.1 (10 + q.2.2.2)) U) ∧
  (∀ q ∈ k_nests, va_Nw (.methodLinkNest q.1 q.2.1 q.2.2 "FiveCards") U) ∧
  va_Nw (.castable "[I" "java/lang/Cloneable") U ∧ (∀ q ∈ kcl, va_Nw (.castable q.1 "java/lang/Object") U) ∧
  va_AO "FiveCards$Sheet" U ∧ va_AO "java/lang/Object" U ∧ va_Mi "[Ljava/lang/Object;" (X.2.2.2.1 3) U ∧ va_Dc U ∧ (X.2.2.2.2 = .null ∨ ∃ t : Nat, X.2.2.2.2 = .ref t)
theorem efx_move {X : KX} {A B : Nat → Prop} {u U : State} (h : EFX X A u) (hW : u.WarmedH U.vm) (hk : ∀ a : Nat, a < u.heap.size → ¬ A a → U.heap[a]? = u.heap[a]?) (hAB : ∀ q, B q → A q) : EFX X B U := by
  obtain ⟨h1, h2, h3, h4, h5, h6, h7, h8, h9, h10, h11, h12, h13, h14, h15, h16, h17, h18⟩ := h
  have hv := hW.alike
  exact ⟨((h1.kept hk).moved hv).narrow hAB, ((h2.kept hk).moved hv).narrow hAB, ((h3.kept hk).moved hv).narrow hAB, ((h4.kept hk).moved hv).narrow hAB, ((h5.kept hk).moved hv).narrow hAB, ((h6.kept hk).moved hv).narrow hAB, ((h7.kept hk).moved hv).narrow hAB, ((h8.kept hk).moved hv).narrow hAB, ((h9.kept hk).moved hv).narrow hAB,
    fun q hq => vk_R.warm hW (h10 q hq), fun q hq => va_Nw.warmM hW (h11 q hq), va_Nw.warmC hW h12, fun q hq => va_Nw.warmC hW (h13 q hq), h14.moved hv, h15.moved hv, h16.moved hv, h17.moved hv, h18⟩
abbrev MX : Type := Program × Env × Room × State × MethodId × Array Value × List Frame × Method × Code × (State → Prop) × (Nat → Prop)
abbrev mE (M : MX) : Env := M.2.1
abbrev mR (M : MX) : Room := M.2.2.1
abbrev mS (M : MX) : State := M.2.2.2.1
abbrev mI (M : MX) : MethodId := M.2.2.2.2.1
abbrev mArgs (M : MX) : Array Value := M.2.2.2.2.2.1
abbrev mBelow (M : MX) : List Frame := M.2.2.2.2.2.2.1
abbrev mMeth (M : MX) : Method := M.2.2.2.2.2.2.2.1
abbrev mC (M : MX) : Code := M.2.2.2.2.2.2.2.2.1
abbrev mQ (M : MX) : State → Prop := M.2.2.2.2.2.2.2.2.2.1
abbrev mA (M : MX) : Nat → Prop := M.2.2.2.2.2.2.2.2.2.2
abbrev WM (X : KX) (M : MX) (H : Heap) (locs : List Loc) (uc us : Nat) (g : JFrame) : Prop := W M.1 X.1 (mE M) (mR M) (mS M) (mI M) (mArgs M) (mBelow M) (mMeth M) (mC M) H locs uc us (mQ M) g
def MOk (X : KX) (M : MX) (y : MethodName) (cc : ByteArray) (nL : Nat) (rt : Option FieldType) : Prop :=
  M.1.tables.exec = Jvm.exec ∧ (mC M).code = cc ∧ (mC M).maxLocals = nL ∧ (mMeth M).sig.returnType = rt ∧ (mMeth M).locks = false ∧ (mMeth M).name = y.name ∧ (mS M).vm.findClass y.cls = some (mI M).cls ∧ (∀ w ∈ BIG, w.before (mArgs M) (mS M) = true) ∧ va_K X.2.1 kcl (ktys X) (mS M) ∧ EFX X (mA M) (mS M) ∧ (∀ q, (mS M).heap.size ≤ q → mA M q)
def AJ (X : KX) (M : MX) (y : MethodName) (cc : ByteArray) (nL : Nat) (rt : Option FieldType) (pc : Nat) (L : List (Nat × Value)) (st : List Value) (h : AH) (uc us : Nat) : Prop :=
  MOk X M y cc nL rt → ∀ (H : Heap) (locs : List Loc) (ls : Array Slot), Rep X (mA M) h H → va_S (mA M) (mS M).heap H locs → lv_has ls nL L → WM X M H locs uc us (F0 (mI M) pc ls st)
def rmd (d kc ks : Nat) : Room := { frames := d, cells := kc, slots := ks, locals := 40 * d }
def fQ (X : KX) (A : Nat → Prop) (Post : Option Value → AH → Prop) : State → Outcome → State → Prop := fun st o t => (∃ (r : Option Value) (h' : AH), o = .returned r ∧ Post r h' ∧ Rep X A h' t.heap) ∧ va_F A st t
def fB (X : KX) (h : AH) (dom : List Nat) (sz : Nat) (U : State) : Prop := U.heap.size = sz ∧ va_P X.2.1 kcl (kws X h dom) U.heap ∧ va_K X.2.1 kcl (ktys X) U ∧ va_D (fun _ => True) (kws X h dom) ∧ EFX X (va_A (kws X h dom) sz) U
def Fn (X : KX) (d kc ks : Nat) (y : MethodName) (cc : ByteArray) (nL : Nat) (rt : Option FieldType) (args : List Value) (h : AH) (Post : Option Value → AH → Prop) : Prop :=
  ∀ (dom : List Nat) (sz : Nat), Dom h dom → Met X.1 y (Cond.code y cc nL rt :: BIG) (rmd d kc ks) (va_Pc args (fB X h dom sz)) (fun _ => fQ X (va_A (kws X h dom) sz) Post) kc ks (va_A (kws X h dom) sz)
def MSp (X : KX) (M : MX) (d kc ks : Nat) (Post : Option Value → AH → Prop) : Prop := mR M = rmd d kc ks ∧ mQ M = MQ (mBelow M) (fun _ => fQ X (mA M) Post) (mArgs M) (mS M) kc ks (mA M)
theorem fn_of {X : KX} {d kc ks : Nat} {y : MethodName} {cc : ByteArray} {nL : Nat} {rt : Option FieldType} {args : List Value} {h : AH} {Post : Option Value → AH → Prop} (hy : plainName y.cls = true) (hn : (lg_sl args).length ≤ nL)
    (body : ∀ M : MX, MSp X M d kc ks Post → AJ X M y cc nL rt 0 (lv_args 0 args) [] h 0 0) : Fn X d kc ks y cc nL rt args h Post := by
  intro dom sz hd
  refine Met.ofW (cc := cc) (maxL := nL) (ret := rt) hy rfl ?_
  intro p e s m ar below meth c s₁ B hml hv
  obtain ⟨rfl, hsz, hP, hK, hD, hE⟩ := hv
  subst hsz
  have hts := atoms_spec (ws := Cond.code y cc nL rt :: BIG) B.pre
  have hb := body (p, e, rmd d kc ks, s, m, args.toArray, below, meth, c, MQ below (fun _ => fQ X (va_A (kws X h dom) s.heap.size) Post) args.toArray s kc ks (va_A (kws X h dom) s.heap.size), va_A (kws X h dom) s.heap.size) ⟨rfl, rfl⟩
    ⟨B.exec, B.bytes, hml, B.returns, B.notSynchronized, (name_of_methodNamed B.named B.method).1, findClass_of_methodNamed B.named, fun w hw => hts w (List.mem_cons_of_mem _ hw), hK, hE, fun q hq => Or.inr hq⟩
    s.heap [] _ ⟨dom, hd, hP, hD.self⟩ va_S.rf (lv_entry args hn)
  rw [lg_entry_eq]
  exact hb
section LAY
variable {X : KX} {M : MX} {y : MethodName} {cc : ByteArray} {nL : Nat} {rt : Option FieldType} {pc : Nat} {L : List (Nat × Value)} {st : List Value} {h : AH} {uc us : Nat}
theorem a_iconst {n : Int} {v : Int32} (hd : decode cc pc = .ok (.iconst n, 1)) (hv : Int32.ofInt n = v) (k : AJ X M y cc nL rt (pc + 1) L (.int v :: st) h uc us) : AJ X M y cc nL rt pc L st h uc us := fun ok H locs ls hR hS hL => lv_iconst ok.1 ok.2.1 hd hv (k ok H locs ls hR hS hL)
theorem a_bipush {n : Int} {v : Int32} (hd : decode cc pc = .ok (.bipush n, 2)) (hv : (Int8.ofInt n).toInt32 = v) (k : AJ X M y cc nL rt (pc + 2) L (.int v :: st) h uc us) : AJ X M y cc nL rt pc L st h uc us := fun ok H locs ls hR hS hL => lv_bipush ok.1 ok.2.1 hd hv (k ok H locs ls hR hS hL)
theorem a_sipush {n : Int} {v : Int32} (hd : decode cc pc = .ok (.sipush n, 3)) (hv : (Int16.ofInt n).toInt32 = v) (k : AJ X M y cc nL rt (pc + 3) L (.int v :: st) h uc us) : AJ X M y cc nL rt pc L st h uc us := fun ok H locs ls hR hS hL => lv_sipush ok.1 ok.2.1 hd hv (k ok H locs ls hR hS hL)
theorem a_lconst {n : Fin 2} {v : Int64} (hd : decode cc pc = .ok (.lconst n, 1)) (hv : Int64.ofNat (n : Nat) = v) (k : AJ X M y cc nL rt (pc + 1) L (.long v :: st) h uc us) : AJ X M y cc nL rt pc L st h uc us := fun ok H locs ls hR hS hL => lv_lconst ok.1 ok.2.1 hd hv (k ok H locs ls hR hS hL)
theorem a_null  (hd : decode cc pc = .ok (.aconst_null, 1))  (k : AJ X M y cc nL rt (pc + 1) L (.null :: st) h uc us) : AJ X M y cc nL rt pc L st h uc us := fun ok H locs ls hR hS hL => lv_null ok.1 ok.2.1 hd (k ok H locs ls hR hS hL)
theorem lk_in {L : List (Nat × Value)} {i : Nat} {v : Value} (h : L.lookup i = some v) : (i, v) ∈ L := by
  induction L with
  | nil => cases h
  | cons q l ih =>
    obtain ⟨j, w⟩ := q
    rw [List.lookup_cons] at h
    by_cases hj : i = j
    · subst hj
      simp at h
      subst h
      exact List.mem_cons_self
    · have hb : (i == j) = false := by simpa using hj
      rw [hb] at h
      exact List.mem_cons_of_mem _ (ih h)
theorem a_iload_n {i : Nat} {k0 : Fin 4} {x : Int32} (hd : decode cc pc = .ok (.iload_n k0, 1)) (hi : (k0 : Nat) = i) (hl : L.lookup i = some (.int x)) (k : AJ X M y cc nL rt (pc + 1) L (.int x :: st) h uc us) : AJ X M y cc nL rt pc L st h uc us := fun ok H locs ls hR hS hL => lv_iload_n ok.1 ok.2.1 hd hi (hL.2.2 _ (lk_in hl)) (k ok H locs ls hR hS hL)
theorem a_iload {i : Nat} {x : Int32} (hd : decode cc pc = .ok (.iload i, 2))  (hl : L.lookup i = some (.int x)) (k : AJ X M y cc nL rt (pc + 2) L (.int x :: st) h uc us) : AJ X M y cc nL rt pc L st h uc us := fun ok H locs ls hR hS hL => lv_iload ok.1 ok.2.1 hd  (hL.2.2 _ (lk_in hl)) (k ok H locs ls hR hS hL)
theorem a_lload_n {i : Nat} {k0 : Fin 4} {x : Int64} (hd : decode cc pc = .ok (.lload_n k0, 1)) (hi : (k0 : Nat) = i) (hl : L.lookup i = some (.long x)) (k : AJ X M y cc nL rt (pc + 1) L (.long x :: st) h uc us) : AJ X M y cc nL rt pc L st h uc us := fun ok H locs ls hR hS hL => lv_lload_n ok.1 ok.2.1 hd hi (hL.2.2 _ (lk_in hl)) (k ok H locs ls hR hS hL)
theorem a_lload {i : Nat} {x : Int64} (hd : decode cc pc = .ok (.lload i, 2))  (hl : L.lookup i = some (.long x)) (k : AJ X M y cc nL rt (pc + 2) L (.long x :: st) h uc us) : AJ X M y cc nL rt pc L st h uc us := fun ok H locs ls hR hS hL => lv_lload ok.1 ok.2.1 hd  (hL.2.2 _ (lk_in hl)) (k ok H locs ls hR hS hL)
theorem a_aload_n {i : Nat} {k0 : Fin 4} {x : Nat} (hd : decode cc pc = .ok (.aload_n k0, 1)) (hi : (k0 : Nat) = i) (hl : L.lookup i = some (.ref x)) (k : AJ X M y cc nL rt (pc + 1) L (.ref x :: st) h uc us) : AJ X M y cc nL rt pc L st h uc us := fun ok H locs ls hR hS hL => lv_aload_n ok.1 ok.2.1 hd hi (hL.2.2 _ (lk_in hl)) (k ok H locs ls hR hS hL)
theorem a_aload {i : Nat} {x : Nat} (hd : decode cc pc = .ok (.aload i, 2))  (hl : L.lookup i = some (.ref x)) (k : AJ X M y cc nL rt (pc + 2) L (.ref x :: st) h uc us) : AJ X M y cc nL rt pc L st h uc us := fun ok H locs ls hR hS hL => lv_aload ok.1 ok.2.1 hd  (hL.2.2 _ (lk_in hl)) (k ok H locs ls hR hS hL)
theorem a_aload_nN {i : Nat} {k0 : Fin 4} (hd : decode cc pc = .ok (.aload_n k0, 1)) (hi : (k0 : Nat) = i) (hl : L.lookup i = some (.null)) (k : AJ X M y cc nL rt (pc + 1) L (.null :: st) h uc us) : AJ X M y cc nL rt pc L st h uc us := fun ok H locs ls hR hS hL => lv_aload_nN ok.1 ok.2.1 hd hi (hL.2.2 _ (lk_in hl)) (k ok H locs ls hR hS hL)
theorem a_aloadN {i : Nat}  (hd : decode cc pc = .ok (.aload i, 2))  (hl : L.lookup i = some (.null)) (k : AJ X M y cc nL rt (pc + 2) L (.null :: st) h uc us) : AJ X M y cc nL rt pc L st h uc us := fun ok H locs ls hR hS hL => lv_aloadN ok.1 ok.2.1 hd  (hL.2.2 _ (lk_in hl)) (k ok H locs ls hR hS hL)
abbrev lset1 (L : List (Nat × Value)) (i : Nat) (v : Value) : List (Nat × Value) := (i, v) :: L.filter (fun q => !(q.1 == i) && !(q.1 + 1 == i && q.2.category == 2))
abbrev lset2 (L : List (Nat × Value)) (i : Nat) (v : Value) : List (Nat × Value) := (i, v) :: L.filter (fun q => !(q.1 == i) && (!(q.1 == i + 1) && !(q.1 + 1 == i && q.2.category == 2)))
theorem a_istore_n {i : Nat} {k0 : Fin 4} {x : Int32} {L1 : List (Nat × Value)} (hd : decode cc pc = .ok (.istore_n k0, 1)) (hi : (k0 : Nat) = i) (hn : i < nL) (hl : lset1 L i (.int x) = L1) (k : AJ X M y cc nL rt (pc + 1) L1 st h uc us) : AJ X M y cc nL rt pc L (.int x :: st) h uc us := fun ok H locs ls hR hS hL => lv_istore_n ok.1 ok.2.1 hd hi hL hn hl (fun ls1 hL1 => k ok H locs ls1 hR hS hL1)
theorem a_istore {i : Nat} {x : Int32} {L1 : List (Nat × Value)} (hd : decode cc pc = .ok (.istore i, 2))  (hn : i < nL) (hl : lset1 L i (.int x) = L1) (k : AJ X M y cc nL rt (pc + 2) L1 st h uc us) : AJ X M y cc nL rt pc L (.int x :: st) h uc us := fun ok H locs ls hR hS hL => lv_istore ok.1 ok.2.1 hd  hL hn hl (fun ls1 hL1 => k ok H locs ls1 hR hS hL1)
theorem a_lstore_n {i : Nat} {k0 : Fin 4} {x : Int64} {L1 : List (Nat × Value)} (hd : decode cc pc = .ok (.lstore_n k0, 1)) (hi : (k0 : Nat) = i) (hn : i + 1 < nL) (hl : lset2 L i (.long x) = L1) (k : AJ X M y cc nL rt (pc + 1) L1 st h uc us) : AJ X M y cc nL rt pc L (.long x :: st) h uc us := fun ok H locs ls hR hS hL => lv_lstore_n ok.1 ok.2.1 hd hi hL hn hl (fun ls1 hL1 => k ok H locs ls1 hR hS hL1)
theorem a_lstore {i : Nat} {x : Int64} {L1 : List (Nat × Value)} (hd : decode cc pc = .ok (.lstore i, 2))  (hn : i + 1 < nL) (hl : lset2 L i (.long x) = L1) (k : AJ X M y cc nL rt (pc + 2) L1 st h uc us) : AJ X M y cc nL rt pc L (.long x :: st) h uc us := fun ok H locs ls hR hS hL => lv_lstore ok.1 ok.2.1 hd  hL hn hl (fun ls1 hL1 => k ok H locs ls1 hR hS hL1)
theorem a_astore_n {i : Nat} {k0 : Fin 4} {x : Nat} {L1 : List (Nat × Value)} (hd : decode cc pc = .ok (.astore_n k0, 1)) (hi : (k0 : Nat) = i) (hn : i < nL) (hl : lset1 L i (.ref x) = L1) (k : AJ X M y cc nL rt (pc + 1) L1 st h uc us) : AJ X M y cc nL rt pc L (.ref x :: st) h uc us := fun ok H locs ls hR hS hL => lv_astore_n ok.1 ok.2.1 hd hi hL hn hl (fun ls1 hL1 => k ok H locs ls1 hR hS hL1)
theorem a_astore {i : Nat} {x : Nat} {L1 : List (Nat × Value)} (hd : decode cc pc = .ok (.astore i, 2))  (hn : i < nL) (hl : lset1 L i (.ref x) = L1) (k : AJ X M y cc nL rt (pc + 2) L1 st h uc us) : AJ X M y cc nL rt pc L (.ref x :: st) h uc us := fun ok H locs ls hR hS hL => lv_astore ok.1 ok.2.1 hd  hL hn hl (fun ls1 hL1 => k ok H locs ls1 hR hS hL1)
theorem a_astore_nN {i : Nat} {k0 : Fin 4} {L1 : List (Nat × Value)} (hd : decode cc pc = .ok (.astore_n k0, 1)) (hi : (k0 : Nat) = i) (hn : i < nL) (hl : lset1 L i (.null) = L1) (k : AJ X M y cc nL rt (pc + 1) L1 st h uc us) : AJ X M y cc nL rt pc L (.null :: st) h uc us := fun ok H locs ls hR hS hL => lv_astore_nN ok.1 ok.2.1 hd hi hL hn hl (fun ls1 hL1 => k ok H locs ls1 hR hS hL1)
theorem a_astoreN {i : Nat}  {L1 : List (Nat × Value)} (hd : decode cc pc = .ok (.astore i, 2))  (hn : i < nL) (hl : lset1 L i (.null) = L1) (k : AJ X M y cc nL rt (pc + 2) L1 st h uc us) : AJ X M y cc nL rt pc L (.null :: st) h uc us := fun ok H locs ls hR hS hL => lv_astoreN ok.1 ok.2.1 hd  hL hn hl (fun ls1 hL1 => k ok H locs ls1 hR hS hL1)
theorem a_iinc {i : Nat} {n : Int} {x v : Int32} {L1 : List (Nat × Value)} (hd : decode cc pc = .ok (.iinc i n, 3)) (hk : L.lookup i = some (.int x)) (hv : x + Int32.ofInt n = v) (hn : i < nL) (hl : lset1 L i (.int v) = L1) (k : AJ X M y cc nL rt (pc + 3) L1 st h uc us) : AJ X M y cc nL rt pc L st h uc us := fun ok H locs ls hR hS hL => by
  obtain ⟨j, hj⟩ := List.getElem?_of_mem (lk_in hk)
  exact lv_iinc ok.1 ok.2.1 hd hL hj hv hn hl (fun ls1 hL1 => k ok H locs ls1 hR hS hL1)
theorem a_iadd {a b : Int32} (hd : decode cc pc = .ok (.iadd, 1))  (k : AJ X M y cc nL rt (pc + 1) L (.int (a + b) :: st) h uc us) : AJ X M y cc nL rt pc L (.int b :: .int a :: st) h uc us := fun ok H locs ls hR hS hL => lv_iadd ok.1 ok.2.1 hd (k ok H locs ls hR hS hL)
theorem a_isub {a b : Int32} (hd : decode cc pc = .ok (.isub, 1))  (k : AJ X M y cc nL rt (pc + 1) L (.int (a - b) :: st) h uc us) : AJ X M y cc nL rt pc L (.int b :: .int a :: st) h uc us := fun ok H locs ls hR hS hL => lv_isub ok.1 ok.2.1 hd (k ok H locs ls hR hS hL)
theorem a_imul {a b : Int32} (hd : decode cc pc = .ok (.imul, 1))  (k : AJ X M y cc nL rt (pc + 1) L (.int (a * b) :: st) h uc us) : AJ X M y cc nL rt pc L (.int b :: .int a :: st) h uc us := fun ok H locs ls hR hS hL => lv_imul ok.1 ok.2.1 hd (k ok H locs ls hR hS hL)
theorem a_iand {a b : Int32} (hd : decode cc pc = .ok (.iand, 1))  (k : AJ X M y cc nL rt (pc + 1) L (.int (a &&& b) :: st) h uc us) : AJ X M y cc nL rt pc L (.int b :: .int a :: st) h uc us := fun ok H locs ls hR hS hL => lv_iand ok.1 ok.2.1 hd (k ok H locs ls hR hS hL)
theorem a_ior {a b : Int32} (hd : decode cc pc = .ok (.ior, 1))  (k : AJ X M y cc nL rt (pc + 1) L (.int (a ||| b) :: st) h uc us) : AJ X M y cc nL rt pc L (.int b :: .int a :: st) h uc us := fun ok H locs ls hR hS hL => lv_ior ok.1 ok.2.1 hd (k ok H locs ls hR hS hL)
theorem a_ixor {a b : Int32} (hd : decode cc pc = .ok (.ixor, 1))  (k : AJ X M y cc nL rt (pc + 1) L (.int (a ^^^ b) :: st) h uc us) : AJ X M y cc nL rt pc L (.int b :: .int a :: st) h uc us := fun ok H locs ls hR hS hL => lv_ixor ok.1 ok.2.1 hd (k ok H locs ls hR hS hL)
theorem a_ishl {a b : Int32} (hd : decode cc pc = .ok (.ishl, 1))  (k : AJ X M y cc nL rt (pc + 1) L (.int (a <<< (b &&& 31)) :: st) h uc us) : AJ X M y cc nL rt pc L (.int b :: .int a :: st) h uc us := fun ok H locs ls hR hS hL => lv_ishl ok.1 ok.2.1 hd (k ok H locs ls hR hS hL)
theorem a_ishr {a b : Int32} (hd : decode cc pc = .ok (.ishr, 1))  (k : AJ X M y cc nL rt (pc + 1) L (.int (a >>> (b &&& 31)) :: st) h uc us) : AJ X M y cc nL rt pc L (.int b :: .int a :: st) h uc us := fun ok H locs ls hR hS hL => lv_ishr ok.1 ok.2.1 hd (k ok H locs ls hR hS hL)
theorem a_idiv {a b : Int32} (hd : decode cc pc = .ok (.idiv, 1)) (hne : ¬ b = 0) (k : AJ X M y cc nL rt (pc + 1) L (.int (a / b) :: st) h uc us) : AJ X M y cc nL rt pc L (.int b :: .int a :: st) h uc us := fun ok H locs ls hR hS hL => lv_idiv ok.1 ok.2.1 hd hne (k ok H locs ls hR hS hL)
theorem a_irem {a b : Int32} (hd : decode cc pc = .ok (.irem, 1)) (hne : ¬ b = 0) (k : AJ X M y cc nL rt (pc + 1) L (.int (a - a / b * b) :: st) h uc us) : AJ X M y cc nL rt pc L (.int b :: .int a :: st) h uc us := fun ok H locs ls hR hS hL => lv_irem ok.1 ok.2.1 hd hne (k ok H locs ls hR hS hL)
theorem a_ineg {a : Int32} (hd : decode cc pc = .ok (.ineg, 1))  (k : AJ X M y cc nL rt (pc + 1) L (.int (-a) :: st) h uc us) : AJ X M y cc nL rt pc L (.int a :: st) h uc us := fun ok H locs ls hR hS hL => lv_ineg ok.1 ok.2.1 hd (k ok H locs ls hR hS hL)
theorem a_ladd {a b : Int64} (hd : decode cc pc = .ok (.ladd, 1))  (k : AJ X M y cc nL rt (pc + 1) L (.long (a + b) :: st) h uc us) : AJ X M y cc nL rt pc L (.long b :: .long a :: st) h uc us := fun ok H locs ls hR hS hL => lv_ladd ok.1 ok.2.1 hd (k ok H locs ls hR hS hL)
theorem a_lsub {a b : Int64} (hd : decode cc pc = .ok (.lsub, 1))  (k : AJ X M y cc nL rt (pc + 1) L (.long (a - b) :: st) h uc us) : AJ X M y cc nL rt pc L (.long b :: .long a :: st) h uc us := fun ok H locs ls hR hS hL => lv_lsub ok.1 ok.2.1 hd (k ok H locs ls hR hS hL)
theorem a_lmul {a b : Int64} (hd : decode cc pc = .ok (.lmul, 1))  (k : AJ X M y cc nL rt (pc + 1) L (.long (a * b) :: st) h uc us) : AJ X M y cc nL rt pc L (.long b :: .long a :: st) h uc us := fun ok H locs ls hR hS hL => lv_lmul ok.1 ok.2.1 hd (k ok H locs ls hR hS hL)
theorem a_land {a b : Int64} (hd : decode cc pc = .ok (.land, 1))  (k : AJ X M y cc nL rt (pc + 1) L (.long (a &&& b) :: st) h uc us) : AJ X M y cc nL rt pc L (.long b :: .long a :: st) h uc us := fun ok H locs ls hR hS hL => lv_land ok.1 ok.2.1 hd (k ok H locs ls hR hS hL)
theorem a_lor {a b : Int64} (hd : decode cc pc = .ok (.lor, 1))  (k : AJ X M y cc nL rt (pc + 1) L (.long (a ||| b) :: st) h uc us) : AJ X M y cc nL rt pc L (.long b :: .long a :: st) h uc us := fun ok H locs ls hR hS hL => lv_lor ok.1 ok.2.1 hd (k ok H locs ls hR hS hL)
theorem a_ldiv {a b : Int64} (hd : decode cc pc = .ok (.ldiv, 1)) (hne : ¬ b = 0) (k : AJ X M y cc nL rt (pc + 1) L (.long (a / b) :: st) h uc us) : AJ X M y cc nL rt pc L (.long b :: .long a :: st) h uc us := fun ok H locs ls hR hS hL => lv_ldiv ok.1 ok.2.1 hd hne (k ok H locs ls hR hS hL)
theorem a_lrem {a b : Int64} (hd : decode cc pc = .ok (.lrem, 1)) (hne : ¬ b = 0) (k : AJ X M y cc nL rt (pc + 1) L (.long (a - a / b * b) :: st) h uc us) : AJ X M y cc nL rt pc L (.long b :: .long a :: st) h uc us := fun ok H locs ls hR hS hL => lv_lrem ok.1 ok.2.1 hd hne (k ok H locs ls hR hS hL)
theorem a_lneg {a : Int64} (hd : decode cc pc = .ok (.lneg, 1))  (k : AJ X M y cc nL rt (pc + 1) L (.long (-a) :: st) h uc us) : AJ X M y cc nL rt pc L (.long a :: st) h uc us := fun ok H locs ls hR hS hL => lv_lneg ok.1 ok.2.1 hd (k ok H locs ls hR hS hL)
theorem a_lshl {a : Int64} {b : Int32} (hd : decode cc pc = .ok (.lshl, 1))  (k : AJ X M y cc nL rt (pc + 1) L (.long (a <<< (b.toInt64 &&& 63)) :: st) h uc us) : AJ X M y cc nL rt pc L (.int b :: .long a :: st) h uc us := fun ok H locs ls hR hS hL => lv_lshl ok.1 ok.2.1 hd rfl (k ok H locs ls hR hS hL)
theorem a_lshr {a : Int64} {b : Int32} (hd : decode cc pc = .ok (.lshr, 1))  (k : AJ X M y cc nL rt (pc + 1) L (.long (a >>> (b.toInt64 &&& 63)) :: st) h uc us) : AJ X M y cc nL rt pc L (.int b :: .long a :: st) h uc us := fun ok H locs ls hR hS hL => lv_lshr ok.1 ok.2.1 hd rfl (k ok H locs ls hR hS hL)
theorem a_lushr {a : Int64} {b : Int32} (hd : decode cc pc = .ok (.lushr, 1))  (k : AJ X M y cc nL rt (pc + 1) L (.long (a.toUInt64 >>> (b.toInt64.toUInt64 &&& Int64.toUInt64 63)).toInt64 :: st) h uc us) : AJ X M y cc nL rt pc L (.int b :: .long a :: st) h uc us := fun ok H locs ls hR hS hL => lv_lushr ok.1 ok.2.1 hd rfl (k ok H locs ls hR hS hL)
theorem a_lcmp {a b : Int64} (hd : decode cc pc = .ok (.lcmp, 1))  (k : AJ X M y cc nL rt (pc + 1) L (.int (lg_cmp a b) :: st) h uc us) : AJ X M y cc nL rt pc L (.long b :: .long a :: st) h uc us := fun ok H locs ls hR hS hL => W.lcmp ok.1 ok.2.1 hd (k ok H locs ls hR hS hL)
theorem a_i2l {a : Int32} (hd : decode cc pc = .ok (.i2l, 1))  (k : AJ X M y cc nL rt (pc + 1) L (.long a.toInt64 :: st) h uc us) : AJ X M y cc nL rt pc L (.int a :: st) h uc us := fun ok H locs ls hR hS hL => lv_i2l ok.1 ok.2.1 hd rfl (k ok H locs ls hR hS hL)
theorem a_l2i {a : Int64} (hd : decode cc pc = .ok (.l2i, 1))  (k : AJ X M y cc nL rt (pc + 1) L (.int a.toInt32 :: st) h uc us) : AJ X M y cc nL rt pc L (.long a :: st) h uc us := fun ok H locs ls hR hS hL => lv_l2i ok.1 ok.2.1 hd rfl (k ok H locs ls hR hS hL)
theorem a_i2b {a : Int32} (hd : decode cc pc = .ok (.i2b, 1))  (k : AJ X M y cc nL rt (pc + 1) L (.int a.toInt8.toInt32 :: st) h uc us) : AJ X M y cc nL rt pc L (.int a :: st) h uc us := fun ok H locs ls hR hS hL => lv_i2b ok.1 ok.2.1 hd rfl (k ok H locs ls hR hS hL)
theorem a_i2s {a : Int32} (hd : decode cc pc = .ok (.i2s, 1))  (k : AJ X M y cc nL rt (pc + 1) L (.int a.toInt16.toInt32 :: st) h uc us) : AJ X M y cc nL rt pc L (.int a :: st) h uc us := fun ok H locs ls hR hS hL => lv_i2s ok.1 ok.2.1 hd rfl (k ok H locs ls hR hS hL)
theorem a_i2c {a : Int32} (hd : decode cc pc = .ok (.i2c, 1))  (k : AJ X M y cc nL rt (pc + 1) L (.int (a.toUInt32 % 65536).toInt32 :: st) h uc us) : AJ X M y cc nL rt pc L (.int a :: st) h uc us := fun ok H locs ls hR hS hL => lv_i2c ok.1 ok.2.1 hd rfl (k ok H locs ls hR hS hL)
theorem a_dup {v : Value} (hd : decode cc pc = .ok (.dup, 1)) (hv : v.category = 1) (k : AJ X M y cc nL rt (pc + 1) L (v :: v :: st) h uc us) : AJ X M y cc nL rt pc L (v :: st) h uc us := fun ok H locs ls hR hS hL => lv_dup ok.1 ok.2.1 hd hv (k ok H locs ls hR hS hL)
theorem a_pop {v : Value} (hd : decode cc pc = .ok (.pop, 1)) (hv : v.category = 1) (k : AJ X M y cc nL rt (pc + 1) L st h uc us) : AJ X M y cc nL rt pc L (v :: st) h uc us := fun ok H locs ls hR hS hL => lv_pop ok.1 ok.2.1 hd hv (k ok H locs ls hR hS hL)
theorem a_dup2 {v w : Value} (hd : decode cc pc = .ok (.dup2, 1)) (hv : v.category = 1) (hw : w.category = 1) (k : AJ X M y cc nL rt (pc + 1) L (v :: w :: v :: w :: st) h uc us) : AJ X M y cc nL rt pc L (v :: w :: st) h uc us := fun ok H locs ls hR hS hL => lv_dup2_11 ok.1 ok.2.1 hd hv hw (k ok H locs ls hR hS hL)
theorem a_dup_x1 {v w : Value} (hd : decode cc pc = .ok (.dup_x1, 1)) (hv : v.category = 1) (hw : w.category = 1) (k : AJ X M y cc nL rt (pc + 1) L (v :: w :: v :: st) h uc us) : AJ X M y cc nL rt pc L (v :: w :: st) h uc us := fun ok H locs ls hR hS hL => lv_dup_x1 ok.1 ok.2.1 hd hv hw (k ok H locs ls hR hS hL)
theorem a_goto {off : Int} {tgt : Nat} (hd : decode cc pc = .ok (.goto off, 3)) (ht : (pc : Int) + off = (tgt : Int)) (k : AJ X M y cc nL rt tgt L st h uc us) : AJ X M y cc nL rt pc L st h uc us := fun ok H locs ls hR hS hL => lv_goto ok.1 ok.2.1 hd ht (k ok H locs ls hR hS hL)
theorem a_if_eq {a : Int32} {off : Int} {tgt : Nat} (hd : decode cc pc = .ok (.ifCond .eq off, 3)) (ht : (pc : Int) + off = (tgt : Int)) (kt : a = 0 → AJ X M y cc nL rt tgt L st h uc us) (kf : ¬ a = 0 → AJ X M y cc nL rt (pc + 3) L st h uc us) : AJ X M y cc nL rt pc L (.int a :: st) h uc us := fun ok H locs ls hR hS hL => lv_if_eq ok.1 ok.2.1 hd ht (fun c => kt c ok H locs ls hR hS hL) (fun c => kf c ok H locs ls hR hS hL)
theorem a_if_eq_t {a : Int32} {off : Int} {tgt : Nat} (hd : decode cc pc = .ok (.ifCond .eq off, 3)) (ht : (pc : Int) + off = (tgt : Int)) (hc : a = 0) (kt : AJ X M y cc nL rt tgt L st h uc us) : AJ X M y cc nL rt pc L (.int a :: st) h uc us := a_if_eq hd ht (fun _ => kt) (fun c => absurd hc c)
theorem a_if_eq_f {a : Int32} {off : Int} {tgt : Nat} (hd : decode cc pc = .ok (.ifCond .eq off, 3)) (ht : (pc : Int) + off = (tgt : Int)) (hc : ¬ a = 0) (kf : AJ X M y cc nL rt (pc + 3) L st h uc us) : AJ X M y cc nL rt pc L (.int a :: st) h uc us := a_if_eq hd ht (fun c => absurd c hc) (fun _ => kf)
theorem a_icmp_eq {a b : Int32} {off : Int} {tgt : Nat} (hd : decode cc pc = .ok (.if_icmp .eq off, 3)) (ht : (pc : Int) + off = (tgt : Int)) (kt : a = b → AJ X M y cc nL rt tgt L st h uc us) (kf : ¬ a = b → AJ X M y cc nL rt (pc + 3) L st h uc us) : AJ X M y cc nL rt pc L (.int b :: .int a :: st) h uc us := fun ok H locs ls hR hS hL => lv_icmp_eq ok.1 ok.2.1 hd ht (fun c => kt c ok H locs ls hR hS hL) (fun c => kf c ok H locs ls hR hS hL)
theorem a_icmp_eq_t {a b : Int32} {off : Int} {tgt : Nat} (hd : decode cc pc = .ok (.if_icmp .eq off, 3)) (ht : (pc : Int) + off = (tgt : Int)) (hc : a = b) (kt : AJ X M y cc nL rt tgt L st h uc us) : AJ X M y cc nL rt pc L (.int b :: .int a :: st) h uc us := a_icmp_eq hd ht (fun _ => kt) (fun c => absurd hc c)
theorem a_icmp_eq_f {a b : Int32} {off : Int} {tgt : Nat} (hd : decode cc pc = .ok (.if_icmp .eq off, 3)) (ht : (pc : Int) + off = (tgt : Int)) (hc : ¬ a = b) (kf : AJ X M y cc nL rt (pc + 3) L st h uc us) : AJ X M y cc nL rt pc L (.int b :: .int a :: st) h uc us := a_icmp_eq hd ht (fun c => absurd c hc) (fun _ => kf)
theorem a_if_ne {a : Int32} {off : Int} {tgt : Nat} (hd : decode cc pc = .ok (.ifCond .ne off, 3)) (ht : (pc : Int) + off = (tgt : Int)) (kt : ¬ a = 0 → AJ X M y cc nL rt tgt L st h uc us) (kf : a = 0 → AJ X M y cc nL rt (pc + 3) L st h uc us) : AJ X M y cc nL rt pc L (.int a :: st) h uc us := fun ok H locs ls hR hS hL => lv_if_ne ok.1 ok.2.1 hd ht (fun c => kt c ok H locs ls hR hS hL) (fun c => kf c ok H locs ls hR hS hL)
theorem a_if_ne_t {a : Int32} {off : Int} {tgt : Nat} (hd : decode cc pc = .ok (.ifCond .ne off, 3)) (ht : (pc : Int) + off = (tgt : Int)) (hc : ¬ a = 0) (kt : AJ X M y cc nL rt tgt L st h uc us) : AJ X M y cc nL rt pc L (.int a :: st) h uc us := a_if_ne hd ht (fun _ => kt) (fun c => absurd c hc)
theorem a_if_ne_f {a : Int32} {off : Int} {tgt : Nat} (hd : decode cc pc = .ok (.ifCond .ne off, 3)) (ht : (pc : Int) + off = (tgt : Int)) (hc : a = 0) (kf : AJ X M y cc nL rt (pc + 3) L st h uc us) : AJ X M y cc nL rt pc L (.int a :: st) h uc us := a_if_ne hd ht (fun c => absurd c (fun z => z hc)) (fun _ => kf)
theorem a_icmp_ne {a b : Int32} {off : Int} {tgt : Nat} (hd : decode cc pc = .ok (.if_icmp .ne off, 3)) (ht : (pc : Int) + off = (tgt : Int)) (kt : ¬ a = b → AJ X M y cc nL rt tgt L st h uc us) (kf : a = b → AJ X M y cc nL rt (pc + 3) L st h uc us) : AJ X M y cc nL rt pc L (.int b :: .int a :: st) h uc us := fun ok H locs ls hR hS hL => lv_icmp_ne ok.1 ok.2.1 hd ht (fun c => kt c ok H locs ls hR hS hL) (fun c => kf c ok H locs ls hR hS hL)
theorem a_icmp_ne_t {a b : Int32} {off : Int} {tgt : Nat} (hd : decode cc pc = .ok (.if_icmp .ne off, 3)) (ht : (pc : Int) + off = (tgt : Int)) (hc : ¬ a = b) (kt : AJ X M y cc nL rt tgt L st h uc us) : AJ X M y cc nL rt pc L (.int b :: .int a :: st) h uc us := a_icmp_ne hd ht (fun _ => kt) (fun c => absurd c hc)
theorem a_icmp_ne_f {a b : Int32} {off : Int} {tgt : Nat} (hd : decode cc pc = .ok (.if_icmp .ne off, 3)) (ht : (pc : Int) + off = (tgt : Int)) (hc : a = b) (kf : AJ X M y cc nL rt (pc + 3) L st h uc us) : AJ X M y cc nL rt pc L (.int b :: .int a :: st) h uc us := a_icmp_ne hd ht (fun c => absurd c (fun z => z hc)) (fun _ => kf)
theorem a_if_lt {a : Int32} {off : Int} {tgt : Nat} (hd : decode cc pc = .ok (.ifCond .lt off, 3)) (ht : (pc : Int) + off = (tgt : Int)) (kt : a < 0 → AJ X M y cc nL rt tgt L st h uc us) (kf : ¬ a < 0 → AJ X M y cc nL rt (pc + 3) L st h uc us) : AJ X M y cc nL rt pc L (.int a :: st) h uc us := fun ok H locs ls hR hS hL => lv_if_lt ok.1 ok.2.1 hd ht (fun c => kt c ok H locs ls hR hS hL) (fun c => kf c ok H locs ls hR hS hL)
theorem a_if_lt_t {a : Int32} {off : Int} {tgt : Nat} (hd : decode cc pc = .ok (.ifCond .lt off, 3)) (ht : (pc : Int) + off = (tgt : Int)) (hc : a < 0) (kt : AJ X M y cc nL rt tgt L st h uc us) : AJ X M y cc nL rt pc L (.int a :: st) h uc us := a_if_lt hd ht (fun _ => kt) (fun c => absurd hc c)
theorem a_if_lt_f {a : Int32} {off : Int} {tgt : Nat} (hd : decode cc pc = .ok (.ifCond .lt off, 3)) (ht : (pc : Int) + off = (tgt : Int)) (hc : ¬ a < 0) (kf : AJ X M y cc nL rt (pc + 3) L st h uc us) : AJ X M y cc nL rt pc L (.int a :: st) h uc us := a_if_lt hd ht (fun c => absurd c hc) (fun _ => kf)
theorem a_icmp_lt {a b : Int32} {off : Int} {tgt : Nat} (hd : decode cc pc = .ok (.if_icmp .lt off, 3)) (ht : (pc : Int) + off = (tgt : Int)) (kt : a < b → AJ X M y cc nL rt tgt L st h uc us) (kf : ¬ a < b → AJ X M y cc nL rt (pc + 3) L st h uc us) : AJ X M y cc nL rt pc L (.int b :: .int a :: st) h uc us := fun ok H locs ls hR hS hL => lv_icmp_lt ok.1 ok.2.1 hd ht (fun c => kt c ok H locs ls hR hS hL) (fun c => kf c ok H locs ls hR hS hL)
theorem a_icmp_lt_t {a b : Int32} {off : Int} {tgt : Nat} (hd : decode cc pc = .ok (.if_icmp .lt off, 3)) (ht : (pc : Int) + off = (tgt : Int)) (hc : a < b) (kt : AJ X M y cc nL rt tgt L st h uc us) : AJ X M y cc nL rt pc L (.int b :: .int a :: st) h uc us := a_icmp_lt hd ht (fun _ => kt) (fun c => absurd hc c)
theorem a_icmp_lt_f {a b : Int32} {off : Int} {tgt : Nat} (hd : decode cc pc = .ok (.if_icmp .lt off, 3)) (ht : (pc : Int) + off = (tgt : Int)) (hc : ¬ a < b) (kf : AJ X M y cc nL rt (pc + 3) L st h uc us) : AJ X M y cc nL rt pc L (.int b :: .int a :: st) h uc us := a_icmp_lt hd ht (fun c => absurd c hc) (fun _ => kf)
theorem a_if_ge {a : Int32} {off : Int} {tgt : Nat} (hd : decode cc pc = .ok (.ifCond .ge off, 3)) (ht : (pc : Int) + off = (tgt : Int)) (kt : 0 ≤ a → AJ X M y cc nL rt tgt L st h uc us) (kf : ¬ 0 ≤ a → AJ X M y cc nL rt (pc + 3) L st h uc us) : AJ X M y cc nL rt pc L (.int a :: st) h uc us := fun ok H locs ls hR hS hL => lv_if_ge ok.1 ok.2.1 hd ht (fun c => kt c ok H locs ls hR hS hL) (fun c => kf c ok H locs ls hR hS hL)
theorem a_if_ge_t {a : Int32} {off : Int} {tgt : Nat} (hd : decode cc pc = .ok (.ifCond .ge off, 3)) (ht : (pc : Int) + off = (tgt : Int)) (hc : 0 ≤ a) (kt : AJ X M y cc nL rt tgt L st h uc us) : AJ X M y cc nL rt pc L (.int a :: st) h uc us := a_if_ge hd ht (fun _ => kt) (fun c => absurd hc c)
theorem a_if_ge_f {a : Int32} {off : Int} {tgt : Nat} (hd : decode cc pc = .ok (.ifCond .ge off, 3)) (ht : (pc : Int) + off = (tgt : Int)) (hc : ¬ 0 ≤ a) (kf : AJ X M y cc nL rt (pc + 3) L st h uc us) : AJ X M y cc nL rt pc L (.int a :: st) h uc us := a_if_ge hd ht (fun c => absurd c hc) (fun _ => kf)
theorem a_icmp_ge {a b : Int32} {off : Int} {tgt : Nat} (hd : decode cc pc = .ok (.if_icmp .ge off, 3)) (ht : (pc : Int) + off = (tgt : Int)) (kt : b ≤ a → AJ X M y cc nL rt tgt L st h uc us) (kf : ¬ b ≤ a → AJ X M y cc nL rt (pc + 3) L st h uc us) : AJ X M y cc nL rt pc L (.int b :: .int a :: st) h uc us := fun ok H locs ls hR hS hL => lv_icmp_ge ok.1 ok.2.1 hd ht (fun c => kt c ok H locs ls hR hS hL) (fun c => kf c ok H locs ls hR hS hL)
theorem a_icmp_ge_t {a b : Int32} {off : Int} {tgt : Nat} (hd : decode cc pc = .ok (.if_icmp .ge off, 3)) (ht : (pc : Int) + off = (tgt : Int)) (hc : b ≤ a) (kt : AJ X M y cc nL rt tgt L st h uc us) : AJ X M y cc nL rt pc L (.int b :: .int a :: st) h uc us := a_icmp_ge hd ht (fun _ => kt) (fun c => absurd hc c)
theorem a_icmp_ge_f {a b : Int32} {off : Int} {tgt : Nat} (hd : decode cc pc = .ok (.if_icmp .ge off, 3)) (ht : (pc : Int) + off = (tgt : Int)) (hc : ¬ b ≤ a) (kf : AJ X M y cc nL rt (pc + 3) L st h uc us) : AJ X M y cc nL rt pc L (.int b :: .int a :: st) h uc us := a_icmp_ge hd ht (fun c => absurd c hc) (fun _ => kf)
theorem a_if_gt {a : Int32} {off : Int} {tgt : Nat} (hd : decode cc pc = .ok (.ifCond .gt off, 3)) (ht : (pc : Int) + off = (tgt : Int)) (kt : 0 < a → AJ X M y cc nL rt tgt L st h uc us) (kf : ¬ 0 < a → AJ X M y cc nL rt (pc + 3) L st h uc us) : AJ X M y cc nL rt pc L (.int a :: st) h uc us := fun ok H locs ls hR hS hL => lv_if_gt ok.1 ok.2.1 hd ht (fun c => kt c ok H locs ls hR hS hL) (fun c => kf c ok H locs ls hR hS hL)
theorem a_if_gt_t {a : Int32} {off : Int} {tgt : Nat} (hd : decode cc pc = .ok (.ifCond .gt off, 3)) (ht : (pc : Int) + off = (tgt : Int)) (hc : 0 < a) (kt : AJ X M y cc nL rt tgt L st h uc us) : AJ X M y cc nL rt pc L (.int a :: st) h uc us := a_if_gt hd ht (fun _ => kt) (fun c => absurd hc c)
theorem a_if_gt_f {a : Int32} {off : Int} {tgt : Nat} (hd : decode cc pc = .ok (.ifCond .gt off, 3)) (ht : (pc : Int) + off = (tgt : Int)) (hc : ¬ 0 < a) (kf : AJ X M y cc nL rt (pc + 3) L st h uc us) : AJ X M y cc nL rt pc L (.int a :: st) h uc us := a_if_gt hd ht (fun c => absurd c hc) (fun _ => kf)
theorem a_icmp_gt {a b : Int32} {off : Int} {tgt : Nat} (hd : decode cc pc = .ok (.if_icmp .gt off, 3)) (ht : (pc : Int) + off = (tgt : Int)) (kt : b < a → AJ X M y cc nL rt tgt L st h uc us) (kf : ¬ b < a → AJ X M y cc nL rt (pc + 3) L st h uc us) : AJ X M y cc nL rt pc L (.int b :: .int a :: st) h uc us := fun ok H locs ls hR hS hL => lv_icmp_gt ok.1 ok.2.1 hd ht (fun c => kt c ok H locs ls hR hS hL) (fun c => kf c ok H locs ls hR hS hL)
theorem a_icmp_gt_t {a b : Int32} {off : Int} {tgt : Nat} (hd : decode cc pc = .ok (.if_icmp .gt off, 3)) (ht : (pc : Int) + off = (tgt : Int)) (hc : b < a) (kt : AJ X M y cc nL rt tgt L st h uc us) : AJ X M y cc nL rt pc L (.int b :: .int a :: st) h uc us := a_icmp_gt hd ht (fun _ => kt) (fun c => absurd hc c)
theorem a_icmp_gt_f {a b : Int32} {off : Int} {tgt : Nat} (hd : decode cc pc = .ok (.if_icmp .gt off, 3)) (ht : (pc : Int) + off = (tgt : Int)) (hc : ¬ b < a) (kf : AJ X M y cc nL rt (pc + 3) L st h uc us) : AJ X M y cc nL rt pc L (.int b :: .int a :: st) h uc us := a_icmp_gt hd ht (fun c => absurd c hc) (fun _ => kf)
theorem a_if_le {a : Int32} {off : Int} {tgt : Nat} (hd : decode cc pc = .ok (.ifCond .le off, 3)) (ht : (pc : Int) + off = (tgt : Int)) (kt : a ≤ 0 → AJ X M y cc nL rt tgt L st h uc us) (kf : ¬ a ≤ 0 → AJ X M y cc nL rt (pc + 3) L st h uc us) : AJ X M y cc nL rt pc L (.int a :: st) h uc us := fun ok H locs ls hR hS hL => lv_if_le ok.1 ok.2.1 hd ht (fun c => kt c ok H locs ls hR hS hL) (fun c => kf c ok H locs ls hR hS hL)
theorem a_if_le_t {a : Int32} {off : Int} {tgt : Nat} (hd : decode cc pc = .ok (.ifCond .le off, 3)) (ht : (pc : Int) + off = (tgt : Int)) (hc : a ≤ 0) (kt : AJ X M y cc nL rt tgt L st h uc us) : AJ X M y cc nL rt pc L (.int a :: st) h uc us := a_if_le hd ht (fun _ => kt) (fun c => absurd hc c)
theorem a_if_le_f {a : Int32} {off : Int} {tgt : Nat} (hd : decode cc pc = .ok (.ifCond .le off, 3)) (ht : (pc : Int) + off = (tgt : Int)) (hc : ¬ a ≤ 0) (kf : AJ X M y cc nL rt (pc + 3) L st h uc us) : AJ X M y cc nL rt pc L (.int a :: st) h uc us := a_if_le hd ht (fun c => absurd c hc) (fun _ => kf)
theorem a_icmp_le {a b : Int32} {off : Int} {tgt : Nat} (hd : decode cc pc = .ok (.if_icmp .le off, 3)) (ht : (pc : Int) + off = (tgt : Int)) (kt : a ≤ b → AJ X M y cc nL rt tgt L st h uc us) (kf : ¬ a ≤ b → AJ X M y cc nL rt (pc + 3) L st h uc us) : AJ X M y cc nL rt pc L (.int b :: .int a :: st) h uc us := fun ok H locs ls hR hS hL => lv_icmp_le ok.1 ok.2.1 hd ht (fun c => kt c ok H locs ls hR hS hL) (fun c => kf c ok H locs ls hR hS hL)
theorem a_icmp_le_t {a b : Int32} {off : Int} {tgt : Nat} (hd : decode cc pc = .ok (.if_icmp .le off, 3)) (ht : (pc : Int) + off = (tgt : Int)) (hc : a ≤ b) (kt : AJ X M y cc nL rt tgt L st h uc us) : AJ X M y cc nL rt pc L (.int b :: .int a :: st) h uc us := a_icmp_le hd ht (fun _ => kt) (fun c => absurd hc c)
theorem a_icmp_le_f {a b : Int32} {off : Int} {tgt : Nat} (hd : decode cc pc = .ok (.if_icmp .le off, 3)) (ht : (pc : Int) + off = (tgt : Int)) (hc : ¬ a ≤ b) (kf : AJ X M y cc nL rt (pc + 3) L st h uc us) : AJ X M y cc nL rt pc L (.int b :: .int a :: st) h uc us := a_icmp_le hd ht (fun c => absurd c hc) (fun _ => kf)
theorem a_ifnonnull {x : Nat} {off : Int} {tgt : Nat} (hd : decode cc pc = .ok (.ifnonnull off, 3)) (ht : (pc : Int) + off = (tgt : Int)) (k : AJ X M y cc nL rt tgt L st h uc us) : AJ X M y cc nL rt pc L (.ref x :: st) h uc us := fun ok H locs ls hR hS hL => lv_ifnonnull ok.1 ok.2.1 hd ht (k ok H locs ls hR hS hL)
theorem a_ifnonnullN {off : Int} (hd : decode cc pc = .ok (.ifnonnull off, 3))  (k : AJ X M y cc nL rt (pc + 3) L st h uc us) : AJ X M y cc nL rt pc L (.null :: st) h uc us := fun ok H locs ls hR hS hL => lv_ifnonnullN ok.1 ok.2.1 hd (k ok H locs ls hR hS hL)
theorem a_tabOut {dflt lo hi : Int} {offs : Array Int} {len : Nat} {a : Int32} {tgt : Nat} (hd : decode cc pc = .ok (.tableswitch dflt lo hi offs, len)) (hx : a.toInt < lo ∨ hi < a.toInt) (ht : (pc : Int) + dflt = (tgt : Int)) (k : AJ X M y cc nL rt tgt L st h uc us) : AJ X M y cc nL rt pc L (.int a :: st) h uc us := fun ok H locs ls hR hS hL => lv_tableOut ok.1 ok.2.1 hd hx ht (k ok H locs ls hR hS hL)
theorem a_tabIn {dflt lo hi : Int} {offs : Array Int} {len : Nat} {a : Int32} {off : Int} {tgt : Nat} (hd : decode cc pc = .ok (.tableswitch dflt lo hi offs, len)) (h1 : ¬ a.toInt < lo) (h2 : ¬ hi < a.toInt) (ho : offs[(a.toInt - lo).toNat]? = some off) (ht : (pc : Int) + off = (tgt : Int)) (k : AJ X M y cc nL rt tgt L st h uc us) : AJ X M y cc nL rt pc L (.int a :: st) h uc us := fun ok H locs ls hR hS hL => lv_tableIn ok.1 ok.2.1 hd h1 h2 ho ht (k ok H locs ls hR hS hL)
theorem a_look {dflt : Int} {ps : Array (Int × Int)} {len : Nat} {a : Int32} {off : Int} {tgt : Nat} (hd : decode cc pc = .ok (.lookupswitch dflt ps, len)) (hp : (ps.toList.zip (ps.toList.drop 1)).all (fun (a, next) => a.1 < next.1) = true) (ho : Op.lookupswitch.offset ps.toList dflt a.toInt = off) (ht : (pc : Int) + off = (tgt : Int)) (k : AJ X M y cc nL rt tgt L st h uc us) : AJ X M y cc nL rt pc L (.int a :: st) h uc us := fun ok H locs ls hR hS hL => lv_lookup ok.1 ok.2.1 hd hp ho ht (k ok H locs ls hR hS hL)
theorem a_ldc {idx : Nat} {v : Int32} (hq : Cond.constant y.cls idx v ∈ BIG) (hd : decode cc pc = .ok (.ldc idx, 2)) (k : AJ X M y cc nL rt (pc + 2) L (.int v :: st) h uc us) : AJ X M y cc nL rt pc L st h uc us := fun ok H locs ls hR hS hL => lv_ldc ok.1 ok.2.1 ok.2.2.2.2.2.2.1 (ok.2.2.2.2.2.2.2.1 _ hq) hd (k ok H locs ls hR hS hL)
theorem a_ldc2 {idx : Nat} {v : Int64} (hq : Cond.constantLong y.cls idx v ∈ BIG) (hd : decode cc pc = .ok (.ldc2_w idx, 3)) (k : AJ X M y cc nL rt (pc + 3) L (.long v :: st) h uc us) : AJ X M y cc nL rt pc L st h uc us := fun ok H locs ls hR hS hL => lv_ldc2 ok.1 ok.2.1 ok.2.2.2.2.2.2.1 (ok.2.2.2.2.2.2.2.1 _ hq) hd (k ok H locs ls hR hS hL)
theorem a_ldcS {q : String × Nat × String × Nat} (hq : q ∈ k_strs) (ho : y.cls = q.1) (hd : decode cc pc = .ok (.ldc q.2.1, 2)) (k : AJ X M y cc nL rt (pc + 2) L (.ref (X.2.2.2.1 (10 + q.2.2.2)) :: st) h uc us) : AJ X M y cc nL rt pc L st h uc us := fun ok H locs ls hR hS hL => va_ldcS (own := q.1) (tx := q.2.2.1) ok.1 ok.2.1 (by rw [← ho]; exact ok.2.2.2.2.2.2.1) (ok.2.2.2.2.2.2.2.2.2.1.2.2.2.2.2.2.2.2.2.1 q hq) hd (k ok H locs ls hR hS hL)
/-- other names for the same locals: those that L1 lists -/
def subL (L1 L : List (Nat × Value)) : Prop := match L1 with
  | [] => True
  | q :: l => L.lookup q.1 = some q.2 ∧ subL l L
theorem subL_mem {L1 L : List (Nat × Value)} (h : subL L1 L) : ∀ q ∈ L1, q ∈ L := by
  induction L1 with
  | nil => intro q hq; cases hq
  | cons p l ih =>
    intro q hq
    rcases List.mem_cons.mp hq with rfl | hq
    · exact lk_in h.1
    · exact ih h.2 q hq
theorem a_loc {L1 : List (Nat × Value)} (hs : subL L1 L) (k : AJ X M y cc nL rt pc L1 st h uc us) : AJ X M y cc nL rt pc L st h uc us := fun ok H locs ls hR hS hL => k ok H locs ls hR hS ⟨hL.1, hL.2.1, fun q hq => hL.2.2 q (subL_mem hs q hq)⟩
theorem a_st {st1 : List Value} (e : st = st1) (k : AJ X M y cc nL rt pc L st1 h uc us) : AJ X M y cc nL rt pc L st h uc us := e ▸ k
theorem a_hp {h1 : AH} (e : h = h1) (k : AJ X M y cc nL rt pc L st h1 uc us) : AJ X M y cc nL rt pc L st h uc us := e ▸ k
theorem a_wid {uc1 us1 : Nat} (h1 : uc ≤ uc1) (h2 : us ≤ us1) (k : AJ X M y cc nL rt pc L st h uc1 us1) : AJ X M y cc nL rt pc L st h uc us := fun ok H locs ls hR hS hL => W.widen h1 h2 (k ok H locs ls hR hS hL)
def LkF (own : String) (idx ci k : Nat) (ty : FieldType) (fin : Bool) : Prop := ∃ (C : String) (T : u_T) (N : Nat) (ty0 : Nat → FieldType) (ref : String), kcl[ci]? = some (C, T, N) ∧ (∀ w ∈ u_ws C T N, w ∈ BIG) ∧ (∀ k, k < N → parseFieldDescriptor (T k).2.2.1 = some (ty0 k)) ∧ (∀ a, a < N → ∀ b, b < N → a ≠ b → (T a).2.1 ≠ (T b).2.1) ∧ k < N ∧ Cond.fieldLink own idx ref (T k).2.1 (T k).2.2.1 ∈ BIG ∧ (ref = (T k).1 ∨ Cond.sameField ref (T k).1 (T k).2.1 (T k).2.2.1 ∈ BIG) ∧ (T k).2.2.2 = fin ∧ ty0 k = ty ∧ (fin = true → (T k).1 = own)
def LkG (own : String) (idx ci k : Nat) : Prop := ∃ (C : String) (T : u_T) (N : Nat) (ref : String), kcl[ci]? = some (C, T, N) ∧ (∀ w ∈ u_ws C T N, w ∈ BIG) ∧ k < N ∧ Cond.fieldLink own idx ref (T k).2.1 (T k).2.2.1 ∈ BIG ∧ (ref = (T k).1 ∨ Cond.sameField ref (T k).1 (T k).2.1 (T k).2.2.1 ∈ BIG)
theorem lk_same {args : Array Value} {s : State} {ref : String} {f : String × String × String × Bool} (hts : ∀ w ∈ BIG, w.before args s = true) (hr : ref = f.1 ∨ Cond.sameField ref f.1 f.2.1 f.2.2.1 ∈ BIG) : ∀ x, s.fieldFound? f.1 f.2.1 f.2.2.1 = some x → s.fieldFound? ref f.2.1 f.2.2.1 = some x := by
  intro x hx
  rcases hr with rfl | hr
  · exact hx
  · exact u_same (hts _ hr) x hx
theorem a_getfield {idx ci k a : Nat} {fs : List Value} {v : Value} (lk : LkG y.cls idx ci k) (hd : decode cc pc = .ok (.getfield idx, 3)) (ha : h a = some (.inr (ci, fs))) (hv : fs[k]? = some v)
    (kk : AJ X M y cc nL rt (pc + 3) L (v :: st) h uc us) : AJ X M y cc nL rt pc L (.ref a :: st) h uc us := by
  intro ok H locs ls hR hS hL
  obtain ⟨C, T, N, ref, hc, hin, hk, hlink, hsame⟩ := lk
  obtain ⟨dom, hdm, hP, hD⟩ := id hR
  obtain ⟨q0, -, he⟩ := kws_at (X := X) hdm ha
  have hts := ok.2.2.2.2.2.2.2.1
  exact va_get ok.1 ok.2.1 hts hin ok.2.2.2.2.2.2.1 ok.2.2.2.2.2.2.2.2.1 hP q0 he hc k hk (hts _ hlink) (lk_same hts hsame) hv hd (kk ok H locs ls hR hS hL)
theorem rep_set {A : Nat → Prop} {H1 : Heap} {a q0 : Nat} {e0 e : kE} {dom : List Nat} (hdm : Dom h dom) (hD : va_D A (kws X h dom)) (ha : h a = some e0) (hq : dom[q0]? = some a) (hP1 : va_P X.2.1 kcl ((kws X h dom).set q0 (a, cE X e)) H1) (hD1 : va_D A ((kws X h dom).set q0 (a, cE X e))) : Rep X A (kput h a e) H1 :=
  ⟨dom, hdm.put ha, by rw [← kws_set hD hq]; exact hP1, by rw [← kws_set hD hq]; exact hD1⟩
theorem a_putfield {idx ci k a : Nat} {ty : FieldType} {fs : List Value} {v : Value} (lk : LkF y.cls idx ci k ty false) (hd : decode cc pc = .ok (.putfield idx, 3)) (ha : h a = some (.inr (ci, fs))) (hn : narrow ty v = v) (hf : fits ty v = true) (hl : k < fs.length)
    (kk : AJ X M y cc nL rt (pc + 3) L st (kput h a (.inr (ci, fs.set k v))) uc us) : AJ X M y cc nL rt pc L (v :: .ref a :: st) h uc us := by
  intro ok H locs ls hR hS hL
  obtain ⟨C, T, N, ty0, ref, hc, hin, hty, hnm, hk, hlink, hsame, hfin, hty0, -⟩ := lk
  obtain ⟨dom, hdm, hP, hD⟩ := id hR
  obtain ⟨q0, hq, he⟩ := kws_at (X := X) hdm ha
  have hts := ok.2.2.2.2.2.2.2.1
  exact va_put ok.1 ok.2.1 hts hin ty0 hty hnm ok.2.2.2.2.2.2.1 ok.2.2.2.2.2.2.2.2.1 hP hD hS q0 he hc k hk (hts _ hlink) (lk_same hts hsame) hfin (ty := ty) (by rw [hty k hk, hty0]) hn hf hl hd (fun H1 locs1 hP1 hD1 hS1 => kk ok H1 locs1 ls (rep_set hdm hD ha hq (e := .inr (ci, fs.set k v)) hP1 hD1) hS1 hL)
theorem a_putfieldF {idx ci k a : Nat} {ty : FieldType} {fs : List Value} {v : Value} (lk : LkF y.cls idx ci k ty true) (hi : y.name = "<init>") (hd : decode cc pc = .ok (.putfield idx, 3)) (ha : h a = some (.inr (ci, fs))) (hn : narrow ty v = v) (hf : fits ty v = true) (hl : k < fs.length)
    (kk : AJ X M y cc nL rt (pc + 3) L st (kput h a (.inr (ci, fs.set k v))) uc us) : AJ X M y cc nL rt pc L (v :: .ref a :: st) h uc us := by
  intro ok H locs ls hR hS hL
  obtain ⟨C, T, N, ty0, ref, hc, hin, hty, hnm, hk, hlink, hsame, hfin, hty0, hdc⟩ := lk
  obtain ⟨dom, hdm, hP, hD⟩ := id hR
  obtain ⟨q0, hq, he⟩ := kws_at (X := X) hdm ha
  have hts := ok.2.2.2.2.2.2.2.1
  exact va_putF ok.1 ok.2.1 hts hin ty0 hty hnm ok.2.2.2.2.2.2.1 ok.2.2.2.2.2.2.2.2.1 hP hD hS q0 he hc k hk (hts _ hlink) (lk_same hts hsame) hfin (ok.2.2.2.2.2.1.trans hi) (hdc rfl) (ty := ty) (by rw [hty k hk, hty0]) hn hf hl hd (fun H1 locs1 hP1 hD1 hS1 => kk ok H1 locs1 ls (rep_set hdm hD ha hq (e := .inr (ci, fs.set k v)) hP1 hD1) hS1 hL)
theorem in_of {i : Int32} {j n : Nat} (hi : i = nI j) (hj : j < n) (hb : j < 2147483648) : vp_in i n ∧ i.toNatClampNeg = j := by
  have h1 := nI_clamp hb
  subst hi
  refine ⟨fun z => ?_, h1⟩
  rcases z with z | z
  · exact nI_pos hb z
  · rw [h1] at z
    omega
theorem a_iaload {a n : Nat} {f : Nat → Int32} {i : Int32} (hd : decode cc pc = .ok (.iaload, 1)) (ha : h a = some (kI n f)) (j : Nat) (hi : i = nI j) (hj : j < n) (hb : j < 2147483648)
    (kk : AJ X M y cc nL rt (pc + 1) L (.int (f j) :: st) h uc us) : AJ X M y cc nL rt pc L (.int i :: .ref a :: st) h uc us := by
  intro ok H locs ls hR hS hL
  obtain ⟨dom, hdm, hP, hD⟩ := id hR
  obtain ⟨q0, hq, he⟩ := kws_at (X := X) hdm ha
  obtain ⟨h1, h2⟩ := in_of hi hj hb
  refine va_iald ok.1 ok.2.1 ok.2.2.2.2.2.2.2.2.1 hP q0 0 he (ktys_at (t := 0) rfl) h1 hd ?_
  rw [h2]
  exact kk ok H locs ls hR hS hL
theorem a_laload {a n : Nat} {f : Nat → Int64} {i : Int32} (hd : decode cc pc = .ok (.laload, 1)) (ha : h a = some (kL n f)) (j : Nat) (hi : i = nI j) (hj : j < n) (hb : j < 2147483648)
    (kk : AJ X M y cc nL rt (pc + 1) L (.long (f j) :: st) h uc us) : AJ X M y cc nL rt pc L (.int i :: .ref a :: st) h uc us := by
  intro ok H locs ls hR hS hL
  obtain ⟨dom, hdm, hP, hD⟩ := id hR
  obtain ⟨q0, hq, he⟩ := kws_at (X := X) hdm ha
  obtain ⟨h1, h2⟩ := in_of hi hj hb
  refine va_lald ok.1 ok.2.1 ok.2.2.2.2.2.2.2.2.1 hP q0 1 he (ktys_at (t := 1) rfl) h1 hd ?_
  rw [h2]
  exact kk ok H locs ls hR hS hL
theorem a_baload {a n : Nat} {f : Nat → Int32} {i : Int32} (hd : decode cc pc = .ok (.baload, 1)) (ha : h a = some (kB n f)) (j : Nat) (hi : i = nI j) (hj : j < n) (hb : j < 2147483648)
    (kk : AJ X M y cc nL rt (pc + 1) L (.int (f j) :: st) h uc us) : AJ X M y cc nL rt pc L (.int i :: .ref a :: st) h uc us := by
  intro ok H locs ls hR hS hL
  obtain ⟨dom, hdm, hP, hD⟩ := id hR
  obtain ⟨q0, hq, he⟩ := kws_at (X := X) hdm ha
  obtain ⟨h1, h2⟩ := in_of hi hj hb
  refine va_zald ok.1 ok.2.1 ok.2.2.2.2.2.2.2.2.1 hP q0 4 he (ktys_at (t := 4) rfl) h1 hd ?_
  rw [h2]
  exact kk ok H locs ls hR hS hL
theorem a_aaload {t a n : Nat} {C : String} {f : Nat → Option Nat} {i : Int32} (ht : ktyl[t]? = some (.object C)) (hd : decode cc pc = .ok (.aaload, 1)) (ha : h a = some (kQ t n f)) (j : Nat) (hi : i = nI j) (hj : j < n) (hb : j < 2147483648)
    (kk : AJ X M y cc nL rt (pc + 1) L (va_rf (f j) :: st) h uc us) : AJ X M y cc nL rt pc L (.int i :: .ref a :: st) h uc us := by
  intro ok H locs ls hR hS hL
  obtain ⟨dom, hdm, hP, hD⟩ := id hR
  obtain ⟨q0, hq, he⟩ := kws_at (X := X) hdm ha
  obtain ⟨h1, h2⟩ := in_of hi hj hb
  refine va_aldq ok.1 ok.2.1 ok.2.2.2.2.2.2.2.2.1 hP q0 t he (ktys_at ht) h1 hd ?_
  rw [h2]
  exact kk ok H locs ls hR hS hL
theorem a_iastore {a n : Nat} {f : Nat → Int32} {i x : Int32} (hd : decode cc pc = .ok (.iastore, 1)) (ha : h a = some (kI n f)) (j : Nat) (hi : i = nI j) (hj : j < n) (hb : j < 2147483648)
    (kk : AJ X M y cc nL rt (pc + 1) L st (kput h a (kI n (upd f j x))) uc us) : AJ X M y cc nL rt pc L (.int x :: .int i :: .ref a :: st) h uc us := by
  intro ok H locs ls hR hS hL
  obtain ⟨dom, hdm, hP, hD⟩ := id hR
  obtain ⟨q0, hq, he⟩ := kws_at (X := X) hdm ha
  obtain ⟨h1, h2⟩ := in_of hi hj hb
  refine va_iast ok.1 ok.2.1 ok.2.2.2.2.2.2.2.2.1 hP hD hS q0 0 he (ktys_at (t := 0) rfl) h1 hd (fun H1 locs1 hP1 hD1 hS1 => ?_)
  rw [h2] at hP1 hD1
  exact kk ok H1 locs1 ls (rep_set hdm hD ha hq (e := kI n (upd f j x)) hP1 hD1) hS1 hL
theorem a_lastore {a n : Nat} {f : Nat → Int64} {i : Int32} {x : Int64} (hd : decode cc pc = .ok (.lastore, 1)) (ha : h a = some (kL n f)) (j : Nat) (hi : i = nI j) (hj : j < n) (hb : j < 2147483648)
    (kk : AJ X M y cc nL rt (pc + 1) L st (kput h a (kL n (vp_updL f j x))) uc us) : AJ X M y cc nL rt pc L (.long x :: .int i :: .ref a :: st) h uc us := by
  intro ok H locs ls hR hS hL
  obtain ⟨dom, hdm, hP, hD⟩ := id hR
  obtain ⟨q0, hq, he⟩ := kws_at (X := X) hdm ha
  obtain ⟨h1, h2⟩ := in_of hi hj hb
  refine va_last ok.1 ok.2.1 ok.2.2.2.2.2.2.2.2.1 hP hD hS q0 1 he (ktys_at (t := 1) rfl) h1 hd (fun H1 locs1 hP1 hD1 hS1 => ?_)
  rw [h2] at hP1 hD1
  exact kk ok H1 locs1 ls (rep_set hdm hD ha hq (e := kL n (vp_updL f j x)) hP1 hD1) hS1 hL
theorem a_bastore {a n : Nat} {f : Nat → Int32} {i x : Int32} (hd : decode cc pc = .ok (.bastore, 1)) (ha : h a = some (kB n f)) (j : Nat) (hi : i = nI j) (hj : j < n) (hb : j < 2147483648) (hx : vp_nar .boolean x = x)
    (kk : AJ X M y cc nL rt (pc + 1) L st (kput h a (kB n (upd f j x))) uc us) : AJ X M y cc nL rt pc L (.int x :: .int i :: .ref a :: st) h uc us := by
  intro ok H locs ls hR hS hL
  obtain ⟨dom, hdm, hP, hD⟩ := id hR
  obtain ⟨q0, hq, he⟩ := kws_at (X := X) hdm ha
  obtain ⟨h1, h2⟩ := in_of hi hj hb
  refine va_zast ok.1 ok.2.1 ok.2.2.2.2.2.2.2.2.1 hP hD hS q0 4 he (ktys_at (t := 4) rfl) h1 hd (fun H1 locs1 hP1 hD1 hS1 => ?_)
  rw [h2, hx] at hP1 hD1
  exact kk ok H1 locs1 ls (rep_set hdm hD ha hq (e := kB n (upd f j x)) hP1 hD1) hS1 hL
/-- storing an object into a row of its own class -/
theorem a_aastoreE {t a n ci v : Nat} {r : vw_C} {vs : List Value} {f : Nat → Option Nat} {i : Int32} (ht : ktyl[t]? = some (.object r.1)) (hc : kcl[ci]? = some r) (hd : decode cc pc = .ok (.aastore, 1)) (ha : h a = some (kQ t n f)) (hv : h v = some (.inr (ci, vs))) (j : Nat) (hi : i = nI j) (hj : j < n) (hb : j < 2147483648)
    (kk : AJ X M y cc nL rt (pc + 1) L st (kput h a (kQ t n (va_up f j (some v)))) uc us) : AJ X M y cc nL rt pc L (.ref v :: .int i :: .ref a :: st) h uc us := by
  intro ok H locs ls hR hS hL
  obtain ⟨dom, hdm, hP, hD⟩ := id hR
  obtain ⟨q0, hq, he⟩ := kws_at (X := X) hdm ha
  obtain ⟨q1, -, hev⟩ := kws_at (X := X) hdm hv
  obtain ⟨h1, h2⟩ := in_of hi hj hb
  refine va_astq ok.1 ok.2.1 ok.2.2.2.2.2.2.2.2.1 hP hD hS q0 t q1 ci he (ktys_at ht) hev hc h1 hd (fun H1 locs1 hP1 hD1 hS1 => ?_)
  rw [h2] at hP1 hD1
  exact kk ok H1 locs1 ls (rep_set hdm hD ha hq (e := kQ t n (va_up f j (some v))) hP1 hD1) hS1 hL
theorem k_any {A : Nat → Prop} {s : State} {H : Heap} {dom : List Nat} {ci v : Nat} {r : vw_C} {vs : List Value} (hK : va_K X.2.1 kcl (ktys X) s) (hE : EFX X A s) (hP : va_P X.2.1 kcl (kws X h dom) H) (hdm : Dom h dom) (hc : kcl[ci]? = some r) (hv : h v = some (.inr (ci, vs))) : va_Any "java/lang/Object" s H v := by
  obtain ⟨q1, -, hev⟩ := kws_at (X := X) hdm hv
  refine va_rAny hK hP hev hc (fun comp c0 h1 h2 => ?_)
  have hw := hE.2.2.2.2.2.2.2.2.2.2.2.2.1 r (List.mem_of_getElem? hc)
  exact vb_asgC hw comp c0 h1 h2
theorem a_aastoreO {a n ci v : Nat} {r : vw_C} {vs : List Value} {f : Nat → Option Nat} {i : Int32} (hc : kcl[ci]? = some r) (hd : decode cc pc = .ok (.aastore, 1)) (ha : h a = some (kQ 2 n f)) (hv : h v = some (.inr (ci, vs))) (j : Nat) (hi : i = nI j) (hj : j < n) (hb : j < 2147483648)
    (kk : AJ X M y cc nL rt (pc + 1) L st (kput h a (kQ 2 n (va_up f j (some v)))) uc us) : AJ X M y cc nL rt pc L (.ref v :: .int i :: .ref a :: st) h uc us := by
  intro ok H locs ls hR hS hL
  obtain ⟨dom, hdm, hP, hD⟩ := id hR
  obtain ⟨q0, hq, he⟩ := kws_at (X := X) hdm ha
  obtain ⟨h1, h2⟩ := in_of hi hj hb
  refine va_astqM ok.1 ok.2.1 ok.2.2.2.2.2.2.2.2.1 hP hD hS q0 2 he (ktys_at (t := 2) rfl) (k_any ok.2.2.2.2.2.2.2.2.1 ok.2.2.2.2.2.2.2.2.2.1 hP hdm hc hv) h1 hd (fun H1 locs1 hP1 hD1 hS1 => ?_)
  rw [h2] at hP1 hD1
  exact kk ok H1 locs1 ls (rep_set hdm hD ha hq (e := kQ 2 n (va_up f j (some v))) hP1 hD1) hS1 hL
theorem a_alen {a t n : Nat} {x : vp_A} {ty : FieldType} (ht : ktyl[t]? = some ty) (hd : decode cc pc = .ok (.arraylength, 1)) (ha : h a = some (.inl (t, x))) (hn : x.1 = n)
    (kk : AJ X M y cc nL rt (pc + 1) L (.int (nI n) :: st) h uc us) : AJ X M y cc nL rt pc L (.ref a :: st) h uc us := by
  intro ok H locs ls hR hS hL
  obtain ⟨dom, hdm, hP, hD⟩ := id hR
  obtain ⟨q0, hq, he⟩ := kws_at (X := X) hdm ha
  exact va_alen ok.1 ok.2.1 ok.2.2.2.2.2.2.2.2.1 hP q0 t he (ktys_at ht) (v := nI n) (by rw [hn]; rfl) hd (kk ok H locs ls hR hS hL)
theorem ra_inj {s : State} {c1 c2 : ClassId} {ty : FieldType} (h1 : va_RA s c1 ty) (h2 : va_RA s c2 ty) : c1 = c2 := by
  cases ty with
  | object C =>
    obtain ⟨_, _, -, -, -, a⟩ := h1
    obtain ⟨_, _, -, -, -, b⟩ := h2
    exact Option.some.inj (a.symm.trans b)
  | _ => exact Option.some.inj (h1.symm.trans h2)
theorem k_cls {s : State} {cA : ClassId} {t : Nat} {ty : FieldType} (ht : ktyl[t]? = some ty) (hK : va_K X.2.1 kcl (ktys X ++ [(cA, ty)]) s) : cA = X.2.2.1 t := by
  have hl : t < (ktys X).length := (List.getElem?_eq_some_iff.mp (ktys_at (X := X) ht)).1
  have h1 := (hK.2 t (X.2.2.1 t, ty) (by rw [List.getElem?_append_left hl]; exact ktys_at ht)).2
  have h2 := (hK.2 (ktys X).length (cA, ty) (by rw [List.getElem?_append_right (Nat.le_refl _), Nat.sub_self]; rfl)).2
  exact ra_inj h2 h1
theorem rep_new {A : Nat → Prop} {H1 : Heap} {q : Nat} {e : kE} {dom : List Nat} (hdm : Dom h dom) (hq : h q = none) (hP1 : va_P X.2.1 kcl (kws X h dom ++ [(q, cE X e)]) H1) (hD1 : va_D A (kws X h dom ++ [(q, cE X e)])) : Rep X A (kput h q e) H1 :=
  ⟨dom ++ [q], hdm.new, by rw [← kws_app hdm hq]; exact hP1, by rw [← kws_app hdm hq]; exact hD1⟩
theorem cl_nI {x : Int32} {N : Nat} (hx : x = nI N) (hN : N ≤ 1000000) : ¬ x < 0 ∧ x.toNatClampNeg = N := by
  subst hx
  exact ⟨nI_pos (by omega), nI_clamp (by omega)⟩
theorem a_newI {x : Int32} {N : Nat} (hq : Cond.arrayClass .int ∈ BIG) (hd : decode cc pc = .ok (.newarray .int, 2)) (hx : x = nI N) (hN : N ≤ 1000000) (hc : uc + 1 ≤ (mR M).cells) (hs : us + N ≤ (mR M).slots)
    (kk : ∀ q : Nat, h q = none → AJ X M y cc nL rt (pc + 2) L (.ref q :: st) (kput h q (kI N (fun _ => 0))) (uc + 1) (us + N)) : AJ X M y cc nL rt pc L (.int x :: st) h uc us := by
  intro ok H locs ls hR hS hL
  obtain ⟨dom, hdm, hP, hD⟩ := id hR
  obtain ⟨h1, h2⟩ := cl_nI hx hN
  refine va_newa (atype := .int) (ty := .int) (N' := N) (a0 := (N, .inl (fun _ => 0))) ok.1 ok.2.1 (ok.2.2.2.2.2.2.2.1 _ hq) rfl ok.2.2.2.2.2.2.2.2.1 hP hD hS ok.2.2.2.2.2.2.2.2.2.2 (fun cA => rfl) h1 h2 (by show N * 4 ≤ 536870912; omega) hc hs hd (fun q cA H1 hK1 hP1 hD1 hS1 => ?_)
  have e := k_cls (t := 0) rfl hK1
  subst e
  have hqn : h q = none := hdm.fresh hD1
  exact kk q hqn ok H1 locs ls (rep_new hdm hqn (e := kI N (fun _ => 0)) hP1 hD1) hS1 hL
theorem a_newL {x : Int32} {N : Nat} (hq : Cond.arrayClass .long ∈ BIG) (hd : decode cc pc = .ok (.newarray .long, 2)) (hx : x = nI N) (hN : N ≤ 1000000) (hc : uc + 1 ≤ (mR M).cells) (hs : us + N ≤ (mR M).slots)
    (kk : ∀ q : Nat, h q = none → AJ X M y cc nL rt (pc + 2) L (.ref q :: st) (kput h q (kL N (fun _ => 0))) (uc + 1) (us + N)) : AJ X M y cc nL rt pc L (.int x :: st) h uc us := by
  intro ok H locs ls hR hS hL
  obtain ⟨dom, hdm, hP, hD⟩ := id hR
  obtain ⟨h1, h2⟩ := cl_nI hx hN
  refine va_newa (atype := .long) (ty := .long) (N' := N) (a0 := (N, .inr (.inl (fun _ => 0)))) ok.1 ok.2.1 (ok.2.2.2.2.2.2.2.1 _ hq) rfl ok.2.2.2.2.2.2.2.2.1 hP hD hS ok.2.2.2.2.2.2.2.2.2.2 (fun cA => rfl) h1 h2 (by show N * 8 ≤ 536870912; omega) hc hs hd (fun q cA H1 hK1 hP1 hD1 hS1 => ?_)
  have e := k_cls (t := 1) rfl hK1
  subst e
  have hqn : h q = none := hdm.fresh hD1
  exact kk q hqn ok H1 locs ls (rep_new hdm hqn (e := kL N (fun _ => 0)) hP1 hD1) hS1 hL
theorem a_newZ {x : Int32} {N : Nat} (hq : Cond.arrayClass .boolean ∈ BIG) (hd : decode cc pc = .ok (.newarray .boolean, 2)) (hx : x = nI N) (hN : N ≤ 1000000) (hc : uc + 1 ≤ (mR M).cells) (hs : us + N ≤ (mR M).slots)
    (kk : ∀ q : Nat, h q = none → AJ X M y cc nL rt (pc + 2) L (.ref q :: st) (kput h q (kB N (fun _ => 0))) (uc + 1) (us + N)) : AJ X M y cc nL rt pc L (.int x :: st) h uc us := by
  intro ok H locs ls hR hS hL
  obtain ⟨dom, hdm, hP, hD⟩ := id hR
  obtain ⟨h1, h2⟩ := cl_nI hx hN
  refine va_newa (atype := .boolean) (ty := .boolean) (N' := N) (a0 := (N, .inl (fun _ => 0))) ok.1 ok.2.1 (ok.2.2.2.2.2.2.2.1 _ hq) rfl ok.2.2.2.2.2.2.2.2.1 hP hD hS ok.2.2.2.2.2.2.2.2.2.2 (fun cA => rfl) h1 h2 (by show N * 1 ≤ 536870912; omega) hc hs hd (fun q cA H1 hK1 hP1 hD1 hS1 => ?_)
  have e := k_cls (t := 4) rfl hK1
  subst e
  have hqn : h q = none := hdm.fresh hD1
  exact kk q hqn ok H1 locs ls (rep_new hdm hqn (e := kB N (fun _ => 0)) hP1 hD1) hS1 hL
theorem a_newQ {x : Int32} {N t idx : Nat} {C : String} (ht : ktyl[t]? = some (.object C)) (hC : C = "FiveCards$Sheet" ∨ C = "java/lang/Object") (hq : Cond.classLink y.cls idx C ∈ BIG) (hd : decode cc pc = .ok (.anewarray idx, 3)) (hx : x = nI N) (hN : N ≤ 1000000) (hc : uc + 1 ≤ (mR M).cells) (hs : us + N ≤ (mR M).slots)
    (kk : ∀ q : Nat, h q = none → AJ X M y cc nL rt (pc + 3) L (.ref q :: st) (kput h q (kQ t N (fun _ => none))) (uc + 1) (us + N)) : AJ X M y cc nL rt pc L (.int x :: st) h uc us := by
  intro ok H locs ls hR hS hL
  obtain ⟨dom, hdm, hP, hD⟩ := id hR
  obtain ⟨h1, h2⟩ := cl_nI hx hN
  have hE := ok.2.2.2.2.2.2.2.2.2.1
  have hAO : va_AO C (mS M) := by
    rcases hC with rfl | rfl
    · exact hE.2.2.2.2.2.2.2.2.2.2.2.2.2.1
    · exact hE.2.2.2.2.2.2.2.2.2.2.2.2.2.2.1
  refine va_newq (C := C) (N' := N) ok.1 ok.2.1 ok.2.2.2.2.2.2.1 (ok.2.2.2.2.2.2.2.1 _ hq) hAO ok.2.2.2.2.2.2.2.2.1 hP hD hS ok.2.2.2.2.2.2.2.2.2.2 h1 h2 (by omega) hc hs hd (fun q cA H1 hK1 hP1 hD1 hS1 => ?_)
  have e := k_cls ht hK1
  subst e
  have hqn : h q = none := hdm.fresh hD1
  exact kk q hqn ok H1 locs ls (rep_new hdm hqn (e := kQ t N (fun _ => none)) hP1 hD1) hS1 hL
def LkN (own : String) (idx ci N : Nat) (fs : List Value) : Prop := ∃ (C : String) (T : u_T) (ty0 : Nat → FieldType), kcl[ci]? = some (C, T, N) ∧ (∀ w ∈ u_ws C T N, w ∈ BIG) ∧ (∀ k, k < N → parseFieldDescriptor (T k).2.2.1 = some (ty0 k)) ∧ Cond.classLink own idx C ∈ BIG ∧ Cond.instantiable C N ∈ BIG ∧ Cond.initialized C ∈ BIG ∧ ∀ j, j < N → defaultValue (ty0 j) = vp_V fs j
theorem a_new {idx ci N : Nat} {fs : List Value} (lk : LkN y.cls idx ci N fs) (hd : decode cc pc = .ok (.new idx, 3)) (hc : uc + 1 ≤ (mR M).cells) (hs : us + N ≤ (mR M).slots)
    (kk : ∀ q : Nat, h q = none → AJ X M y cc nL rt (pc + 3) L (.ref q :: st) (kput h q (kO ci fs)) (uc + 1) (us + N)) : AJ X M y cc nL rt pc L st h uc us := by
  intro ok H locs ls hR hS hL
  obtain ⟨dom, hdm, hP, hD⟩ := id hR
  obtain ⟨C, T, ty0, h1, hin, hty, h2, h3, h4, h5⟩ := lk
  have hts := ok.2.2.2.2.2.2.2.1
  refine va_new (ci := ci) ok.1 ok.2.1 hts hin ty0 hty ok.2.2.2.2.2.2.1 (hts _ h2) (hts _ h3) (hts _ h4) ok.2.2.2.2.2.2.2.2.1 hP hD hS ok.2.2.2.2.2.2.2.2.2.2 h1 h5 hc hs hd (fun q H1 hP1 hD1 hS1 => ?_)
  have hqn : h q = none := hdm.fresh hD1
  exact kk q hqn ok H1 locs ls (rep_new hdm hqn (e := kO ci fs) hP1 hD1) hS1 hL
theorem a_cast {idx ci a : Nat} {C : String} {fs : List Value} (hq : Cond.classLink y.cls idx C ∈ BIG) (hc : (kcl[ci]?).map (fun q => q.1) = some C) (ha : h a = some (.inr (ci, fs))) (hd : decode cc pc = .ok (.checkcast idx, 3))
    (kk : AJ X M y cc nL rt (pc + 3) L (.ref a :: st) h uc us) : AJ X M y cc nL rt pc L (.ref a :: st) h uc us := by
  intro ok H locs ls hR hS hL
  obtain ⟨dom, hdm, hP, hD⟩ := id hR
  obtain ⟨q0, -, he⟩ := kws_at (X := X) hdm ha
  cases hk : kcl[ci]? with
  | none => rw [hk] at hc; cases hc
  | some r =>
    rw [hk] at hc
    cases hc
    exact va_castE ok.1 ok.2.1 ok.2.2.2.2.2.2.1 (ok.2.2.2.2.2.2.2.1 _ hq) (va_recv ok.2.2.2.2.2.2.2.2.1 hP hk he) hd (kk ok H locs ls hR hS hL)
theorem a_castN {idx : Nat} (hd : decode cc pc = .ok (.checkcast idx, 3)) (kk : AJ X M y cc nL rt (pc + 3) L (.null :: st) h uc us) : AJ X M y cc nL rt pc L (.null :: st) h uc us :=
  fun ok H locs ls hR hS hL => lv_castN ok.1 ok.2.1 hd (kk ok H locs ls hR hS hL)
/-- the name of an array class -/
theorem k_nm {s : State} {t : Nat} {ty : FieldType} {nm : String} (hK : va_K X.2.1 kcl (ktys X) s) (ht : ktyl[t]? = some ty) (hn : "[" ++ ty.toString = nm) : s.vm.findClass nm = some (X.2.2.1 t) := by
  have h2 := (hK.2 t (X.2.2.1 t, ty) (ktys_at ht)).2
  rw [← hn]
  cases ty with
  | object C =>
    obtain ⟨_, _, -, -, -, b⟩ := h2
    exact b
  | _ => exact h2
theorem a_castA {idx t a : Nat} {nm : String} {ty : FieldType} {x : vp_A} (hq : Cond.classLink y.cls idx nm ∈ BIG) (ht : ktyl[t]? = some ty) (hn : "[" ++ ty.toString = nm) (ha : h a = some (.inl (t, x))) (hd : decode cc pc = .ok (.checkcast idx, 3))
    (kk : AJ X M y cc nL rt (pc + 3) L (.ref a :: st) h uc us) : AJ X M y cc nL rt pc L (.ref a :: st) h uc us := by
  intro ok H locs ls hR hS hL
  obtain ⟨dom, hdm, hP, hD⟩ := id hR
  obtain ⟨q0, -, he⟩ := kws_at (X := X) hdm ha
  exact va_castA ok.1 ok.2.1 ok.2.2.2.2.2.2.1 (ok.2.2.2.2.2.2.2.1 _ hq) hP q0 he (k_nm ok.2.2.2.2.2.2.2.2.1 ht hn) hd (kk ok H locs ls hR hS hL)
theorem a_ret_i {d kc ks : Nat} {Post : Option Value → AH → Prop} {v : Int32} {ty : FieldType} (hM : MSp X M d kc ks Post) (hr : rt = some ty) (hn : narrow ty (.int v) = .int v) (hd : decode cc pc = .ok (.ireturn, 1)) (hc : uc ≤ kc) (hs : us ≤ ks) (hp : Post (some (.int v)) h) : AJ X M y cc nL rt pc L [.int v] h uc us := by
  intro ok H locs ls hR hS hL
  refine W.widen hc hs ?_
  rw [hM.2]
  exact W.zret ok.1 ok.2.1 (ok.2.2.2.1.trans hr) hn (fun t ht hW => ⟨⟨_, h, rfl, hp, by rw [ht]; exact hR⟩, hS.F ht⟩) hS.2.2 hd ok.2.2.2.2.1
theorem a_ret_l {d kc ks : Nat} {Post : Option Value → AH → Prop} {v : Int64} (hM : MSp X M d kc ks Post) (hr : rt = some .long) (hd : decode cc pc = .ok (.lreturn, 1)) (hc : uc ≤ kc) (hs : us ≤ ks) (hp : Post (some (.long v)) h) : AJ X M y cc nL rt pc L [.long v] h uc us := by
  intro ok H locs ls hR hS hL
  refine W.widen hc hs ?_
  rw [hM.2]
  exact W.lret ok.1 ok.2.1 (ok.2.2.2.1.trans hr) (fun t ht hW => ⟨⟨_, h, rfl, hp, by rw [ht]; exact hR⟩, hS.F ht⟩) hS.2.2 hd ok.2.2.2.2.1
theorem a_ret_v {d kc ks : Nat} {Post : Option Value → AH → Prop} (hM : MSp X M d kc ks Post) (hr : rt = none) (hd : decode cc pc = .ok (.return_, 1)) (hc : uc ≤ kc) (hs : us ≤ ks) (hp : Post none h) : AJ X M y cc nL rt pc L [] h uc us := by
  intro ok H locs ls hR hS hL
  refine W.widen hc hs ?_
  rw [hM.2]
  exact W.vret ok.1 ok.2.1 (ok.2.2.2.1.trans hr) (fun t ht hW => ⟨⟨_, h, rfl, hp, by rw [ht]; exact hR⟩, hS.F ht⟩) hS.2.2 hd ok.2.2.2.2.1
theorem a_ret_a {d kc ks : Nat} {Post : Option Value → AH → Prop} {v : Value} {ty : FieldType} (hM : MSp X M d kc ks Post) (hr : rt = some ty) (hrt : (∃ n, ty = .object n) ∨ ∃ t, ty = .array t) (hv : v = .null ∨ ∃ a, v = .ref a) (hd : decode cc pc = .ok (.areturn, 1)) (hc : uc ≤ kc) (hs : us ≤ ks) (hp : Post (some v) h) : AJ X M y cc nL rt pc L [v] h uc us := by
  intro ok H locs ls hR hS hL
  refine W.widen hc hs ?_
  rw [hM.2]
  exact W.aret ok.1 ok.2.1 (ok.2.2.2.1.trans hr) hrt hv (fun t ht hW => ⟨⟨_, h, rfl, hp, by rw [ht]; exact hR⟩, hS.F ht⟩) hS.2.2 hd ok.2.2.2.2.1
theorem fb_blind {dom : List Nat} {sz : Nat} {args : List Value} : FrameBlind (va_Pc args (fB X h dom sz)) := by
  intro a U g mk q
  obtain ⟨q0, q1, qP, qK, qD, qE⟩ := q
  exact ⟨q0, q1, qP, va_K.moved (u := U) (U := U.calling g mk a) (Vm.Alike.refl U.vm) qK, qD, efx_move (u := U) (U := U.calling g mk a) qE (State.WarmedH.refl U) (fun _ _ _ => rfl) (fun _ z => z)⟩
theorem a_in {dom : List Nat} {H : Heap} {locs : List Loc} (ok : MOk X M y cc nL rt) (hD : va_D (mA M) (kws X h dom)) (hS : va_S (mA M) (mS M).heap H locs) : ∀ q, va_A (kws X h dom) H.size q → mA M q := by
  intro q hq
  rcases hq with ⟨k, e, hk⟩ | hq
  · exact hD.2 k _ hk
  · exact ok.2.2.2.2.2.2.2.2.2.2 q (Nat.le_trans hS.1 hq)
theorem fb_of {dom : List Nat} {H : Heap} {locs : List Loc} (ok : MOk X M y cc nL rt) (hP : va_P X.2.1 kcl (kws X h dom) H) (hD : va_D (mA M) (kws X h dom)) (hS : va_S (mA M) (mS M).heap H locs) (U : State) (hU : U.heap = H) (hW : (mS M).WarmedH U.vm) : fB X h dom H.size U :=
  ⟨by rw [hU], by rw [hU]; exact hP, va_K.moved hW.alike ok.2.2.2.2.2.2.2.2.1, hD.weaken (fun _ _ _ _ => trivial), efx_move ok.2.2.2.2.2.2.2.2.2.1 hW (fun a h1 h2 => by rw [hU]; exact hS.2.1 a h1 h2) (a_in ok hD hS)⟩
theorem call_fin {Post : Option Value → AH → Prop} {stk : List Value} {kc' ks' : Nat} {dom : List Nat} {H : Heap} {locs : List Loc} {ls : Array Slot} (ok : MOk X M y cc nL rt) (hD : va_D (mA M) (kws X h dom)) (hS : va_S (mA M) (mS M).heap H locs) (hL : lv_has ls nL L)
    (hr : va_Run M.1 X.1 (mE M) (mR M) (mS M) (mI M) (mArgs M) (mBelow M) (mMeth M) (mC M) H locs uc us kc' ks' (F0 (mI M) pc ls stk) st (fQ X (va_A (kws X h dom) H.size) Post) (va_A (kws X h dom) H.size))
    (kk : ∀ (r : Option Value) (h' : AH), Post r h' → AJ X M y cc nL rt (pc + 3) L (r.toList ++ st) h' (uc + kc') (us + ks')) : WM X M H locs uc us (F0 (mI M) pc ls stk) := by
  have hA1 := a_in ok hD hS
  intro T hT XX
  obtain ⟨v, st₀, t, T', Lc, h0, X', hLc, e1, e2, ⟨⟨r, h', hv, hp, hR'⟩, hz, hk⟩, hst⟩ := hr T hT XX
  cases hv
  rw [h0] at hz hk
  obtain ⟨dom', hdm', hP', hD'⟩ := hR'
  obtain ⟨t2, a1, b1⟩ := kk _ h' hp ok T'.heap (locs ++ Lc) ls ⟨dom', hdm', by rw [e1]; exact hP', hD'.weaken (fun _ _ _ z => hA1 _ z)⟩
    ⟨Nat.le_trans hS.1 (by rw [e1]; exact hz), fun q h1 h2 => by rw [e1, hk q (Nat.lt_of_lt_of_le h1 hS.1) (fun z => h2 (hA1 q z))]; exact hS.2.1 q h1 h2, fun q hq => by
      rcases List.mem_append.mp hq with h | h
      · exact hS.2.2 q h
      · exact hA1 _ (hLc q h)⟩ hL T' rfl X'
  exact ⟨t2, hst t2 a1, b1⟩
theorem big_good {w : Cond} (hw : w ∈ BIG) : w ∈ BIG ∧ ((w.onTables && w.keeps) = true ∨ ∃ ty, w = .arrayClass ty) := ⟨hw, good_of_word (List.mem_filter.mp hw).2⟩
theorem big_code {y' : MethodName} {cc' : ByteArray} {nL' : Nat} {rt' : Option FieldType} (hq : Cond.code y' cc' nL' rt' ∈ BIG) : GoodIn BIG (Cond.code y' cc' nL' rt' :: BIG) := by
  intro w hw
  rcases List.mem_cons.mp hw with rfl | hw
  · exact big_good hq
  · exact big_good hw
def notMH (y : MethodName) : Prop := y.cls ≠ "java/lang/invoke/MethodHandle" ∧ y.cls ≠ "java/lang/invoke/VarHandle"
def LkV (own : String) (idx : Nat) (y : MethodName) (cc : ByteArray) (nL : Nat) (rt : Option FieldType) (n : Nat) : Prop := Cond.methodLink own idx y ∈ BIG ∧ Cond.instanceMethod y ∈ BIG ∧ Cond.selects y.cls y y ∈ BIG ∧ Cond.initialized y.cls ∈ BIG ∧ Cond.code y cc nL rt ∈ BIG ∧ notMH y ∧ (parseMethodDescriptor y.desc).map (fun d => d.parameters.length) = some n
def LkS (own : String) (idx : Nat) (y : MethodName) (cc : ByteArray) (nL : Nat) (rt : Option FieldType) (n : Nat) : Prop := (Cond.methodLink own idx y ∈ BIG ∨ (own, idx, y) ∈ k_nests) ∧ Cond.static y ∈ BIG ∧ Cond.initialized y.cls ∈ BIG ∧ Cond.code y cc nL rt ∈ BIG ∧ notMH y ∧ (parseMethodDescriptor y.desc).map (fun d => d.parameters.length) = some n
def LkI (own : String) (idx : Nat) (y : MethodName) (cc : ByteArray) (nL : Nat) (n : Nat) : Prop := (Cond.methodLink own idx y ∈ BIG ∨ (own, idx, y) ∈ k_nests) ∧ Cond.instanceMethod y ∈ BIG ∧ Cond.initialized y.cls ∈ BIG ∧ Cond.code y cc nL none ∈ BIG ∧ y.name = "<init>" ∧ notMH y ∧ (parseMethodDescriptor y.desc).map (fun d => d.parameters.length) = some n
def KRecv (X : KX) (M : MX) (h : AH) (C : String) (b : Nat) : Prop := va_K X.2.1 kcl (ktys X) (mS M) → EFX X (mA M) (mS M) → ∀ (H : Heap) (locs : List Loc), Rep X (mA M) h H → va_S (mA M) (mS M).heap H locs → ∃ cellB : Cell, H[b]? = some cellB ∧ cellB.vm.isStatics = false ∧ (mS M).vm.findClass C = some cellB.cls
theorem krecv_of {b ci : Nat} {fs : List Value} {C : String} (hc : (kcl[ci]?).map (fun q => q.1) = some C) (hb : h b = some (.inr (ci, fs))) : KRecv X M h C b := by
  intro hK _ H locs hR _
  obtain ⟨dom, hdm, hP, hD⟩ := hR
  obtain ⟨q0, -, he⟩ := kws_at (X := X) hdm hb
  cases hk : kcl[ci]? with
  | none => rw [hk] at hc; cases hc
  | some r =>
    rw [hk] at hc
    cases hc
    exact va_recv hK hP hk he
theorem krecv_str {i : Nat} (hi : i < 13) : KRecv X M h "java/lang/String" (X.2.2.2.1 (10 + i)) := by
  intro _ hE H locs _ hS
  exact vk_recv (adK := fun i => X.2.2.2.1 (10 + i)) hE.2.2.2.2.2.2.2.2.1 hi hS
def Rok (M : MX) (d' nL' c s : Nat) : Prop := d' + 1 ≤ (mR M).frames ∧ 8 + (nL' + 11) + 40 * d' ≤ (mR M).locals ∧ c ≤ (mR M).cells ∧ s ≤ (mR M).slots
theorem rok_of {d kc ks d' nL' c s : Nat} {Post : Option Value → AH → Prop} (hM : MSp X M d kc ks Post) (h1 : d' + 1 ≤ d) (h2 : nL' ≤ 21) (h3 : c ≤ kc) (h4 : s ≤ ks) : Rok M d' nL' c s := by
  unfold Rok
  rw [hM.1]
  exact ⟨h1, by show 8 + (nL' + 11) + 40 * d' ≤ 40 * d; omega, h3, h4⟩
theorem a_callV {idx b n d' kc' ks' : Nat} {y' : MethodName} {cc' : ByteArray} {nL' : Nat} {rt' : Option FieldType} {As stk : List Value} {Post : Option Value → AH → Prop} (lk : LkV y.cls idx y' cc' nL' rt' n) (hd : decode cc pc = .ok (.invokevirtual idx, 3)) (hf : Fn X d' kc' ks' y' cc' nL' rt' (.ref b :: As) h Post) (hst : stk = As.reverse ++ .ref b :: st) (hn : As.length = n) (hb : KRecv X M h y'.cls b) (hr : Rok M d' nL' (uc + kc') (us + ks')) (hw : (st.map fun v => v.category).sum ≤ 8)
    (kk : ∀ (r : Option Value) (h' : AH), Post r h' → AJ X M y cc nL rt (pc + 3) L (r.toList ++ st) h' (uc + kc') (us + ks')) : AJ X M y cc nL rt pc L stk h uc us := by
  intro ok H locs ls hR hS hL
  obtain ⟨dom, hdm, hP, hD⟩ := id hR
  obtain ⟨l1, l2, l3, l4, l5, l6, l7⟩ := lk
  have hts := ok.2.2.2.2.2.2.2.1
  have hG : GoodIn BIG (wsV y.cls idx y'.cls y' (Cond.code y' cc' nL' rt' :: BIG)) := by
    intro w hw
    rcases List.mem_append.mp hw with hw | hw
    · simp only [List.mem_cons, List.not_mem_nil, or_false] at hw
      rcases hw with rfl | rfl | rfl | rfl
      · exact big_good l1
      · exact big_good l2
      · exact big_good l3
      · exact big_good l4
    · exact big_code l5 w hw
  exact call_fin ok hD hS hL (va_runV (As := As) (rest := st) (Ts := BIG) ⟨ok.1, ok.2.1, ok.2.2.1, ok.2.2.2.2.2.2.1, hts⟩ (hf dom H.size hdm) (cwV n hts hG rfl rfl rfl ⟨rfl, l6.1, l6.2, l7⟩ ⟨hr.1, hr.2.1⟩)
    ⟨fb_blind, hb ok.2.2.2.2.2.2.2.2.1 ok.2.2.2.2.2.2.2.2.2.1 H locs hR hS, fun U hU hW => ⟨rfl, fb_of ok hP hD hS U hU hW⟩⟩ rfl hn hL.1 hst (lv_room hw) hd ⟨hr.2.2.1, hr.2.2.2⟩) kk
theorem a_callS {idx n d' kc' ks' : Nat} {y' : MethodName} {cc' : ByteArray} {nL' : Nat} {rt' : Option FieldType} {As stk : List Value} {Post : Option Value → AH → Prop} (lk : LkS y.cls idx y' cc' nL' rt' n) (hd : decode cc pc = .ok (.invokestatic idx, 3)) (hf : Fn X d' kc' ks' y' cc' nL' rt' As h Post) (hst : stk = As.reverse ++ st) (hn : As.length = n) (hr : Rok M d' nL' (uc + kc') (us + ks')) (hw : (st.map fun v => v.category).sum ≤ 8)
    (kk : ∀ (r : Option Value) (h' : AH), Post r h' → AJ X M y cc nL rt (pc + 3) L (r.toList ++ st) h' (uc + kc') (us + ks')) : AJ X M y cc nL rt pc L stk h uc us := by
  intro ok H locs ls hR hS hL
  obtain ⟨dom, hdm, hP, hD⟩ := id hR
  obtain ⟨l1, l2, l4, l5, l6, l7⟩ := lk
  have hts := ok.2.2.2.2.2.2.2.1
  rcases l1 with l1 | l1
  · have hG : GoodIn BIG (va_wsS y.cls idx y' (Cond.code y' cc' nL' rt' :: BIG)) := by
      intro w hw
      rcases List.mem_append.mp hw with hw | hw
      · simp only [List.mem_cons, List.not_mem_nil, or_false] at hw
        rcases hw with rfl | rfl | rfl
        · exact big_good l1
        · exact big_good l2
        · exact big_good l4
      · exact big_code l5 w hw
    exact call_fin ok hD hS hL (va_runS (As := As) (rest := st) (Ts := BIG) ⟨ok.1, ok.2.1, ok.2.2.1, ok.2.2.2.2.2.2.1, hts⟩ (hf dom H.size hdm) (va_cwS n hts hG rfl rfl rfl ⟨l6.1, l6.2, l7⟩ ⟨hr.1, hr.2.1⟩)
      ⟨fb_blind, fun U hU hW => ⟨rfl, fb_of ok hP hD hS U hU hW⟩⟩ rfl hn hL.1 hst (lv_room hw) hd ⟨hr.2.2.1, hr.2.2.2⟩) kk
  · have hnw := ok.2.2.2.2.2.2.2.2.2.1.2.2.2.2.2.2.2.2.2.2.1 _ l1
    exact call_fin ok hD hS hL (va_runSN (As := As) (rest := st) (Ts := BIG) ⟨ok.1, ok.2.1, ok.2.2.1, ok.2.2.2.2.2.2.1, hts⟩ (hf dom H.size hdm) ⟨va_cnB n hts (big_code l5) rfl rfl rfl hnw (hts _ l4) ⟨l6.1, l6.2, l7⟩ ⟨hr.1, hr.2.1⟩, hts _ l2, trivial⟩
      ⟨fb_blind, fun U hU hW => ⟨rfl, fb_of ok hP hD hS U hU hW⟩⟩ rfl hn hL.1 hst (lv_room hw) hd ⟨hr.2.2.1, hr.2.2.2⟩) kk
theorem a_callI {idx b n d' kc' ks' : Nat} {y' : MethodName} {cc' : ByteArray} {nL' : Nat} {As stk : List Value} {Post : Option Value → AH → Prop} (lk : LkI y.cls idx y' cc' nL' n) (hd : decode cc pc = .ok (.invokespecial idx, 3)) (hf : Fn X d' kc' ks' y' cc' nL' none (.ref b :: As) h Post) (hst : stk = As.reverse ++ .ref b :: st) (hn : As.length = n) (hr : Rok M d' nL' (uc + kc') (us + ks')) (hw : (st.map fun v => v.category).sum ≤ 8)
    (kk : ∀ (r : Option Value) (h' : AH), Post r h' → AJ X M y cc nL rt (pc + 3) L (r.toList ++ st) h' (uc + kc') (us + ks')) : AJ X M y cc nL rt pc L stk h uc us := by
  intro ok H locs ls hR hS hL
  obtain ⟨dom, hdm, hP, hD⟩ := id hR
  obtain ⟨l1, l2, l4, l5, l0, l6, l7⟩ := lk
  have hts := ok.2.2.2.2.2.2.2.1
  rcases l1 with l1 | l1
  · exact call_fin ok hD hS hL (va_runI (As := As) (rest := st) (Ts := BIG) ⟨ok.1, ok.2.1, ok.2.2.1, ok.2.2.2.2.2.2.1, hts⟩ (hf dom H.size hdm) (cwI n hts (big_code l5) rfl rfl rfl (hts _ l4) (hts _ l1) (hts _ l2) l0 ⟨l6.1, l6.2, l7⟩ ⟨hr.1, hr.2.1⟩)
      ⟨fb_blind, fun U hU hW => ⟨rfl, fb_of ok hP hD hS U hU hW⟩⟩ rfl hn hL.1 hst (lv_room hw) hd ⟨hr.2.2.1, hr.2.2.2⟩) kk
  · have hnw := ok.2.2.2.2.2.2.2.2.2.1.2.2.2.2.2.2.2.2.2.2.1 _ l1
    exact call_fin ok hD hS hL (va_runIN (As := As) (rest := st) (Ts := BIG) ⟨ok.1, ok.2.1, ok.2.2.1, ok.2.2.2.2.2.2.1, hts⟩ (hf dom H.size hdm) ⟨va_cnB n hts (big_code l5) rfl rfl rfl hnw (hts _ l4) ⟨l6.1, l6.2, l7⟩ ⟨hr.1, hr.2.1⟩, l0, hts _ l2⟩
      ⟨fb_blind, fun U hU hW => ⟨rfl, fb_of ok hP hD hS U hU hW⟩⟩ rfl hn hL.1 hst (lv_room hw) hd ⟨hr.2.2.1, hr.2.2.2⟩) kk
theorem a_objInit {idx b : Nat} (hq : Cond.methodLink y.cls idx objectInit ∈ BIG) (hq2 : Cond.instanceMethod objectInit ∈ BIG) (hq3 : Cond.code objectInit ⟨#[0xb1]⟩ 1 none ∈ BIG) (hd : decode cc pc = .ok (.invokespecial idx, 3)) (h1 : 1 ≤ (mR M).frames) (h2 : (st.map fun v => v.category).sum + 12 ≤ (mR M).locals)
    (kk : AJ X M y cc nL rt (pc + 3) L st h uc us) : AJ X M y cc nL rt pc L (.ref b :: st) h uc us := by
  intro ok H locs ls hR hS hL
  have hts := ok.2.2.2.2.2.2.2.1
  exact W.objInit ok.1 ok.2.1 ok.2.2.2.2.2.2.1 (hts _ hq) (hts _ hq2) (hts _ hq3) rfl (by rw [ok.2.2.1]; exact hL.1) rfl hd h1 (by show 2 * 0 + _ + 12 ≤ _; omega) (kk ok H locs ls hR hS hL)
end LAY
end
section
/-! LINKS: what the instructions link, out of the tables, by their places -/
theorem bw_X0 : ∀ w ∈ u_ws RX0 TX0 2, w ∈ BIG := big_ws [818, 820] (by decide +kernel) (by decide +kernel)
theorem bw_X1 : ∀ w ∈ u_ws RX1 TX1 5, w ∈ BIG := big_ws [721, 723, 725, 727, 729] (by decide +kernel) (by decide +kernel)
theorem bw_X2 : ∀ w ∈ u_ws RX2 TX2 1, w ∈ BIG := big_ws [137] (by decide +kernel) (by decide +kernel)
theorem bw_X3 : ∀ w ∈ u_ws RX3 TX3 2, w ∈ BIG := big_ws [473, 475] (by decide +kernel) (by decide +kernel)
theorem bw_X4 : ∀ w ∈ u_ws RX4 TX4 7, w ∈ BIG := big_ws [115, 117, 119, 121, 123, 125, 127] (by decide +kernel) (by decide +kernel)
theorem bw_X5 : ∀ w ∈ u_ws RX5 TX5 14, w ∈ BIG := big_ws [529, 531, 533, 535, 537, 539, 541, 543, 545, 547, 549, 551, 553, 555] (by decide +kernel) (by decide +kernel)
theorem bw_X6 : ∀ w ∈ u_ws RX6 TX6 2, w ∈ BIG := big_ws [767, 769] (by decide +kernel) (by decide +kernel)
theorem bw_X7 : ∀ w ∈ u_ws RX7 TX7 3, w ∈ BIG := big_ws [154, 156, 158] (by decide +kernel) (by decide +kernel)
theorem bw_X8 : ∀ w ∈ u_ws RX8 TX8 2, w ∈ BIG := big_ws [73, 75] (by decide +kernel) (by decide +kernel)
theorem bw_X9 : ∀ w ∈ u_ws RX9 TX9 3, w ∈ BIG := big_ws [348, 350, 352] (by decide +kernel) (by decide +kernel)
theorem bw_X10 : ∀ w ∈ u_ws RX10 TX10 4, w ∈ BIG := big_ws [99, 101, 103, 105] (by decide +kernel) (by decide +kernel)
theorem bw_X11 : ∀ w ∈ u_ws RX11 TX11 14, w ∈ BIG := big_ws [423, 425, 427, 429, 431, 433, 435, 437, 439, 441, 443, 445, 447, 449] (by decide +kernel) (by decide +kernel)
theorem bw_X12 : ∀ w ∈ u_ws RX12 TX12 65, w ∈ BIG := big_ws [1015, 1017, 1019, 1021, 1023, 1025, 1027, 1029, 1031, 1033, 1035, 1037, 1039, 1041, 1043, 1045, 1047, 1049, 1051, 1053, 1055, 1057, 1059, 1061, 1063, 1065, 1067, 1069, 1071, 1073, 1075, 1077, 1079, 1081, 1083, 1085, 1087, 1089, 1091, 1093, 1095, 1097, 1099, 1101, 1103, 1105, 1107, 1109, 1111, 1113, 1115, 1117, 1119, 1121, 1123, 1125, 1127, 1129, 1131, 1133, 1135, 1137, 1139, 1141, 1143] (by decide +kernel) (by decide +kernel)
theorem bw_Jx4a65c : ∀ w ∈ u_ws RJx4a65c TJx4a65c 3, w ∈ BIG := big_ws [57, 53, 55] (by decide +kernel) (by decide +kernel)
theorem kv_X11_init : Cond.instanceMethod yX11_init ∈ BIG ∧ Cond.initialized yX11_init.cls ∈ BIG ∧ Cond.code yX11_init cX11_init 2 none ∈ BIG ∧ yX11_init.name = "<init>" ∧ notMH yX11_init ∧ (parseMethodDescriptor yX11_init.desc).map (fun d => d.parameters.length) = some 0 := ⟨big_of 29 (by decide +kernel) rfl, big_of 1 (by decide +kernel) rfl, big_of 30 (by decide +kernel) rfl, rfl, ⟨by decide +kernel, by decide +kernel⟩, by decide +kernel⟩
theorem km_L_9 : LkI RL 9 yX11_init cX11_init 2 0 := ⟨Or.inl (big_of 28 (by decide +kernel) rfl), kv_X11_init⟩
theorem kv_Jx4a65c_init_da8c8 : Cond.instanceMethod yJx4a65c_init_da8c8 ∈ BIG ∧ Cond.initialized yJx4a65c_init_da8c8.cls ∈ BIG ∧ Cond.code yJx4a65c_init_da8c8 cJx4a65c_init_da8c8 1 none ∈ BIG ∧ yJx4a65c_init_da8c8.name = "<init>" ∧ notMH yJx4a65c_init_da8c8 ∧ (parseMethodDescriptor yJx4a65c_init_da8c8.desc).map (fun d => d.parameters.length) = some 0 := ⟨big_of 37 (by decide +kernel) rfl, big_of 4 (by decide +kernel) rfl, big_of 38 (by decide +kernel) rfl, rfl, ⟨by decide +kernel, by decide +kernel⟩, by decide +kernel⟩
theorem km_X11_9 : LkI RX11 9 yJx4a65c_init_da8c8 cJx4a65c_init_da8c8 1 0 := ⟨Or.inl (big_of 36 (by decide +kernel) rfl), kv_Jx4a65c_init_da8c8⟩
theorem kv_Jxc12de_init_da8c8 : Cond.instanceMethod yJxc12de_init_da8c8 ∈ BIG ∧ Cond.initialized yJxc12de_init_da8c8.cls ∈ BIG ∧ Cond.code yJxc12de_init_da8c8 cJxc12de_init_da8c8 1 none ∈ BIG ∧ yJxc12de_init_da8c8.name = "<init>" ∧ notMH yJxc12de_init_da8c8 ∧ (parseMethodDescriptor yJxc12de_init_da8c8.desc).map (fun d => d.parameters.length) = some 0 := ⟨big_of 40 (by decide +kernel) rfl, big_of 3 (by decide +kernel) rfl, big_of 41 (by decide +kernel) rfl, rfl, ⟨by decide +kernel, by decide +kernel⟩, by decide +kernel⟩
theorem km_Jx4a65c_1 : LkI RJx4a65c 1 yJxc12de_init_da8c8 cJxc12de_init_da8c8 1 0 := ⟨Or.inl (big_of 39 (by decide +kernel) rfl), kv_Jxc12de_init_da8c8⟩
theorem kv_Jxa1e45_init_da8c8 : Cond.instanceMethod yJxa1e45_init_da8c8 ∈ BIG ∧ Cond.initialized yJxa1e45_init_da8c8.cls ∈ BIG ∧ Cond.code yJxa1e45_init_da8c8 cJxa1e45_init_da8c8 1 none ∈ BIG ∧ yJxa1e45_init_da8c8.name = "<init>" ∧ notMH yJxa1e45_init_da8c8 ∧ (parseMethodDescriptor yJxa1e45_init_da8c8.desc).map (fun d => d.parameters.length) = some 0 := ⟨big_of 43 (by decide +kernel) rfl, big_of 2 (by decide +kernel) rfl, big_of 44 (by decide +kernel) rfl, rfl, ⟨by decide +kernel, by decide +kernel⟩, by decide +kernel⟩
theorem km_Jxc12de_1 : LkI RJxc12de 1 yJxa1e45_init_da8c8 cJxa1e45_init_da8c8 1 0 := ⟨Or.inl (big_of 42 (by decide +kernel) rfl), kv_Jxa1e45_init_da8c8⟩
theorem kv_J0_length_8abf5 : Cond.instanceMethod yJ0_length_8abf5 ∈ BIG ∧ Cond.selects yJ0_length_8abf5.cls yJ0_length_8abf5 yJ0_length_8abf5 ∈ BIG ∧ Cond.initialized yJ0_length_8abf5.cls ∈ BIG ∧ Cond.code yJ0_length_8abf5 cJ0_length_8abf5 1 (some .int) ∈ BIG ∧ notMH yJ0_length_8abf5 ∧ (parseMethodDescriptor yJ0_length_8abf5.desc).map (fun d => d.parameters.length) = some 0 := ⟨big_of 163 (by decide +kernel) rfl, big_of 164 (by decide +kernel) rfl, big_of 10 (by decide +kernel) rfl, big_of 165 (by decide +kernel) rfl, ⟨by decide +kernel, by decide +kernel⟩, by decide +kernel⟩
theorem km_X11_68 : LkV RX11 68 yJ0_length_8abf5 cJ0_length_8abf5 1 (some .int) 0 := ⟨big_of 162 (by decide +kernel) rfl, kv_J0_length_8abf5⟩
theorem kv_J0_coder_7d493 : Cond.instanceMethod yJ0_coder_7d493 ∈ BIG ∧ Cond.selects yJ0_coder_7d493.cls yJ0_coder_7d493 yJ0_coder_7d493 ∈ BIG ∧ Cond.initialized yJ0_coder_7d493.cls ∈ BIG ∧ Cond.code yJ0_coder_7d493 cJ0_coder_7d493 1 (some .byte) ∈ BIG ∧ notMH yJ0_coder_7d493 ∧ (parseMethodDescriptor yJ0_coder_7d493.desc).map (fun d => d.parameters.length) = some 0 := ⟨big_of 167 (by decide +kernel) rfl, big_of 168 (by decide +kernel) rfl, big_of 10 (by decide +kernel) rfl, big_of 169 (by decide +kernel) rfl, ⟨by decide +kernel, by decide +kernel⟩, by decide +kernel⟩
theorem km_J0_335 : LkV RJ0 335 yJ0_coder_7d493 cJ0_coder_7d493 1 (some .byte) 0 := ⟨big_of 166 (by decide +kernel) rfl, kv_J0_coder_7d493⟩
theorem kv_J0_charAt_5068e : Cond.instanceMethod yJ0_charAt_5068e ∈ BIG ∧ Cond.selects yJ0_charAt_5068e.cls yJ0_charAt_5068e yJ0_charAt_5068e ∈ BIG ∧ Cond.initialized yJ0_charAt_5068e.cls ∈ BIG ∧ Cond.code yJ0_charAt_5068e cJ0_charAt_5068e 2 (some .char) ∈ BIG ∧ notMH yJ0_charAt_5068e ∧ (parseMethodDescriptor yJ0_charAt_5068e.desc).map (fun d => d.parameters.length) = some 1 := ⟨big_of 173 (by decide +kernel) rfl, big_of 174 (by decide +kernel) rfl, big_of 10 (by decide +kernel) rfl, big_of 175 (by decide +kernel) rfl, ⟨by decide +kernel, by decide +kernel⟩, by decide +kernel⟩
theorem km_X11_74 : LkV RX11 74 yJ0_charAt_5068e cJ0_charAt_5068e 2 (some .char) 1 := ⟨big_of 172 (by decide +kernel) rfl, kv_J0_charAt_5068e⟩
theorem kv_J0_isLatin1_aae02 : Cond.instanceMethod yJ0_isLatin1_aae02 ∈ BIG ∧ Cond.selects yJ0_isLatin1_aae02.cls yJ0_isLatin1_aae02 yJ0_isLatin1_aae02 ∈ BIG ∧ Cond.initialized yJ0_isLatin1_aae02.cls ∈ BIG ∧ Cond.code yJ0_isLatin1_aae02 cJ0_isLatin1_aae02 1 (some .boolean) ∈ BIG ∧ notMH yJ0_isLatin1_aae02 ∧ (parseMethodDescriptor yJ0_isLatin1_aae02.desc).map (fun d => d.parameters.length) = some 0 := ⟨big_of 177 (by decide +kernel) rfl, big_of 178 (by decide +kernel) rfl, big_of 10 (by decide +kernel) rfl, big_of 179 (by decide +kernel) rfl, ⟨by decide +kernel, by decide +kernel⟩, by decide +kernel⟩
theorem km_J0_492 : LkV RJ0 492 yJ0_isLatin1_aae02 cJ0_isLatin1_aae02 1 (some .boolean) 0 := ⟨big_of 176 (by decide +kernel) rfl, kv_J0_isLatin1_aae02⟩
theorem kv_J1_charAt_3b067 : Cond.static yJ1_charAt_3b067 ∈ BIG ∧ Cond.initialized yJ1_charAt_3b067.cls ∈ BIG ∧ Cond.code yJ1_charAt_3b067 cJ1_charAt_3b067 2 (some .char) ∈ BIG ∧ notMH yJ1_charAt_3b067 ∧ (parseMethodDescriptor yJ1_charAt_3b067.desc).map (fun d => d.parameters.length) = some 2 := ⟨big_of 181 (by decide +kernel) rfl, big_of 11 (by decide +kernel) rfl, big_of 182 (by decide +kernel) rfl, ⟨by decide +kernel, by decide +kernel⟩, by decide +kernel⟩
theorem km_J0_495 : LkS RJ0 495 yJ1_charAt_3b067 cJ1_charAt_3b067 2 (some .char) 2 := ⟨Or.inl (big_of 180 (by decide +kernel) rfl), kv_J1_charAt_3b067⟩
theorem kv_J0_checkIndex_df160 : Cond.static yJ0_checkIndex_df160 ∈ BIG ∧ Cond.initialized yJ0_checkIndex_df160.cls ∈ BIG ∧ Cond.code yJ0_checkIndex_df160 cJ0_checkIndex_df160 2 none ∈ BIG ∧ notMH yJ0_checkIndex_df160 ∧ (parseMethodDescriptor yJ0_checkIndex_df160.desc).map (fun d => d.parameters.length) = some 2 := ⟨big_of 184 (by decide +kernel) rfl, big_of 10 (by decide +kernel) rfl, big_of 185 (by decide +kernel) rfl, ⟨by decide +kernel, by decide +kernel⟩, by decide +kernel⟩
theorem km_J1_9 : LkS RJ1 9 yJ0_checkIndex_df160 cJ0_checkIndex_df160 2 none 2 := ⟨Or.inl (big_of 183 (by decide +kernel) rfl), kv_J0_checkIndex_df160⟩
theorem kv_J3_checkIndex_8e157 : Cond.static yJ3_checkIndex_8e157 ∈ BIG ∧ Cond.initialized yJ3_checkIndex_8e157.cls ∈ BIG ∧ Cond.code yJ3_checkIndex_8e157 cJ3_checkIndex_8e157 3 (some .int) ∈ BIG ∧ notMH yJ3_checkIndex_8e157 ∧ (parseMethodDescriptor yJ3_checkIndex_8e157.desc).map (fun d => d.parameters.length) = some 3 := ⟨big_of 189 (by decide +kernel) rfl, big_of 12 (by decide +kernel) rfl, big_of 190 (by decide +kernel) rfl, ⟨by decide +kernel, by decide +kernel⟩, by decide +kernel⟩
theorem km_J0_1059 : LkS RJ0 1059 yJ3_checkIndex_8e157 cJ3_checkIndex_8e157 3 (some .int) 3 := ⟨Or.inl (big_of 188 (by decide +kernel) rfl), kv_J3_checkIndex_8e157⟩
theorem kv_J2_charAt_3b067 : Cond.static yJ2_charAt_3b067 ∈ BIG ∧ Cond.initialized yJ2_charAt_3b067.cls ∈ BIG ∧ Cond.code yJ2_charAt_3b067 cJ2_charAt_3b067 2 (some .char) ∈ BIG ∧ notMH yJ2_charAt_3b067 ∧ (parseMethodDescriptor yJ2_charAt_3b067.desc).map (fun d => d.parameters.length) = some 2 := ⟨big_of 192 (by decide +kernel) rfl, big_of 13 (by decide +kernel) rfl, big_of 193 (by decide +kernel) rfl, ⟨by decide +kernel, by decide +kernel⟩, by decide +kernel⟩
theorem km_J0_498 : LkS RJ0 498 yJ2_charAt_3b067 cJ2_charAt_3b067 2 (some .char) 2 := ⟨Or.inl (big_of 191 (by decide +kernel) rfl), kv_J2_charAt_3b067⟩
theorem kv_J2_checkIndex_2214a : Cond.static yJ2_checkIndex_2214a ∈ BIG ∧ Cond.initialized yJ2_checkIndex_2214a.cls ∈ BIG ∧ Cond.code yJ2_checkIndex_2214a cJ2_checkIndex_2214a 2 none ∈ BIG ∧ notMH yJ2_checkIndex_2214a ∧ (parseMethodDescriptor yJ2_checkIndex_2214a.desc).map (fun d => d.parameters.length) = some 2 := ⟨big_of 195 (by decide +kernel) rfl, big_of 13 (by decide +kernel) rfl, big_of 196 (by decide +kernel) rfl, ⟨by decide +kernel, by decide +kernel⟩, by decide +kernel⟩
theorem km_J2_67 : LkS RJ2 67 yJ2_checkIndex_2214a cJ2_checkIndex_2214a 2 none 2 := ⟨Or.inl (big_of 194 (by decide +kernel) rfl), kv_J2_checkIndex_2214a⟩
theorem kv_J2_length_9d52b : Cond.static yJ2_length_9d52b ∈ BIG ∧ Cond.initialized yJ2_length_9d52b.cls ∈ BIG ∧ Cond.code yJ2_length_9d52b cJ2_length_9d52b 1 (some .int) ∈ BIG ∧ notMH yJ2_length_9d52b ∧ (parseMethodDescriptor yJ2_length_9d52b.desc).map (fun d => d.parameters.length) = some 1 := ⟨big_of 198 (by decide +kernel) rfl, big_of 13 (by decide +kernel) rfl, big_of 199 (by decide +kernel) rfl, ⟨by decide +kernel, by decide +kernel⟩, by decide +kernel⟩
theorem km_J2_48 : LkS RJ2 48 yJ2_length_9d52b cJ2_length_9d52b 1 (some .int) 1 := ⟨Or.inl (big_of 197 (by decide +kernel) rfl), kv_J2_length_9d52b⟩
theorem km_J2_414 : LkS RJ2 414 yJ0_checkIndex_df160 cJ0_checkIndex_df160 2 none 2 := ⟨Or.inl (big_of 200 (by decide +kernel) rfl), kv_J0_checkIndex_df160⟩
theorem kv_J2_getChar_3b067 : Cond.static yJ2_getChar_3b067 ∈ BIG ∧ Cond.initialized yJ2_getChar_3b067.cls ∈ BIG ∧ Cond.code yJ2_getChar_3b067 cJ2_getChar_3b067 2 (some .char) ∈ BIG ∧ notMH yJ2_getChar_3b067 ∧ (parseMethodDescriptor yJ2_getChar_3b067.desc).map (fun d => d.parameters.length) = some 2 := ⟨big_of 202 (by decide +kernel) rfl, big_of 13 (by decide +kernel) rfl, big_of 203 (by decide +kernel) rfl, ⟨by decide +kernel, by decide +kernel⟩, by decide +kernel⟩
theorem km_J2_71 : LkS RJ2 71 yJ2_getChar_3b067 cJ2_getChar_3b067 2 (some .char) 2 := ⟨Or.inl (big_of 201 (by decide +kernel) rfl), kv_J2_getChar_3b067⟩
theorem kv_X8_add : Cond.instanceMethod yX8_add ∈ BIG ∧ Cond.selects yX8_add.cls yX8_add yX8_add ∈ BIG ∧ Cond.initialized yX8_add.cls ∈ BIG ∧ Cond.code yX8_add cX8_add 2 none ∈ BIG ∧ notMH yX8_add ∧ (parseMethodDescriptor yX8_add.desc).map (fun d => d.parameters.length) = some 1 := ⟨big_of 211 (by decide +kernel) rfl, big_of 212 (by decide +kernel) rfl, big_of 5 (by decide +kernel) rfl, big_of 213 (by decide +kernel) rfl, ⟨by decide +kernel, by decide +kernel⟩, by decide +kernel⟩
theorem km_X11_78 : LkV RX11 78 yX8_add cX8_add 2 none 1 := ⟨big_of 210 (by decide +kernel) rfl, kv_X8_add⟩
theorem kv_X11_readTape : Cond.instanceMethod yX11_readTape ∈ BIG ∧ Cond.selects yX11_readTape.cls yX11_readTape yX11_readTape ∈ BIG ∧ Cond.initialized yX11_readTape.cls ∈ BIG ∧ Cond.code yX11_readTape cX11_readTape 2 (some .int) ∈ BIG ∧ notMH yX11_readTape ∧ (parseMethodDescriptor yX11_readTape.desc).map (fun d => d.parameters.length) = some 0 := ⟨big_of 216 (by decide +kernel) rfl, big_sel (q := (yX11_readTape, 14)) 0 (by decide +kernel), big_of 1 (by decide +kernel) rfl, big_of 217 (by decide +kernel) rfl, ⟨by decide +kernel, by decide +kernel⟩, by decide +kernel⟩
theorem km_X11_82 : LkV RX11 82 yX11_readTape cX11_readTape 2 (some .int) 0 := ⟨big_of 214 (by decide +kernel) rfl, kv_X11_readTape⟩
theorem kv_X4_read : Cond.instanceMethod yX4_read ∈ BIG ∧ Cond.selects yX4_read.cls yX4_read yX4_read ∈ BIG ∧ Cond.initialized yX4_read.cls ∈ BIG ∧ Cond.code yX4_read cX4_read 3 (some .int) ∈ BIG ∧ notMH yX4_read ∧ (parseMethodDescriptor yX4_read.desc).map (fun d => d.parameters.length) = some 1 := ⟨big_of 219 (by decide +kernel) rfl, big_of 220 (by decide +kernel) rfl, big_of 6 (by decide +kernel) rfl, big_of 221 (by decide +kernel) rfl, ⟨by decide +kernel, by decide +kernel⟩, by decide +kernel⟩
theorem km_X11_311 : LkV RX11 311 yX4_read cX4_read 3 (some .int) 1 := ⟨big_of 218 (by decide +kernel) rfl, kv_X4_read⟩
theorem kv_X10_cutTape : Cond.instanceMethod yX10_cutTape ∈ BIG ∧ Cond.selects yX10_cutTape.cls yX10_cutTape yX10_cutTape ∈ BIG ∧ Cond.initialized yX10_cutTape.cls ∈ BIG ∧ Cond.code yX10_cutTape cX10_cutTape 5 none ∈ BIG ∧ notMH yX10_cutTape ∧ (parseMethodDescriptor yX10_cutTape.desc).map (fun d => d.parameters.length) = some 1 := ⟨big_of 223 (by decide +kernel) rfl, big_of 224 (by decide +kernel) rfl, big_of 7 (by decide +kernel) rfl, big_of 225 (by decide +kernel) rfl, ⟨by decide +kernel, by decide +kernel⟩, by decide +kernel⟩
theorem km_X4_27 : LkV RX4 27 yX10_cutTape cX10_cutTape 5 none 1 := ⟨big_of 222 (by decide +kernel) rfl, kv_X10_cutTape⟩
theorem kv_X8_endFrom : Cond.instanceMethod yX8_endFrom ∈ BIG ∧ Cond.selects yX8_endFrom.cls yX8_endFrom yX8_endFrom ∈ BIG ∧ Cond.initialized yX8_endFrom.cls ∈ BIG ∧ Cond.code yX8_endFrom cX8_endFrom 3 (some .int) ∈ BIG ∧ notMH yX8_endFrom ∧ (parseMethodDescriptor yX8_endFrom.desc).map (fun d => d.parameters.length) = some 1 := ⟨big_of 227 (by decide +kernel) rfl, big_of 228 (by decide +kernel) rfl, big_of 5 (by decide +kernel) rfl, big_of 229 (by decide +kernel) rfl, ⟨by decide +kernel, by decide +kernel⟩, by decide +kernel⟩
theorem km_X10_28 : LkV RX10 28 yX8_endFrom cX8_endFrom 3 (some .int) 1 := ⟨big_of 226 (by decide +kernel) rfl, kv_X8_endFrom⟩
theorem kv_X8_isLetter : Cond.static yX8_isLetter ∈ BIG ∧ Cond.initialized yX8_isLetter.cls ∈ BIG ∧ Cond.code yX8_isLetter cX8_isLetter 1 (some .boolean) ∈ BIG ∧ notMH yX8_isLetter ∧ (parseMethodDescriptor yX8_isLetter.desc).map (fun d => d.parameters.length) = some 1 := ⟨big_of 231 (by decide +kernel) rfl, big_of 5 (by decide +kernel) rfl, big_of 232 (by decide +kernel) rfl, ⟨by decide +kernel, by decide +kernel⟩, by decide +kernel⟩
theorem km_X8_19 : LkS RX8 19 yX8_isLetter cX8_isLetter 1 (some .boolean) 1 := ⟨Or.inl (big_of 230 (by decide +kernel) rfl), kv_X8_isLetter⟩
theorem kv_X8_isDigit : Cond.static yX8_isDigit ∈ BIG ∧ Cond.initialized yX8_isDigit.cls ∈ BIG ∧ Cond.code yX8_isDigit cX8_isDigit 1 (some .boolean) ∈ BIG ∧ notMH yX8_isDigit ∧ (parseMethodDescriptor yX8_isDigit.desc).map (fun d => d.parameters.length) = some 1 := ⟨big_of 234 (by decide +kernel) rfl, big_of 5 (by decide +kernel) rfl, big_of 235 (by decide +kernel) rfl, ⟨by decide +kernel, by decide +kernel⟩, by decide +kernel⟩
theorem km_X8_23 : LkS RX8 23 yX8_isDigit cX8_isDigit 1 (some .boolean) 1 := ⟨Or.inl (big_of 233 (by decide +kernel) rfl), kv_X8_isDigit⟩
theorem kv_X8_isBlank : Cond.static yX8_isBlank ∈ BIG ∧ Cond.initialized yX8_isBlank.cls ∈ BIG ∧ Cond.code yX8_isBlank cX8_isBlank 1 (some .boolean) ∈ BIG ∧ notMH yX8_isBlank ∧ (parseMethodDescriptor yX8_isBlank.desc).map (fun d => d.parameters.length) = some 1 := ⟨big_of 237 (by decide +kernel) rfl, big_of 5 (by decide +kernel) rfl, big_of 238 (by decide +kernel) rfl, ⟨by decide +kernel, by decide +kernel⟩, by decide +kernel⟩
theorem km_X10_35 : LkS RX10 35 yX8_isBlank cX8_isBlank 1 (some .boolean) 1 := ⟨Or.inl (big_of 236 (by decide +kernel) rfl), kv_X8_isBlank⟩
theorem kv_X10_kindOf : Cond.static yX10_kindOf ∈ BIG ∧ Cond.initialized yX10_kindOf.cls ∈ BIG ∧ Cond.code yX10_kindOf cX10_kindOf 4 (some .int) ∈ BIG ∧ notMH yX10_kindOf ∧ (parseMethodDescriptor yX10_kindOf.desc).map (fun d => d.parameters.length) = some 3 := ⟨big_of 240 (by decide +kernel) rfl, big_of 7 (by decide +kernel) rfl, big_of 241 (by decide +kernel) rfl, ⟨by decide +kernel, by decide +kernel⟩, by decide +kernel⟩
theorem km_X10_39 : LkS RX10 39 yX10_kindOf cX10_kindOf 4 (some .int) 3 := ⟨Or.inl (big_of 239 (by decide +kernel) rfl), kv_X10_kindOf⟩
theorem km_X10_56 : LkS RX10 56 yX8_isLetter cX8_isLetter 1 (some .boolean) 1 := ⟨Or.inl (big_of 242 (by decide +kernel) rfl), kv_X8_isLetter⟩
theorem kv_X10_wordIn : Cond.static yX10_wordIn ∈ BIG ∧ Cond.initialized yX10_wordIn.cls ∈ BIG ∧ Cond.code yX10_wordIn cX10_wordIn 4 (some .int) ∈ BIG ∧ notMH yX10_wordIn ∧ (parseMethodDescriptor yX10_wordIn.desc).map (fun d => d.parameters.length) = some 3 := ⟨big_of 244 (by decide +kernel) rfl, big_of 7 (by decide +kernel) rfl, big_of 245 (by decide +kernel) rfl, ⟨by decide +kernel, by decide +kernel⟩, by decide +kernel⟩
theorem km_X10_59 : LkS RX10 59 yX10_wordIn cX10_wordIn 4 (some .int) 3 := ⟨Or.inl (big_of 243 (by decide +kernel) rfl), kv_X10_wordIn⟩
theorem kv_X10_wordOf : Cond.static yX10_wordOf ∈ BIG ∧ Cond.initialized yX10_wordOf.cls ∈ BIG ∧ Cond.code yX10_wordOf cX10_wordOf 1 (some (.object "java/lang/String")) ∈ BIG ∧ notMH yX10_wordOf ∧ (parseMethodDescriptor yX10_wordOf.desc).map (fun d => d.parameters.length) = some 1 := ⟨big_of 247 (by decide +kernel) rfl, big_of 7 (by decide +kernel) rfl, big_of 248 (by decide +kernel) rfl, ⟨by decide +kernel, by decide +kernel⟩, by decide +kernel⟩
theorem km_X10_65 : LkS RX10 65 yX10_wordOf cX10_wordOf 1 (some (.object "java/lang/String")) 1 := ⟨Or.inl (big_of 246 (by decide +kernel) rfl), kv_X10_wordOf⟩
theorem kv_X8_stands : Cond.instanceMethod yX8_stands ∈ BIG ∧ Cond.selects yX8_stands.cls yX8_stands yX8_stands ∈ BIG ∧ Cond.initialized yX8_stands.cls ∈ BIG ∧ Cond.code yX8_stands cX8_stands 5 (some .boolean) ∈ BIG ∧ notMH yX8_stands ∧ (parseMethodDescriptor yX8_stands.desc).map (fun d => d.parameters.length) = some 3 := ⟨big_of 262 (by decide +kernel) rfl, big_of 263 (by decide +kernel) rfl, big_of 5 (by decide +kernel) rfl, big_of 264 (by decide +kernel) rfl, ⟨by decide +kernel, by decide +kernel⟩, by decide +kernel⟩
theorem km_X10_69 : LkV RX10 69 yX8_stands cX8_stands 5 (some .boolean) 3 := ⟨big_of 261 (by decide +kernel) rfl, kv_X8_stands⟩
theorem km_X8_26 : LkV RX8 26 yJ0_length_8abf5 cJ0_length_8abf5 1 (some .int) 0 := ⟨big_of 265 (by decide +kernel) rfl, kv_J0_length_8abf5⟩
theorem km_X8_32 : LkV RX8 32 yJ0_charAt_5068e cJ0_charAt_5068e 2 (some .char) 1 := ⟨big_of 266 (by decide +kernel) rfl, kv_J0_charAt_5068e⟩
theorem km_X10_62 : LkS RX10 62 yX8_isDigit cX8_isDigit 1 (some .boolean) 1 := ⟨Or.inl (big_of 267 (by decide +kernel) rfl), kv_X8_isDigit⟩
theorem kv_X8_numberIn : Cond.instanceMethod yX8_numberIn ∈ BIG ∧ Cond.selects yX8_numberIn.cls yX8_numberIn yX8_numberIn ∈ BIG ∧ Cond.initialized yX8_numberIn.cls ∈ BIG ∧ Cond.code yX8_numberIn cX8_numberIn 5 (some .int) ∈ BIG ∧ notMH yX8_numberIn ∧ (parseMethodDescriptor yX8_numberIn.desc).map (fun d => d.parameters.length) = some 2 := ⟨big_of 269 (by decide +kernel) rfl, big_of 270 (by decide +kernel) rfl, big_of 5 (by decide +kernel) rfl, big_of 271 (by decide +kernel) rfl, ⟨by decide +kernel, by decide +kernel⟩, by decide +kernel⟩
theorem km_X10_43 : LkV RX10 43 yX8_numberIn cX8_numberIn 5 (some .int) 2 := ⟨big_of 268 (by decide +kernel) rfl, kv_X8_numberIn⟩
theorem kv_X10_add : Cond.instanceMethod yX10_add ∈ BIG ∧ Cond.selects yX10_add.cls yX10_add yX10_add ∈ BIG ∧ Cond.initialized yX10_add.cls ∈ BIG ∧ Cond.code yX10_add cX10_add 4 none ∈ BIG ∧ notMH yX10_add ∧ (parseMethodDescriptor yX10_add.desc).map (fun d => d.parameters.length) = some 3 := ⟨big_of 274 (by decide +kernel) rfl, big_sel (q := (yX10_add, 4)) 1 (by decide +kernel), big_of 7 (by decide +kernel) rfl, big_of 275 (by decide +kernel) rfl, ⟨by decide +kernel, by decide +kernel⟩, by decide +kernel⟩
theorem km_X10_47 : LkV RX10 47 yX10_add cX10_add 4 none 3 := ⟨big_of 272 (by decide +kernel) rfl, kv_X10_add⟩
theorem kv_J9_max_7cf53 : Cond.static yJ9_max_7cf53 ∈ BIG ∧ Cond.initialized yJ9_max_7cf53.cls ∈ BIG ∧ Cond.code yJ9_max_7cf53 cJ9_max_7cf53 2 (some .int) ∈ BIG ∧ notMH yJ9_max_7cf53 ∧ (parseMethodDescriptor yJ9_max_7cf53.desc).map (fun d => d.parameters.length) = some 2 := ⟨big_of 277 (by decide +kernel) rfl, big_of 14 (by decide +kernel) rfl, big_of 278 (by decide +kernel) rfl, ⟨by decide +kernel, by decide +kernel⟩, by decide +kernel⟩
theorem km_X10_51 : LkS RX10 51 yJ9_max_7cf53 cJ9_max_7cf53 2 (some .int) 2 := ⟨Or.inl (big_of 276 (by decide +kernel) rfl), kv_J9_max_7cf53⟩
theorem kv_X4_expect : Cond.instanceMethod yX4_expect ∈ BIG ∧ Cond.selects yX4_expect.cls yX4_expect yX4_expect ∈ BIG ∧ Cond.initialized yX4_expect.cls ∈ BIG ∧ Cond.code yX4_expect cX4_expect 2 none ∈ BIG ∧ notMH yX4_expect ∧ (parseMethodDescriptor yX4_expect.desc).map (fun d => d.parameters.length) = some 1 := ⟨big_of 281 (by decide +kernel) rfl, big_sel (q := (yX4_expect, 7)) 2 (by decide +kernel), big_of 6 (by decide +kernel) rfl, big_of 282 (by decide +kernel) rfl, ⟨by decide +kernel, by decide +kernel⟩, by decide +kernel⟩
theorem km_X4_47 : LkV RX4 47 yX4_expect cX4_expect 2 none 1 := ⟨big_of 279 (by decide +kernel) rfl, kv_X4_expect⟩
theorem kv_X4_step : Cond.instanceMethod yX4_step ∈ BIG ∧ Cond.selects yX4_step.cls yX4_step yX4_step ∈ BIG ∧ Cond.initialized yX4_step.cls ∈ BIG ∧ Cond.code yX4_step cX4_step 1 none ∈ BIG ∧ notMH yX4_step ∧ (parseMethodDescriptor yX4_step.desc).map (fun d => d.parameters.length) = some 0 := ⟨big_of 285 (by decide +kernel) rfl, big_sel (q := (yX4_step, 7)) 3 (by decide +kernel), big_of 6 (by decide +kernel) rfl, big_of 286 (by decide +kernel) rfl, ⟨by decide +kernel, by decide +kernel⟩, by decide +kernel⟩
theorem km_X4_69 : LkV RX4 69 yX4_step cX4_step 1 none 0 := ⟨big_of 283 (by decide +kernel) rfl, kv_X4_step⟩
theorem kv_X4_refuse : Cond.instanceMethod yX4_refuse ∈ BIG ∧ Cond.selects yX4_refuse.cls yX4_refuse yX4_refuse ∈ BIG ∧ Cond.initialized yX4_refuse.cls ∈ BIG ∧ Cond.code yX4_refuse cX4_refuse 1 none ∈ BIG ∧ notMH yX4_refuse ∧ (parseMethodDescriptor yX4_refuse.desc).map (fun d => d.parameters.length) = some 0 := ⟨big_of 289 (by decide +kernel) rfl, big_sel (q := (yX4_refuse, 7)) 4 (by decide +kernel), big_of 6 (by decide +kernel) rfl, big_of 290 (by decide +kernel) rfl, ⟨by decide +kernel, by decide +kernel⟩, by decide +kernel⟩
theorem km_X4_72 : LkV RX4 72 yX4_refuse cX4_refuse 1 none 0 := ⟨big_of 287 (by decide +kernel) rfl, kv_X4_refuse⟩
theorem kv_X4_chain : Cond.instanceMethod yX4_chain ∈ BIG ∧ Cond.selects yX4_chain.cls yX4_chain yX4_chain ∈ BIG ∧ Cond.initialized yX4_chain.cls ∈ BIG ∧ Cond.code yX4_chain cX4_chain 5 none ∈ BIG ∧ notMH yX4_chain ∧ (parseMethodDescriptor yX4_chain.desc).map (fun d => d.parameters.length) = some 2 := ⟨big_of 293 (by decide +kernel) rfl, big_sel (q := (yX4_chain, 7)) 5 (by decide +kernel), big_of 6 (by decide +kernel) rfl, big_of 294 (by decide +kernel) rfl, ⟨by decide +kernel, by decide +kernel⟩, by decide +kernel⟩
theorem km_X4_51 : LkV RX4 51 yX4_chain cX4_chain 5 none 2 := ⟨big_of 291 (by decide +kernel) rfl, kv_X4_chain⟩
theorem kv_X4_part : Cond.instanceMethod yX4_part ∈ BIG ∧ Cond.selects yX4_part.cls yX4_part yX4_part ∈ BIG ∧ Cond.initialized yX4_part.cls ∈ BIG ∧ Cond.code yX4_part cX4_part 3 none ∈ BIG ∧ notMH yX4_part ∧ (parseMethodDescriptor yX4_part.desc).map (fun d => d.parameters.length) = some 2 := ⟨big_of 297 (by decide +kernel) rfl, big_sel (q := (yX4_part, 7)) 6 (by decide +kernel), big_of 6 (by decide +kernel) rfl, big_of 298 (by decide +kernel) rfl, ⟨by decide +kernel, by decide +kernel⟩, by decide +kernel⟩
theorem km_X4_81 : LkV RX4 81 yX4_part cX4_part 3 none 2 := ⟨big_of 295 (by decide +kernel) rfl, kv_X4_part⟩
theorem kv_X4_one : Cond.instanceMethod yX4_one ∈ BIG ∧ Cond.selects yX4_one.cls yX4_one yX4_one ∈ BIG ∧ Cond.initialized yX4_one.cls ∈ BIG ∧ Cond.code yX4_one cX4_one 3 none ∈ BIG ∧ notMH yX4_one ∧ (parseMethodDescriptor yX4_one.desc).map (fun d => d.parameters.length) = some 1 := ⟨big_of 301 (by decide +kernel) rfl, big_sel (q := (yX4_one, 7)) 7 (by decide +kernel), big_of 6 (by decide +kernel) rfl, big_of 302 (by decide +kernel) rfl, ⟨by decide +kernel, by decide +kernel⟩, by decide +kernel⟩
theorem km_X4_91 : LkV RX4 91 yX4_one cX4_one 3 none 1 := ⟨big_of 299 (by decide +kernel) rfl, kv_X4_one⟩
theorem kv_X4_put : Cond.instanceMethod yX4_put ∈ BIG ∧ Cond.selects yX4_put.cls yX4_put yX4_put ∈ BIG ∧ Cond.initialized yX4_put.cls ∈ BIG ∧ Cond.code yX4_put cX4_put 2 none ∈ BIG ∧ notMH yX4_put ∧ (parseMethodDescriptor yX4_put.desc).map (fun d => d.parameters.length) = some 1 := ⟨big_of 305 (by decide +kernel) rfl, big_sel (q := (yX4_put, 7)) 8 (by decide +kernel), big_of 6 (by decide +kernel) rfl, big_of 306 (by decide +kernel) rfl, ⟨by decide +kernel, by decide +kernel⟩, by decide +kernel⟩
theorem km_X4_88 : LkV RX4 88 yX4_put cX4_put 2 none 1 := ⟨big_of 303 (by decide +kernel) rfl, kv_X4_put⟩
theorem kv_X4_denial : Cond.instanceMethod yX4_denial ∈ BIG ∧ Cond.selects yX4_denial.cls yX4_denial yX4_denial ∈ BIG ∧ Cond.initialized yX4_denial.cls ∈ BIG ∧ Cond.code yX4_denial cX4_denial 2 none ∈ BIG ∧ notMH yX4_denial ∧ (parseMethodDescriptor yX4_denial.desc).map (fun d => d.parameters.length) = some 1 := ⟨big_of 312 (by decide +kernel) rfl, big_sel (q := (yX4_denial, 7)) 9 (by decide +kernel), big_of 6 (by decide +kernel) rfl, big_of 313 (by decide +kernel) rfl, ⟨by decide +kernel, by decide +kernel⟩, by decide +kernel⟩
theorem km_X4_94 : LkV RX4 94 yX4_denial cX4_denial 2 none 1 := ⟨big_of 310 (by decide +kernel) rfl, kv_X4_denial⟩
theorem kv_X4_levelOf : Cond.static yX4_levelOf ∈ BIG ∧ Cond.initialized yX4_levelOf.cls ∈ BIG ∧ Cond.code yX4_levelOf cX4_levelOf 1 (some .int) ∈ BIG ∧ notMH yX4_levelOf ∧ (parseMethodDescriptor yX4_levelOf.desc).map (fun d => d.parameters.length) = some 1 := ⟨big_of 315 (by decide +kernel) rfl, big_of 6 (by decide +kernel) rfl, big_of 316 (by decide +kernel) rfl, ⟨by decide +kernel, by decide +kernel⟩, by decide +kernel⟩
theorem km_X4_84 : LkS RX4 84 yX4_levelOf cX4_levelOf 1 (some .int) 1 := ⟨Or.inl (big_of 314 (by decide +kernel) rfl), kv_X4_levelOf⟩
theorem kv_X4_textRead : Cond.instanceMethod yX4_textRead ∈ BIG ∧ Cond.selects yX4_textRead.cls yX4_textRead yX4_textRead ∈ BIG ∧ Cond.initialized yX4_textRead.cls ∈ BIG ∧ Cond.code yX4_textRead cX4_textRead 1 (some (.object "FiveCards$Text")) ∈ BIG ∧ notMH yX4_textRead ∧ (parseMethodDescriptor yX4_textRead.desc).map (fun d => d.parameters.length) = some 0 := ⟨big_of 318 (by decide +kernel) rfl, big_of 319 (by decide +kernel) rfl, big_of 6 (by decide +kernel) rfl, big_of 320 (by decide +kernel) rfl, ⟨by decide +kernel, by decide +kernel⟩, by decide +kernel⟩
theorem km_X11_315 : LkV RX11 315 yX4_textRead cX4_textRead 1 (some (.object "FiveCards$Text")) 0 := ⟨big_of 317 (by decide +kernel) rfl, kv_X4_textRead⟩
theorem kv_J7_copyOf_59c91 : Cond.static yJ7_copyOf_59c91 ∈ BIG ∧ Cond.initialized yJ7_copyOf_59c91.cls ∈ BIG ∧ Cond.code yJ7_copyOf_59c91 cJ7_copyOf_59c91 3 (some (.array .int)) ∈ BIG ∧ notMH yJ7_copyOf_59c91 ∧ (parseMethodDescriptor yJ7_copyOf_59c91.desc).map (fun d => d.parameters.length) = some 2 := ⟨big_of 324 (by decide +kernel) rfl, big_of 16 (by decide +kernel) rfl, big_of 325 (by decide +kernel) rfl, ⟨by decide +kernel, by decide +kernel⟩, by decide +kernel⟩
theorem km_X4_55 : LkS RX4 55 yJ7_copyOf_59c91 cJ7_copyOf_59c91 3 (some (.array .int)) 2 := ⟨Or.inl (big_of 323 (by decide +kernel) rfl), kv_J7_copyOf_59c91⟩
theorem kv_J9_min_7cf53 : Cond.static yJ9_min_7cf53 ∈ BIG ∧ Cond.initialized yJ9_min_7cf53.cls ∈ BIG ∧ Cond.code yJ9_min_7cf53 cJ9_min_7cf53 2 (some .int) ∈ BIG ∧ notMH yJ9_min_7cf53 ∧ (parseMethodDescriptor yJ9_min_7cf53.desc).map (fun d => d.parameters.length) = some 2 := ⟨big_of 334 (by decide +kernel) rfl, big_of 14 (by decide +kernel) rfl, big_of 335 (by decide +kernel) rfl, ⟨by decide +kernel, by decide +kernel⟩, by decide +kernel⟩
theorem km_J7_304 : LkS RJ7 304 yJ9_min_7cf53 cJ9_min_7cf53 2 (some .int) 2 := ⟨Or.inl (big_of 333 (by decide +kernel) rfl), kv_J9_min_7cf53⟩
theorem kv_X9_init : Cond.instanceMethod yX9_init ∈ BIG ∧ Cond.initialized yX9_init.cls ∈ BIG ∧ Cond.code yX9_init cX9_init 3 none ∈ BIG ∧ yX9_init.name = "<init>" ∧ notMH yX9_init ∧ (parseMethodDescriptor yX9_init.desc).map (fun d => d.parameters.length) = some 2 := ⟨big_of 342 (by decide +kernel) rfl, big_of 15 (by decide +kernel) rfl, big_of 343 (by decide +kernel) rfl, rfl, ⟨by decide +kernel, by decide +kernel⟩, by decide +kernel⟩
theorem km_X4_66 : LkI RX4 66 yX9_init cX9_init 3 2 := ⟨Or.inl (big_of 341 (by decide +kernel) rfl), kv_X9_init⟩
theorem kv_Jx4a65c_add_9ea2d : Cond.instanceMethod yJx4a65c_add_9ea2d ∈ BIG ∧ Cond.selects yJx4a65c_add_9ea2d.cls yJx4a65c_add_9ea2d yJx4a65c_add_9ea2d ∈ BIG ∧ Cond.initialized yJx4a65c_add_9ea2d.cls ∈ BIG ∧ Cond.code yJx4a65c_add_9ea2d cJx4a65c_add_9ea2d 2 (some .boolean) ∈ BIG ∧ notMH yJx4a65c_add_9ea2d ∧ (parseMethodDescriptor yJx4a65c_add_9ea2d.desc).map (fun d => d.parameters.length) = some 1 := ⟨big_of 357 (by decide +kernel) rfl, big_of 358 (by decide +kernel) rfl, big_of 4 (by decide +kernel) rfl, big_of 359 (by decide +kernel) rfl, ⟨by decide +kernel, by decide +kernel⟩, by decide +kernel⟩
theorem km_X11_100 : LkV RX11 100 yJx4a65c_add_9ea2d cJx4a65c_add_9ea2d 2 (some .boolean) 1 := ⟨big_of 356 (by decide +kernel) rfl, kv_Jx4a65c_add_9ea2d⟩
theorem kv_Jx4a65c_add_72be8 : Cond.instanceMethod yJx4a65c_add_72be8 ∈ BIG ∧ Cond.selects yJx4a65c_add_72be8.cls yJx4a65c_add_72be8 yJx4a65c_add_72be8 ∈ BIG ∧ Cond.initialized yJx4a65c_add_72be8.cls ∈ BIG ∧ Cond.code yJx4a65c_add_72be8 cJx4a65c_add_72be8 4 none ∈ BIG ∧ notMH yJx4a65c_add_72be8 ∧ (parseMethodDescriptor yJx4a65c_add_72be8.desc).map (fun d => d.parameters.length) = some 3 := ⟨big_of 362 (by decide +kernel) rfl, big_sel (q := (yJx4a65c_add_72be8, 3)) 10 (by decide +kernel), big_of 4 (by decide +kernel) rfl, big_of 363 (by decide +kernel) rfl, ⟨by decide +kernel, by decide +kernel⟩, by decide +kernel⟩
theorem km_Jx4a65c_131 : LkV RJx4a65c 131 yJx4a65c_add_72be8 cJx4a65c_add_72be8 4 none 3 := ⟨big_of 360 (by decide +kernel) rfl, kv_Jx4a65c_add_72be8⟩
theorem kv_Jx4a65c_grow_d5877 : Cond.instanceMethod yJx4a65c_grow_d5877 ∈ BIG ∧ Cond.selects yJx4a65c_grow_d5877.cls yJx4a65c_grow_d5877 yJx4a65c_grow_d5877 ∈ BIG ∧ Cond.initialized yJx4a65c_grow_d5877.cls ∈ BIG ∧ Cond.code yJx4a65c_grow_d5877 cJx4a65c_grow_d5877 1 (some (.array (.object "java/lang/Object"))) ∈ BIG ∧ notMH yJx4a65c_grow_d5877 ∧ (parseMethodDescriptor yJx4a65c_grow_d5877.desc).map (fun d => d.parameters.length) = some 0 := ⟨big_of 366 (by decide +kernel) rfl, big_sel (q := (yJx4a65c_grow_d5877, 3)) 11 (by decide +kernel), big_of 4 (by decide +kernel) rfl, big_of 367 (by decide +kernel) rfl, ⟨by decide +kernel, by decide +kernel⟩, by decide +kernel⟩
theorem km_Jx4a65c_129 : LkV RJx4a65c 129 yJx4a65c_grow_d5877 cJx4a65c_grow_d5877 1 (some (.array (.object "java/lang/Object"))) 0 := ⟨big_of 364 (by decide +kernel) rfl, kv_Jx4a65c_grow_d5877⟩
theorem kv_Jx4a65c_grow_92f84 : Cond.instanceMethod yJx4a65c_grow_92f84 ∈ BIG ∧ Cond.selects yJx4a65c_grow_92f84.cls yJx4a65c_grow_92f84 yJx4a65c_grow_92f84 ∈ BIG ∧ Cond.initialized yJx4a65c_grow_92f84.cls ∈ BIG ∧ Cond.code yJx4a65c_grow_92f84 cJx4a65c_grow_92f84 4 (some (.array (.object "java/lang/Object"))) ∈ BIG ∧ notMH yJx4a65c_grow_92f84 ∧ (parseMethodDescriptor yJx4a65c_grow_92f84.desc).map (fun d => d.parameters.length) = some 1 := ⟨big_of 370 (by decide +kernel) rfl, big_sel (q := (yJx4a65c_grow_92f84, 3)) 12 (by decide +kernel), big_of 4 (by decide +kernel) rfl, big_of 371 (by decide +kernel) rfl, ⟨by decide +kernel, by decide +kernel⟩, by decide +kernel⟩
theorem km_Jx4a65c_69 : LkV RJx4a65c 69 yJx4a65c_grow_92f84 cJx4a65c_grow_92f84 4 (some (.array (.object "java/lang/Object"))) 1 := ⟨big_of 368 (by decide +kernel) rfl, kv_Jx4a65c_grow_92f84⟩
theorem kv_J8_newLength_cabcc : Cond.static yJ8_newLength_cabcc ∈ BIG ∧ Cond.initialized yJ8_newLength_cabcc.cls ∈ BIG ∧ Cond.code yJ8_newLength_cabcc cJ8_newLength_cabcc 4 (some .int) ∈ BIG ∧ notMH yJ8_newLength_cabcc ∧ (parseMethodDescriptor yJ8_newLength_cabcc.desc).map (fun d => d.parameters.length) = some 3 := ⟨big_of 373 (by decide +kernel) rfl, big_of 18 (by decide +kernel) rfl, big_of 374 (by decide +kernel) rfl, ⟨by decide +kernel, by decide +kernel⟩, by decide +kernel⟩
theorem km_Jx4a65c_73 : LkS RJx4a65c 73 yJ8_newLength_cabcc cJ8_newLength_cabcc 4 (some .int) 3 := ⟨Or.inl (big_of 372 (by decide +kernel) rfl), kv_J8_newLength_cabcc⟩
theorem km_J8_194 : LkS RJ8 194 yJ9_max_7cf53 cJ9_max_7cf53 2 (some .int) 2 := ⟨Or.inl (big_of 375 (by decide +kernel) rfl), kv_J9_max_7cf53⟩
theorem kv_J8_hugeLength_7cf53 : Cond.static yJ8_hugeLength_7cf53 ∈ BIG ∧ Cond.initialized yJ8_hugeLength_7cf53.cls ∈ BIG ∧ Cond.code yJ8_hugeLength_7cf53 cJ8_hugeLength_7cf53 3 (some .int) ∈ BIG ∧ notMH yJ8_hugeLength_7cf53 ∧ (parseMethodDescriptor yJ8_hugeLength_7cf53.desc).map (fun d => d.parameters.length) = some 2 := ⟨big_of 378 (by decide +kernel) rfl, big_of 18 (by decide +kernel) rfl, big_of 379 (by decide +kernel) rfl, ⟨by decide +kernel, by decide +kernel⟩, by decide +kernel⟩
theorem km_J8_201 : LkS RJ8 201 yJ8_hugeLength_7cf53 cJ8_hugeLength_7cf53 3 (some .int) 2 := ⟨Or.inl (big_of 377 (by decide +kernel) rfl), kv_J8_hugeLength_7cf53⟩
theorem kv_J7_copyOf_1904c : Cond.static yJ7_copyOf_1904c ∈ BIG ∧ Cond.initialized yJ7_copyOf_1904c.cls ∈ BIG ∧ Cond.code yJ7_copyOf_1904c cJ7_copyOf_1904c 2 (some (.array (.object "java/lang/Object"))) ∈ BIG ∧ notMH yJ7_copyOf_1904c ∧ (parseMethodDescriptor yJ7_copyOf_1904c.desc).map (fun d => d.parameters.length) = some 2 := ⟨big_of 381 (by decide +kernel) rfl, big_of 16 (by decide +kernel) rfl, big_of 382 (by decide +kernel) rfl, ⟨by decide +kernel, by decide +kernel⟩, by decide +kernel⟩
theorem km_Jx4a65c_66 : LkS RJx4a65c 66 yJ7_copyOf_1904c cJ7_copyOf_1904c 2 (some (.array (.object "java/lang/Object"))) 2 := ⟨Or.inl (big_of 380 (by decide +kernel) rfl), kv_J7_copyOf_1904c⟩
theorem kv_J7_copyOf_6403c : Cond.static yJ7_copyOf_6403c ∈ BIG ∧ Cond.initialized yJ7_copyOf_6403c.cls ∈ BIG ∧ Cond.code yJ7_copyOf_6403c cJ7_copyOf_6403c 4 (some (.array (.object "java/lang/Object"))) ∈ BIG ∧ notMH yJ7_copyOf_6403c ∧ (parseMethodDescriptor yJ7_copyOf_6403c.desc).map (fun d => d.parameters.length) = some 3 := ⟨big_of 402 (by decide +kernel) rfl, big_of 16 (by decide +kernel) rfl, big_of 403 (by decide +kernel) rfl, ⟨by decide +kernel, by decide +kernel⟩, by decide +kernel⟩
theorem km_J7_300 : LkS RJ7 300 yJ7_copyOf_6403c cJ7_copyOf_6403c 4 (some (.array (.object "java/lang/Object"))) 3 := ⟨Or.inl (big_of 401 (by decide +kernel) rfl), kv_J7_copyOf_6403c⟩
theorem km_Jx4a65c_79 : LkS RJx4a65c 79 yJ9_max_7cf53 cJ9_max_7cf53 2 (some .int) 2 := ⟨Or.inl (big_of 407 (by decide +kernel) rfl), kv_J9_max_7cf53⟩
theorem kv_X11_pack : Cond.instanceMethod yX11_pack ∈ BIG ∧ Cond.selects yX11_pack.cls yX11_pack yX11_pack ∈ BIG ∧ Cond.initialized yX11_pack.cls ∈ BIG ∧ Cond.code yX11_pack cX11_pack 3 (some .int) ∈ BIG ∧ notMH yX11_pack ∧ (parseMethodDescriptor yX11_pack.desc).map (fun d => d.parameters.length) = some 1 := ⟨big_of 453 (by decide +kernel) rfl, big_of 454 (by decide +kernel) rfl, big_of 1 (by decide +kernel) rfl, big_of 455 (by decide +kernel) rfl, ⟨by decide +kernel, by decide +kernel⟩, by decide +kernel⟩
theorem km_L_13 : LkV RL 13 yX11_pack cX11_pack 3 (some .int) 1 := ⟨big_of 452 (by decide +kernel) rfl, kv_X11_pack⟩
theorem kv_X11_within : Cond.static yX11_within ∈ BIG ∧ Cond.initialized yX11_within.cls ∈ BIG ∧ Cond.code yX11_within cX11_within 3 (some .boolean) ∈ BIG ∧ notMH yX11_within ∧ (parseMethodDescriptor yX11_within.desc).map (fun d => d.parameters.length) = some 3 := ⟨big_of 458 (by decide +kernel) rfl, big_of 1 (by decide +kernel) rfl, big_of 459 (by decide +kernel) rfl, ⟨by decide +kernel, by decide +kernel⟩, by decide +kernel⟩
theorem km_X11_86 : LkS RX11 86 yX11_within cX11_within 3 (some .boolean) 3 := ⟨Or.inl (big_of 457 (by decide +kernel) rfl), kv_X11_within⟩
theorem kv_X3_init : Cond.instanceMethod yX3_init ∈ BIG ∧ Cond.initialized yX3_init.cls ∈ BIG ∧ Cond.code yX3_init cX3_init 5 none ∈ BIG ∧ yX3_init.name = "<init>" ∧ notMH yX3_init ∧ (parseMethodDescriptor yX3_init.desc).map (fun d => d.parameters.length) = some 1 := ⟨big_of 463 (by decide +kernel) rfl, big_of 20 (by decide +kernel) rfl, big_of 464 (by decide +kernel) rfl, rfl, ⟨by decide +kernel, by decide +kernel⟩, by decide +kernel⟩
theorem km_X11_92 : LkI RX11 92 yX3_init cX3_init 5 1 := ⟨Or.inl (big_of 462 (by decide +kernel) rfl), kv_X3_init⟩
theorem kv_Jx4a65c_size_8abf5 : Cond.instanceMethod yJx4a65c_size_8abf5 ∈ BIG ∧ Cond.selects yJx4a65c_size_8abf5.cls yJx4a65c_size_8abf5 yJx4a65c_size_8abf5 ∈ BIG ∧ Cond.initialized yJx4a65c_size_8abf5.cls ∈ BIG ∧ Cond.code yJx4a65c_size_8abf5 cJx4a65c_size_8abf5 1 (some .int) ∈ BIG ∧ notMH yJx4a65c_size_8abf5 ∧ (parseMethodDescriptor yJx4a65c_size_8abf5.desc).map (fun d => d.parameters.length) = some 0 := ⟨big_of 479 (by decide +kernel) rfl, big_of 480 (by decide +kernel) rfl, big_of 4 (by decide +kernel) rfl, big_of 481 (by decide +kernel) rfl, ⟨by decide +kernel, by decide +kernel⟩, by decide +kernel⟩
theorem km_X11_97 : LkV RX11 97 yJx4a65c_size_8abf5 cJx4a65c_size_8abf5 1 (some .int) 0 := ⟨big_of 478 (by decide +kernel) rfl, kv_Jx4a65c_size_8abf5⟩
theorem kv_X11_run : Cond.instanceMethod yX11_run ∈ BIG ∧ Cond.selects yX11_run.cls yX11_run yX11_run ∈ BIG ∧ Cond.initialized yX11_run.cls ∈ BIG ∧ Cond.code yX11_run cX11_run 4 (some .int) ∈ BIG ∧ notMH yX11_run ∧ (parseMethodDescriptor yX11_run.desc).map (fun d => d.parameters.length) = some 3 := ⟨big_of 483 (by decide +kernel) rfl, big_of 484 (by decide +kernel) rfl, big_of 1 (by decide +kernel) rfl, big_of 485 (by decide +kernel) rfl, ⟨by decide +kernel, by decide +kernel⟩, by decide +kernel⟩
theorem km_L_18 : LkV RL 18 yX11_run cX11_run 4 (some .int) 3 := ⟨big_of 482 (by decide +kernel) rfl, kv_X11_run⟩
theorem kv_X11_among : Cond.static yX11_among ∈ BIG ∧ Cond.initialized yX11_among.cls ∈ BIG ∧ Cond.code yX11_among cX11_among 2 (some .boolean) ∈ BIG ∧ notMH yX11_among ∧ (parseMethodDescriptor yX11_among.desc).map (fun d => d.parameters.length) = some 2 := ⟨big_of 308 (by decide +kernel) rfl, big_of 1 (by decide +kernel) rfl, big_of 309 (by decide +kernel) rfl, ⟨by decide +kernel, by decide +kernel⟩, by decide +kernel⟩
theorem km_X11_103 : LkS RX11 103 yX11_among cX11_among 2 (some .boolean) 2 := ⟨Or.inl (big_of 486 (by decide +kernel) rfl), kv_X11_among⟩
theorem kv_Jx4a65c_get_915e3 : Cond.instanceMethod yJx4a65c_get_915e3 ∈ BIG ∧ Cond.selects yJx4a65c_get_915e3.cls yJx4a65c_get_915e3 yJx4a65c_get_915e3 ∈ BIG ∧ Cond.initialized yJx4a65c_get_915e3.cls ∈ BIG ∧ Cond.code yJx4a65c_get_915e3 cJx4a65c_get_915e3 2 (some (.object "java/lang/Object")) ∈ BIG ∧ notMH yJx4a65c_get_915e3 ∧ (parseMethodDescriptor yJx4a65c_get_915e3.desc).map (fun d => d.parameters.length) = some 1 := ⟨big_of 490 (by decide +kernel) rfl, big_of 491 (by decide +kernel) rfl, big_of 4 (by decide +kernel) rfl, big_of 492 (by decide +kernel) rfl, ⟨by decide +kernel, by decide +kernel⟩, by decide +kernel⟩
theorem km_X11_109 : LkV RX11 109 yJx4a65c_get_915e3 cJx4a65c_get_915e3 2 (some (.object "java/lang/Object")) 1 := ⟨big_of 489 (by decide +kernel) rfl, kv_Jx4a65c_get_915e3⟩
theorem kv_J15_checkIndex_7cf53 : Cond.static yJ15_checkIndex_7cf53 ∈ BIG ∧ Cond.initialized yJ15_checkIndex_7cf53.cls ∈ BIG ∧ Cond.code yJ15_checkIndex_7cf53 cJ15_checkIndex_7cf53 2 (some .int) ∈ BIG ∧ notMH yJ15_checkIndex_7cf53 ∧ (parseMethodDescriptor yJ15_checkIndex_7cf53.desc).map (fun d => d.parameters.length) = some 2 := ⟨big_of 494 (by decide +kernel) rfl, big_of 22 (by decide +kernel) rfl, big_of 495 (by decide +kernel) rfl, ⟨by decide +kernel, by decide +kernel⟩, by decide +kernel⟩
theorem km_Jx4a65c_118 : LkS RJx4a65c 118 yJ15_checkIndex_7cf53 cJ15_checkIndex_7cf53 2 (some .int) 2 := ⟨Or.inl (big_of 493 (by decide +kernel) rfl), kv_J15_checkIndex_7cf53⟩
theorem km_J15_105 : LkS RJ15 105 yJ3_checkIndex_8e157 cJ3_checkIndex_8e157 3 (some .int) 3 := ⟨Or.inl (big_of 496 (by decide +kernel) rfl), kv_J3_checkIndex_8e157⟩
theorem kv_Jx4a65c_elementData_915e3 : Cond.instanceMethod yJx4a65c_elementData_915e3 ∈ BIG ∧ Cond.selects yJx4a65c_elementData_915e3.cls yJx4a65c_elementData_915e3 yJx4a65c_elementData_915e3 ∈ BIG ∧ Cond.initialized yJx4a65c_elementData_915e3.cls ∈ BIG ∧ Cond.code yJx4a65c_elementData_915e3 cJx4a65c_elementData_915e3 2 (some (.object "java/lang/Object")) ∈ BIG ∧ notMH yJx4a65c_elementData_915e3 ∧ (parseMethodDescriptor yJx4a65c_elementData_915e3.desc).map (fun d => d.parameters.length) = some 1 := ⟨big_of 498 (by decide +kernel) rfl, big_of 499 (by decide +kernel) rfl, big_of 4 (by decide +kernel) rfl, big_of 500 (by decide +kernel) rfl, ⟨by decide +kernel, by decide +kernel⟩, by decide +kernel⟩
theorem km_Jx4a65c_123 : LkV RJx4a65c 123 yJx4a65c_elementData_915e3 cJx4a65c_elementData_915e3 2 (some (.object "java/lang/Object")) 1 := ⟨big_of 497 (by decide +kernel) rfl, kv_Jx4a65c_elementData_915e3⟩
theorem kv_X5_init : Cond.instanceMethod yX5_init ∈ BIG ∧ Cond.initialized yX5_init.cls ∈ BIG ∧ Cond.code yX5_init cX5_init 8 none ∈ BIG ∧ yX5_init.name = "<init>" ∧ notMH yX5_init ∧ (parseMethodDescriptor yX5_init.desc).map (fun d => d.parameters.length) = some 4 := ⟨big_of 502 (by decide +kernel) rfl, big_of 21 (by decide +kernel) rfl, big_of 503 (by decide +kernel) rfl, rfl, ⟨by decide +kernel, by decide +kernel⟩, by decide +kernel⟩
theorem km_X11_113 : LkI RX11 113 yX5_init cX5_init 8 4 := ⟨Or.inl (big_of 501 (by decide +kernel) rfl), kv_X5_init⟩
theorem kv_X11_at : Cond.instanceMethod yX11_at ∈ BIG ∧ Cond.selects yX11_at.cls yX11_at yX11_at ∈ BIG ∧ Cond.initialized yX11_at.cls ∈ BIG ∧ Cond.code yX11_at cX11_at 5 (some .int) ∈ BIG ∧ notMH yX11_at ∧ (parseMethodDescriptor yX11_at.desc).map (fun d => d.parameters.length) = some 3 := ⟨big_of 559 (by decide +kernel) rfl, big_of 560 (by decide +kernel) rfl, big_of 1 (by decide +kernel) rfl, big_of 561 (by decide +kernel) rfl, ⟨by decide +kernel, by decide +kernel⟩, by decide +kernel⟩
theorem km_L_23 : LkV RL 23 yX11_at cX11_at 5 (some .int) 3 := ⟨big_of 558 (by decide +kernel) rfl, kv_X11_at⟩
theorem kv_X11_isPlace : Cond.instanceMethod yX11_isPlace ∈ BIG ∧ Cond.selects yX11_isPlace.cls yX11_isPlace yX11_isPlace ∈ BIG ∧ Cond.initialized yX11_isPlace.cls ∈ BIG ∧ Cond.code yX11_isPlace cX11_isPlace 3 (some .boolean) ∈ BIG ∧ notMH yX11_isPlace ∧ (parseMethodDescriptor yX11_isPlace.desc).map (fun d => d.parameters.length) = some 2 := ⟨big_of 564 (by decide +kernel) rfl, big_sel (q := (yX11_isPlace, 14)) 13 (by decide +kernel), big_of 1 (by decide +kernel) rfl, big_of 565 (by decide +kernel) rfl, ⟨by decide +kernel, by decide +kernel⟩, by decide +kernel⟩
theorem km_X11_116 : LkV RX11 116 yX11_isPlace cX11_isPlace 3 (some .boolean) 2 := ⟨big_of 562 (by decide +kernel) rfl, kv_X11_isPlace⟩
theorem kv_X11_guess : Cond.instanceMethod yX11_guess ∈ BIG ∧ Cond.selects yX11_guess.cls yX11_guess yX11_guess ∈ BIG ∧ Cond.initialized yX11_guess.cls ∈ BIG ∧ Cond.code yX11_guess cX11_guess 4 (some .int) ∈ BIG ∧ notMH yX11_guess ∧ (parseMethodDescriptor yX11_guess.desc).map (fun d => d.parameters.length) = some 3 := ⟨big_of 567 (by decide +kernel) rfl, big_of 568 (by decide +kernel) rfl, big_of 1 (by decide +kernel) rfl, big_of 569 (by decide +kernel) rfl, ⟨by decide +kernel, by decide +kernel⟩, by decide +kernel⟩
theorem km_L_27 : LkV RL 27 yX11_guess cX11_guess 4 (some .int) 3 := ⟨big_of 566 (by decide +kernel) rfl, kv_X11_guess⟩
theorem kv_X7_isMissing : Cond.instanceMethod yX7_isMissing ∈ BIG ∧ Cond.selects yX7_isMissing.cls yX7_isMissing yX7_isMissing ∈ BIG ∧ Cond.initialized yX7_isMissing.cls ∈ BIG ∧ Cond.code yX7_isMissing cX7_isMissing 1 (some .boolean) ∈ BIG ∧ notMH yX7_isMissing ∧ (parseMethodDescriptor yX7_isMissing.desc).map (fun d => d.parameters.length) = some 0 := ⟨big_of 571 (by decide +kernel) rfl, big_of 572 (by decide +kernel) rfl, big_of 9 (by decide +kernel) rfl, big_of 573 (by decide +kernel) rfl, ⟨by decide +kernel, by decide +kernel⟩, by decide +kernel⟩
theorem km_X11_124 : LkV RX11 124 yX7_isMissing cX7_isMissing 1 (some .boolean) 0 := ⟨big_of 570 (by decide +kernel) rfl, kv_X7_isMissing⟩
theorem kv_X5_takeGuesses : Cond.instanceMethod yX5_takeGuesses ∈ BIG ∧ Cond.selects yX5_takeGuesses.cls yX5_takeGuesses yX5_takeGuesses ∈ BIG ∧ Cond.initialized yX5_takeGuesses.cls ∈ BIG ∧ Cond.code yX5_takeGuesses cX5_takeGuesses 5 (some .int) ∈ BIG ∧ notMH yX5_takeGuesses ∧ (parseMethodDescriptor yX5_takeGuesses.desc).map (fun d => d.parameters.length) = some 2 := ⟨big_of 575 (by decide +kernel) rfl, big_of 576 (by decide +kernel) rfl, big_of 21 (by decide +kernel) rfl, big_of 577 (by decide +kernel) rfl, ⟨by decide +kernel, by decide +kernel⟩, by decide +kernel⟩
theorem km_X11_128 : LkV RX11 128 yX5_takeGuesses cX5_takeGuesses 5 (some .int) 2 := ⟨big_of 574 (by decide +kernel) rfl, kv_X5_takeGuesses⟩
theorem kv_X11_slip : Cond.instanceMethod yX11_slip ∈ BIG ∧ Cond.selects yX11_slip.cls yX11_slip yX11_slip ∈ BIG ∧ Cond.initialized yX11_slip.cls ∈ BIG ∧ Cond.code yX11_slip cX11_slip 4 (some .int) ∈ BIG ∧ notMH yX11_slip ∧ (parseMethodDescriptor yX11_slip.desc).map (fun d => d.parameters.length) = some 3 := ⟨big_of 580 (by decide +kernel) rfl, big_of 581 (by decide +kernel) rfl, big_of 1 (by decide +kernel) rfl, big_of 582 (by decide +kernel) rfl, ⟨by decide +kernel, by decide +kernel⟩, by decide +kernel⟩
theorem km_L_31 : LkV RL 31 yX11_slip cX11_slip 4 (some .int) 3 := ⟨big_of 579 (by decide +kernel) rfl, kv_X11_slip⟩
theorem kv_X5_writeAnew : Cond.instanceMethod yX5_writeAnew ∈ BIG ∧ Cond.selects yX5_writeAnew.cls yX5_writeAnew yX5_writeAnew ∈ BIG ∧ Cond.initialized yX5_writeAnew.cls ∈ BIG ∧ Cond.code yX5_writeAnew cX5_writeAnew 4 (some .int) ∈ BIG ∧ notMH yX5_writeAnew ∧ (parseMethodDescriptor yX5_writeAnew.desc).map (fun d => d.parameters.length) = some 2 := ⟨big_of 584 (by decide +kernel) rfl, big_of 585 (by decide +kernel) rfl, big_of 21 (by decide +kernel) rfl, big_of 586 (by decide +kernel) rfl, ⟨by decide +kernel, by decide +kernel⟩, by decide +kernel⟩
theorem km_X11_132 : LkV RX11 132 yX5_writeAnew cX5_writeAnew 4 (some .int) 2 := ⟨big_of 583 (by decide +kernel) rfl, kv_X5_writeAnew⟩
theorem kv_X11_cut : Cond.instanceMethod yX11_cut ∈ BIG ∧ Cond.selects yX11_cut.cls yX11_cut yX11_cut ∈ BIG ∧ Cond.initialized yX11_cut.cls ∈ BIG ∧ Cond.code yX11_cut cX11_cut 3 (some .int) ∈ BIG ∧ notMH yX11_cut ∧ (parseMethodDescriptor yX11_cut.desc).map (fun d => d.parameters.length) = some 2 := ⟨big_of 588 (by decide +kernel) rfl, big_of 589 (by decide +kernel) rfl, big_of 1 (by decide +kernel) rfl, big_of 590 (by decide +kernel) rfl, ⟨by decide +kernel, by decide +kernel⟩, by decide +kernel⟩
theorem km_L_35 : LkV RL 35 yX11_cut cX11_cut 3 (some .int) 2 := ⟨big_of 587 (by decide +kernel) rfl, kv_X11_cut⟩
theorem kv_X5_cutAt : Cond.instanceMethod yX5_cutAt ∈ BIG ∧ Cond.selects yX5_cutAt.cls yX5_cutAt yX5_cutAt ∈ BIG ∧ Cond.initialized yX5_cutAt.cls ∈ BIG ∧ Cond.code yX5_cutAt cX5_cutAt 3 none ∈ BIG ∧ notMH yX5_cutAt ∧ (parseMethodDescriptor yX5_cutAt.desc).map (fun d => d.parameters.length) = some 1 := ⟨big_of 592 (by decide +kernel) rfl, big_of 593 (by decide +kernel) rfl, big_of 21 (by decide +kernel) rfl, big_of 594 (by decide +kernel) rfl, ⟨by decide +kernel, by decide +kernel⟩, by decide +kernel⟩
theorem km_X11_136 : LkV RX11 136 yX5_cutAt cX5_cutAt 3 none 1 := ⟨big_of 591 (by decide +kernel) rfl, kv_X5_cutAt⟩
theorem kv_X11_shuffle : Cond.instanceMethod yX11_shuffle ∈ BIG ∧ Cond.selects yX11_shuffle.cls yX11_shuffle yX11_shuffle ∈ BIG ∧ Cond.initialized yX11_shuffle.cls ∈ BIG ∧ Cond.code yX11_shuffle cX11_shuffle 4 (some .int) ∈ BIG ∧ notMH yX11_shuffle ∧ (parseMethodDescriptor yX11_shuffle.desc).map (fun d => d.parameters.length) = some 2 := ⟨big_of 597 (by decide +kernel) rfl, big_of 598 (by decide +kernel) rfl, big_of 1 (by decide +kernel) rfl, big_of 599 (by decide +kernel) rfl, ⟨by decide +kernel, by decide +kernel⟩, by decide +kernel⟩
theorem km_L_40 : LkV RL 40 yX11_shuffle cX11_shuffle 4 (some .int) 2 := ⟨big_of 596 (by decide +kernel) rfl, kv_X11_shuffle⟩
theorem kv_X5_mix : Cond.static yX5_mix ∈ BIG ∧ Cond.initialized yX5_mix.cls ∈ BIG ∧ Cond.code yX5_mix cX5_mix 7 none ∈ BIG ∧ notMH yX5_mix ∧ (parseMethodDescriptor yX5_mix.desc).map (fun d => d.parameters.length) = some 2 := ⟨big_of 601 (by decide +kernel) rfl, big_of 21 (by decide +kernel) rfl, big_of 602 (by decide +kernel) rfl, ⟨by decide +kernel, by decide +kernel⟩, by decide +kernel⟩
theorem km_X11_139 : LkS RX11 139 yX5_mix cX5_mix 7 none 2 := ⟨Or.inl (big_of 600 (by decide +kernel) rfl), kv_X5_mix⟩
theorem kv_X5_hits : Cond.instanceMethod yX5_hits ∈ BIG ∧ Cond.selects yX5_hits.cls yX5_hits yX5_hits ∈ BIG ∧ Cond.initialized yX5_hits.cls ∈ BIG ∧ Cond.code yX5_hits cX5_hits 1 (some .int) ∈ BIG ∧ notMH yX5_hits ∧ (parseMethodDescriptor yX5_hits.desc).map (fun d => d.parameters.length) = some 0 := ⟨big_of 606 (by decide +kernel) rfl, big_of 607 (by decide +kernel) rfl, big_of 21 (by decide +kernel) rfl, big_of 608 (by decide +kernel) rfl, ⟨by decide +kernel, by decide +kernel⟩, by decide +kernel⟩
theorem km_X11_143 : LkV RX11 143 yX5_hits cX5_hits 1 (some .int) 0 := ⟨big_of 605 (by decide +kernel) rfl, kv_X5_hits⟩
theorem kv_X5_hitsAmong : Cond.instanceMethod yX5_hitsAmong ∈ BIG ∧ Cond.selects yX5_hitsAmong.cls yX5_hitsAmong yX5_hitsAmong ∈ BIG ∧ Cond.initialized yX5_hitsAmong.cls ∈ BIG ∧ Cond.code yX5_hitsAmong cX5_hitsAmong 4 (some .int) ∈ BIG ∧ notMH yX5_hitsAmong ∧ (parseMethodDescriptor yX5_hitsAmong.desc).map (fun d => d.parameters.length) = some 1 := ⟨big_of 611 (by decide +kernel) rfl, big_sel (q := (yX5_hitsAmong, 14)) 14 (by decide +kernel), big_of 21 (by decide +kernel) rfl, big_of 612 (by decide +kernel) rfl, ⟨by decide +kernel, by decide +kernel⟩, by decide +kernel⟩
theorem km_X5_51 : LkV RX5 51 yX5_hitsAmong cX5_hitsAmong 4 (some .int) 1 := ⟨big_of 609 (by decide +kernel) rfl, kv_X5_hitsAmong⟩
theorem kv_X11_told : Cond.instanceMethod yX11_told ∈ BIG ∧ Cond.selects yX11_told.cls yX11_told yX11_told ∈ BIG ∧ Cond.initialized yX11_told.cls ∈ BIG ∧ Cond.code yX11_told cX11_told 4 (some .int) ∈ BIG ∧ notMH yX11_told ∧ (parseMethodDescriptor yX11_told.desc).map (fun d => d.parameters.length) = some 2 := ⟨big_of 614 (by decide +kernel) rfl, big_of 615 (by decide +kernel) rfl, big_of 1 (by decide +kernel) rfl, big_of 616 (by decide +kernel) rfl, ⟨by decide +kernel, by decide +kernel⟩, by decide +kernel⟩
theorem km_L_44 : LkV RL 44 yX11_told cX11_told 4 (some .int) 2 := ⟨big_of 613 (by decide +kernel) rfl, kv_X11_told⟩
theorem kv_X5_nextHits : Cond.instanceMethod yX5_nextHits ∈ BIG ∧ Cond.selects yX5_nextHits.cls yX5_nextHits yX5_nextHits ∈ BIG ∧ Cond.initialized yX5_nextHits.cls ∈ BIG ∧ Cond.code yX5_nextHits cX5_nextHits 3 (some .int) ∈ BIG ∧ notMH yX5_nextHits ∧ (parseMethodDescriptor yX5_nextHits.desc).map (fun d => d.parameters.length) = some 0 := ⟨big_of 619 (by decide +kernel) rfl, big_of 620 (by decide +kernel) rfl, big_of 21 (by decide +kernel) rfl, big_of 621 (by decide +kernel) rfl, ⟨by decide +kernel, by decide +kernel⟩, by decide +kernel⟩
theorem km_X11_156 : LkV RX11 156 yX5_nextHits cX5_nextHits 3 (some .int) 0 := ⟨big_of 618 (by decide +kernel) rfl, kv_X5_nextHits⟩
theorem kv_X5_hitsByLeft : Cond.instanceMethod yX5_hitsByLeft ∈ BIG ∧ Cond.selects yX5_hitsByLeft.cls yX5_hitsByLeft yX5_hitsByLeft ∈ BIG ∧ Cond.initialized yX5_hitsByLeft.cls ∈ BIG ∧ Cond.code yX5_hitsByLeft cX5_hitsByLeft 3 (some .int) ∈ BIG ∧ notMH yX5_hitsByLeft ∧ (parseMethodDescriptor yX5_hitsByLeft.desc).map (fun d => d.parameters.length) = some 0 := ⟨big_of 623 (by decide +kernel) rfl, big_of 624 (by decide +kernel) rfl, big_of 21 (by decide +kernel) rfl, big_of 625 (by decide +kernel) rfl, ⟨by decide +kernel, by decide +kernel⟩, by decide +kernel⟩
theorem km_X11_159 : LkV RX11 159 yX5_hitsByLeft cX5_hitsByLeft 3 (some .int) 0 := ⟨big_of 622 (by decide +kernel) rfl, kv_X5_hitsByLeft⟩
theorem kv_X5_mostLeft : Cond.instanceMethod yX5_mostLeft ∈ BIG ∧ Cond.selects yX5_mostLeft.cls yX5_mostLeft yX5_mostLeft ∈ BIG ∧ Cond.initialized yX5_mostLeft.cls ∈ BIG ∧ Cond.code yX5_mostLeft cX5_mostLeft 3 (some .int) ∈ BIG ∧ notMH yX5_mostLeft ∧ (parseMethodDescriptor yX5_mostLeft.desc).map (fun d => d.parameters.length) = some 0 := ⟨big_of 628 (by decide +kernel) rfl, big_sel (q := (yX5_mostLeft, 14)) 15 (by decide +kernel), big_of 21 (by decide +kernel) rfl, big_of 629 (by decide +kernel) rfl, ⟨by decide +kernel, by decide +kernel⟩, by decide +kernel⟩
theorem km_X5_61 : LkV RX5 61 yX5_mostLeft cX5_mostLeft 3 (some .int) 0 := ⟨big_of 626 (by decide +kernel) rfl, kv_X5_mostLeft⟩
theorem kv_X5_alike : Cond.instanceMethod yX5_alike ∈ BIG ∧ Cond.selects yX5_alike.cls yX5_alike yX5_alike ∈ BIG ∧ Cond.initialized yX5_alike.cls ∈ BIG ∧ Cond.code yX5_alike cX5_alike 3 (some .int) ∈ BIG ∧ notMH yX5_alike ∧ (parseMethodDescriptor yX5_alike.desc).map (fun d => d.parameters.length) = some 0 := ⟨big_of 631 (by decide +kernel) rfl, big_of 632 (by decide +kernel) rfl, big_of 21 (by decide +kernel) rfl, big_of 633 (by decide +kernel) rfl, ⟨by decide +kernel, by decide +kernel⟩, by decide +kernel⟩
theorem km_X11_162 : LkV RX11 162 yX5_alike cX5_alike 3 (some .int) 0 := ⟨big_of 630 (by decide +kernel) rfl, kv_X5_alike⟩
theorem kv_X11_bound : Cond.instanceMethod yX11_bound ∈ BIG ∧ Cond.selects yX11_bound.cls yX11_bound yX11_bound ∈ BIG ∧ Cond.initialized yX11_bound.cls ∈ BIG ∧ Cond.code yX11_bound cX11_bound 4 (some .int) ∈ BIG ∧ notMH yX11_bound ∧ (parseMethodDescriptor yX11_bound.desc).map (fun d => d.parameters.length) = some 1 := ⟨big_of 636 (by decide +kernel) rfl, big_sel (q := (yX11_bound, 14)) 16 (by decide +kernel), big_of 1 (by decide +kernel) rfl, big_of 637 (by decide +kernel) rfl, ⟨by decide +kernel, by decide +kernel⟩, by decide +kernel⟩
theorem km_X11_165 : LkV RX11 165 yX11_bound cX11_bound 4 (some .int) 1 := ⟨big_of 634 (by decide +kernel) rfl, kv_X11_bound⟩
theorem kv_X1_mostHits : Cond.instanceMethod yX1_mostHits ∈ BIG ∧ Cond.selects yX1_mostHits.cls yX1_mostHits yX1_mostHits ∈ BIG ∧ Cond.initialized yX1_mostHits.cls ∈ BIG ∧ Cond.code yX1_mostHits cX1_mostHits 2 (some .int) ∈ BIG ∧ notMH yX1_mostHits ∧ (parseMethodDescriptor yX1_mostHits.desc).map (fun d => d.parameters.length) = some 1 := ⟨big_of 640 (by decide +kernel) rfl, big_of 641 (by decide +kernel) rfl, big_of 23 (by decide +kernel) rfl, big_of 642 (by decide +kernel) rfl, ⟨by decide +kernel, by decide +kernel⟩, by decide +kernel⟩
theorem km_X11_203 : LkV RX11 203 yX1_mostHits cX1_mostHits 2 (some .int) 1 := ⟨big_of 639 (by decide +kernel) rfl, kv_X1_mostHits⟩
theorem kv_X1_openHits : Cond.instanceMethod yX1_openHits ∈ BIG ∧ Cond.selects yX1_openHits.cls yX1_openHits yX1_openHits ∈ BIG ∧ Cond.initialized yX1_openHits.cls ∈ BIG ∧ Cond.code yX1_openHits cX1_openHits 3 (some .int) ∈ BIG ∧ notMH yX1_openHits ∧ (parseMethodDescriptor yX1_openHits.desc).map (fun d => d.parameters.length) = some 1 := ⟨big_of 645 (by decide +kernel) rfl, big_sel (q := (yX1_openHits, 5)) 17 (by decide +kernel), big_of 23 (by decide +kernel) rfl, big_of 647 (by decide +kernel) rfl, ⟨by decide +kernel, by decide +kernel⟩, by decide +kernel⟩
theorem km_X1_32 : LkV RX1 32 yX1_openHits cX1_openHits 3 (some .int) 1 := ⟨big_of 643 (by decide +kernel) rfl, kv_X1_openHits⟩
theorem km_X1_41 : LkS RX1 41 yJ9_min_7cf53 cJ9_min_7cf53 2 (some .int) 2 := ⟨Or.inl (big_of 648 (by decide +kernel) rfl), kv_J9_min_7cf53⟩
theorem km_X1_56 : LkV RX1 56 yX5_alike cX5_alike 3 (some .int) 0 := ⟨big_of 649 (by decide +kernel) rfl, kv_X5_alike⟩
theorem km_X11_319 : LkS RX11 319 yJ9_min_7cf53 cJ9_min_7cf53 2 (some .int) 2 := ⟨Or.inl (big_of 650 (by decide +kernel) rfl), kv_J9_min_7cf53⟩
theorem kv_X11_ruled : Cond.instanceMethod yX11_ruled ∈ BIG ∧ Cond.selects yX11_ruled.cls yX11_ruled yX11_ruled ∈ BIG ∧ Cond.initialized yX11_ruled.cls ∈ BIG ∧ Cond.code yX11_ruled cX11_ruled 6 (some .int) ∈ BIG ∧ notMH yX11_ruled ∧ (parseMethodDescriptor yX11_ruled.desc).map (fun d => d.parameters.length) = some 2 := ⟨big_of 653 (by decide +kernel) rfl, big_sel (q := (yX11_ruled, 14)) 18 (by decide +kernel), big_of 1 (by decide +kernel) rfl, big_of 654 (by decide +kernel) rfl, ⟨by decide +kernel, by decide +kernel⟩, by decide +kernel⟩
theorem km_X11_177 : LkV RX11 177 yX11_ruled cX11_ruled 6 (some .int) 2 := ⟨big_of 651 (by decide +kernel) rfl, kv_X11_ruled⟩
theorem kv_X11_runsTill : Cond.instanceMethod yX11_runsTill ∈ BIG ∧ Cond.selects yX11_runsTill.cls yX11_runsTill yX11_runsTill ∈ BIG ∧ Cond.initialized yX11_runsTill.cls ∈ BIG ∧ Cond.code yX11_runsTill cX11_runsTill 5 (some .int) ∈ BIG ∧ notMH yX11_runsTill ∧ (parseMethodDescriptor yX11_runsTill.desc).map (fun d => d.parameters.length) = some 1 := ⟨big_of 657 (by decide +kernel) rfl, big_sel (q := (yX11_runsTill, 14)) 19 (by decide +kernel), big_of 1 (by decide +kernel) rfl, big_of 658 (by decide +kernel) rfl, ⟨by decide +kernel, by decide +kernel⟩, by decide +kernel⟩
theorem km_X11_324 : LkV RX11 324 yX11_runsTill cX11_runsTill 5 (some .int) 1 := ⟨big_of 655 (by decide +kernel) rfl, kv_X11_runsTill⟩
theorem kv_X11_hitsTill : Cond.instanceMethod yX11_hitsTill ∈ BIG ∧ Cond.selects yX11_hitsTill.cls yX11_hitsTill yX11_hitsTill ∈ BIG ∧ Cond.initialized yX11_hitsTill.cls ∈ BIG ∧ Cond.code yX11_hitsTill cX11_hitsTill 5 (some .int) ∈ BIG ∧ notMH yX11_hitsTill ∧ (parseMethodDescriptor yX11_hitsTill.desc).map (fun d => d.parameters.length) = some 1 := ⟨big_of 661 (by decide +kernel) rfl, big_sel (q := (yX11_hitsTill, 14)) 20 (by decide +kernel), big_of 1 (by decide +kernel) rfl, big_of 662 (by decide +kernel) rfl, ⟨by decide +kernel, by decide +kernel⟩, by decide +kernel⟩
theorem km_X11_327 : LkV RX11 327 yX11_hitsTill cX11_hitsTill 5 (some .int) 1 := ⟨big_of 659 (by decide +kernel) rfl, kv_X11_hitsTill⟩
theorem kv_X9_value : Cond.instanceMethod yX9_value ∈ BIG ∧ Cond.selects yX9_value.cls yX9_value yX9_value ∈ BIG ∧ Cond.initialized yX9_value.cls ∈ BIG ∧ Cond.code yX9_value cX9_value 6 (some .int) ∈ BIG ∧ notMH yX9_value ∧ (parseMethodDescriptor yX9_value.desc).map (fun d => d.parameters.length) = some 2 := ⟨big_of 665 (by decide +kernel) rfl, big_of 666 (by decide +kernel) rfl, big_of 15 (by decide +kernel) rfl, big_of 667 (by decide +kernel) rfl, ⟨by decide +kernel, by decide +kernel⟩, by decide +kernel⟩
theorem km_X11_330 : LkV RX11 330 yX9_value cX9_value 6 (some .int) 2 := ⟨big_of 664 (by decide +kernel) rfl, kv_X9_value⟩
theorem kv_X9_bit : Cond.static yX9_bit ∈ BIG ∧ Cond.initialized yX9_bit.cls ∈ BIG ∧ Cond.code yX9_bit cX9_bit 1 (some .int) ∈ BIG ∧ notMH yX9_bit ∧ (parseMethodDescriptor yX9_bit.desc).map (fun d => d.parameters.length) = some 1 := ⟨big_of 669 (by decide +kernel) rfl, big_of 15 (by decide +kernel) rfl, big_of 670 (by decide +kernel) rfl, ⟨by decide +kernel, by decide +kernel⟩, by decide +kernel⟩
theorem km_X9_21 : LkS RX9 21 yX9_bit cX9_bit 1 (some .int) 1 := ⟨Or.inl (big_of 668 (by decide +kernel) rfl), kv_X9_bit⟩
theorem kv_X9_joined : Cond.static yX9_joined ∈ BIG ∧ Cond.initialized yX9_joined.cls ∈ BIG ∧ Cond.code yX9_joined cX9_joined 3 (some .int) ∈ BIG ∧ notMH yX9_joined ∧ (parseMethodDescriptor yX9_joined.desc).map (fun d => d.parameters.length) = some 3 := ⟨big_of 672 (by decide +kernel) rfl, big_of 15 (by decide +kernel) rfl, big_of 673 (by decide +kernel) rfl, ⟨by decide +kernel, by decide +kernel⟩, by decide +kernel⟩
theorem km_X9_27 : LkS RX9 27 yX9_joined cX9_joined 3 (some .int) 3 := ⟨Or.inl (big_of 671 (by decide +kernel) rfl), kv_X9_joined⟩
theorem kv_X11_exact : Cond.instanceMethod yX11_exact ∈ BIG ∧ Cond.selects yX11_exact.cls yX11_exact yX11_exact ∈ BIG ∧ Cond.initialized yX11_exact.cls ∈ BIG ∧ Cond.code yX11_exact cX11_exact 4 (some .long) ∈ BIG ∧ notMH yX11_exact ∧ (parseMethodDescriptor yX11_exact.desc).map (fun d => d.parameters.length) = some 3 := ⟨big_of 675 (by decide +kernel) rfl, big_of 676 (by decide +kernel) rfl, big_of 1 (by decide +kernel) rfl, big_of 677 (by decide +kernel) rfl, ⟨by decide +kernel, by decide +kernel⟩, by decide +kernel⟩
theorem km_L_48 : LkV RL 48 yX11_exact cX11_exact 4 (some .long) 3 := ⟨big_of 674 (by decide +kernel) rfl, kv_X11_exact⟩
theorem kv_X2_work : Cond.instanceMethod yX2_work ∈ BIG ∧ Cond.selects yX2_work.cls yX2_work yX2_work ∈ BIG ∧ Cond.initialized yX2_work.cls ∈ BIG ∧ Cond.code yX2_work cX2_work 5 none ∈ BIG ∧ notMH yX2_work ∧ (parseMethodDescriptor yX2_work.desc).map (fun d => d.parameters.length) = some 1 := ⟨big_of 680 (by decide +kernel) rfl, big_of 681 (by decide +kernel) rfl, big_of 8 (by decide +kernel) rfl, big_of 682 (by decide +kernel) rfl, ⟨by decide +kernel, by decide +kernel⟩, by decide +kernel⟩
theorem km_X11_182 : LkV RX11 182 yX2_work cX2_work 5 none 1 := ⟨big_of 679 (by decide +kernel) rfl, kv_X2_work⟩
theorem kv_J7_fill_d0a16 : Cond.static yJ7_fill_d0a16 ∈ BIG ∧ Cond.initialized yJ7_fill_d0a16.cls ∈ BIG ∧ Cond.code yJ7_fill_d0a16 cJ7_fill_d0a16 5 none ∈ BIG ∧ notMH yJ7_fill_d0a16 ∧ (parseMethodDescriptor yJ7_fill_d0a16.desc).map (fun d => d.parameters.length) = some 2 := ⟨big_of 684 (by decide +kernel) rfl, big_of 16 (by decide +kernel) rfl, big_of 685 (by decide +kernel) rfl, ⟨by decide +kernel, by decide +kernel⟩, by decide +kernel⟩
theorem km_X2_15 : LkS RX2 15 yJ7_fill_d0a16 cJ7_fill_d0a16 5 none 2 := ⟨Or.inl (big_of 683 (by decide +kernel) rfl), kv_J7_fill_d0a16⟩
theorem kv_X5_guessesOf : Cond.instanceMethod yX5_guessesOf ∈ BIG ∧ Cond.selects yX5_guessesOf.cls yX5_guessesOf yX5_guessesOf ∈ BIG ∧ Cond.initialized yX5_guessesOf.cls ∈ BIG ∧ Cond.code yX5_guessesOf cX5_guessesOf 4 (some .int) ∈ BIG ∧ notMH yX5_guessesOf ∧ (parseMethodDescriptor yX5_guessesOf.desc).map (fun d => d.parameters.length) = some 1 := ⟨big_of 687 (by decide +kernel) rfl, big_of 688 (by decide +kernel) rfl, big_of 21 (by decide +kernel) rfl, big_of 689 (by decide +kernel) rfl, ⟨by decide +kernel, by decide +kernel⟩, by decide +kernel⟩
theorem km_X2_33 : LkV RX2 33 yX5_guessesOf cX5_guessesOf 4 (some .int) 1 := ⟨big_of 686 (by decide +kernel) rfl, kv_X5_guessesOf⟩
theorem kv_X2_addSign : Cond.instanceMethod yX2_addSign ∈ BIG ∧ Cond.selects yX2_addSign.cls yX2_addSign yX2_addSign ∈ BIG ∧ Cond.initialized yX2_addSign.cls ∈ BIG ∧ Cond.code yX2_addSign cX2_addSign 8 none ∈ BIG ∧ notMH yX2_addSign ∧ (parseMethodDescriptor yX2_addSign.desc).map (fun d => d.parameters.length) = some 3 := ⟨big_of 692 (by decide +kernel) rfl, big_sel (q := (yX2_addSign, 1)) 21 (by decide +kernel), big_of 8 (by decide +kernel) rfl, big_of 693 (by decide +kernel) rfl, ⟨by decide +kernel, by decide +kernel⟩, by decide +kernel⟩
theorem km_X2_37 : LkV RX2 37 yX2_addSign cX2_addSign 8 none 3 := ⟨big_of 690 (by decide +kernel) rfl, kv_X2_addSign⟩
theorem kv_X2_choices : Cond.static yX2_choices ∈ BIG ∧ Cond.initialized yX2_choices.cls ∈ BIG ∧ Cond.code yX2_choices cX2_choices 5 (some .long) ∈ BIG ∧ notMH yX2_choices ∧ (parseMethodDescriptor yX2_choices.desc).map (fun d => d.parameters.length) = some 2 := ⟨big_of 695 (by decide +kernel) rfl, big_of 8 (by decide +kernel) rfl, big_of 696 (by decide +kernel) rfl, ⟨by decide +kernel, by decide +kernel⟩, by decide +kernel⟩
theorem km_X2_41 : LkS RX2 41 yX2_choices cX2_choices 5 (some .long) 2 := ⟨Or.inl (big_of 694 (by decide +kernel) rfl), kv_X2_choices⟩
theorem kv_X2_ordersWith : Cond.instanceMethod yX2_ordersWith ∈ BIG ∧ Cond.selects yX2_ordersWith.cls yX2_ordersWith yX2_ordersWith ∈ BIG ∧ Cond.initialized yX2_ordersWith.cls ∈ BIG ∧ Cond.code yX2_ordersWith cX2_ordersWith 7 (some .long) ∈ BIG ∧ notMH yX2_ordersWith ∧ (parseMethodDescriptor yX2_ordersWith.desc).map (fun d => d.parameters.length) = some 1 := ⟨big_of 698 (by decide +kernel) rfl, big_of 699 (by decide +kernel) rfl, big_of 8 (by decide +kernel) rfl, big_of 700 (by decide +kernel) rfl, ⟨by decide +kernel, by decide +kernel⟩, by decide +kernel⟩
theorem km_X11_186 : LkV RX11 186 yX2_ordersWith cX2_ordersWith 7 (some .long) 1 := ⟨big_of 697 (by decide +kernel) rfl, kv_X2_ordersWith⟩
theorem kv_X2_allOrders : Cond.instanceMethod yX2_allOrders ∈ BIG ∧ Cond.selects yX2_allOrders.cls yX2_allOrders yX2_allOrders ∈ BIG ∧ Cond.initialized yX2_allOrders.cls ∈ BIG ∧ Cond.code yX2_allOrders cX2_allOrders 1 (some .long) ∈ BIG ∧ notMH yX2_allOrders ∧ (parseMethodDescriptor yX2_allOrders.desc).map (fun d => d.parameters.length) = some 0 := ⟨big_of 702 (by decide +kernel) rfl, big_of 703 (by decide +kernel) rfl, big_of 8 (by decide +kernel) rfl, big_of 704 (by decide +kernel) rfl, ⟨by decide +kernel, by decide +kernel⟩, by decide +kernel⟩
theorem km_X11_190 : LkV RX11 190 yX2_allOrders cX2_allOrders 1 (some .long) 0 := ⟨big_of 701 (by decide +kernel) rfl, kv_X2_allOrders⟩
theorem kv_X11_leak : Cond.instanceMethod yX11_leak ∈ BIG ∧ Cond.selects yX11_leak.cls yX11_leak yX11_leak ∈ BIG ∧ Cond.initialized yX11_leak.cls ∈ BIG ∧ Cond.code yX11_leak cX11_leak 4 (some .int) ∈ BIG ∧ notMH yX11_leak ∧ (parseMethodDescriptor yX11_leak.desc).map (fun d => d.parameters.length) = some 3 := ⟨big_of 706 (by decide +kernel) rfl, big_of 707 (by decide +kernel) rfl, big_of 1 (by decide +kernel) rfl, big_of 708 (by decide +kernel) rfl, ⟨by decide +kernel, by decide +kernel⟩, by decide +kernel⟩
theorem km_L_53 : LkV RL 53 yX11_leak cX11_leak 4 (some .int) 3 := ⟨big_of 705 (by decide +kernel) rfl, kv_X11_leak⟩
theorem kv_X1_init : Cond.instanceMethod yX1_init ∈ BIG ∧ Cond.initialized yX1_init.cls ∈ BIG ∧ Cond.code yX1_init cX1_init 4 none ∈ BIG ∧ yX1_init.name = "<init>" ∧ notMH yX1_init ∧ (parseMethodDescriptor yX1_init.desc).map (fun d => d.parameters.length) = some 3 := ⟨big_of 710 (by decide +kernel) rfl, big_of 23 (by decide +kernel) rfl, big_of 711 (by decide +kernel) rfl, rfl, ⟨by decide +kernel, by decide +kernel⟩, by decide +kernel⟩
theorem km_X11_196 : LkI RX11 196 yX1_init cX1_init 4 3 := ⟨Or.inl (big_of 709 (by decide +kernel) rfl), kv_X1_init⟩
theorem kv_X11_shut : Cond.instanceMethod yX11_shut ∈ BIG ∧ Cond.selects yX11_shut.cls yX11_shut yX11_shut ∈ BIG ∧ Cond.initialized yX11_shut.cls ∈ BIG ∧ Cond.code yX11_shut cX11_shut 5 (some .int) ∈ BIG ∧ notMH yX11_shut ∧ (parseMethodDescriptor yX11_shut.desc).map (fun d => d.parameters.length) = some 2 := ⟨big_of 733 (by decide +kernel) rfl, big_of 734 (by decide +kernel) rfl, big_of 1 (by decide +kernel) rfl, big_of 735 (by decide +kernel) rfl, ⟨by decide +kernel, by decide +kernel⟩, by decide +kernel⟩
theorem km_L_57 : LkV RL 57 yX11_shut cX11_shut 5 (some .int) 2 := ⟨big_of 732 (by decide +kernel) rfl, kv_X11_shut⟩
theorem kv_X11_gives : Cond.instanceMethod yX11_gives ∈ BIG ∧ Cond.selects yX11_gives.cls yX11_gives yX11_gives ∈ BIG ∧ Cond.initialized yX11_gives.cls ∈ BIG ∧ Cond.code yX11_gives cX11_gives 3 (some .int) ∈ BIG ∧ notMH yX11_gives ∧ (parseMethodDescriptor yX11_gives.desc).map (fun d => d.parameters.length) = some 2 := ⟨big_of 737 (by decide +kernel) rfl, big_of 738 (by decide +kernel) rfl, big_of 1 (by decide +kernel) rfl, big_of 739 (by decide +kernel) rfl, ⟨by decide +kernel, by decide +kernel⟩, by decide +kernel⟩
theorem km_L_61 : LkV RL 61 yX11_gives cX11_gives 3 (some .int) 2 := ⟨big_of 736 (by decide +kernel) rfl, kv_X11_gives⟩
theorem kv_X11_counts : Cond.instanceMethod yX11_counts ∈ BIG ∧ Cond.selects yX11_counts.cls yX11_counts yX11_counts ∈ BIG ∧ Cond.initialized yX11_counts.cls ∈ BIG ∧ Cond.code yX11_counts cX11_counts 2 (some .int) ∈ BIG ∧ notMH yX11_counts ∧ (parseMethodDescriptor yX11_counts.desc).map (fun d => d.parameters.length) = some 1 := ⟨big_of 741 (by decide +kernel) rfl, big_of 742 (by decide +kernel) rfl, big_of 1 (by decide +kernel) rfl, big_of 743 (by decide +kernel) rfl, ⟨by decide +kernel, by decide +kernel⟩, by decide +kernel⟩
theorem km_L_65 : LkV RL 65 yX11_counts cX11_counts 2 (some .int) 1 := ⟨big_of 740 (by decide +kernel) rfl, kv_X11_counts⟩
theorem kv_X1_weight : Cond.instanceMethod yX1_weight ∈ BIG ∧ Cond.selects yX1_weight.cls yX1_weight yX1_weight ∈ BIG ∧ Cond.initialized yX1_weight.cls ∈ BIG ∧ Cond.code yX1_weight cX1_weight 1 (some .int) ∈ BIG ∧ notMH yX1_weight ∧ (parseMethodDescriptor yX1_weight.desc).map (fun d => d.parameters.length) = some 0 := ⟨big_of 745 (by decide +kernel) rfl, big_of 746 (by decide +kernel) rfl, big_of 23 (by decide +kernel) rfl, big_of 747 (by decide +kernel) rfl, ⟨by decide +kernel, by decide +kernel⟩, by decide +kernel⟩
theorem km_X11_206 : LkV RX11 206 yX1_weight cX1_weight 1 (some .int) 0 := ⟨big_of 744 (by decide +kernel) rfl, kv_X1_weight⟩
theorem kv_X11_screen : Cond.instanceMethod yX11_screen ∈ BIG ∧ Cond.selects yX11_screen.cls yX11_screen yX11_screen ∈ BIG ∧ Cond.initialized yX11_screen.cls ∈ BIG ∧ Cond.code yX11_screen cX11_screen 3 (some .int) ∈ BIG ∧ notMH yX11_screen ∧ (parseMethodDescriptor yX11_screen.desc).map (fun d => d.parameters.length) = some 2 := ⟨big_of 751 (by decide +kernel) rfl, big_of 752 (by decide +kernel) rfl, big_of 1 (by decide +kernel) rfl, big_of 753 (by decide +kernel) rfl, ⟨by decide +kernel, by decide +kernel⟩, by decide +kernel⟩
theorem km_L_69 : LkV RL 69 yX11_screen cX11_screen 3 (some .int) 2 := ⟨big_of 750 (by decide +kernel) rfl, kv_X11_screen⟩
theorem kv_X11_isBits : Cond.static yX11_isBits ∈ BIG ∧ Cond.initialized yX11_isBits.cls ∈ BIG ∧ Cond.code yX11_isBits cX11_isBits 2 (some .boolean) ∈ BIG ∧ notMH yX11_isBits ∧ (parseMethodDescriptor yX11_isBits.desc).map (fun d => d.parameters.length) = some 2 := ⟨big_of 755 (by decide +kernel) rfl, big_of 1 (by decide +kernel) rfl, big_of 756 (by decide +kernel) rfl, ⟨by decide +kernel, by decide +kernel⟩, by decide +kernel⟩
theorem km_X11_209 : LkS RX11 209 yX11_isBits cX11_isBits 2 (some .boolean) 2 := ⟨Or.inl (big_of 754 (by decide +kernel) rfl), kv_X11_isBits⟩
theorem kv_X6_init : Cond.instanceMethod yX6_init ∈ BIG ∧ Cond.initialized yX6_init.cls ∈ BIG ∧ Cond.code yX6_init cX6_init 3 none ∈ BIG ∧ yX6_init.name = "<init>" ∧ notMH yX6_init ∧ (parseMethodDescriptor yX6_init.desc).map (fun d => d.parameters.length) = some 2 := ⟨big_of 760 (by decide +kernel) rfl, big_of 24 (by decide +kernel) rfl, big_of 761 (by decide +kernel) rfl, rfl, ⟨by decide +kernel, by decide +kernel⟩, by decide +kernel⟩
theorem km_X11_214 : LkI RX11 214 yX6_init cX6_init 3 2 := ⟨Or.inl (big_of 759 (by decide +kernel) rfl), kv_X6_init⟩
theorem kv_X11_plan : Cond.instanceMethod yX11_plan ∈ BIG ∧ Cond.selects yX11_plan.cls yX11_plan yX11_plan ∈ BIG ∧ Cond.initialized yX11_plan.cls ∈ BIG ∧ Cond.code yX11_plan cX11_plan 8 (some .int) ∈ BIG ∧ notMH yX11_plan ∧ (parseMethodDescriptor yX11_plan.desc).map (fun d => d.parameters.length) = some 2 := ⟨big_of 773 (by decide +kernel) rfl, big_of 774 (by decide +kernel) rfl, big_of 1 (by decide +kernel) rfl, big_of 775 (by decide +kernel) rfl, ⟨by decide +kernel, by decide +kernel⟩, by decide +kernel⟩
theorem km_L_73 : LkV RL 73 yX11_plan cX11_plan 8 (some .int) 2 := ⟨big_of 772 (by decide +kernel) rfl, kv_X11_plan⟩
theorem kv_X11_kindsOfLeaks : Cond.instanceMethod yX11_kindsOfLeaks ∈ BIG ∧ Cond.selects yX11_kindsOfLeaks.cls yX11_kindsOfLeaks yX11_kindsOfLeaks ∈ BIG ∧ Cond.initialized yX11_kindsOfLeaks.cls ∈ BIG ∧ Cond.code yX11_kindsOfLeaks cX11_kindsOfLeaks 4 (some .int) ∈ BIG ∧ notMH yX11_kindsOfLeaks ∧ (parseMethodDescriptor yX11_kindsOfLeaks.desc).map (fun d => d.parameters.length) = some 1 := ⟨big_of 778 (by decide +kernel) rfl, big_sel (q := (yX11_kindsOfLeaks, 14)) 22 (by decide +kernel), big_of 1 (by decide +kernel) rfl, big_of 779 (by decide +kernel) rfl, ⟨by decide +kernel, by decide +kernel⟩, by decide +kernel⟩
theorem km_X11_217 : LkV RX11 217 yX11_kindsOfLeaks cX11_kindsOfLeaks 4 (some .int) 1 := ⟨big_of 776 (by decide +kernel) rfl, kv_X11_kindsOfLeaks⟩
theorem kv_X11_kindsShutBy : Cond.instanceMethod yX11_kindsShutBy ∈ BIG ∧ Cond.selects yX11_kindsShutBy.cls yX11_kindsShutBy yX11_kindsShutBy ∈ BIG ∧ Cond.initialized yX11_kindsShutBy.cls ∈ BIG ∧ Cond.code yX11_kindsShutBy cX11_kindsShutBy 4 (some .int) ∈ BIG ∧ notMH yX11_kindsShutBy ∧ (parseMethodDescriptor yX11_kindsShutBy.desc).map (fun d => d.parameters.length) = some 1 := ⟨big_of 782 (by decide +kernel) rfl, big_sel (q := (yX11_kindsShutBy, 14)) 23 (by decide +kernel), big_of 1 (by decide +kernel) rfl, big_of 783 (by decide +kernel) rfl, ⟨by decide +kernel, by decide +kernel⟩, by decide +kernel⟩
theorem km_X11_221 : LkV RX11 221 yX11_kindsShutBy cX11_kindsShutBy 4 (some .int) 1 := ⟨big_of 780 (by decide +kernel) rfl, kv_X11_kindsShutBy⟩
theorem kv_X11_hoursOf : Cond.instanceMethod yX11_hoursOf ∈ BIG ∧ Cond.selects yX11_hoursOf.cls yX11_hoursOf yX11_hoursOf ∈ BIG ∧ Cond.initialized yX11_hoursOf.cls ∈ BIG ∧ Cond.code yX11_hoursOf cX11_hoursOf 4 (some .int) ∈ BIG ∧ notMH yX11_hoursOf ∧ (parseMethodDescriptor yX11_hoursOf.desc).map (fun d => d.parameters.length) = some 1 := ⟨big_of 786 (by decide +kernel) rfl, big_sel (q := (yX11_hoursOf, 14)) 24 (by decide +kernel), big_of 1 (by decide +kernel) rfl, big_of 787 (by decide +kernel) rfl, ⟨by decide +kernel, by decide +kernel⟩, by decide +kernel⟩
theorem km_X11_224 : LkV RX11 224 yX11_hoursOf cX11_hoursOf 4 (some .int) 1 := ⟨big_of 784 (by decide +kernel) rfl, kv_X11_hoursOf⟩
theorem kv_X11_weighs : Cond.instanceMethod yX11_weighs ∈ BIG ∧ Cond.selects yX11_weighs.cls yX11_weighs yX11_weighs ∈ BIG ∧ Cond.initialized yX11_weighs.cls ∈ BIG ∧ Cond.code yX11_weighs cX11_weighs 6 (some .int) ∈ BIG ∧ notMH yX11_weighs ∧ (parseMethodDescriptor yX11_weighs.desc).map (fun d => d.parameters.length) = some 1 := ⟨big_of 789 (by decide +kernel) rfl, big_of 790 (by decide +kernel) rfl, big_of 1 (by decide +kernel) rfl, big_of 791 (by decide +kernel) rfl, ⟨by decide +kernel, by decide +kernel⟩, by decide +kernel⟩
theorem km_L_77 : LkV RL 77 yX11_weighs cX11_weighs 6 (some .int) 1 := ⟨big_of 788 (by decide +kernel) rfl, kv_X11_weighs⟩
theorem kv_X11_feed : Cond.instanceMethod yX11_feed ∈ BIG ∧ Cond.selects yX11_feed.cls yX11_feed yX11_feed ∈ BIG ∧ Cond.initialized yX11_feed.cls ∈ BIG ∧ Cond.code yX11_feed cX11_feed 5 (some .int) ∈ BIG ∧ notMH yX11_feed ∧ (parseMethodDescriptor yX11_feed.desc).map (fun d => d.parameters.length) = some 2 := ⟨big_of 793 (by decide +kernel) rfl, big_of 794 (by decide +kernel) rfl, big_of 1 (by decide +kernel) rfl, big_of 795 (by decide +kernel) rfl, ⟨by decide +kernel, by decide +kernel⟩, by decide +kernel⟩
theorem km_L_83 : LkV RL 83 yX11_feed cX11_feed 5 (some .int) 2 := ⟨big_of 792 (by decide +kernel) rfl, kv_X11_feed⟩
theorem kv_X11_text : Cond.instanceMethod yX11_text ∈ BIG ∧ Cond.selects yX11_text.cls yX11_text yX11_text ∈ BIG ∧ Cond.initialized yX11_text.cls ∈ BIG ∧ Cond.code yX11_text cX11_text 2 (some .int) ∈ BIG ∧ notMH yX11_text ∧ (parseMethodDescriptor yX11_text.desc).map (fun d => d.parameters.length) = some 0 := ⟨big_of 797 (by decide +kernel) rfl, big_of 798 (by decide +kernel) rfl, big_of 1 (by decide +kernel) rfl, big_of 799 (by decide +kernel) rfl, ⟨by decide +kernel, by decide +kernel⟩, by decide +kernel⟩
theorem km_L_88 : LkV RL 88 yX11_text cX11_text 2 (some .int) 0 := ⟨big_of 796 (by decide +kernel) rfl, kv_X11_text⟩
theorem kv_X11_force : Cond.instanceMethod yX11_force ∈ BIG ∧ Cond.selects yX11_force.cls yX11_force yX11_force ∈ BIG ∧ Cond.initialized yX11_force.cls ∈ BIG ∧ Cond.code yX11_force cX11_force 3 (some .int) ∈ BIG ∧ notMH yX11_force ∧ (parseMethodDescriptor yX11_force.desc).map (fun d => d.parameters.length) = some 1 := ⟨big_of 801 (by decide +kernel) rfl, big_of 802 (by decide +kernel) rfl, big_of 1 (by decide +kernel) rfl, big_of 803 (by decide +kernel) rfl, ⟨by decide +kernel, by decide +kernel⟩, by decide +kernel⟩
theorem km_L_93 : LkV RL 93 yX11_force cX11_force 3 (some .int) 1 := ⟨big_of 800 (by decide +kernel) rfl, kv_X11_force⟩
theorem kv_X11_series : Cond.instanceMethod yX11_series ∈ BIG ∧ Cond.selects yX11_series.cls yX11_series yX11_series ∈ BIG ∧ Cond.initialized yX11_series.cls ∈ BIG ∧ Cond.code yX11_series cX11_series 9 (some .long) ∈ BIG ∧ notMH yX11_series ∧ (parseMethodDescriptor yX11_series.desc).map (fun d => d.parameters.length) = some 3 := ⟨big_of 805 (by decide +kernel) rfl, big_of 806 (by decide +kernel) rfl, big_of 1 (by decide +kernel) rfl, big_of 807 (by decide +kernel) rfl, ⟨by decide +kernel, by decide +kernel⟩, by decide +kernel⟩
theorem km_L_97 : LkV RL 97 yX11_series cX11_series 9 (some .long) 3 := ⟨big_of 804 (by decide +kernel) rfl, kv_X11_series⟩
theorem kv_X5_expectedAbove : Cond.instanceMethod yX5_expectedAbove ∈ BIG ∧ Cond.selects yX5_expectedAbove.cls yX5_expectedAbove yX5_expectedAbove ∈ BIG ∧ Cond.initialized yX5_expectedAbove.cls ∈ BIG ∧ Cond.code yX5_expectedAbove cX5_expectedAbove 3 (some .int) ∈ BIG ∧ notMH yX5_expectedAbove ∧ (parseMethodDescriptor yX5_expectedAbove.desc).map (fun d => d.parameters.length) = some 0 := ⟨big_of 824 (by decide +kernel) rfl, big_of 825 (by decide +kernel) rfl, big_of 21 (by decide +kernel) rfl, big_of 826 (by decide +kernel) rfl, ⟨by decide +kernel, by decide +kernel⟩, by decide +kernel⟩
theorem km_X11_238 : LkV RX11 238 yX5_expectedAbove cX5_expectedAbove 3 (some .int) 0 := ⟨big_of 823 (by decide +kernel) rfl, kv_X5_expectedAbove⟩
theorem km_X5_65 : LkV RX5 65 yX5_guessesOf cX5_guessesOf 4 (some .int) 1 := ⟨big_of 827 (by decide +kernel) rfl, kv_X5_guessesOf⟩
theorem kv_X0_add : Cond.instanceMethod yX0_add ∈ BIG ∧ Cond.selects yX0_add.cls yX0_add yX0_add ∈ BIG ∧ Cond.initialized yX0_add.cls ∈ BIG ∧ Cond.code yX0_add cX0_add 11 none ∈ BIG ∧ notMH yX0_add ∧ (parseMethodDescriptor yX0_add.desc).map (fun d => d.parameters.length) = some 2 := ⟨big_of 829 (by decide +kernel) rfl, big_of 830 (by decide +kernel) rfl, big_of 25 (by decide +kernel) rfl, big_of 831 (by decide +kernel) rfl, ⟨by decide +kernel, by decide +kernel⟩, by decide +kernel⟩
theorem km_X11_241 : LkV RX11 241 yX0_add cX0_add 11 none 2 := ⟨big_of 828 (by decide +kernel) rfl, kv_X0_add⟩
theorem kv_J9_abs_067f4 : Cond.static yJ9_abs_067f4 ∈ BIG ∧ Cond.initialized yJ9_abs_067f4.cls ∈ BIG ∧ Cond.code yJ9_abs_067f4 cJ9_abs_067f4 2 (some .long) ∈ BIG ∧ notMH yJ9_abs_067f4 ∧ (parseMethodDescriptor yJ9_abs_067f4.desc).map (fun d => d.parameters.length) = some 1 := ⟨big_of 833 (by decide +kernel) rfl, big_of 14 (by decide +kernel) rfl, big_of 834 (by decide +kernel) rfl, ⟨by decide +kernel, by decide +kernel⟩, by decide +kernel⟩
theorem km_X0_16 : LkS RX0 16 yJ9_abs_067f4 cJ9_abs_067f4 2 (some .long) 1 := ⟨Or.inl (big_of 832 (by decide +kernel) rfl), kv_J9_abs_067f4⟩
theorem kv_X0_greatestDivisor : Cond.static yX0_greatestDivisor ∈ BIG ∧ Cond.initialized yX0_greatestDivisor.cls ∈ BIG ∧ Cond.code yX0_greatestDivisor cX0_greatestDivisor 11 (some .long) ∈ BIG ∧ notMH yX0_greatestDivisor ∧ (parseMethodDescriptor yX0_greatestDivisor.desc).map (fun d => d.parameters.length) = some 2 := ⟨big_of 836 (by decide +kernel) rfl, big_of 25 (by decide +kernel) rfl, big_of 837 (by decide +kernel) rfl, ⟨by decide +kernel, by decide +kernel⟩, by decide +kernel⟩
theorem km_X0_22 : LkS RX0 22 yX0_greatestDivisor cX0_greatestDivisor 11 (some .long) 2 := ⟨Or.inl (big_of 835 (by decide +kernel) rfl), kv_X0_greatestDivisor⟩
theorem kv_X11_best : Cond.instanceMethod yX11_best ∈ BIG ∧ Cond.selects yX11_best.cls yX11_best yX11_best ∈ BIG ∧ Cond.initialized yX11_best.cls ∈ BIG ∧ Cond.code yX11_best cX11_best 8 (some .int) ∈ BIG ∧ notMH yX11_best ∧ (parseMethodDescriptor yX11_best.desc).map (fun d => d.parameters.length) = some 1 := ⟨big_of 839 (by decide +kernel) rfl, big_of 840 (by decide +kernel) rfl, big_of 1 (by decide +kernel) rfl, big_of 841 (by decide +kernel) rfl, ⟨by decide +kernel, by decide +kernel⟩, by decide +kernel⟩
theorem km_L_101 : LkV RL 101 yX11_best cX11_best 8 (some .int) 1 := ⟨big_of 838 (by decide +kernel) rfl, kv_X11_best⟩
theorem kv_X11_hitsInDays : Cond.instanceMethod yX11_hitsInDays ∈ BIG ∧ Cond.selects yX11_hitsInDays.cls yX11_hitsInDays yX11_hitsInDays ∈ BIG ∧ Cond.initialized yX11_hitsInDays.cls ∈ BIG ∧ Cond.code yX11_hitsInDays cX11_hitsInDays 6 (some .int) ∈ BIG ∧ notMH yX11_hitsInDays ∧ (parseMethodDescriptor yX11_hitsInDays.desc).map (fun d => d.parameters.length) = some 3 := ⟨big_of 844 (by decide +kernel) rfl, big_sel (q := (yX11_hitsInDays, 14)) 25 (by decide +kernel), big_of 1 (by decide +kernel) rfl, big_of 845 (by decide +kernel) rfl, ⟨by decide +kernel, by decide +kernel⟩, by decide +kernel⟩
theorem km_X11_251 : LkV RX11 251 yX11_hitsInDays cX11_hitsInDays 6 (some .int) 3 := ⟨big_of 842 (by decide +kernel) rfl, kv_X11_hitsInDays⟩
theorem kv_X5_isOf : Cond.instanceMethod yX5_isOf ∈ BIG ∧ Cond.selects yX5_isOf.cls yX5_isOf yX5_isOf ∈ BIG ∧ Cond.initialized yX5_isOf.cls ∈ BIG ∧ Cond.code yX5_isOf cX5_isOf 4 (some .boolean) ∈ BIG ∧ notMH yX5_isOf ∧ (parseMethodDescriptor yX5_isOf.desc).map (fun d => d.parameters.length) = some 3 := ⟨big_of 847 (by decide +kernel) rfl, big_of 848 (by decide +kernel) rfl, big_of 21 (by decide +kernel) rfl, big_of 849 (by decide +kernel) rfl, ⟨by decide +kernel, by decide +kernel⟩, by decide +kernel⟩
theorem km_X11_334 : LkV RX11 334 yX5_isOf cX5_isOf 4 (some .boolean) 3 := ⟨big_of 846 (by decide +kernel) rfl, kv_X5_isOf⟩
theorem kv_X11_runsInDays : Cond.instanceMethod yX11_runsInDays ∈ BIG ∧ Cond.selects yX11_runsInDays.cls yX11_runsInDays yX11_runsInDays ∈ BIG ∧ Cond.initialized yX11_runsInDays.cls ∈ BIG ∧ Cond.code yX11_runsInDays cX11_runsInDays 6 (some .int) ∈ BIG ∧ notMH yX11_runsInDays ∧ (parseMethodDescriptor yX11_runsInDays.desc).map (fun d => d.parameters.length) = some 3 := ⟨big_of 852 (by decide +kernel) rfl, big_sel (q := (yX11_runsInDays, 14)) 26 (by decide +kernel), big_of 1 (by decide +kernel) rfl, big_of 853 (by decide +kernel) rfl, ⟨by decide +kernel, by decide +kernel⟩, by decide +kernel⟩
theorem km_X11_255 : LkV RX11 255 yX11_runsInDays cX11_runsInDays 6 (some .int) 3 := ⟨big_of 850 (by decide +kernel) rfl, kv_X11_runsInDays⟩
theorem kv_X11_falls : Cond.instanceMethod yX11_falls ∈ BIG ∧ Cond.selects yX11_falls.cls yX11_falls yX11_falls ∈ BIG ∧ Cond.initialized yX11_falls.cls ∈ BIG ∧ Cond.code yX11_falls cX11_falls 7 (some .long) ∈ BIG ∧ notMH yX11_falls ∧ (parseMethodDescriptor yX11_falls.desc).map (fun d => d.parameters.length) = some 3 := ⟨big_of 855 (by decide +kernel) rfl, big_of 856 (by decide +kernel) rfl, big_of 1 (by decide +kernel) rfl, big_of 857 (by decide +kernel) rfl, ⟨by decide +kernel, by decide +kernel⟩, by decide +kernel⟩
theorem km_L_105 : LkV RL 105 yX11_falls cX11_falls 7 (some .long) 3 := ⟨big_of 854 (by decide +kernel) rfl, kv_X11_falls⟩
theorem kv_X11_mixed : Cond.instanceMethod yX11_mixed ∈ BIG ∧ Cond.selects yX11_mixed.cls yX11_mixed yX11_mixed ∈ BIG ∧ Cond.initialized yX11_mixed.cls ∈ BIG ∧ Cond.code yX11_mixed cX11_mixed 8 (some .int) ∈ BIG ∧ notMH yX11_mixed ∧ (parseMethodDescriptor yX11_mixed.desc).map (fun d => d.parameters.length) = some 3 := ⟨big_of 859 (by decide +kernel) rfl, big_of 860 (by decide +kernel) rfl, big_of 1 (by decide +kernel) rfl, big_of 861 (by decide +kernel) rfl, ⟨by decide +kernel, by decide +kernel⟩, by decide +kernel⟩
theorem km_L_109 : LkV RL 109 yX11_mixed cX11_mixed 8 (some .int) 3 := ⟨big_of 858 (by decide +kernel) rfl, kv_X11_mixed⟩
theorem kv_X5_hitsIfShuffled : Cond.instanceMethod yX5_hitsIfShuffled ∈ BIG ∧ Cond.selects yX5_hitsIfShuffled.cls yX5_hitsIfShuffled yX5_hitsIfShuffled ∈ BIG ∧ Cond.initialized yX5_hitsIfShuffled.cls ∈ BIG ∧ Cond.code yX5_hitsIfShuffled cX5_hitsIfShuffled 2 (some .int) ∈ BIG ∧ notMH yX5_hitsIfShuffled ∧ (parseMethodDescriptor yX5_hitsIfShuffled.desc).map (fun d => d.parameters.length) = some 1 := ⟨big_of 863 (by decide +kernel) rfl, big_of 864 (by decide +kernel) rfl, big_of 21 (by decide +kernel) rfl, big_of 865 (by decide +kernel) rfl, ⟨by decide +kernel, by decide +kernel⟩, by decide +kernel⟩
theorem km_X11_258 : LkV RX11 258 yX5_hitsIfShuffled cX5_hitsIfShuffled 2 (some .int) 1 := ⟨big_of 862 (by decide +kernel) rfl, kv_X5_hitsIfShuffled⟩
theorem km_X5_87 : LkS RX5 87 yX5_mix cX5_mix 7 none 2 := ⟨Or.inl (big_of 866 (by decide +kernel) rfl), kv_X5_mix⟩
theorem kv_X11_image : Cond.instanceMethod yX11_image ∈ BIG ∧ Cond.selects yX11_image.cls yX11_image yX11_image ∈ BIG ∧ Cond.initialized yX11_image.cls ∈ BIG ∧ Cond.code yX11_image cX11_image 2 (some .int) ∈ BIG ∧ notMH yX11_image ∧ (parseMethodDescriptor yX11_image.desc).map (fun d => d.parameters.length) = some 0 := ⟨big_of 868 (by decide +kernel) rfl, big_of 869 (by decide +kernel) rfl, big_of 1 (by decide +kernel) rfl, big_of 870 (by decide +kernel) rfl, ⟨by decide +kernel, by decide +kernel⟩, by decide +kernel⟩
theorem km_L_113 : LkV RL 113 yX11_image cX11_image 2 (some .int) 0 := ⟨big_of 867 (by decide +kernel) rfl, kv_X11_image⟩
theorem kv_X5_keep : Cond.instanceMethod yX5_keep ∈ BIG ∧ Cond.selects yX5_keep.cls yX5_keep yX5_keep ∈ BIG ∧ Cond.initialized yX5_keep.cls ∈ BIG ∧ Cond.code yX5_keep cX5_keep 1 none ∈ BIG ∧ notMH yX5_keep ∧ (parseMethodDescriptor yX5_keep.desc).map (fun d => d.parameters.length) = some 0 := ⟨big_of 872 (by decide +kernel) rfl, big_of 873 (by decide +kernel) rfl, big_of 21 (by decide +kernel) rfl, big_of 874 (by decide +kernel) rfl, ⟨by decide +kernel, by decide +kernel⟩, by decide +kernel⟩
theorem km_X11_267 : LkV RX11 267 yX5_keep cX5_keep 1 none 0 := ⟨big_of 871 (by decide +kernel) rfl, kv_X5_keep⟩
theorem kv_X11_back : Cond.instanceMethod yX11_back ∈ BIG ∧ Cond.selects yX11_back.cls yX11_back yX11_back ∈ BIG ∧ Cond.initialized yX11_back.cls ∈ BIG ∧ Cond.code yX11_back cX11_back 2 (some .int) ∈ BIG ∧ notMH yX11_back ∧ (parseMethodDescriptor yX11_back.desc).map (fun d => d.parameters.length) = some 0 := ⟨big_of 876 (by decide +kernel) rfl, big_of 877 (by decide +kernel) rfl, big_of 1 (by decide +kernel) rfl, big_of 878 (by decide +kernel) rfl, ⟨by decide +kernel, by decide +kernel⟩, by decide +kernel⟩
theorem km_L_117 : LkV RL 117 yX11_back cX11_back 2 (some .int) 0 := ⟨big_of 875 (by decide +kernel) rfl, kv_X11_back⟩
theorem kv_X5_layBack : Cond.instanceMethod yX5_layBack ∈ BIG ∧ Cond.selects yX5_layBack.cls yX5_layBack yX5_layBack ∈ BIG ∧ Cond.initialized yX5_layBack.cls ∈ BIG ∧ Cond.code yX5_layBack cX5_layBack 1 none ∈ BIG ∧ notMH yX5_layBack ∧ (parseMethodDescriptor yX5_layBack.desc).map (fun d => d.parameters.length) = some 0 := ⟨big_of 880 (by decide +kernel) rfl, big_of 881 (by decide +kernel) rfl, big_of 21 (by decide +kernel) rfl, big_of 882 (by decide +kernel) rfl, ⟨by decide +kernel, by decide +kernel⟩, by decide +kernel⟩
theorem km_X11_273 : LkV RX11 273 yX5_layBack cX5_layBack 1 none 0 := ⟨big_of 879 (by decide +kernel) rfl, kv_X5_layBack⟩
theorem kv_X11_count : Cond.instanceMethod yX11_count ∈ BIG ∧ Cond.selects yX11_count.cls yX11_count yX11_count ∈ BIG ∧ Cond.initialized yX11_count.cls ∈ BIG ∧ Cond.code yX11_count cX11_count 2 (some .int) ∈ BIG ∧ notMH yX11_count ∧ (parseMethodDescriptor yX11_count.desc).map (fun d => d.parameters.length) = some 1 := ⟨big_of 884 (by decide +kernel) rfl, big_of 885 (by decide +kernel) rfl, big_of 1 (by decide +kernel) rfl, big_of 886 (by decide +kernel) rfl, ⟨by decide +kernel, by decide +kernel⟩, by decide +kernel⟩
theorem km_L_121 : LkV RL 121 yX11_count cX11_count 2 (some .int) 1 := ⟨big_of 883 (by decide +kernel) rfl, kv_X11_count⟩
theorem kv_X11_hitsOfAll : Cond.instanceMethod yX11_hitsOfAll ∈ BIG ∧ Cond.selects yX11_hitsOfAll.cls yX11_hitsOfAll yX11_hitsOfAll ∈ BIG ∧ Cond.initialized yX11_hitsOfAll.cls ∈ BIG ∧ Cond.code yX11_hitsOfAll cX11_hitsOfAll 3 (some .int) ∈ BIG ∧ notMH yX11_hitsOfAll ∧ (parseMethodDescriptor yX11_hitsOfAll.desc).map (fun d => d.parameters.length) = some 0 := ⟨big_of 889 (by decide +kernel) rfl, big_sel (q := (yX11_hitsOfAll, 14)) 27 (by decide +kernel), big_of 1 (by decide +kernel) rfl, big_of 890 (by decide +kernel) rfl, ⟨by decide +kernel, by decide +kernel⟩, by decide +kernel⟩
theorem km_X11_276 : LkV RX11 276 yX11_hitsOfAll cX11_hitsOfAll 3 (some .int) 0 := ⟨big_of 887 (by decide +kernel) rfl, kv_X11_hitsOfAll⟩
theorem kv_X11_sheet : Cond.instanceMethod yX11_sheet ∈ BIG ∧ Cond.selects yX11_sheet.cls yX11_sheet yX11_sheet ∈ BIG ∧ Cond.initialized yX11_sheet.cls ∈ BIG ∧ Cond.code yX11_sheet cX11_sheet 5 (some .int) ∈ BIG ∧ notMH yX11_sheet ∧ (parseMethodDescriptor yX11_sheet.desc).map (fun d => d.parameters.length) = some 3 := ⟨big_of 892 (by decide +kernel) rfl, big_of 893 (by decide +kernel) rfl, big_of 1 (by decide +kernel) rfl, big_of 894 (by decide +kernel) rfl, ⟨by decide +kernel, by decide +kernel⟩, by decide +kernel⟩
theorem km_L_125 : LkV RL 125 yX11_sheet cX11_sheet 5 (some .int) 3 := ⟨big_of 891 (by decide +kernel) rfl, kv_X11_sheet⟩
theorem kv_X7_become : Cond.instanceMethod yX7_become ∈ BIG ∧ Cond.selects yX7_become.cls yX7_become yX7_become ∈ BIG ∧ Cond.initialized yX7_become.cls ∈ BIG ∧ Cond.code yX7_become cX7_become 3 none ∈ BIG ∧ notMH yX7_become ∧ (parseMethodDescriptor yX7_become.desc).map (fun d => d.parameters.length) = some 2 := ⟨big_of 896 (by decide +kernel) rfl, big_of 897 (by decide +kernel) rfl, big_of 9 (by decide +kernel) rfl, big_of 898 (by decide +kernel) rfl, ⟨by decide +kernel, by decide +kernel⟩, by decide +kernel⟩
theorem km_X11_279 : LkV RX11 279 yX7_become cX7_become 3 none 2 := ⟨big_of 895 (by decide +kernel) rfl, kv_X7_become⟩
theorem kv_J7_fill_53178 : Cond.static yJ7_fill_53178 ∈ BIG ∧ Cond.initialized yJ7_fill_53178.cls ∈ BIG ∧ Cond.code yJ7_fill_53178 cJ7_fill_53178 4 none ∈ BIG ∧ notMH yJ7_fill_53178 ∧ (parseMethodDescriptor yJ7_fill_53178.desc).map (fun d => d.parameters.length) = some 2 := ⟨big_of 900 (by decide +kernel) rfl, big_of 16 (by decide +kernel) rfl, big_of 901 (by decide +kernel) rfl, ⟨by decide +kernel, by decide +kernel⟩, by decide +kernel⟩
theorem km_X7_20 : LkS RX7 20 yJ7_fill_53178 cJ7_fill_53178 4 none 2 := ⟨Or.inl (big_of 899 (by decide +kernel) rfl), kv_J7_fill_53178⟩
theorem kv_X11_cell : Cond.instanceMethod yX11_cell ∈ BIG ∧ Cond.selects yX11_cell.cls yX11_cell yX11_cell ∈ BIG ∧ Cond.initialized yX11_cell.cls ∈ BIG ∧ Cond.code yX11_cell cX11_cell 5 (some .int) ∈ BIG ∧ notMH yX11_cell ∧ (parseMethodDescriptor yX11_cell.desc).map (fun d => d.parameters.length) = some 3 := ⟨big_of 903 (by decide +kernel) rfl, big_of 904 (by decide +kernel) rfl, big_of 1 (by decide +kernel) rfl, big_of 905 (by decide +kernel) rfl, ⟨by decide +kernel, by decide +kernel⟩, by decide +kernel⟩
theorem km_L_129 : LkV RL 129 yX11_cell cX11_cell 5 (some .int) 3 := ⟨big_of 902 (by decide +kernel) rfl, kv_X11_cell⟩
theorem kv_X7_write : Cond.instanceMethod yX7_write ∈ BIG ∧ Cond.selects yX7_write.cls yX7_write yX7_write ∈ BIG ∧ Cond.initialized yX7_write.cls ∈ BIG ∧ Cond.code yX7_write cX7_write 3 none ∈ BIG ∧ notMH yX7_write ∧ (parseMethodDescriptor yX7_write.desc).map (fun d => d.parameters.length) = some 2 := ⟨big_of 907 (by decide +kernel) rfl, big_of 908 (by decide +kernel) rfl, big_of 9 (by decide +kernel) rfl, big_of 909 (by decide +kernel) rfl, ⟨by decide +kernel, by decide +kernel⟩, by decide +kernel⟩
theorem km_X11_283 : LkV RX11 283 yX7_write cX7_write 3 none 2 := ⟨big_of 906 (by decide +kernel) rfl, kv_X7_write⟩
theorem kv_X11_copy : Cond.instanceMethod yX11_copy ∈ BIG ∧ Cond.selects yX11_copy.cls yX11_copy yX11_copy ∈ BIG ∧ Cond.initialized yX11_copy.cls ∈ BIG ∧ Cond.code yX11_copy cX11_copy 8 (some .int) ∈ BIG ∧ notMH yX11_copy ∧ (parseMethodDescriptor yX11_copy.desc).map (fun d => d.parameters.length) = some 5 := ⟨big_of 911 (by decide +kernel) rfl, big_of 912 (by decide +kernel) rfl, big_of 1 (by decide +kernel) rfl, big_of 913 (by decide +kernel) rfl, ⟨by decide +kernel, by decide +kernel⟩, by decide +kernel⟩
theorem km_L_133 : LkV RL 133 yX11_copy cX11_copy 8 (some .int) 5 := ⟨big_of 910 (by decide +kernel) rfl, kv_X11_copy⟩
theorem kv_X7_holds : Cond.instanceMethod yX7_holds ∈ BIG ∧ Cond.selects yX7_holds.cls yX7_holds yX7_holds ∈ BIG ∧ Cond.initialized yX7_holds.cls ∈ BIG ∧ Cond.code yX7_holds cX7_holds 3 (some .boolean) ∈ BIG ∧ notMH yX7_holds ∧ (parseMethodDescriptor yX7_holds.desc).map (fun d => d.parameters.length) = some 2 := ⟨big_of 915 (by decide +kernel) rfl, big_of 916 (by decide +kernel) rfl, big_of 9 (by decide +kernel) rfl, big_of 917 (by decide +kernel) rfl, ⟨by decide +kernel, by decide +kernel⟩, by decide +kernel⟩
theorem km_X11_289 : LkV RX11 289 yX7_holds cX7_holds 3 (some .boolean) 2 := ⟨big_of 914 (by decide +kernel) rfl, kv_X7_holds⟩
theorem kv_X11_runs : Cond.instanceMethod yX11_runs ∈ BIG ∧ Cond.selects yX11_runs.cls yX11_runs yX11_runs ∈ BIG ∧ Cond.initialized yX11_runs.cls ∈ BIG ∧ Cond.code yX11_runs cX11_runs 9 (some .int) ∈ BIG ∧ notMH yX11_runs ∧ (parseMethodDescriptor yX11_runs.desc).map (fun d => d.parameters.length) = some 4 := ⟨big_of 920 (by decide +kernel) rfl, big_of 921 (by decide +kernel) rfl, big_of 1 (by decide +kernel) rfl, big_of 922 (by decide +kernel) rfl, ⟨by decide +kernel, by decide +kernel⟩, by decide +kernel⟩
theorem km_L_138 : LkV RL 138 yX11_runs cX11_runs 9 (some .int) 4 := ⟨big_of 919 (by decide +kernel) rfl, kv_X11_runs⟩
theorem km_X11_301 : LkV RX11 301 yX11_run cX11_run 4 (some .int) 3 := ⟨big_of 923 (by decide +kernel) rfl, kv_X11_run⟩
theorem kv_X11_taken : Cond.instanceMethod yX11_taken ∈ BIG ∧ Cond.selects yX11_taken.cls yX11_taken yX11_taken ∈ BIG ∧ Cond.initialized yX11_taken.cls ∈ BIG ∧ Cond.code yX11_taken cX11_taken 3 (some .int) ∈ BIG ∧ notMH yX11_taken ∧ (parseMethodDescriptor yX11_taken.desc).map (fun d => d.parameters.length) = some 2 := ⟨big_of 925 (by decide +kernel) rfl, big_of 926 (by decide +kernel) rfl, big_of 1 (by decide +kernel) rfl, big_of 927 (by decide +kernel) rfl, ⟨by decide +kernel, by decide +kernel⟩, by decide +kernel⟩
theorem km_L_143 : LkV RL 143 yX11_taken cX11_taken 3 (some .int) 2 := ⟨big_of 924 (by decide +kernel) rfl, kv_X11_taken⟩
theorem kv_X1_isUnder : Cond.instanceMethod yX1_isUnder ∈ BIG ∧ Cond.selects yX1_isUnder.cls yX1_isUnder yX1_isUnder ∈ BIG ∧ Cond.initialized yX1_isUnder.cls ∈ BIG ∧ Cond.code yX1_isUnder cX1_isUnder 4 (some .boolean) ∈ BIG ∧ notMH yX1_isUnder ∧ (parseMethodDescriptor yX1_isUnder.desc).map (fun d => d.parameters.length) = some 1 := ⟨big_of 929 (by decide +kernel) rfl, big_of 930 (by decide +kernel) rfl, big_of 23 (by decide +kernel) rfl, big_of 931 (by decide +kernel) rfl, ⟨by decide +kernel, by decide +kernel⟩, by decide +kernel⟩
theorem km_X11_304 : LkV RX11 304 yX1_isUnder cX1_isUnder 4 (some .boolean) 1 := ⟨big_of 928 (by decide +kernel) rfl, kv_X1_isUnder⟩
theorem kv_X12_init : Cond.instanceMethod yX12_init ∈ BIG ∧ Cond.initialized yX12_init.cls ∈ BIG ∧ Cond.code yX12_init cX12_init 3 none ∈ BIG ∧ yX12_init.name = "<init>" ∧ notMH yX12_init ∧ (parseMethodDescriptor yX12_init.desc).map (fun d => d.parameters.length) = some 0 := ⟨big_of 937 (by decide +kernel) rfl, big_of 19 (by decide +kernel) rfl, big_of 938 (by decide +kernel) rfl, rfl, ⟨by decide +kernel, by decide +kernel⟩, by decide +kernel⟩
theorem km_L_12 : LkI RL 12 yX12_init cX12_init 3 0 := ⟨Or.inl (big_of 936 (by decide +kernel) rfl), kv_X12_init⟩
theorem kv_X12_spell : Cond.instanceMethod yX12_spell ∈ BIG ∧ Cond.selects yX12_spell.cls yX12_spell yX12_spell ∈ BIG ∧ Cond.initialized yX12_spell.cls ∈ BIG ∧ Cond.code yX12_spell cX12_spell 5 none ∈ BIG ∧ notMH yX12_spell ∧ (parseMethodDescriptor yX12_spell.desc).map (fun d => d.parameters.length) = some 2 := ⟨big_of 943 (by decide +kernel) rfl, big_sel (q := (yX12_spell, 65)) 28 (by decide +kernel), big_of 19 (by decide +kernel) rfl, big_of 944 (by decide +kernel) rfl, ⟨by decide +kernel, by decide +kernel⟩, by decide +kernel⟩
theorem km_X12_120 : LkV RX12 120 yX12_spell cX12_spell 5 none 2 := ⟨big_of 941 (by decide +kernel) rfl, kv_X12_spell⟩
theorem kv_X12_pack : Cond.instanceMethod yX12_pack ∈ BIG ∧ Cond.selects yX12_pack.cls yX12_pack yX12_pack ∈ BIG ∧ Cond.initialized yX12_pack.cls ∈ BIG ∧ Cond.code yX12_pack cX12_pack 5 (some .int) ∈ BIG ∧ notMH yX12_pack ∧ (parseMethodDescriptor yX12_pack.desc).map (fun d => d.parameters.length) = some 1 := ⟨big_of 1148 (by decide +kernel) rfl, big_of 1149 (by decide +kernel) rfl, big_of 19 (by decide +kernel) rfl, big_of 1150 (by decide +kernel) rfl, ⟨by decide +kernel, by decide +kernel⟩, by decide +kernel⟩
theorem km_L_17 : LkV RL 17 yX12_pack cX12_pack 5 (some .int) 1 := ⟨big_of 1147 (by decide +kernel) rfl, kv_X12_pack⟩
theorem kv_X12_in : Cond.static yX12_in ∈ BIG ∧ Cond.initialized yX12_in.cls ∈ BIG ∧ Cond.code yX12_in cX12_in 6 (some .boolean) ∈ BIG ∧ notMH yX12_in ∧ (parseMethodDescriptor yX12_in.desc).map (fun d => d.parameters.length) = some 3 := ⟨big_of 1153 (by decide +kernel) rfl, big_of 19 (by decide +kernel) rfl, big_of 1154 (by decide +kernel) rfl, ⟨by decide +kernel, by decide +kernel⟩, by decide +kernel⟩
theorem km_X12_142 : LkS RX12 142 yX12_in cX12_in 6 (some .boolean) 3 := ⟨Or.inl (big_of 1152 (by decide +kernel) rfl), kv_X12_in⟩
theorem kv_X12_run : Cond.instanceMethod yX12_run ∈ BIG ∧ Cond.selects yX12_run.cls yX12_run yX12_run ∈ BIG ∧ Cond.initialized yX12_run.cls ∈ BIG ∧ Cond.code yX12_run cX12_run 7 (some .int) ∈ BIG ∧ notMH yX12_run ∧ (parseMethodDescriptor yX12_run.desc).map (fun d => d.parameters.length) = some 3 := ⟨big_of 1156 (by decide +kernel) rfl, big_of 1157 (by decide +kernel) rfl, big_of 19 (by decide +kernel) rfl, big_of 1158 (by decide +kernel) rfl, ⟨by decide +kernel, by decide +kernel⟩, by decide +kernel⟩
theorem km_L_22 : LkV RL 22 yX12_run cX12_run 7 (some .int) 3 := ⟨big_of 1155 (by decide +kernel) rfl, kv_X12_run⟩
theorem kv_X12_at : Cond.instanceMethod yX12_at ∈ BIG ∧ Cond.selects yX12_at.cls yX12_at yX12_at ∈ BIG ∧ Cond.initialized yX12_at.cls ∈ BIG ∧ Cond.code yX12_at cX12_at 4 (some .int) ∈ BIG ∧ notMH yX12_at ∧ (parseMethodDescriptor yX12_at.desc).map (fun d => d.parameters.length) = some 3 := ⟨big_of 1162 (by decide +kernel) rfl, big_of 1163 (by decide +kernel) rfl, big_of 19 (by decide +kernel) rfl, big_of 1164 (by decide +kernel) rfl, ⟨by decide +kernel, by decide +kernel⟩, by decide +kernel⟩
theorem km_L_26 : LkV RL 26 yX12_at cX12_at 4 (some .int) 3 := ⟨big_of 1161 (by decide +kernel) rfl, kv_X12_at⟩
theorem kv_X12_isRun : Cond.instanceMethod yX12_isRun ∈ BIG ∧ Cond.selects yX12_isRun.cls yX12_isRun yX12_isRun ∈ BIG ∧ Cond.initialized yX12_isRun.cls ∈ BIG ∧ Cond.code yX12_isRun cX12_isRun 2 (some .boolean) ∈ BIG ∧ notMH yX12_isRun ∧ (parseMethodDescriptor yX12_isRun.desc).map (fun d => d.parameters.length) = some 1 := ⟨big_of 1167 (by decide +kernel) rfl, big_sel (q := (yX12_isRun, 65)) 29 (by decide +kernel), big_of 19 (by decide +kernel) rfl, big_of 1168 (by decide +kernel) rfl, ⟨by decide +kernel, by decide +kernel⟩, by decide +kernel⟩
theorem km_X12_157 : LkV RX12 157 yX12_isRun cX12_isRun 2 (some .boolean) 1 := ⟨big_of 1165 (by decide +kernel) rfl, kv_X12_isRun⟩
theorem kv_X12_sizeOf : Cond.instanceMethod yX12_sizeOf ∈ BIG ∧ Cond.selects yX12_sizeOf.cls yX12_sizeOf yX12_sizeOf ∈ BIG ∧ Cond.initialized yX12_sizeOf.cls ∈ BIG ∧ Cond.code yX12_sizeOf cX12_sizeOf 2 (some .int) ∈ BIG ∧ notMH yX12_sizeOf ∧ (parseMethodDescriptor yX12_sizeOf.desc).map (fun d => d.parameters.length) = some 1 := ⟨big_of 1171 (by decide +kernel) rfl, big_sel (q := (yX12_sizeOf, 65)) 30 (by decide +kernel), big_of 19 (by decide +kernel) rfl, big_of 1172 (by decide +kernel) rfl, ⟨by decide +kernel, by decide +kernel⟩, by decide +kernel⟩
theorem km_X12_161 : LkV RX12 161 yX12_sizeOf cX12_sizeOf 2 (some .int) 1 := ⟨big_of 1169 (by decide +kernel) rfl, kv_X12_sizeOf⟩
theorem kv_X12_guess : Cond.instanceMethod yX12_guess ∈ BIG ∧ Cond.selects yX12_guess.cls yX12_guess yX12_guess ∈ BIG ∧ Cond.initialized yX12_guess.cls ∈ BIG ∧ Cond.code yX12_guess cX12_guess 5 (some .int) ∈ BIG ∧ notMH yX12_guess ∧ (parseMethodDescriptor yX12_guess.desc).map (fun d => d.parameters.length) = some 3 := ⟨big_of 1174 (by decide +kernel) rfl, big_of 1175 (by decide +kernel) rfl, big_of 19 (by decide +kernel) rfl, big_of 1176 (by decide +kernel) rfl, ⟨by decide +kernel, by decide +kernel⟩, by decide +kernel⟩
theorem km_L_30 : LkV RL 30 yX12_guess cX12_guess 5 (some .int) 3 := ⟨big_of 1173 (by decide +kernel) rfl, kv_X12_guess⟩
theorem kv_X12_isSheet : Cond.static yX12_isSheet ∈ BIG ∧ Cond.initialized yX12_isSheet.cls ∈ BIG ∧ Cond.code yX12_isSheet cX12_isSheet 1 (some .boolean) ∈ BIG ∧ notMH yX12_isSheet ∧ (parseMethodDescriptor yX12_isSheet.desc).map (fun d => d.parameters.length) = some 1 := ⟨big_of 1178 (by decide +kernel) rfl, big_of 19 (by decide +kernel) rfl, big_of 1179 (by decide +kernel) rfl, ⟨by decide +kernel, by decide +kernel⟩, by decide +kernel⟩
theorem km_X12_165 : LkS RX12 165 yX12_isSheet cX12_isSheet 1 (some .boolean) 1 := ⟨Or.inl (big_of 1177 (by decide +kernel) rfl), kv_X12_isSheet⟩
theorem kv_X12_isSignOf : Cond.static yX12_isSignOf ∈ BIG ∧ Cond.initialized yX12_isSignOf.cls ∈ BIG ∧ Cond.code yX12_isSignOf cX12_isSignOf 1 (some .boolean) ∈ BIG ∧ notMH yX12_isSignOf ∧ (parseMethodDescriptor yX12_isSignOf.desc).map (fun d => d.parameters.length) = some 1 := ⟨big_of 1182 (by decide +kernel) rfl, big_of 19 (by decide +kernel) rfl, big_of 1183 (by decide +kernel) rfl, ⟨by decide +kernel, by decide +kernel⟩, by decide +kernel⟩
theorem km_X12_168 : LkS RX12 168 yX12_isSignOf cX12_isSignOf 1 (some .boolean) 1 := ⟨Or.inl (big_of 1181 (by decide +kernel) rfl), kv_X12_isSignOf⟩
theorem kv_X12_slip : Cond.instanceMethod yX12_slip ∈ BIG ∧ Cond.selects yX12_slip.cls yX12_slip yX12_slip ∈ BIG ∧ Cond.initialized yX12_slip.cls ∈ BIG ∧ Cond.code yX12_slip cX12_slip 5 (some .int) ∈ BIG ∧ notMH yX12_slip ∧ (parseMethodDescriptor yX12_slip.desc).map (fun d => d.parameters.length) = some 3 := ⟨big_of 1186 (by decide +kernel) rfl, big_of 1187 (by decide +kernel) rfl, big_of 19 (by decide +kernel) rfl, big_of 1188 (by decide +kernel) rfl, ⟨by decide +kernel, by decide +kernel⟩, by decide +kernel⟩
theorem km_L_34 : LkV RL 34 yX12_slip cX12_slip 5 (some .int) 3 := ⟨big_of 1185 (by decide +kernel) rfl, kv_X12_slip⟩
theorem kv_X12_isHit : Cond.instanceMethod yX12_isHit ∈ BIG ∧ Cond.selects yX12_isHit.cls yX12_isHit yX12_isHit ∈ BIG ∧ Cond.initialized yX12_isHit.cls ∈ BIG ∧ Cond.code yX12_isHit cX12_isHit 3 (some .boolean) ∈ BIG ∧ notMH yX12_isHit ∧ (parseMethodDescriptor yX12_isHit.desc).map (fun d => d.parameters.length) = some 2 := ⟨big_of 1191 (by decide +kernel) rfl, big_sel (q := (yX12_isHit, 65)) 31 (by decide +kernel), big_of 19 (by decide +kernel) rfl, big_of 1192 (by decide +kernel) rfl, ⟨by decide +kernel, by decide +kernel⟩, by decide +kernel⟩
theorem km_X12_171 : LkV RX12 171 yX12_isHit cX12_isHit 3 (some .boolean) 2 := ⟨big_of 1189 (by decide +kernel) rfl, kv_X12_isHit⟩
theorem kv_X12_cut : Cond.instanceMethod yX12_cut ∈ BIG ∧ Cond.selects yX12_cut.cls yX12_cut yX12_cut ∈ BIG ∧ Cond.initialized yX12_cut.cls ∈ BIG ∧ Cond.code yX12_cut cX12_cut 5 (some .int) ∈ BIG ∧ notMH yX12_cut ∧ (parseMethodDescriptor yX12_cut.desc).map (fun d => d.parameters.length) = some 2 := ⟨big_of 1194 (by decide +kernel) rfl, big_of 1195 (by decide +kernel) rfl, big_of 19 (by decide +kernel) rfl, big_of 1196 (by decide +kernel) rfl, ⟨by decide +kernel, by decide +kernel⟩, by decide +kernel⟩
theorem km_L_39 : LkV RL 39 yX12_cut cX12_cut 5 (some .int) 2 := ⟨big_of 1193 (by decide +kernel) rfl, kv_X12_cut⟩
theorem kv_X12_shuffle : Cond.instanceMethod yX12_shuffle ∈ BIG ∧ Cond.selects yX12_shuffle.cls yX12_shuffle yX12_shuffle ∈ BIG ∧ Cond.initialized yX12_shuffle.cls ∈ BIG ∧ Cond.code yX12_shuffle cX12_shuffle 3 (some .int) ∈ BIG ∧ notMH yX12_shuffle ∧ (parseMethodDescriptor yX12_shuffle.desc).map (fun d => d.parameters.length) = some 2 := ⟨big_of 1198 (by decide +kernel) rfl, big_of 1199 (by decide +kernel) rfl, big_of 19 (by decide +kernel) rfl, big_of 1200 (by decide +kernel) rfl, ⟨by decide +kernel, by decide +kernel⟩, by decide +kernel⟩
theorem km_L_43 : LkV RL 43 yX12_shuffle cX12_shuffle 3 (some .int) 2 := ⟨big_of 1197 (by decide +kernel) rfl, kv_X12_shuffle⟩
theorem kv_X12_mixes : Cond.instanceMethod yX12_mixes ∈ BIG ∧ Cond.selects yX12_mixes.cls yX12_mixes yX12_mixes ∈ BIG ∧ Cond.initialized yX12_mixes.cls ∈ BIG ∧ Cond.code yX12_mixes cX12_mixes 8 none ∈ BIG ∧ notMH yX12_mixes ∧ (parseMethodDescriptor yX12_mixes.desc).map (fun d => d.parameters.length) = some 2 := ⟨big_of 1203 (by decide +kernel) rfl, big_sel (q := (yX12_mixes, 65)) 32 (by decide +kernel), big_of 19 (by decide +kernel) rfl, big_of 1204 (by decide +kernel) rfl, ⟨by decide +kernel, by decide +kernel⟩, by decide +kernel⟩
theorem km_X12_179 : LkV RX12 179 yX12_mixes cX12_mixes 8 none 2 := ⟨big_of 1201 (by decide +kernel) rfl, kv_X12_mixes⟩
theorem kv_X12_hitsOf : Cond.instanceMethod yX12_hitsOf ∈ BIG ∧ Cond.selects yX12_hitsOf.cls yX12_hitsOf yX12_hitsOf ∈ BIG ∧ Cond.initialized yX12_hitsOf.cls ∈ BIG ∧ Cond.code yX12_hitsOf cX12_hitsOf 4 (some .int) ∈ BIG ∧ notMH yX12_hitsOf ∧ (parseMethodDescriptor yX12_hitsOf.desc).map (fun d => d.parameters.length) = some 1 := ⟨big_of 1209 (by decide +kernel) rfl, big_sel (q := (yX12_hitsOf, 65)) 33 (by decide +kernel), big_of 19 (by decide +kernel) rfl, big_of 1210 (by decide +kernel) rfl, ⟨by decide +kernel, by decide +kernel⟩, by decide +kernel⟩
theorem km_X12_183 : LkV RX12 183 yX12_hitsOf cX12_hitsOf 4 (some .int) 1 := ⟨big_of 1207 (by decide +kernel) rfl, kv_X12_hitsOf⟩
theorem kv_X12_told : Cond.instanceMethod yX12_told ∈ BIG ∧ Cond.selects yX12_told.cls yX12_told yX12_told ∈ BIG ∧ Cond.initialized yX12_told.cls ∈ BIG ∧ Cond.code yX12_told cX12_told 3 (some .int) ∈ BIG ∧ notMH yX12_told ∧ (parseMethodDescriptor yX12_told.desc).map (fun d => d.parameters.length) = some 2 := ⟨big_of 1212 (by decide +kernel) rfl, big_of 1213 (by decide +kernel) rfl, big_of 19 (by decide +kernel) rfl, big_of 1214 (by decide +kernel) rfl, ⟨by decide +kernel, by decide +kernel⟩, by decide +kernel⟩
theorem km_L_47 : LkV RL 47 yX12_told cX12_told 3 (some .int) 2 := ⟨big_of 1211 (by decide +kernel) rfl, kv_X12_told⟩
theorem kv_X12_nextOf : Cond.instanceMethod yX12_nextOf ∈ BIG ∧ Cond.selects yX12_nextOf.cls yX12_nextOf yX12_nextOf ∈ BIG ∧ Cond.initialized yX12_nextOf.cls ∈ BIG ∧ Cond.code yX12_nextOf cX12_nextOf 4 (some .int) ∈ BIG ∧ notMH yX12_nextOf ∧ (parseMethodDescriptor yX12_nextOf.desc).map (fun d => d.parameters.length) = some 1 := ⟨big_of 1218 (by decide +kernel) rfl, big_sel (q := (yX12_nextOf, 65)) 34 (by decide +kernel), big_of 19 (by decide +kernel) rfl, big_of 1219 (by decide +kernel) rfl, ⟨by decide +kernel, by decide +kernel⟩, by decide +kernel⟩
theorem km_X12_187 : LkV RX12 187 yX12_nextOf cX12_nextOf 4 (some .int) 1 := ⟨big_of 1216 (by decide +kernel) rfl, kv_X12_nextOf⟩
theorem kv_X12_byLeft : Cond.instanceMethod yX12_byLeft ∈ BIG ∧ Cond.selects yX12_byLeft.cls yX12_byLeft yX12_byLeft ∈ BIG ∧ Cond.initialized yX12_byLeft.cls ∈ BIG ∧ Cond.code yX12_byLeft cX12_byLeft 6 (some .int) ∈ BIG ∧ notMH yX12_byLeft ∧ (parseMethodDescriptor yX12_byLeft.desc).map (fun d => d.parameters.length) = some 1 := ⟨big_of 1222 (by decide +kernel) rfl, big_sel (q := (yX12_byLeft, 65)) 35 (by decide +kernel), big_of 19 (by decide +kernel) rfl, big_of 1223 (by decide +kernel) rfl, ⟨by decide +kernel, by decide +kernel⟩, by decide +kernel⟩
theorem km_X12_190 : LkV RX12 190 yX12_byLeft cX12_byLeft 6 (some .int) 1 := ⟨big_of 1220 (by decide +kernel) rfl, kv_X12_byLeft⟩
theorem kv_X12_alikeOf : Cond.instanceMethod yX12_alikeOf ∈ BIG ∧ Cond.selects yX12_alikeOf.cls yX12_alikeOf yX12_alikeOf ∈ BIG ∧ Cond.initialized yX12_alikeOf.cls ∈ BIG ∧ Cond.code yX12_alikeOf cX12_alikeOf 4 (some .int) ∈ BIG ∧ notMH yX12_alikeOf ∧ (parseMethodDescriptor yX12_alikeOf.desc).map (fun d => d.parameters.length) = some 1 := ⟨big_of 1226 (by decide +kernel) rfl, big_sel (q := (yX12_alikeOf, 65)) 36 (by decide +kernel), big_of 19 (by decide +kernel) rfl, big_of 1227 (by decide +kernel) rfl, ⟨by decide +kernel, by decide +kernel⟩, by decide +kernel⟩
theorem km_X12_193 : LkV RX12 193 yX12_alikeOf cX12_alikeOf 4 (some .int) 1 := ⟨big_of 1224 (by decide +kernel) rfl, kv_X12_alikeOf⟩
theorem kv_X12_boundOf : Cond.instanceMethod yX12_boundOf ∈ BIG ∧ Cond.selects yX12_boundOf.cls yX12_boundOf yX12_boundOf ∈ BIG ∧ Cond.initialized yX12_boundOf.cls ∈ BIG ∧ Cond.code yX12_boundOf cX12_boundOf 4 (some .int) ∈ BIG ∧ notMH yX12_boundOf ∧ (parseMethodDescriptor yX12_boundOf.desc).map (fun d => d.parameters.length) = some 1 := ⟨big_of 1230 (by decide +kernel) rfl, big_sel (q := (yX12_boundOf, 65)) 37 (by decide +kernel), big_of 19 (by decide +kernel) rfl, big_of 1231 (by decide +kernel) rfl, ⟨by decide +kernel, by decide +kernel⟩, by decide +kernel⟩
theorem km_X12_196 : LkV RX12 196 yX12_boundOf cX12_boundOf 4 (some .int) 1 := ⟨big_of 1228 (by decide +kernel) rfl, kv_X12_boundOf⟩
theorem kv_X12_givesOf : Cond.instanceMethod yX12_givesOf ∈ BIG ∧ Cond.selects yX12_givesOf.cls yX12_givesOf yX12_givesOf ∈ BIG ∧ Cond.initialized yX12_givesOf.cls ∈ BIG ∧ Cond.code yX12_givesOf cX12_givesOf 6 (some .int) ∈ BIG ∧ notMH yX12_givesOf ∧ (parseMethodDescriptor yX12_givesOf.desc).map (fun d => d.parameters.length) = some 2 := ⟨big_of 1234 (by decide +kernel) rfl, big_sel (q := (yX12_givesOf, 65)) 38 (by decide +kernel), big_of 19 (by decide +kernel) rfl, big_of 1235 (by decide +kernel) rfl, ⟨by decide +kernel, by decide +kernel⟩, by decide +kernel⟩
theorem km_X12_221 : LkV RX12 221 yX12_givesOf cX12_givesOf 6 (some .int) 2 := ⟨big_of 1232 (by decide +kernel) rfl, kv_X12_givesOf⟩
theorem kv_X12_saysOf : Cond.instanceMethod yX12_saysOf ∈ BIG ∧ Cond.selects yX12_saysOf.cls yX12_saysOf yX12_saysOf ∈ BIG ∧ Cond.initialized yX12_saysOf.cls ∈ BIG ∧ Cond.code yX12_saysOf cX12_saysOf 4 (some .int) ∈ BIG ∧ notMH yX12_saysOf ∧ (parseMethodDescriptor yX12_saysOf.desc).map (fun d => d.parameters.length) = some 2 := ⟨big_of 1238 (by decide +kernel) rfl, big_sel (q := (yX12_saysOf, 65)) 39 (by decide +kernel), big_of 19 (by decide +kernel) rfl, big_of 1239 (by decide +kernel) rfl, ⟨by decide +kernel, by decide +kernel⟩, by decide +kernel⟩
theorem km_X12_199 : LkV RX12 199 yX12_saysOf cX12_saysOf 4 (some .int) 2 := ⟨big_of 1236 (by decide +kernel) rfl, kv_X12_saysOf⟩
theorem kv_X12_read : Cond.instanceMethod yX12_read ∈ BIG ∧ Cond.selects yX12_read.cls yX12_read yX12_read ∈ BIG ∧ Cond.initialized yX12_read.cls ∈ BIG ∧ Cond.code yX12_read cX12_read 6 (some .int) ∈ BIG ∧ notMH yX12_read ∧ (parseMethodDescriptor yX12_read.desc).map (fun d => d.parameters.length) = some 2 := ⟨big_of 1242 (by decide +kernel) rfl, big_sel (q := (yX12_read, 65)) 40 (by decide +kernel), big_of 19 (by decide +kernel) rfl, big_of 1243 (by decide +kernel) rfl, ⟨by decide +kernel, by decide +kernel⟩, by decide +kernel⟩
theorem km_X12_377 : LkV RX12 377 yX12_read cX12_read 6 (some .int) 2 := ⟨big_of 1240 (by decide +kernel) rfl, kv_X12_read⟩
theorem kv_X12_next : Cond.instanceMethod yX12_next ∈ BIG ∧ Cond.selects yX12_next.cls yX12_next yX12_next ∈ BIG ∧ Cond.initialized yX12_next.cls ∈ BIG ∧ Cond.code yX12_next cX12_next 3 none ∈ BIG ∧ notMH yX12_next ∧ (parseMethodDescriptor yX12_next.desc).map (fun d => d.parameters.length) = some 0 := ⟨big_of 1246 (by decide +kernel) rfl, big_sel (q := (yX12_next, 65)) 41 (by decide +kernel), big_of 19 (by decide +kernel) rfl, big_of 1247 (by decide +kernel) rfl, ⟨by decide +kernel, by decide +kernel⟩, by decide +kernel⟩
theorem km_X12_291 : LkV RX12 291 yX12_next cX12_next 3 none 0 := ⟨big_of 1244 (by decide +kernel) rfl, kv_X12_next⟩
theorem kv_X12_byteAt : Cond.instanceMethod yX12_byteAt ∈ BIG ∧ Cond.selects yX12_byteAt.cls yX12_byteAt yX12_byteAt ∈ BIG ∧ Cond.initialized yX12_byteAt.cls ∈ BIG ∧ Cond.code yX12_byteAt cX12_byteAt 2 (some .int) ∈ BIG ∧ notMH yX12_byteAt ∧ (parseMethodDescriptor yX12_byteAt.desc).map (fun d => d.parameters.length) = some 1 := ⟨big_of 1250 (by decide +kernel) rfl, big_sel (q := (yX12_byteAt, 65)) 42 (by decide +kernel), big_of 19 (by decide +kernel) rfl, big_of 1251 (by decide +kernel) rfl, ⟨by decide +kernel, by decide +kernel⟩, by decide +kernel⟩
theorem km_X12_251 : LkV RX12 251 yX12_byteAt cX12_byteAt 2 (some .int) 1 := ⟨big_of 1248 (by decide +kernel) rfl, kv_X12_byteAt⟩
theorem kv_X12_part : Cond.instanceMethod yX12_part ∈ BIG ∧ Cond.selects yX12_part.cls yX12_part yX12_part ∈ BIG ∧ Cond.initialized yX12_part.cls ∈ BIG ∧ Cond.code yX12_part cX12_part 4 (some .int) ∈ BIG ∧ notMH yX12_part ∧ (parseMethodDescriptor yX12_part.desc).map (fun d => d.parameters.length) = some 1 := ⟨big_of 1263 (by decide +kernel) rfl, big_sel (q := (yX12_part, 65)) 43 (by decide +kernel), big_of 19 (by decide +kernel) rfl, big_of 1264 (by decide +kernel) rfl, ⟨by decide +kernel, by decide +kernel⟩, by decide +kernel⟩
theorem km_X12_369 : LkV RX12 369 yX12_part cX12_part 4 (some .int) 1 := ⟨big_of 1261 (by decide +kernel) rfl, kv_X12_part⟩
theorem kv_X12_isWord : Cond.instanceMethod yX12_isWord ∈ BIG ∧ Cond.selects yX12_isWord.cls yX12_isWord yX12_isWord ∈ BIG ∧ Cond.initialized yX12_isWord.cls ∈ BIG ∧ Cond.code yX12_isWord cX12_isWord 3 (some .boolean) ∈ BIG ∧ notMH yX12_isWord ∧ (parseMethodDescriptor yX12_isWord.desc).map (fun d => d.parameters.length) = some 1 := ⟨big_of 1267 (by decide +kernel) rfl, big_sel (q := (yX12_isWord, 65)) 44 (by decide +kernel), big_of 19 (by decide +kernel) rfl, big_of 1268 (by decide +kernel) rfl, ⟨by decide +kernel, by decide +kernel⟩, by decide +kernel⟩
theorem km_X12_296 : LkV RX12 296 yX12_isWord cX12_isWord 3 (some .boolean) 1 := ⟨big_of 1265 (by decide +kernel) rfl, kv_X12_isWord⟩
theorem kv_X12_fail : Cond.instanceMethod yX12_fail ∈ BIG ∧ Cond.selects yX12_fail.cls yX12_fail yX12_fail ∈ BIG ∧ Cond.initialized yX12_fail.cls ∈ BIG ∧ Cond.code yX12_fail cX12_fail 1 none ∈ BIG ∧ notMH yX12_fail ∧ (parseMethodDescriptor yX12_fail.desc).map (fun d => d.parameters.length) = some 0 := ⟨big_of 1271 (by decide +kernel) rfl, big_sel (q := (yX12_fail, 65)) 45 (by decide +kernel), big_of 19 (by decide +kernel) rfl, big_of 1272 (by decide +kernel) rfl, ⟨by decide +kernel, by decide +kernel⟩, by decide +kernel⟩
theorem km_X12_288 : LkV RX12 288 yX12_fail cX12_fail 1 none 0 := ⟨big_of 1269 (by decide +kernel) rfl, kv_X12_fail⟩
theorem kv_X12_either : Cond.instanceMethod yX12_either ∈ BIG ∧ Cond.selects yX12_either.cls yX12_either yX12_either ∈ BIG ∧ Cond.initialized yX12_either.cls ∈ BIG ∧ Cond.code yX12_either cX12_either 3 (some .int) ∈ BIG ∧ notMH yX12_either ∧ (parseMethodDescriptor yX12_either.desc).map (fun d => d.parameters.length) = some 0 := ⟨big_of 1275 (by decide +kernel) rfl, big_sel (q := (yX12_either, 65)) 46 (by decide +kernel), big_of 19 (by decide +kernel) rfl, big_of 1276 (by decide +kernel) rfl, ⟨by decide +kernel, by decide +kernel⟩, by decide +kernel⟩
theorem km_X12_339 : LkV RX12 339 yX12_either cX12_either 3 (some .int) 0 := ⟨big_of 1273 (by decide +kernel) rfl, kv_X12_either⟩
theorem kv_X12_both : Cond.instanceMethod yX12_both ∈ BIG ∧ Cond.selects yX12_both.cls yX12_both yX12_both ∈ BIG ∧ Cond.initialized yX12_both.cls ∈ BIG ∧ Cond.code yX12_both cX12_both 3 (some .int) ∈ BIG ∧ notMH yX12_both ∧ (parseMethodDescriptor yX12_both.desc).map (fun d => d.parameters.length) = some 0 := ⟨big_of 1279 (by decide +kernel) rfl, big_sel (q := (yX12_both, 65)) 47 (by decide +kernel), big_of 19 (by decide +kernel) rfl, big_of 1280 (by decide +kernel) rfl, ⟨by decide +kernel, by decide +kernel⟩, by decide +kernel⟩
theorem km_X12_362 : LkV RX12 362 yX12_both cX12_both 3 (some .int) 0 := ⟨big_of 1277 (by decide +kernel) rfl, kv_X12_both⟩
theorem kv_X12_not : Cond.instanceMethod yX12_not ∈ BIG ∧ Cond.selects yX12_not.cls yX12_not yX12_not ∈ BIG ∧ Cond.initialized yX12_not.cls ∈ BIG ∧ Cond.code yX12_not cX12_not 4 (some .int) ∈ BIG ∧ notMH yX12_not ∧ (parseMethodDescriptor yX12_not.desc).map (fun d => d.parameters.length) = some 0 := ⟨big_of 1283 (by decide +kernel) rfl, big_sel (q := (yX12_not, 65)) 48 (by decide +kernel), big_of 19 (by decide +kernel) rfl, big_of 1284 (by decide +kernel) rfl, ⟨by decide +kernel, by decide +kernel⟩, by decide +kernel⟩
theorem km_X12_352 : LkV RX12 352 yX12_not cX12_not 4 (some .int) 0 := ⟨big_of 1281 (by decide +kernel) rfl, kv_X12_not⟩
theorem kv_X12_opens : Cond.instanceMethod yX12_opens ∈ BIG ∧ Cond.selects yX12_opens.cls yX12_opens yX12_opens ∈ BIG ∧ Cond.initialized yX12_opens.cls ∈ BIG ∧ Cond.code yX12_opens cX12_opens 1 (some .boolean) ∈ BIG ∧ notMH yX12_opens ∧ (parseMethodDescriptor yX12_opens.desc).map (fun d => d.parameters.length) = some 0 := ⟨big_of 1288 (by decide +kernel) rfl, big_sel (q := (yX12_opens, 65)) 49 (by decide +kernel), big_of 19 (by decide +kernel) rfl, big_of 1289 (by decide +kernel) rfl, ⟨by decide +kernel, by decide +kernel⟩, by decide +kernel⟩
theorem km_X12_331 : LkV RX12 331 yX12_opens cX12_opens 1 (some .boolean) 0 := ⟨big_of 1286 (by decide +kernel) rfl, kv_X12_opens⟩
theorem kv_X12_added : Cond.instanceMethod yX12_added ∈ BIG ∧ Cond.selects yX12_added.cls yX12_added yX12_added ∈ BIG ∧ Cond.initialized yX12_added.cls ∈ BIG ∧ Cond.code yX12_added cX12_added 4 (some .int) ∈ BIG ∧ notMH yX12_added ∧ (parseMethodDescriptor yX12_added.desc).map (fun d => d.parameters.length) = some 0 := ⟨big_of 1292 (by decide +kernel) rfl, big_sel (q := (yX12_added, 65)) 50 (by decide +kernel), big_of 19 (by decide +kernel) rfl, big_of 1293 (by decide +kernel) rfl, ⟨by decide +kernel, by decide +kernel⟩, by decide +kernel⟩
theorem km_X12_355 : LkV RX12 355 yX12_added cX12_added 4 (some .int) 0 := ⟨big_of 1290 (by decide +kernel) rfl, kv_X12_added⟩
theorem kv_X12_term : Cond.instanceMethod yX12_term ∈ BIG ∧ Cond.selects yX12_term.cls yX12_term yX12_term ∈ BIG ∧ Cond.initialized yX12_term.cls ∈ BIG ∧ Cond.code yX12_term cX12_term 2 (some .int) ∈ BIG ∧ notMH yX12_term ∧ (parseMethodDescriptor yX12_term.desc).map (fun d => d.parameters.length) = some 0 := ⟨big_of 1296 (by decide +kernel) rfl, big_sel (q := (yX12_term, 65)) 51 (by decide +kernel), big_of 19 (by decide +kernel) rfl, big_of 1297 (by decide +kernel) rfl, ⟨by decide +kernel, by decide +kernel⟩, by decide +kernel⟩
theorem km_X12_345 : LkV RX12 345 yX12_term cX12_term 2 (some .int) 0 := ⟨big_of 1294 (by decide +kernel) rfl, kv_X12_term⟩
theorem kv_X12_one : Cond.instanceMethod yX12_one ∈ BIG ∧ Cond.selects yX12_one.cls yX12_one yX12_one ∈ BIG ∧ Cond.initialized yX12_one.cls ∈ BIG ∧ Cond.code yX12_one cX12_one 2 (some .int) ∈ BIG ∧ notMH yX12_one ∧ (parseMethodDescriptor yX12_one.desc).map (fun d => d.parameters.length) = some 0 := ⟨big_of 1300 (by decide +kernel) rfl, big_sel (q := (yX12_one, 65)) 52 (by decide +kernel), big_of 19 (by decide +kernel) rfl, big_of 1301 (by decide +kernel) rfl, ⟨by decide +kernel, by decide +kernel⟩, by decide +kernel⟩
theorem km_X12_335 : LkV RX12 335 yX12_one cX12_one 2 (some .int) 0 := ⟨big_of 1298 (by decide +kernel) rfl, kv_X12_one⟩
theorem kv_X12_isSign : Cond.instanceMethod yX12_isSign ∈ BIG ∧ Cond.selects yX12_isSign.cls yX12_isSign yX12_isSign ∈ BIG ∧ Cond.initialized yX12_isSign.cls ∈ BIG ∧ Cond.code yX12_isSign cX12_isSign 2 (some .boolean) ∈ BIG ∧ notMH yX12_isSign ∧ (parseMethodDescriptor yX12_isSign.desc).map (fun d => d.parameters.length) = some 1 := ⟨big_of 1304 (by decide +kernel) rfl, big_sel (q := (yX12_isSign, 65)) 53 (by decide +kernel), big_of 19 (by decide +kernel) rfl, big_of 1305 (by decide +kernel) rfl, ⟨by decide +kernel, by decide +kernel⟩, by decide +kernel⟩
theorem km_X12_328 : LkV RX12 328 yX12_isSign cX12_isSign 2 (some .boolean) 1 := ⟨big_of 1302 (by decide +kernel) rfl, kv_X12_isSign⟩
theorem kv_X12_name : Cond.instanceMethod yX12_name ∈ BIG ∧ Cond.selects yX12_name.cls yX12_name yX12_name ∈ BIG ∧ Cond.initialized yX12_name.cls ∈ BIG ∧ Cond.code yX12_name cX12_name 1 (some .int) ∈ BIG ∧ notMH yX12_name ∧ (parseMethodDescriptor yX12_name.desc).map (fun d => d.parameters.length) = some 0 := ⟨big_of 1308 (by decide +kernel) rfl, big_sel (q := (yX12_name, 65)) 54 (by decide +kernel), big_of 19 (by decide +kernel) rfl, big_of 1309 (by decide +kernel) rfl, ⟨by decide +kernel, by decide +kernel⟩, by decide +kernel⟩
theorem km_X12_342 : LkV RX12 342 yX12_name cX12_name 1 (some .int) 0 := ⟨big_of 1306 (by decide +kernel) rfl, kv_X12_name⟩
theorem kv_X12_exact : Cond.instanceMethod yX12_exact ∈ BIG ∧ Cond.selects yX12_exact.cls yX12_exact yX12_exact ∈ BIG ∧ Cond.initialized yX12_exact.cls ∈ BIG ∧ Cond.code yX12_exact cX12_exact 11 (some .long) ∈ BIG ∧ notMH yX12_exact ∧ (parseMethodDescriptor yX12_exact.desc).map (fun d => d.parameters.length) = some 3 := ⟨big_of 1323 (by decide +kernel) rfl, big_of 1324 (by decide +kernel) rfl, big_of 19 (by decide +kernel) rfl, big_of 1325 (by decide +kernel) rfl, ⟨by decide +kernel, by decide +kernel⟩, by decide +kernel⟩
theorem km_L_52 : LkV RL 52 yX12_exact cX12_exact 11 (some .long) 3 := ⟨big_of 1322 (by decide +kernel) rfl, kv_X12_exact⟩
theorem kv_X12_counts1 : Cond.instanceMethod yX12_counts1 ∈ BIG ∧ Cond.selects yX12_counts1.cls yX12_counts1 yX12_counts1 ∈ BIG ∧ Cond.initialized yX12_counts1.cls ∈ BIG ∧ Cond.code yX12_counts1 cX12_counts1 3 none ∈ BIG ∧ notMH yX12_counts1 ∧ (parseMethodDescriptor yX12_counts1.desc).map (fun d => d.parameters.length) = some 1 := ⟨big_of 1330 (by decide +kernel) rfl, big_sel (q := (yX12_counts1, 65)) 55 (by decide +kernel), big_of 19 (by decide +kernel) rfl, big_of 1331 (by decide +kernel) rfl, ⟨by decide +kernel, by decide +kernel⟩, by decide +kernel⟩
theorem km_X12_207 : LkV RX12 207 yX12_counts1 cX12_counts1 3 none 1 := ⟨big_of 1328 (by decide +kernel) rfl, kv_X12_counts1⟩
theorem kv_X12_leak : Cond.instanceMethod yX12_leak ∈ BIG ∧ Cond.selects yX12_leak.cls yX12_leak yX12_leak ∈ BIG ∧ Cond.initialized yX12_leak.cls ∈ BIG ∧ Cond.code yX12_leak cX12_leak 4 (some .int) ∈ BIG ∧ notMH yX12_leak ∧ (parseMethodDescriptor yX12_leak.desc).map (fun d => d.parameters.length) = some 3 := ⟨big_of 1333 (by decide +kernel) rfl, big_of 1334 (by decide +kernel) rfl, big_of 19 (by decide +kernel) rfl, big_of 1335 (by decide +kernel) rfl, ⟨by decide +kernel, by decide +kernel⟩, by decide +kernel⟩
theorem km_L_56 : LkV RL 56 yX12_leak cX12_leak 4 (some .int) 3 := ⟨big_of 1332 (by decide +kernel) rfl, kv_X12_leak⟩
theorem kv_X12_shut : Cond.instanceMethod yX12_shut ∈ BIG ∧ Cond.selects yX12_shut.cls yX12_shut yX12_shut ∈ BIG ∧ Cond.initialized yX12_shut.cls ∈ BIG ∧ Cond.code yX12_shut cX12_shut 4 (some .int) ∈ BIG ∧ notMH yX12_shut ∧ (parseMethodDescriptor yX12_shut.desc).map (fun d => d.parameters.length) = some 2 := ⟨big_of 1338 (by decide +kernel) rfl, big_of 1339 (by decide +kernel) rfl, big_of 19 (by decide +kernel) rfl, big_of 1340 (by decide +kernel) rfl, ⟨by decide +kernel, by decide +kernel⟩, by decide +kernel⟩
theorem km_L_60 : LkV RL 60 yX12_shut cX12_shut 4 (some .int) 2 := ⟨big_of 1337 (by decide +kernel) rfl, kv_X12_shut⟩
theorem kv_X12_isLeak : Cond.instanceMethod yX12_isLeak ∈ BIG ∧ Cond.selects yX12_isLeak.cls yX12_isLeak yX12_isLeak ∈ BIG ∧ Cond.initialized yX12_isLeak.cls ∈ BIG ∧ Cond.code yX12_isLeak cX12_isLeak 2 (some .boolean) ∈ BIG ∧ notMH yX12_isLeak ∧ (parseMethodDescriptor yX12_isLeak.desc).map (fun d => d.parameters.length) = some 1 := ⟨big_of 1343 (by decide +kernel) rfl, big_sel (q := (yX12_isLeak, 65)) 56 (by decide +kernel), big_of 19 (by decide +kernel) rfl, big_of 1344 (by decide +kernel) rfl, ⟨by decide +kernel, by decide +kernel⟩, by decide +kernel⟩
theorem km_X12_218 : LkV RX12 218 yX12_isLeak cX12_isLeak 2 (some .boolean) 1 := ⟨big_of 1341 (by decide +kernel) rfl, kv_X12_isLeak⟩
theorem kv_X12_gives : Cond.instanceMethod yX12_gives ∈ BIG ∧ Cond.selects yX12_gives.cls yX12_gives yX12_gives ∈ BIG ∧ Cond.initialized yX12_gives.cls ∈ BIG ∧ Cond.code yX12_gives cX12_gives 3 (some .int) ∈ BIG ∧ notMH yX12_gives ∧ (parseMethodDescriptor yX12_gives.desc).map (fun d => d.parameters.length) = some 2 := ⟨big_of 1346 (by decide +kernel) rfl, big_of 1347 (by decide +kernel) rfl, big_of 19 (by decide +kernel) rfl, big_of 1348 (by decide +kernel) rfl, ⟨by decide +kernel, by decide +kernel⟩, by decide +kernel⟩
theorem km_L_64 : LkV RL 64 yX12_gives cX12_gives 3 (some .int) 2 := ⟨big_of 1345 (by decide +kernel) rfl, kv_X12_gives⟩
theorem kv_X12_counts : Cond.instanceMethod yX12_counts ∈ BIG ∧ Cond.selects yX12_counts.cls yX12_counts yX12_counts ∈ BIG ∧ Cond.initialized yX12_counts.cls ∈ BIG ∧ Cond.code yX12_counts cX12_counts 2 (some .int) ∈ BIG ∧ notMH yX12_counts ∧ (parseMethodDescriptor yX12_counts.desc).map (fun d => d.parameters.length) = some 1 := ⟨big_of 1350 (by decide +kernel) rfl, big_of 1351 (by decide +kernel) rfl, big_of 19 (by decide +kernel) rfl, big_of 1352 (by decide +kernel) rfl, ⟨by decide +kernel, by decide +kernel⟩, by decide +kernel⟩
theorem km_L_68 : LkV RL 68 yX12_counts cX12_counts 2 (some .int) 1 := ⟨big_of 1349 (by decide +kernel) rfl, kv_X12_counts⟩
theorem kv_X12_countsOf : Cond.instanceMethod yX12_countsOf ∈ BIG ∧ Cond.selects yX12_countsOf.cls yX12_countsOf yX12_countsOf ∈ BIG ∧ Cond.initialized yX12_countsOf.cls ∈ BIG ∧ Cond.code yX12_countsOf cX12_countsOf 2 (some .int) ∈ BIG ∧ notMH yX12_countsOf ∧ (parseMethodDescriptor yX12_countsOf.desc).map (fun d => d.parameters.length) = some 1 := ⟨big_of 1355 (by decide +kernel) rfl, big_sel (q := (yX12_countsOf, 65)) 57 (by decide +kernel), big_of 19 (by decide +kernel) rfl, big_of 1356 (by decide +kernel) rfl, ⟨by decide +kernel, by decide +kernel⟩, by decide +kernel⟩
theorem km_X12_224 : LkV RX12 224 yX12_countsOf cX12_countsOf 2 (some .int) 1 := ⟨big_of 1353 (by decide +kernel) rfl, kv_X12_countsOf⟩
theorem kv_X12_screen : Cond.instanceMethod yX12_screen ∈ BIG ∧ Cond.selects yX12_screen.cls yX12_screen yX12_screen ∈ BIG ∧ Cond.initialized yX12_screen.cls ∈ BIG ∧ Cond.code yX12_screen cX12_screen 3 (some .int) ∈ BIG ∧ notMH yX12_screen ∧ (parseMethodDescriptor yX12_screen.desc).map (fun d => d.parameters.length) = some 2 := ⟨big_of 1358 (by decide +kernel) rfl, big_of 1359 (by decide +kernel) rfl, big_of 19 (by decide +kernel) rfl, big_of 1360 (by decide +kernel) rfl, ⟨by decide +kernel, by decide +kernel⟩, by decide +kernel⟩
theorem km_L_72 : LkV RL 72 yX12_screen cX12_screen 3 (some .int) 2 := ⟨big_of 1357 (by decide +kernel) rfl, kv_X12_screen⟩
theorem kv_X12_plan : Cond.instanceMethod yX12_plan ∈ BIG ∧ Cond.selects yX12_plan.cls yX12_plan yX12_plan ∈ BIG ∧ Cond.initialized yX12_plan.cls ∈ BIG ∧ Cond.code yX12_plan cX12_plan 9 (some .int) ∈ BIG ∧ notMH yX12_plan ∧ (parseMethodDescriptor yX12_plan.desc).map (fun d => d.parameters.length) = some 2 := ⟨big_of 1364 (by decide +kernel) rfl, big_of 1365 (by decide +kernel) rfl, big_of 19 (by decide +kernel) rfl, big_of 1366 (by decide +kernel) rfl, ⟨by decide +kernel, by decide +kernel⟩, by decide +kernel⟩
theorem km_L_76 : LkV RL 76 yX12_plan cX12_plan 9 (some .int) 2 := ⟨big_of 1363 (by decide +kernel) rfl, kv_X12_plan⟩
theorem kv_X12_kindsBy : Cond.instanceMethod yX12_kindsBy ∈ BIG ∧ Cond.selects yX12_kindsBy.cls yX12_kindsBy yX12_kindsBy ∈ BIG ∧ Cond.initialized yX12_kindsBy.cls ∈ BIG ∧ Cond.code yX12_kindsBy cX12_kindsBy 4 (some .int) ∈ BIG ∧ notMH yX12_kindsBy ∧ (parseMethodDescriptor yX12_kindsBy.desc).map (fun d => d.parameters.length) = some 1 := ⟨big_of 1369 (by decide +kernel) rfl, big_sel (q := (yX12_kindsBy, 65)) 58 (by decide +kernel), big_of 19 (by decide +kernel) rfl, big_of 1370 (by decide +kernel) rfl, ⟨by decide +kernel, by decide +kernel⟩, by decide +kernel⟩
theorem km_X12_234 : LkV RX12 234 yX12_kindsBy cX12_kindsBy 4 (some .int) 1 := ⟨big_of 1367 (by decide +kernel) rfl, kv_X12_kindsBy⟩
theorem kv_X12_weighs : Cond.instanceMethod yX12_weighs ∈ BIG ∧ Cond.selects yX12_weighs.cls yX12_weighs yX12_weighs ∈ BIG ∧ Cond.initialized yX12_weighs.cls ∈ BIG ∧ Cond.code yX12_weighs cX12_weighs 5 (some .int) ∈ BIG ∧ notMH yX12_weighs ∧ (parseMethodDescriptor yX12_weighs.desc).map (fun d => d.parameters.length) = some 1 := ⟨big_of 1372 (by decide +kernel) rfl, big_of 1373 (by decide +kernel) rfl, big_of 19 (by decide +kernel) rfl, big_of 1374 (by decide +kernel) rfl, ⟨by decide +kernel, by decide +kernel⟩, by decide +kernel⟩
theorem km_L_80 : LkV RL 80 yX12_weighs cX12_weighs 5 (some .int) 1 := ⟨big_of 1371 (by decide +kernel) rfl, kv_X12_weighs⟩
theorem kv_X12_feed : Cond.instanceMethod yX12_feed ∈ BIG ∧ Cond.selects yX12_feed.cls yX12_feed yX12_feed ∈ BIG ∧ Cond.initialized yX12_feed.cls ∈ BIG ∧ Cond.code yX12_feed cX12_feed 5 (some .int) ∈ BIG ∧ notMH yX12_feed ∧ (parseMethodDescriptor yX12_feed.desc).map (fun d => d.parameters.length) = some 2 := ⟨big_of 1376 (by decide +kernel) rfl, big_of 1377 (by decide +kernel) rfl, big_of 19 (by decide +kernel) rfl, big_of 1378 (by decide +kernel) rfl, ⟨by decide +kernel, by decide +kernel⟩, by decide +kernel⟩
theorem km_L_87 : LkV RL 87 yX12_feed cX12_feed 5 (some .int) 2 := ⟨big_of 1375 (by decide +kernel) rfl, kv_X12_feed⟩
theorem kv_X12_text : Cond.instanceMethod yX12_text ∈ BIG ∧ Cond.selects yX12_text.cls yX12_text yX12_text ∈ BIG ∧ Cond.initialized yX12_text.cls ∈ BIG ∧ Cond.code yX12_text cX12_text 2 (some .int) ∈ BIG ∧ notMH yX12_text ∧ (parseMethodDescriptor yX12_text.desc).map (fun d => d.parameters.length) = some 0 := ⟨big_of 1381 (by decide +kernel) rfl, big_of 1382 (by decide +kernel) rfl, big_of 19 (by decide +kernel) rfl, big_of 1383 (by decide +kernel) rfl, ⟨by decide +kernel, by decide +kernel⟩, by decide +kernel⟩
theorem km_L_92 : LkV RL 92 yX12_text cX12_text 2 (some .int) 0 := ⟨big_of 1380 (by decide +kernel) rfl, kv_X12_text⟩
theorem kv_X12_force : Cond.instanceMethod yX12_force ∈ BIG ∧ Cond.selects yX12_force.cls yX12_force yX12_force ∈ BIG ∧ Cond.initialized yX12_force.cls ∈ BIG ∧ Cond.code yX12_force cX12_force 3 (some .int) ∈ BIG ∧ notMH yX12_force ∧ (parseMethodDescriptor yX12_force.desc).map (fun d => d.parameters.length) = some 1 := ⟨big_of 1385 (by decide +kernel) rfl, big_of 1386 (by decide +kernel) rfl, big_of 19 (by decide +kernel) rfl, big_of 1387 (by decide +kernel) rfl, ⟨by decide +kernel, by decide +kernel⟩, by decide +kernel⟩
theorem km_L_96 : LkV RL 96 yX12_force cX12_force 3 (some .int) 1 := ⟨big_of 1384 (by decide +kernel) rfl, kv_X12_force⟩
theorem kv_X12_series : Cond.instanceMethod yX12_series ∈ BIG ∧ Cond.selects yX12_series.cls yX12_series yX12_series ∈ BIG ∧ Cond.initialized yX12_series.cls ∈ BIG ∧ Cond.code yX12_series cX12_series 8 (some .long) ∈ BIG ∧ notMH yX12_series ∧ (parseMethodDescriptor yX12_series.desc).map (fun d => d.parameters.length) = some 3 := ⟨big_of 1389 (by decide +kernel) rfl, big_of 1390 (by decide +kernel) rfl, big_of 19 (by decide +kernel) rfl, big_of 1391 (by decide +kernel) rfl, ⟨by decide +kernel, by decide +kernel⟩, by decide +kernel⟩
theorem km_L_100 : LkV RL 100 yX12_series cX12_series 8 (some .long) 3 := ⟨big_of 1388 (by decide +kernel) rfl, kv_X12_series⟩
theorem kv_X12_isGuesser : Cond.static yX12_isGuesser ∈ BIG ∧ Cond.initialized yX12_isGuesser.cls ∈ BIG ∧ Cond.code yX12_isGuesser cX12_isGuesser 1 (some .boolean) ∈ BIG ∧ notMH yX12_isGuesser ∧ (parseMethodDescriptor yX12_isGuesser.desc).map (fun d => d.parameters.length) = some 1 := ⟨big_of 1393 (by decide +kernel) rfl, big_of 19 (by decide +kernel) rfl, big_of 1394 (by decide +kernel) rfl, ⟨by decide +kernel, by decide +kernel⟩, by decide +kernel⟩
theorem km_X12_393 : LkS RX12 393 yX12_isGuesser cX12_isGuesser 1 (some .boolean) 1 := ⟨Or.inl (big_of 1392 (by decide +kernel) rfl), kv_X12_isGuesser⟩
theorem kv_X12_zero : Cond.instanceMethod yX12_zero ∈ BIG ∧ Cond.selects yX12_zero.cls yX12_zero yX12_zero ∈ BIG ∧ Cond.initialized yX12_zero.cls ∈ BIG ∧ Cond.code yX12_zero cX12_zero 1 none ∈ BIG ∧ notMH yX12_zero ∧ (parseMethodDescriptor yX12_zero.desc).map (fun d => d.parameters.length) = some 0 := ⟨big_of 1397 (by decide +kernel) rfl, big_sel (q := (yX12_zero, 65)) 59 (by decide +kernel), big_of 19 (by decide +kernel) rfl, big_of 1398 (by decide +kernel) rfl, ⟨by decide +kernel, by decide +kernel⟩, by decide +kernel⟩
theorem km_X12_396 : LkV RX12 396 yX12_zero cX12_zero 1 none 0 := ⟨big_of 1395 (by decide +kernel) rfl, kv_X12_zero⟩
theorem kv_X12_expected : Cond.instanceMethod yX12_expected ∈ BIG ∧ Cond.selects yX12_expected.cls yX12_expected yX12_expected ∈ BIG ∧ Cond.initialized yX12_expected.cls ∈ BIG ∧ Cond.code yX12_expected cX12_expected 4 (some .int) ∈ BIG ∧ notMH yX12_expected ∧ (parseMethodDescriptor yX12_expected.desc).map (fun d => d.parameters.length) = some 1 := ⟨big_of 1401 (by decide +kernel) rfl, big_sel (q := (yX12_expected, 65)) 60 (by decide +kernel), big_of 19 (by decide +kernel) rfl, big_of 1402 (by decide +kernel) rfl, ⟨by decide +kernel, by decide +kernel⟩, by decide +kernel⟩
theorem km_X12_399 : LkV RX12 399 yX12_expected cX12_expected 4 (some .int) 1 := ⟨big_of 1399 (by decide +kernel) rfl, kv_X12_expected⟩
theorem kv_X12_adds : Cond.instanceMethod yX12_adds ∈ BIG ∧ Cond.selects yX12_adds.cls yX12_adds yX12_adds ∈ BIG ∧ Cond.initialized yX12_adds.cls ∈ BIG ∧ Cond.code yX12_adds cX12_adds 11 none ∈ BIG ∧ notMH yX12_adds ∧ (parseMethodDescriptor yX12_adds.desc).map (fun d => d.parameters.length) = some 2 := ⟨big_of 1405 (by decide +kernel) rfl, big_sel (q := (yX12_adds, 65)) 61 (by decide +kernel), big_of 19 (by decide +kernel) rfl, big_of 1406 (by decide +kernel) rfl, ⟨by decide +kernel, by decide +kernel⟩, by decide +kernel⟩
theorem km_X12_402 : LkV RX12 402 yX12_adds cX12_adds 11 none 2 := ⟨big_of 1403 (by decide +kernel) rfl, kv_X12_adds⟩
theorem kv_X12_common : Cond.static yX12_common ∈ BIG ∧ Cond.initialized yX12_common.cls ∈ BIG ∧ Cond.code yX12_common cX12_common 10 (some .long) ∈ BIG ∧ notMH yX12_common ∧ (parseMethodDescriptor yX12_common.desc).map (fun d => d.parameters.length) = some 2 := ⟨big_of 1408 (by decide +kernel) rfl, big_of 19 (by decide +kernel) rfl, big_of 1409 (by decide +kernel) rfl, ⟨by decide +kernel, by decide +kernel⟩, by decide +kernel⟩
theorem km_X12_389 : LkS RX12 389 yX12_common cX12_common 10 (some .long) 2 := ⟨Or.inl (big_of 1407 (by decide +kernel) rfl), kv_X12_common⟩
theorem kv_X12_best : Cond.instanceMethod yX12_best ∈ BIG ∧ Cond.selects yX12_best.cls yX12_best yX12_best ∈ BIG ∧ Cond.initialized yX12_best.cls ∈ BIG ∧ Cond.code yX12_best cX12_best 6 (some .int) ∈ BIG ∧ notMH yX12_best ∧ (parseMethodDescriptor yX12_best.desc).map (fun d => d.parameters.length) = some 1 := ⟨big_of 1411 (by decide +kernel) rfl, big_of 1412 (by decide +kernel) rfl, big_of 19 (by decide +kernel) rfl, big_of 1413 (by decide +kernel) rfl, ⟨by decide +kernel, by decide +kernel⟩, by decide +kernel⟩
theorem km_L_104 : LkV RL 104 yX12_best cX12_best 6 (some .int) 1 := ⟨big_of 1410 (by decide +kernel) rfl, kv_X12_best⟩
theorem kv_X12_ran : Cond.instanceMethod yX12_ran ∈ BIG ∧ Cond.selects yX12_ran.cls yX12_ran yX12_ran ∈ BIG ∧ Cond.initialized yX12_ran.cls ∈ BIG ∧ Cond.code yX12_ran cX12_ran 5 none ∈ BIG ∧ notMH yX12_ran ∧ (parseMethodDescriptor yX12_ran.desc).map (fun d => d.parameters.length) = some 3 := ⟨big_of 1417 (by decide +kernel) rfl, big_sel (q := (yX12_ran, 65)) 62 (by decide +kernel), big_of 19 (by decide +kernel) rfl, big_of 1418 (by decide +kernel) rfl, ⟨by decide +kernel, by decide +kernel⟩, by decide +kernel⟩
theorem km_X12_414 : LkV RX12 414 yX12_ran cX12_ran 5 none 3 := ⟨big_of 1415 (by decide +kernel) rfl, kv_X12_ran⟩
theorem kv_X12_falls : Cond.instanceMethod yX12_falls ∈ BIG ∧ Cond.selects yX12_falls.cls yX12_falls yX12_falls ∈ BIG ∧ Cond.initialized yX12_falls.cls ∈ BIG ∧ Cond.code yX12_falls cX12_falls 6 (some .long) ∈ BIG ∧ notMH yX12_falls ∧ (parseMethodDescriptor yX12_falls.desc).map (fun d => d.parameters.length) = some 3 := ⟨big_of 1420 (by decide +kernel) rfl, big_of 1421 (by decide +kernel) rfl, big_of 19 (by decide +kernel) rfl, big_of 1422 (by decide +kernel) rfl, ⟨by decide +kernel, by decide +kernel⟩, by decide +kernel⟩
theorem km_L_108 : LkV RL 108 yX12_falls cX12_falls 6 (some .long) 3 := ⟨big_of 1419 (by decide +kernel) rfl, kv_X12_falls⟩
theorem kv_X12_mixed : Cond.instanceMethod yX12_mixed ∈ BIG ∧ Cond.selects yX12_mixed.cls yX12_mixed yX12_mixed ∈ BIG ∧ Cond.initialized yX12_mixed.cls ∈ BIG ∧ Cond.code yX12_mixed cX12_mixed 8 (some .int) ∈ BIG ∧ notMH yX12_mixed ∧ (parseMethodDescriptor yX12_mixed.desc).map (fun d => d.parameters.length) = some 3 := ⟨big_of 1424 (by decide +kernel) rfl, big_of 1425 (by decide +kernel) rfl, big_of 19 (by decide +kernel) rfl, big_of 1426 (by decide +kernel) rfl, ⟨by decide +kernel, by decide +kernel⟩, by decide +kernel⟩
theorem km_L_112 : LkV RL 112 yX12_mixed cX12_mixed 8 (some .int) 3 := ⟨big_of 1423 (by decide +kernel) rfl, kv_X12_mixed⟩
theorem kv_X12_image : Cond.instanceMethod yX12_image ∈ BIG ∧ Cond.selects yX12_image.cls yX12_image yX12_image ∈ BIG ∧ Cond.initialized yX12_image.cls ∈ BIG ∧ Cond.code yX12_image cX12_image 2 (some .int) ∈ BIG ∧ notMH yX12_image ∧ (parseMethodDescriptor yX12_image.desc).map (fun d => d.parameters.length) = some 0 := ⟨big_of 1428 (by decide +kernel) rfl, big_of 1429 (by decide +kernel) rfl, big_of 19 (by decide +kernel) rfl, big_of 1430 (by decide +kernel) rfl, ⟨by decide +kernel, by decide +kernel⟩, by decide +kernel⟩
theorem km_L_116 : LkV RL 116 yX12_image cX12_image 2 (some .int) 0 := ⟨big_of 1427 (by decide +kernel) rfl, kv_X12_image⟩
theorem kv_X12_back : Cond.instanceMethod yX12_back ∈ BIG ∧ Cond.selects yX12_back.cls yX12_back yX12_back ∈ BIG ∧ Cond.initialized yX12_back.cls ∈ BIG ∧ Cond.code yX12_back cX12_back 2 (some .int) ∈ BIG ∧ notMH yX12_back ∧ (parseMethodDescriptor yX12_back.desc).map (fun d => d.parameters.length) = some 0 := ⟨big_of 1432 (by decide +kernel) rfl, big_of 1433 (by decide +kernel) rfl, big_of 19 (by decide +kernel) rfl, big_of 1434 (by decide +kernel) rfl, ⟨by decide +kernel, by decide +kernel⟩, by decide +kernel⟩
theorem km_L_120 : LkV RL 120 yX12_back cX12_back 2 (some .int) 0 := ⟨big_of 1431 (by decide +kernel) rfl, kv_X12_back⟩
theorem kv_X12_count : Cond.instanceMethod yX12_count ∈ BIG ∧ Cond.selects yX12_count.cls yX12_count yX12_count ∈ BIG ∧ Cond.initialized yX12_count.cls ∈ BIG ∧ Cond.code yX12_count cX12_count 4 (some .int) ∈ BIG ∧ notMH yX12_count ∧ (parseMethodDescriptor yX12_count.desc).map (fun d => d.parameters.length) = some 1 := ⟨big_of 1436 (by decide +kernel) rfl, big_of 1437 (by decide +kernel) rfl, big_of 19 (by decide +kernel) rfl, big_of 1438 (by decide +kernel) rfl, ⟨by decide +kernel, by decide +kernel⟩, by decide +kernel⟩
theorem km_L_124 : LkV RL 124 yX12_count cX12_count 4 (some .int) 1 := ⟨big_of 1435 (by decide +kernel) rfl, kv_X12_count⟩
theorem kv_X12_sheet : Cond.instanceMethod yX12_sheet ∈ BIG ∧ Cond.selects yX12_sheet.cls yX12_sheet yX12_sheet ∈ BIG ∧ Cond.initialized yX12_sheet.cls ∈ BIG ∧ Cond.code yX12_sheet cX12_sheet 5 (some .int) ∈ BIG ∧ notMH yX12_sheet ∧ (parseMethodDescriptor yX12_sheet.desc).map (fun d => d.parameters.length) = some 3 := ⟨big_of 1440 (by decide +kernel) rfl, big_of 1441 (by decide +kernel) rfl, big_of 19 (by decide +kernel) rfl, big_of 1442 (by decide +kernel) rfl, ⟨by decide +kernel, by decide +kernel⟩, by decide +kernel⟩
theorem km_L_128 : LkV RL 128 yX12_sheet cX12_sheet 5 (some .int) 3 := ⟨big_of 1439 (by decide +kernel) rfl, kv_X12_sheet⟩
theorem kv_X12_cell : Cond.instanceMethod yX12_cell ∈ BIG ∧ Cond.selects yX12_cell.cls yX12_cell yX12_cell ∈ BIG ∧ Cond.initialized yX12_cell.cls ∈ BIG ∧ Cond.code yX12_cell cX12_cell 4 (some .int) ∈ BIG ∧ notMH yX12_cell ∧ (parseMethodDescriptor yX12_cell.desc).map (fun d => d.parameters.length) = some 3 := ⟨big_of 1445 (by decide +kernel) rfl, big_of 1446 (by decide +kernel) rfl, big_of 19 (by decide +kernel) rfl, big_of 1447 (by decide +kernel) rfl, ⟨by decide +kernel, by decide +kernel⟩, by decide +kernel⟩
theorem km_L_132 : LkV RL 132 yX12_cell cX12_cell 4 (some .int) 3 := ⟨big_of 1444 (by decide +kernel) rfl, kv_X12_cell⟩
theorem kv_X12_copy : Cond.instanceMethod yX12_copy ∈ BIG ∧ Cond.selects yX12_copy.cls yX12_copy yX12_copy ∈ BIG ∧ Cond.initialized yX12_copy.cls ∈ BIG ∧ Cond.code yX12_copy cX12_copy 9 (some .int) ∈ BIG ∧ notMH yX12_copy ∧ (parseMethodDescriptor yX12_copy.desc).map (fun d => d.parameters.length) = some 5 := ⟨big_of 1449 (by decide +kernel) rfl, big_of 1450 (by decide +kernel) rfl, big_of 19 (by decide +kernel) rfl, big_of 1451 (by decide +kernel) rfl, ⟨by decide +kernel, by decide +kernel⟩, by decide +kernel⟩
theorem km_L_137 : LkV RL 137 yX12_copy cX12_copy 9 (some .int) 5 := ⟨big_of 1448 (by decide +kernel) rfl, kv_X12_copy⟩
theorem kv_X12_runs : Cond.instanceMethod yX12_runs ∈ BIG ∧ Cond.selects yX12_runs.cls yX12_runs yX12_runs ∈ BIG ∧ Cond.initialized yX12_runs.cls ∈ BIG ∧ Cond.code yX12_runs cX12_runs 8 (some .int) ∈ BIG ∧ notMH yX12_runs ∧ (parseMethodDescriptor yX12_runs.desc).map (fun d => d.parameters.length) = some 4 := ⟨big_of 1453 (by decide +kernel) rfl, big_of 1454 (by decide +kernel) rfl, big_of 19 (by decide +kernel) rfl, big_of 1455 (by decide +kernel) rfl, ⟨by decide +kernel, by decide +kernel⟩, by decide +kernel⟩
theorem km_L_142 : LkV RL 142 yX12_runs cX12_runs 8 (some .int) 4 := ⟨big_of 1452 (by decide +kernel) rfl, kv_X12_runs⟩
theorem km_X12_436 : LkV RX12 436 yX12_run cX12_run 7 (some .int) 3 := ⟨big_of 1457 (by decide +kernel) rfl, kv_X12_run⟩
theorem kv_X12_taken : Cond.instanceMethod yX12_taken ∈ BIG ∧ Cond.selects yX12_taken.cls yX12_taken yX12_taken ∈ BIG ∧ Cond.initialized yX12_taken.cls ∈ BIG ∧ Cond.code yX12_taken cX12_taken 4 (some .int) ∈ BIG ∧ notMH yX12_taken ∧ (parseMethodDescriptor yX12_taken.desc).map (fun d => d.parameters.length) = some 2 := ⟨big_of 1459 (by decide +kernel) rfl, big_of 1460 (by decide +kernel) rfl, big_of 19 (by decide +kernel) rfl, big_of 1461 (by decide +kernel) rfl, ⟨by decide +kernel, by decide +kernel⟩, by decide +kernel⟩
theorem km_L_146 : LkV RL 146 yX12_taken cX12_taken 4 (some .int) 2 := ⟨big_of 1458 (by decide +kernel) rfl, kv_X12_taken⟩
theorem kv_X12_over : Cond.static yX12_over ∈ BIG ∧ Cond.initialized yX12_over.cls ∈ BIG ∧ Cond.code yX12_over cX12_over 1 (some .int) ∈ BIG ∧ notMH yX12_over ∧ (parseMethodDescriptor yX12_over.desc).map (fun d => d.parameters.length) = some 1 := ⟨big_of 1463 (by decide +kernel) rfl, big_of 19 (by decide +kernel) rfl, big_of 1464 (by decide +kernel) rfl, ⟨by decide +kernel, by decide +kernel⟩, by decide +kernel⟩
theorem km_X12_440 : LkS RX12 440 yX12_over cX12_over 1 (some .int) 1 := ⟨Or.inl (big_of 1462 (by decide +kernel) rfl), kv_X12_over⟩
theorem kv_X8_init : Cond.instanceMethod yX8_init ∈ BIG ∧ Cond.initialized yX8_init.cls ∈ BIG ∧ Cond.code yX8_init cX8_init 1 none ∈ BIG ∧ yX8_init.name = "<init>" ∧ notMH yX8_init ∧ (parseMethodDescriptor yX8_init.desc).map (fun d => d.parameters.length) = some 0 := ⟨big_of 65 (by decide +kernel) rfl, big_of 5 (by decide +kernel) rfl, big_of 66 (by decide +kernel) rfl, rfl, ⟨by decide +kernel, by decide +kernel⟩, by decide +kernel⟩
theorem km_X11_36 : LkI RX11 36 yX8_init cX8_init 1 0 := ⟨Or.inr (List.mem_of_getElem? (i := 0) rfl), kv_X8_init⟩
theorem kv_X4_init : Cond.instanceMethod yX4_init ∈ BIG ∧ Cond.initialized yX4_init.cls ∈ BIG ∧ Cond.code yX4_init cX4_init 1 none ∈ BIG ∧ yX4_init.name = "<init>" ∧ notMH yX4_init ∧ (parseMethodDescriptor yX4_init.desc).map (fun d => d.parameters.length) = some 0 := ⟨big_of 82 (by decide +kernel) rfl, big_of 6 (by decide +kernel) rfl, big_of 83 (by decide +kernel) rfl, rfl, ⟨by decide +kernel, by decide +kernel⟩, by decide +kernel⟩
theorem km_X11_43 : LkI RX11 43 yX4_init cX4_init 1 0 := ⟨Or.inr (List.mem_of_getElem? (i := 1) rfl), kv_X4_init⟩
theorem kv_X10_init : Cond.instanceMethod yX10_init ∈ BIG ∧ Cond.initialized yX10_init.cls ∈ BIG ∧ Cond.code yX10_init cX10_init 1 none ∈ BIG ∧ yX10_init.name = "<init>" ∧ notMH yX10_init ∧ (parseMethodDescriptor yX10_init.desc).map (fun d => d.parameters.length) = some 0 := ⟨big_of 88 (by decide +kernel) rfl, big_of 7 (by decide +kernel) rfl, big_of 89 (by decide +kernel) rfl, rfl, ⟨by decide +kernel, by decide +kernel⟩, by decide +kernel⟩
theorem km_X4_11 : LkI RX4 11 yX10_init cX10_init 1 0 := ⟨Or.inr (List.mem_of_getElem? (i := 2) rfl), kv_X10_init⟩
theorem kv_X2_init : Cond.instanceMethod yX2_init ∈ BIG ∧ Cond.initialized yX2_init.cls ∈ BIG ∧ Cond.code yX2_init cX2_init 1 none ∈ BIG ∧ yX2_init.name = "<init>" ∧ notMH yX2_init ∧ (parseMethodDescriptor yX2_init.desc).map (fun d => d.parameters.length) = some 0 := ⟨big_of 133 (by decide +kernel) rfl, big_of 8 (by decide +kernel) rfl, big_of 134 (by decide +kernel) rfl, rfl, ⟨by decide +kernel, by decide +kernel⟩, by decide +kernel⟩
theorem km_X11_50 : LkI RX11 50 yX2_init cX2_init 1 0 := ⟨Or.inr (List.mem_of_getElem? (i := 3) rfl), kv_X2_init⟩
theorem kv_X7_init : Cond.instanceMethod yX7_init ∈ BIG ∧ Cond.initialized yX7_init.cls ∈ BIG ∧ Cond.code yX7_init cX7_init 1 none ∈ BIG ∧ yX7_init.name = "<init>" ∧ notMH yX7_init ∧ (parseMethodDescriptor yX7_init.desc).map (fun d => d.parameters.length) = some 0 := ⟨big_of 143 (by decide +kernel) rfl, big_of 9 (by decide +kernel) rfl, big_of 144 (by decide +kernel) rfl, rfl, ⟨by decide +kernel, by decide +kernel⟩, by decide +kernel⟩
theorem km_X11_65 : LkI RX11 65 yX7_init cX7_init 1 0 := ⟨Or.inr (List.mem_of_getElem? (i := 4) rfl), kv_X7_init⟩
theorem km_X4_100 : LkS RX4 100 yX11_among cX11_among 2 (some .boolean) 2 := ⟨Or.inr (List.mem_of_getElem? (i := 5) rfl), kv_X11_among⟩
theorem km_X5_77 : LkS RX5 77 yX11_among cX11_among 2 (some .boolean) 2 := ⟨Or.inr (List.mem_of_getElem? (i := 6) rfl), kv_X11_among⟩
theorem kv_X0_init : Cond.instanceMethod yX0_init ∈ BIG ∧ Cond.initialized yX0_init.cls ∈ BIG ∧ Cond.code yX0_init cX0_init 1 none ∈ BIG ∧ yX0_init.name = "<init>" ∧ notMH yX0_init ∧ (parseMethodDescriptor yX0_init.desc).map (fun d => d.parameters.length) = some 0 := ⟨big_of 811 (by decide +kernel) rfl, big_of 25 (by decide +kernel) rfl, big_of 812 (by decide +kernel) rfl, rfl, ⟨by decide +kernel, by decide +kernel⟩, by decide +kernel⟩
theorem km_X11_237 : LkI RX11 237 yX0_init cX0_init 1 0 := ⟨Or.inr (List.mem_of_getElem? (i := 7) rfl), kv_X0_init⟩
theorem ko_X11_1 : Cond.methodLink RX11 1 objectInit ∈ BIG := big_of 31 (by decide +kernel) rfl
theorem ko_Jxa1e45_1 : Cond.methodLink RJxa1e45 1 objectInit ∈ BIG := big_of 45 (by decide +kernel) rfl
theorem ko_X8_3 : Cond.methodLink RX8 3 objectInit ∈ BIG := big_of 67 (by decide +kernel) rfl
theorem ko_X4_3 : Cond.methodLink RX4 3 objectInit ∈ BIG := big_of 84 (by decide +kernel) rfl
theorem ko_X10_3 : Cond.methodLink RX10 3 objectInit ∈ BIG := big_of 90 (by decide +kernel) rfl
theorem ko_X2_3 : Cond.methodLink RX2 3 objectInit ∈ BIG := big_of 135 (by decide +kernel) rfl
theorem ko_X7_1 : Cond.methodLink RX7 1 objectInit ∈ BIG := big_of 145 (by decide +kernel) rfl
theorem ko_X9_1 : Cond.methodLink RX9 1 objectInit ∈ BIG := big_of 344 (by decide +kernel) rfl
theorem ko_X3_3 : Cond.methodLink RX3 3 objectInit ∈ BIG := big_of 465 (by decide +kernel) rfl
theorem ko_X5_3 : Cond.methodLink RX5 3 objectInit ∈ BIG := big_of 504 (by decide +kernel) rfl
theorem ko_X1_3 : Cond.methodLink RX1 3 objectInit ∈ BIG := big_of 712 (by decide +kernel) rfl
theorem ko_X6_1 : Cond.methodLink RX6 1 objectInit ∈ BIG := big_of 762 (by decide +kernel) rfl
theorem ko_X0_1 : Cond.methodLink RX0 1 objectInit ∈ BIG := big_of 813 (by decide +kernel) rfl
theorem ko_X12_7 : Cond.methodLink RX12 7 objectInit ∈ BIG := big_of 939 (by decide +kernel) rfl
theorem ko_im : Cond.instanceMethod objectInit ∈ BIG := big_of 32 (by decide +kernel) rfl
theorem ko_co : Cond.code objectInit ⟨#[0xb1]⟩ 1 none ∈ BIG := big_of 33 (by decide +kernel) rfl
theorem kg_Jx4a65c_9 : LkG RJx4a65c 9 13 1 := ⟨RJx4a65c, TJx4a65c, 3, "java/util/ArrayList", rfl, bw_Jx4a65c, by decide, big_of 48 (by decide +kernel) rfl, Or.inl rfl⟩
theorem kf_Jx4a65c_9 : LkF RJx4a65c 9 13 1 (.array (.object "java/lang/Object")) false := ⟨RJx4a65c, TJx4a65c, 3, tyJx4a65c, "java/util/ArrayList", rfl, bw_Jx4a65c, tyJx4a65c_ok, nmJx4a65c, by decide, big_of 48 (by decide +kernel) rfl, Or.inl rfl, rfl, rfl, fun h => absurd h (by decide)⟩
theorem kg_Jx4a65c_48 : LkG RJx4a65c 48 13 2 := ⟨RJx4a65c, TJx4a65c, 3, "java/util/ArrayList", rfl, bw_Jx4a65c, by decide, big_of 49 (by decide +kernel) rfl, Or.inl rfl⟩
theorem kf_Jx4a65c_48 : LkF RJx4a65c 48 13 2 (.int) false := ⟨RJx4a65c, TJx4a65c, 3, tyJx4a65c, "java/util/ArrayList", rfl, bw_Jx4a65c, tyJx4a65c_ok, nmJx4a65c, by decide, big_of 49 (by decide +kernel) rfl, Or.inl rfl, rfl, rfl, fun h => absurd h (by decide)⟩
theorem kg_Jx4a65c_63 : LkG RJx4a65c 63 13 0 := ⟨RJx4a65c, TJx4a65c, 3, "java/util/ArrayList", rfl, bw_Jx4a65c, by decide, big_of 51 (by decide +kernel) rfl, Or.inr (big_of 52 (by decide +kernel) rfl)⟩
theorem kf_Jx4a65c_63 : LkF RJx4a65c 63 13 0 (.int) false := ⟨RJx4a65c, TJx4a65c, 3, tyJx4a65c, "java/util/ArrayList", rfl, bw_Jx4a65c, tyJx4a65c_ok, nmJx4a65c, by decide, big_of 51 (by decide +kernel) rfl, Or.inr (big_of 52 (by decide +kernel) rfl), rfl, rfl, fun h => absurd h (by decide)⟩
theorem kg_X8_9 : LkG RX8 9 8 0 := ⟨RX8, TX8, 2, "FiveCards$Tape", rfl, bw_X8, by decide, big_of 68 (by decide +kernel) rfl, Or.inl rfl⟩
theorem kf_X8_9 : LkF RX8 9 8 0 (.array .int) true := ⟨RX8, TX8, 2, tyX8, "FiveCards$Tape", rfl, bw_X8, tyX8_ok, nmX8, by decide, big_of 68 (by decide +kernel) rfl, Or.inl rfl, rfl, rfl, fun h => rfl⟩
theorem kg_X10_32 : LkG RX10 32 8 0 := ⟨RX8, TX8, 2, "FiveCards$Tape", rfl, bw_X8, by decide, big_of 69 (by decide +kernel) rfl, Or.inl rfl⟩
theorem kg_X8_15 : LkG RX8 15 8 1 := ⟨RX8, TX8, 2, "FiveCards$Tape", rfl, bw_X8, by decide, big_of 70 (by decide +kernel) rfl, Or.inl rfl⟩
theorem kf_X8_15 : LkF RX8 15 8 1 (.int) false := ⟨RX8, TX8, 2, tyX8, "FiveCards$Tape", rfl, bw_X8, tyX8_ok, nmX8, by decide, big_of 70 (by decide +kernel) rfl, Or.inl rfl, rfl, rfl, fun h => absurd h (by decide)⟩
theorem kg_X10_25 : LkG RX10 25 8 1 := ⟨RX8, TX8, 2, "FiveCards$Tape", rfl, bw_X8, by decide, big_of 71 (by decide +kernel) rfl, Or.inl rfl⟩
theorem kf_X10_25 : LkF RX10 25 8 1 (.int) false := ⟨RX8, TX8, 2, tyX8, "FiveCards$Tape", rfl, bw_X8, tyX8_ok, nmX8, by decide, big_of 71 (by decide +kernel) rfl, Or.inl rfl, rfl, rfl, fun h => absurd h (by decide)⟩
theorem kg_X11_230 : LkG RX11 230 8 1 := ⟨RX8, TX8, 2, "FiveCards$Tape", rfl, bw_X8, by decide, big_of 72 (by decide +kernel) rfl, Or.inl rfl⟩
theorem kf_X11_230 : LkF RX11 230 8 1 (.int) false := ⟨RX8, TX8, 2, tyX8, "FiveCards$Tape", rfl, bw_X8, tyX8_ok, nmX8, by decide, big_of 72 (by decide +kernel) rfl, Or.inl rfl, rfl, rfl, fun h => absurd h (by decide)⟩
theorem kg_X10_9 : LkG RX10 9 10 0 := ⟨RX10, TX10, 4, "FiveCards$Tokens", rfl, bw_X10, by decide, big_of 91 (by decide +kernel) rfl, Or.inl rfl⟩
theorem kf_X10_9 : LkF RX10 9 10 0 (.array .int) true := ⟨RX10, TX10, 4, tyX10, "FiveCards$Tokens", rfl, bw_X10, tyX10_ok, nmX10, by decide, big_of 91 (by decide +kernel) rfl, Or.inl rfl, rfl, rfl, fun h => rfl⟩
theorem kg_X4_41 : LkG RX4 41 10 0 := ⟨RX10, TX10, 4, "FiveCards$Tokens", rfl, bw_X10, by decide, big_of 92 (by decide +kernel) rfl, Or.inl rfl⟩
theorem kg_X10_15 : LkG RX10 15 10 1 := ⟨RX10, TX10, 4, "FiveCards$Tokens", rfl, bw_X10, by decide, big_of 93 (by decide +kernel) rfl, Or.inl rfl⟩
theorem kf_X10_15 : LkF RX10 15 10 1 (.array .int) true := ⟨RX10, TX10, 4, tyX10, "FiveCards$Tokens", rfl, bw_X10, tyX10_ok, nmX10, by decide, big_of 93 (by decide +kernel) rfl, Or.inl rfl, rfl, rfl, fun h => rfl⟩
theorem kg_X4_78 : LkG RX4 78 10 1 := ⟨RX10, TX10, 4, "FiveCards$Tokens", rfl, bw_X10, by decide, big_of 94 (by decide +kernel) rfl, Or.inl rfl⟩
theorem kg_X10_18 : LkG RX10 18 10 2 := ⟨RX10, TX10, 4, "FiveCards$Tokens", rfl, bw_X10, by decide, big_of 95 (by decide +kernel) rfl, Or.inl rfl⟩
theorem kf_X10_18 : LkF RX10 18 10 2 (.array .int) true := ⟨RX10, TX10, 4, tyX10, "FiveCards$Tokens", rfl, bw_X10, tyX10_ok, nmX10, by decide, big_of 95 (by decide +kernel) rfl, Or.inl rfl, rfl, rfl, fun h => rfl⟩
theorem kg_X4_97 : LkG RX4 97 10 2 := ⟨RX10, TX10, 4, "FiveCards$Tokens", rfl, bw_X10, by decide, big_of 96 (by decide +kernel) rfl, Or.inl rfl⟩
theorem kg_X10_21 : LkG RX10 21 10 3 := ⟨RX10, TX10, 4, "FiveCards$Tokens", rfl, bw_X10, by decide, big_of 97 (by decide +kernel) rfl, Or.inl rfl⟩
theorem kf_X10_21 : LkF RX10 21 10 3 (.int) false := ⟨RX10, TX10, 4, tyX10, "FiveCards$Tokens", rfl, bw_X10, tyX10_ok, nmX10, by decide, big_of 97 (by decide +kernel) rfl, Or.inl rfl, rfl, rfl, fun h => absurd h (by decide)⟩
theorem kg_X4_75 : LkG RX4 75 10 3 := ⟨RX10, TX10, 4, "FiveCards$Tokens", rfl, bw_X10, by decide, big_of 98 (by decide +kernel) rfl, Or.inl rfl⟩
theorem kf_X4_75 : LkF RX4 75 10 3 (.int) false := ⟨RX10, TX10, 4, tyX10, "FiveCards$Tokens", rfl, bw_X10, tyX10_ok, nmX10, by decide, big_of 98 (by decide +kernel) rfl, Or.inl rfl, rfl, rfl, fun h => absurd h (by decide)⟩
theorem kg_X4_12 : LkG RX4 12 4 0 := ⟨RX4, TX4, 7, "FiveCards$Reader", rfl, bw_X4, by decide, big_of 108 (by decide +kernel) rfl, Or.inl rfl⟩
theorem kf_X4_12 : LkF RX4 12 4 0 (.object "FiveCards$Tokens") true := ⟨RX4, TX4, 7, tyX4, "FiveCards$Reader", rfl, bw_X4, tyX4_ok, nmX4, by decide, big_of 108 (by decide +kernel) rfl, Or.inl rfl, rfl, rfl, fun h => rfl⟩
theorem kg_X4_18 : LkG RX4 18 4 1 := ⟨RX4, TX4, 7, "FiveCards$Reader", rfl, bw_X4, by decide, big_of 109 (by decide +kernel) rfl, Or.inl rfl⟩
theorem kf_X4_18 : LkF RX4 18 4 1 (.array .int) true := ⟨RX4, TX4, 7, tyX4, "FiveCards$Reader", rfl, bw_X4, tyX4_ok, nmX4, by decide, big_of 109 (by decide +kernel) rfl, Or.inl rfl, rfl, rfl, fun h => rfl⟩
theorem kg_X4_24 : LkG RX4 24 4 2 := ⟨RX4, TX4, 7, "FiveCards$Reader", rfl, bw_X4, by decide, big_of 110 (by decide +kernel) rfl, Or.inl rfl⟩
theorem kf_X4_24 : LkF RX4 24 4 2 (.array .int) true := ⟨RX4, TX4, 7, tyX4, "FiveCards$Reader", rfl, bw_X4, tyX4_ok, nmX4, by decide, big_of 110 (by decide +kernel) rfl, Or.inl rfl, rfl, rfl, fun h => rfl⟩
theorem kg_X4_31 : LkG RX4 31 4 3 := ⟨RX4, TX4, 7, "FiveCards$Reader", rfl, bw_X4, by decide, big_of 111 (by decide +kernel) rfl, Or.inl rfl⟩
theorem kf_X4_31 : LkF RX4 31 4 3 (.int) false := ⟨RX4, TX4, 7, tyX4, "FiveCards$Reader", rfl, bw_X4, tyX4_ok, nmX4, by decide, big_of 111 (by decide +kernel) rfl, Or.inl rfl, rfl, rfl, fun h => absurd h (by decide)⟩
theorem kg_X4_38 : LkG RX4 38 4 4 := ⟨RX4, TX4, 7, "FiveCards$Reader", rfl, bw_X4, by decide, big_of 112 (by decide +kernel) rfl, Or.inl rfl⟩
theorem kf_X4_38 : LkF RX4 38 4 4 (.int) false := ⟨RX4, TX4, 7, tyX4, "FiveCards$Reader", rfl, bw_X4, tyX4_ok, nmX4, by decide, big_of 112 (by decide +kernel) rfl, Or.inl rfl, rfl, rfl, fun h => absurd h (by decide)⟩
theorem kg_X4_44 : LkG RX4 44 4 5 := ⟨RX4, TX4, 7, "FiveCards$Reader", rfl, bw_X4, by decide, big_of 113 (by decide +kernel) rfl, Or.inl rfl⟩
theorem kf_X4_44 : LkF RX4 44 4 5 (.int) false := ⟨RX4, TX4, 7, tyX4, "FiveCards$Reader", rfl, bw_X4, tyX4_ok, nmX4, by decide, big_of 113 (by decide +kernel) rfl, Or.inl rfl, rfl, rfl, fun h => absurd h (by decide)⟩
theorem kg_X4_35 : LkG RX4 35 4 6 := ⟨RX4, TX4, 7, "FiveCards$Reader", rfl, bw_X4, by decide, big_of 114 (by decide +kernel) rfl, Or.inl rfl⟩
theorem kf_X4_35 : LkF RX4 35 4 6 (.int) false := ⟨RX4, TX4, 7, tyX4, "FiveCards$Reader", rfl, bw_X4, tyX4_ok, nmX4, by decide, big_of 114 (by decide +kernel) rfl, Or.inl rfl, rfl, rfl, fun h => absurd h (by decide)⟩
theorem kg_X2_9 : LkG RX2 9 2 0 := ⟨RX2, TX2, 1, "FiveCards$Odds", rfl, bw_X2, by decide, big_of 136 (by decide +kernel) rfl, Or.inl rfl⟩
theorem kf_X2_9 : LkF RX2 9 2 0 (.array .long) true := ⟨RX2, TX2, 1, tyX2, "FiveCards$Odds", rfl, bw_X2, tyX2_ok, nmX2, by decide, big_of 136 (by decide +kernel) rfl, Or.inl rfl, rfl, rfl, fun h => rfl⟩
theorem kg_X7_9 : LkG RX7 9 7 0 := ⟨RX7, TX7, 3, "FiveCards$Sheet", rfl, bw_X7, by decide, big_of 146 (by decide +kernel) rfl, Or.inl rfl⟩
theorem kf_X7_9 : LkF RX7 9 7 0 (.array .int) true := ⟨RX7, TX7, 3, tyX7, "FiveCards$Sheet", rfl, bw_X7, tyX7_ok, nmX7, by decide, big_of 146 (by decide +kernel) rfl, Or.inl rfl, rfl, rfl, fun h => rfl⟩
theorem kg_X5_74 : LkG RX5 74 7 0 := ⟨RX7, TX7, 3, "FiveCards$Sheet", rfl, bw_X7, by decide, big_of 147 (by decide +kernel) rfl, Or.inl rfl⟩
theorem kg_X11_292 : LkG RX11 292 7 0 := ⟨RX7, TX7, 3, "FiveCards$Sheet", rfl, bw_X7, by decide, big_of 148 (by decide +kernel) rfl, Or.inl rfl⟩
theorem kg_X7_13 : LkG RX7 13 7 1 := ⟨RX7, TX7, 3, "FiveCards$Sheet", rfl, bw_X7, by decide, big_of 149 (by decide +kernel) rfl, Or.inl rfl⟩
theorem kf_X7_13 : LkF RX7 13 7 1 (.int) false := ⟨RX7, TX7, 3, tyX7, "FiveCards$Sheet", rfl, bw_X7, tyX7_ok, nmX7, by decide, big_of 149 (by decide +kernel) rfl, Or.inl rfl, rfl, rfl, fun h => absurd h (by decide)⟩
theorem kg_X11_286 : LkG RX11 286 7 1 := ⟨RX7, TX7, 3, "FiveCards$Sheet", rfl, bw_X7, by decide, big_of 150 (by decide +kernel) rfl, Or.inl rfl⟩
theorem kf_X11_286 : LkF RX11 286 7 1 (.int) false := ⟨RX7, TX7, 3, tyX7, "FiveCards$Sheet", rfl, bw_X7, tyX7_ok, nmX7, by decide, big_of 150 (by decide +kernel) rfl, Or.inl rfl, rfl, rfl, fun h => absurd h (by decide)⟩
theorem kg_X7_17 : LkG RX7 17 7 2 := ⟨RX7, TX7, 3, "FiveCards$Sheet", rfl, bw_X7, by decide, big_of 151 (by decide +kernel) rfl, Or.inl rfl⟩
theorem kf_X7_17 : LkF RX7 17 7 2 (.int) false := ⟨RX7, TX7, 3, tyX7, "FiveCards$Sheet", rfl, bw_X7, tyX7_ok, nmX7, by decide, big_of 151 (by decide +kernel) rfl, Or.inl rfl, rfl, rfl, fun h => absurd h (by decide)⟩
theorem kg_X5_69 : LkG RX5 69 7 2 := ⟨RX7, TX7, 3, "FiveCards$Sheet", rfl, bw_X7, by decide, big_of 152 (by decide +kernel) rfl, Or.inl rfl⟩
theorem kf_X5_69 : LkF RX5 69 7 2 (.int) false := ⟨RX7, TX7, 3, tyX7, "FiveCards$Sheet", rfl, bw_X7, tyX7_ok, nmX7, by decide, big_of 152 (by decide +kernel) rfl, Or.inl rfl, rfl, rfl, fun h => absurd h (by decide)⟩
theorem kg_X11_282 : LkG RX11 282 7 2 := ⟨RX7, TX7, 3, "FiveCards$Sheet", rfl, bw_X7, by decide, big_of 153 (by decide +kernel) rfl, Or.inl rfl⟩
theorem kf_X11_282 : LkF RX11 282 7 2 (.int) false := ⟨RX7, TX7, 3, tyX7, "FiveCards$Sheet", rfl, bw_X7, tyX7_ok, nmX7, by decide, big_of 153 (by decide +kernel) rfl, Or.inl rfl, rfl, rfl, fun h => absurd h (by decide)⟩
theorem kg_X9_7 : LkG RX9 7 9 0 := ⟨RX9, TX9, 3, "FiveCards$Text", rfl, bw_X9, by decide, big_of 345 (by decide +kernel) rfl, Or.inl rfl⟩
theorem kf_X9_7 : LkF RX9 7 9 0 (.array .int) true := ⟨RX9, TX9, 3, tyX9, "FiveCards$Text", rfl, bw_X9, tyX9_ok, nmX9, by decide, big_of 345 (by decide +kernel) rfl, Or.inl rfl, rfl, rfl, fun h => rfl⟩
theorem kg_X9_13 : LkG RX9 13 9 1 := ⟨RX9, TX9, 3, "FiveCards$Text", rfl, bw_X9, by decide, big_of 346 (by decide +kernel) rfl, Or.inl rfl⟩
theorem kf_X9_13 : LkF RX9 13 9 1 (.array .int) true := ⟨RX9, TX9, 3, tyX9, "FiveCards$Text", rfl, bw_X9, tyX9_ok, nmX9, by decide, big_of 346 (by decide +kernel) rfl, Or.inl rfl, rfl, rfl, fun h => rfl⟩
theorem kg_X9_16 : LkG RX9 16 9 2 := ⟨RX9, TX9, 3, "FiveCards$Text", rfl, bw_X9, by decide, big_of 347 (by decide +kernel) rfl, Or.inl rfl⟩
theorem kf_X9_16 : LkF RX9 16 9 2 (.array .int) true := ⟨RX9, TX9, 3, tyX9, "FiveCards$Text", rfl, bw_X9, tyX9_ok, nmX9, by decide, big_of 347 (by decide +kernel) rfl, Or.inl rfl, rfl, rfl, fun h => rfl⟩
theorem kg_X11_10 : LkG RX11 10 11 0 := ⟨RX11, TX11, 14, "FiveCards", rfl, bw_X11, by decide, big_of 409 (by decide +kernel) rfl, Or.inl rfl⟩
theorem kf_X11_10 : LkF RX11 10 11 0 (.object "java/util/ArrayList") true := ⟨RX11, TX11, 14, tyX11, "FiveCards", rfl, bw_X11, tyX11_ok, nmX11, by decide, big_of 409 (by decide +kernel) rfl, Or.inl rfl, rfl, rfl, fun h => rfl⟩
theorem kg_X11_16 : LkG RX11 16 11 1 := ⟨RX11, TX11, 14, "FiveCards", rfl, bw_X11, by decide, big_of 410 (by decide +kernel) rfl, Or.inl rfl⟩
theorem kf_X11_16 : LkF RX11 16 11 1 (.object "java/util/ArrayList") true := ⟨RX11, TX11, 14, tyX11, "FiveCards", rfl, bw_X11, tyX11_ok, nmX11, by decide, big_of 410 (by decide +kernel) rfl, Or.inl rfl, rfl, rfl, fun h => rfl⟩
theorem kg_X11_19 : LkG RX11 19 11 2 := ⟨RX11, TX11, 14, "FiveCards", rfl, bw_X11, by decide, big_of 411 (by decide +kernel) rfl, Or.inl rfl⟩
theorem kf_X11_19 : LkF RX11 19 11 2 (.object "java/util/ArrayList") true := ⟨RX11, TX11, 14, tyX11, "FiveCards", rfl, bw_X11, tyX11_ok, nmX11, by decide, big_of 411 (by decide +kernel) rfl, Or.inl rfl, rfl, rfl, fun h => rfl⟩
theorem kg_X11_22 : LkG RX11 22 11 3 := ⟨RX11, TX11, 14, "FiveCards", rfl, bw_X11, by decide, big_of 412 (by decide +kernel) rfl, Or.inl rfl⟩
theorem kf_X11_22 : LkF RX11 22 11 3 (.object "java/util/ArrayList") true := ⟨RX11, TX11, 14, tyX11, "FiveCards", rfl, bw_X11, tyX11_ok, nmX11, by decide, big_of 412 (by decide +kernel) rfl, Or.inl rfl, rfl, rfl, fun h => rfl⟩
theorem kg_X11_25 : LkG RX11 25 11 4 := ⟨RX11, TX11, 14, "FiveCards", rfl, bw_X11, by decide, big_of 413 (by decide +kernel) rfl, Or.inl rfl⟩
theorem kf_X11_25 : LkF RX11 25 11 4 (.object "java/util/ArrayList") true := ⟨RX11, TX11, 14, tyX11, "FiveCards", rfl, bw_X11, tyX11_ok, nmX11, by decide, big_of 413 (by decide +kernel) rfl, Or.inl rfl, rfl, rfl, fun h => rfl⟩
theorem kg_X11_30 : LkG RX11 30 11 5 := ⟨RX11, TX11, 14, "FiveCards", rfl, bw_X11, by decide, big_of 414 (by decide +kernel) rfl, Or.inl rfl⟩
theorem kf_X11_30 : LkF RX11 30 11 5 (.array (.object "FiveCards$Sheet")) true := ⟨RX11, TX11, 14, tyX11, "FiveCards", rfl, bw_X11, tyX11_ok, nmX11, by decide, big_of 414 (by decide +kernel) rfl, Or.inl rfl, rfl, rfl, fun h => rfl⟩
theorem kg_X11_37 : LkG RX11 37 11 6 := ⟨RX11, TX11, 14, "FiveCards", rfl, bw_X11, by decide, big_of 415 (by decide +kernel) rfl, Or.inl rfl⟩
theorem kf_X11_37 : LkF RX11 37 11 6 (.object "FiveCards$Tape") true := ⟨RX11, TX11, 14, tyX11, "FiveCards", rfl, bw_X11, tyX11_ok, nmX11, by decide, big_of 415 (by decide +kernel) rfl, Or.inl rfl, rfl, rfl, fun h => rfl⟩
theorem kg_X11_44 : LkG RX11 44 11 7 := ⟨RX11, TX11, 14, "FiveCards", rfl, bw_X11, by decide, big_of 416 (by decide +kernel) rfl, Or.inl rfl⟩
theorem kf_X11_44 : LkF RX11 44 11 7 (.object "FiveCards$Reader") true := ⟨RX11, TX11, 14, tyX11, "FiveCards", rfl, bw_X11, tyX11_ok, nmX11, by decide, big_of 416 (by decide +kernel) rfl, Or.inl rfl, rfl, rfl, fun h => rfl⟩
theorem kg_X11_51 : LkG RX11 51 11 8 := ⟨RX11, TX11, 14, "FiveCards", rfl, bw_X11, by decide, big_of 417 (by decide +kernel) rfl, Or.inl rfl⟩
theorem kf_X11_51 : LkF RX11 51 11 8 (.object "FiveCards$Odds") true := ⟨RX11, TX11, 14, tyX11, "FiveCards", rfl, bw_X11, tyX11_ok, nmX11, by decide, big_of 417 (by decide +kernel) rfl, Or.inl rfl, rfl, rfl, fun h => rfl⟩
theorem kg_X11_57 : LkG RX11 57 11 9 := ⟨RX11, TX11, 14, "FiveCards", rfl, bw_X11, by decide, big_of 418 (by decide +kernel) rfl, Or.inl rfl⟩
theorem kf_X11_57 : LkF RX11 57 11 9 (.array .int) true := ⟨RX11, TX11, 14, tyX11, "FiveCards", rfl, bw_X11, tyX11_ok, nmX11, by decide, big_of 418 (by decide +kernel) rfl, Or.inl rfl, rfl, rfl, fun h => rfl⟩
theorem kg_X11_232 : LkG RX11 232 11 10 := ⟨RX11, TX11, 14, "FiveCards", rfl, bw_X11, by decide, big_of 419 (by decide +kernel) rfl, Or.inl rfl⟩
theorem kf_X11_232 : LkF RX11 232 11 10 (.int) false := ⟨RX11, TX11, 14, tyX11, "FiveCards", rfl, bw_X11, tyX11_ok, nmX11, by decide, big_of 419 (by decide +kernel) rfl, Or.inl rfl, rfl, rfl, fun h => absurd h (by decide)⟩
theorem kg_X11_61 : LkG RX11 61 11 11 := ⟨RX11, TX11, 14, "FiveCards", rfl, bw_X11, by decide, big_of 420 (by decide +kernel) rfl, Or.inl rfl⟩
theorem kf_X11_61 : LkF RX11 61 11 11 (.int) false := ⟨RX11, TX11, 14, tyX11, "FiveCards", rfl, bw_X11, tyX11_ok, nmX11, by decide, big_of 420 (by decide +kernel) rfl, Or.inl rfl, rfl, rfl, fun h => absurd h (by decide)⟩
theorem kg_X11_261 : LkG RX11 261 11 12 := ⟨RX11, TX11, 14, "FiveCards", rfl, bw_X11, by decide, big_of 421 (by decide +kernel) rfl, Or.inl rfl⟩
theorem kf_X11_261 : LkF RX11 261 11 12 (.int) false := ⟨RX11, TX11, 14, tyX11, "FiveCards", rfl, bw_X11, tyX11_ok, nmX11, by decide, big_of 421 (by decide +kernel) rfl, Or.inl rfl, rfl, rfl, fun h => absurd h (by decide)⟩
theorem kg_X11_264 : LkG RX11 264 11 13 := ⟨RX11, TX11, 14, "FiveCards", rfl, bw_X11, by decide, big_of 422 (by decide +kernel) rfl, Or.inl rfl⟩
theorem kf_X11_264 : LkF RX11 264 11 13 (.int) false := ⟨RX11, TX11, 14, tyX11, "FiveCards", rfl, bw_X11, tyX11_ok, nmX11, by decide, big_of 422 (by decide +kernel) rfl, Or.inl rfl, rfl, rfl, fun h => absurd h (by decide)⟩
theorem kg_X3_9 : LkG RX3 9 3 0 := ⟨RX3, TX3, 2, "FiveCards$Pack", rfl, bw_X3, by decide, big_of 466 (by decide +kernel) rfl, Or.inl rfl⟩
theorem kf_X3_9 : LkF RX3 9 3 0 (.array .int) true := ⟨RX3, TX3, 2, tyX3, "FiveCards$Pack", rfl, bw_X3, tyX3_ok, nmX3, by decide, big_of 466 (by decide +kernel) rfl, Or.inl rfl, rfl, rfl, fun h => rfl⟩
theorem kg_X5_48 : LkG RX5 48 3 0 := ⟨RX3, TX3, 2, "FiveCards$Pack", rfl, bw_X3, by decide, big_of 467 (by decide +kernel) rfl, Or.inl rfl⟩
theorem kg_X2_27 : LkG RX2 27 3 0 := ⟨RX3, TX3, 2, "FiveCards$Pack", rfl, bw_X3, by decide, big_of 468 (by decide +kernel) rfl, Or.inl rfl⟩
theorem kg_X1_51 : LkG RX1 51 3 0 := ⟨RX3, TX3, 2, "FiveCards$Pack", rfl, bw_X3, by decide, big_of 469 (by decide +kernel) rfl, Or.inl rfl⟩
theorem kg_X5_29 : LkG RX5 29 3 1 := ⟨RX3, TX3, 2, "FiveCards$Pack", rfl, bw_X3, by decide, big_of 470 (by decide +kernel) rfl, Or.inl rfl⟩
theorem kg_X3_15 : LkG RX3 15 3 1 := ⟨RX3, TX3, 2, "FiveCards$Pack", rfl, bw_X3, by decide, big_of 471 (by decide +kernel) rfl, Or.inl rfl⟩
theorem kf_X3_15 : LkF RX3 15 3 1 (.int) true := ⟨RX3, TX3, 2, tyX3, "FiveCards$Pack", rfl, bw_X3, tyX3_ok, nmX3, by decide, big_of 471 (by decide +kernel) rfl, Or.inl rfl, rfl, rfl, fun h => rfl⟩
theorem kg_X11_94 : LkG RX11 94 3 1 := ⟨RX3, TX3, 2, "FiveCards$Pack", rfl, bw_X3, by decide, big_of 472 (by decide +kernel) rfl, Or.inl rfl⟩
theorem kg_X5_15 : LkG RX5 15 5 0 := ⟨RX5, TX5, 14, "FiveCards$Run", rfl, bw_X5, by decide, big_of 505 (by decide +kernel) rfl, Or.inl rfl⟩
theorem kf_X5_15 : LkF RX5 15 5 0 (.int) true := ⟨RX5, TX5, 14, tyX5, "FiveCards$Run", rfl, bw_X5, tyX5_ok, nmX5, by decide, big_of 505 (by decide +kernel) rfl, Or.inl rfl, rfl, rfl, fun h => rfl⟩
theorem kg_X11_147 : LkG RX11 147 5 0 := ⟨RX5, TX5, 14, "FiveCards$Run", rfl, bw_X5, by decide, big_of 506 (by decide +kernel) rfl, Or.inl rfl⟩
theorem kg_X5_19 : LkG RX5 19 5 1 := ⟨RX5, TX5, 14, "FiveCards$Run", rfl, bw_X5, by decide, big_of 507 (by decide +kernel) rfl, Or.inl rfl⟩
theorem kf_X5_19 : LkF RX5 19 5 1 (.object "FiveCards$Pack") true := ⟨RX5, TX5, 14, tyX5, "FiveCards$Run", rfl, bw_X5, tyX5_ok, nmX5, by decide, big_of 507 (by decide +kernel) rfl, Or.inl rfl, rfl, rfl, fun h => rfl⟩
theorem kg_X2_21 : LkG RX2 21 5 1 := ⟨RX5, TX5, 14, "FiveCards$Run", rfl, bw_X5, by decide, big_of 508 (by decide +kernel) rfl, Or.inl rfl⟩
theorem kg_X1_47 : LkG RX1 47 5 1 := ⟨RX5, TX5, 14, "FiveCards$Run", rfl, bw_X5, by decide, big_of 509 (by decide +kernel) rfl, Or.inl rfl⟩
theorem kg_X5_23 : LkG RX5 23 5 2 := ⟨RX5, TX5, 14, "FiveCards$Run", rfl, bw_X5, by decide, big_of 510 (by decide +kernel) rfl, Or.inl rfl⟩
theorem kf_X5_23 : LkF RX5 23 5 2 (.int) true := ⟨RX5, TX5, 14, tyX5, "FiveCards$Run", rfl, bw_X5, tyX5_ok, nmX5, by decide, big_of 510 (by decide +kernel) rfl, Or.inl rfl, rfl, rfl, fun h => rfl⟩
theorem kg_X11_150 : LkG RX11 150 5 2 := ⟨RX5, TX5, 14, "FiveCards$Run", rfl, bw_X5, by decide, big_of 511 (by decide +kernel) rfl, Or.inl rfl⟩
theorem kg_X5_26 : LkG RX5 26 5 3 := ⟨RX5, TX5, 14, "FiveCards$Run", rfl, bw_X5, by decide, big_of 512 (by decide +kernel) rfl, Or.inl rfl⟩
theorem kf_X5_26 : LkF RX5 26 5 3 (.int) true := ⟨RX5, TX5, 14, tyX5, "FiveCards$Run", rfl, bw_X5, tyX5_ok, nmX5, by decide, big_of 512 (by decide +kernel) rfl, Or.inl rfl, rfl, rfl, fun h => rfl⟩
theorem kg_X11_153 : LkG RX11 153 5 3 := ⟨RX5, TX5, 14, "FiveCards$Run", rfl, bw_X5, by decide, big_of 513 (by decide +kernel) rfl, Or.inl rfl⟩
theorem kg_X5_34 : LkG RX5 34 5 4 := ⟨RX5, TX5, 14, "FiveCards$Run", rfl, bw_X5, by decide, big_of 514 (by decide +kernel) rfl, Or.inl rfl⟩
theorem kf_X5_34 : LkF RX5 34 5 4 (.array .int) true := ⟨RX5, TX5, 14, tyX5, "FiveCards$Run", rfl, bw_X5, tyX5_ok, nmX5, by decide, big_of 514 (by decide +kernel) rfl, Or.inl rfl, rfl, rfl, fun h => rfl⟩
theorem kg_X1_36 : LkG RX1 36 5 4 := ⟨RX5, TX5, 14, "FiveCards$Run", rfl, bw_X5, by decide, big_of 515 (by decide +kernel) rfl, Or.inl rfl⟩
theorem kg_X11_119 : LkG RX11 119 5 4 := ⟨RX5, TX5, 14, "FiveCards$Run", rfl, bw_X5, by decide, big_of 516 (by decide +kernel) rfl, Or.inl rfl⟩
theorem kg_X5_36 : LkG RX5 36 5 5 := ⟨RX5, TX5, 14, "FiveCards$Run", rfl, bw_X5, by decide, big_of 517 (by decide +kernel) rfl, Or.inl rfl⟩
theorem kf_X5_36 : LkF RX5 36 5 5 (.array .int) true := ⟨RX5, TX5, 14, tyX5, "FiveCards$Run", rfl, bw_X5, tyX5_ok, nmX5, by decide, big_of 517 (by decide +kernel) rfl, Or.inl rfl, rfl, rfl, fun h => rfl⟩
theorem kg_X11_121 : LkG RX11 121 5 5 := ⟨RX5, TX5, 14, "FiveCards$Run", rfl, bw_X5, by decide, big_of 518 (by decide +kernel) rfl, Or.inl rfl⟩
theorem kg_X11_169 : LkG RX11 169 5 6 := ⟨RX5, TX5, 14, "FiveCards$Run", rfl, bw_X5, by decide, big_of 519 (by decide +kernel) rfl, Or.inl rfl⟩
theorem kf_X11_169 : LkF RX11 169 5 6 (.int) false := ⟨RX5, TX5, 14, tyX5, "FiveCards$Run", rfl, bw_X5, tyX5_ok, nmX5, by decide, big_of 519 (by decide +kernel) rfl, Or.inl rfl, rfl, rfl, fun h => absurd h (by decide)⟩
theorem kg_X5_81 : LkG RX5 81 5 6 := ⟨RX5, TX5, 14, "FiveCards$Run", rfl, bw_X5, by decide, big_of 520 (by decide +kernel) rfl, Or.inl rfl⟩
theorem kf_X5_81 : LkF RX5 81 5 6 (.int) false := ⟨RX5, TX5, 14, tyX5, "FiveCards$Run", rfl, bw_X5, tyX5_ok, nmX5, by decide, big_of 520 (by decide +kernel) rfl, Or.inl rfl, rfl, rfl, fun h => absurd h (by decide)⟩
theorem kg_X11_172 : LkG RX11 172 5 7 := ⟨RX5, TX5, 14, "FiveCards$Run", rfl, bw_X5, by decide, big_of 521 (by decide +kernel) rfl, Or.inl rfl⟩
theorem kf_X11_172 : LkF RX11 172 5 7 (.int) false := ⟨RX5, TX5, 14, tyX5, "FiveCards$Run", rfl, bw_X5, tyX5_ok, nmX5, by decide, big_of 521 (by decide +kernel) rfl, Or.inl rfl, rfl, rfl, fun h => absurd h (by decide)⟩
theorem kg_X5_84 : LkG RX5 84 5 7 := ⟨RX5, TX5, 14, "FiveCards$Run", rfl, bw_X5, by decide, big_of 522 (by decide +kernel) rfl, Or.inl rfl⟩
theorem kf_X5_84 : LkF RX5 84 5 7 (.int) false := ⟨RX5, TX5, 14, tyX5, "FiveCards$Run", rfl, bw_X5, tyX5_ok, nmX5, by decide, big_of 522 (by decide +kernel) rfl, Or.inl rfl, rfl, rfl, fun h => absurd h (by decide)⟩
theorem kg_X5_39 : LkG RX5 39 5 8 := ⟨RX5, TX5, 14, "FiveCards$Run", rfl, bw_X5, by decide, big_of 523 (by decide +kernel) rfl, Or.inl rfl⟩
theorem kf_X5_39 : LkF RX5 39 5 8 (.array .int) true := ⟨RX5, TX5, 14, tyX5, "FiveCards$Run", rfl, bw_X5, tyX5_ok, nmX5, by decide, big_of 523 (by decide +kernel) rfl, Or.inl rfl, rfl, rfl, fun h => rfl⟩
theorem kg_X5_9 : LkG RX5 9 5 9 := ⟨RX5, TX5, 14, "FiveCards$Run", rfl, bw_X5, by decide, big_of 524 (by decide +kernel) rfl, Or.inl rfl⟩
theorem kf_X5_9 : LkF RX5 9 5 9 (.array .int) true := ⟨RX5, TX5, 14, tyX5, "FiveCards$Run", rfl, bw_X5, tyX5_ok, nmX5, by decide, big_of 524 (by decide +kernel) rfl, Or.inl rfl, rfl, rfl, fun h => rfl⟩
theorem kg_X5_42 : LkG RX5 42 5 10 := ⟨RX5, TX5, 14, "FiveCards$Run", rfl, bw_X5, by decide, big_of 525 (by decide +kernel) rfl, Or.inl rfl⟩
theorem kf_X5_42 : LkF RX5 42 5 10 (.array .int) true := ⟨RX5, TX5, 14, tyX5, "FiveCards$Run", rfl, bw_X5, tyX5_ok, nmX5, by decide, big_of 525 (by decide +kernel) rfl, Or.inl rfl, rfl, rfl, fun h => rfl⟩
theorem kg_X5_45 : LkG RX5 45 5 11 := ⟨RX5, TX5, 14, "FiveCards$Run", rfl, bw_X5, by decide, big_of 526 (by decide +kernel) rfl, Or.inl rfl⟩
theorem kf_X5_45 : LkF RX5 45 5 11 (.array .int) true := ⟨RX5, TX5, 14, tyX5, "FiveCards$Run", rfl, bw_X5, tyX5_ok, nmX5, by decide, big_of 526 (by decide +kernel) rfl, Or.inl rfl, rfl, rfl, fun h => rfl⟩
theorem kg_X5_95 : LkG RX5 95 5 12 := ⟨RX5, TX5, 14, "FiveCards$Run", rfl, bw_X5, by decide, big_of 527 (by decide +kernel) rfl, Or.inl rfl⟩
theorem kf_X5_95 : LkF RX5 95 5 12 (.int) false := ⟨RX5, TX5, 14, tyX5, "FiveCards$Run", rfl, bw_X5, tyX5_ok, nmX5, by decide, big_of 527 (by decide +kernel) rfl, Or.inl rfl, rfl, rfl, fun h => absurd h (by decide)⟩
theorem kg_X5_98 : LkG RX5 98 5 13 := ⟨RX5, TX5, 14, "FiveCards$Run", rfl, bw_X5, by decide, big_of 528 (by decide +kernel) rfl, Or.inl rfl⟩
theorem kf_X5_98 : LkF RX5 98 5 13 (.int) false := ⟨RX5, TX5, 14, tyX5, "FiveCards$Run", rfl, bw_X5, tyX5_ok, nmX5, by decide, big_of 528 (by decide +kernel) rfl, Or.inl rfl, rfl, rfl, fun h => absurd h (by decide)⟩
theorem kg_X1_9 : LkG RX1 9 1 0 := ⟨RX1, TX1, 5, "FiveCards$Leak", rfl, bw_X1, by decide, big_of 713 (by decide +kernel) rfl, Or.inl rfl⟩
theorem kf_X1_9 : LkF RX1 9 1 0 (.int) true := ⟨RX1, TX1, 5, tyX1, "FiveCards$Leak", rfl, bw_X1, tyX1_ok, nmX1, by decide, big_of 713 (by decide +kernel) rfl, Or.inl rfl, rfl, rfl, fun h => rfl⟩
theorem kg_X11_227 : LkG RX11 227 1 0 := ⟨RX1, TX1, 5, "FiveCards$Leak", rfl, bw_X1, by decide, big_of 714 (by decide +kernel) rfl, Or.inl rfl⟩
theorem kg_X1_15 : LkG RX1 15 1 1 := ⟨RX1, TX1, 5, "FiveCards$Leak", rfl, bw_X1, by decide, big_of 715 (by decide +kernel) rfl, Or.inl rfl⟩
theorem kf_X1_15 : LkF RX1 15 1 1 (.int) true := ⟨RX1, TX1, 5, tyX1, "FiveCards$Leak", rfl, bw_X1, tyX1_ok, nmX1, by decide, big_of 715 (by decide +kernel) rfl, Or.inl rfl, rfl, rfl, fun h => rfl⟩
theorem kg_X11_308 : LkG RX11 308 1 1 := ⟨RX1, TX1, 5, "FiveCards$Leak", rfl, bw_X1, by decide, big_of 716 (by decide +kernel) rfl, Or.inl rfl⟩
theorem kg_X1_18 : LkG RX1 18 1 2 := ⟨RX1, TX1, 5, "FiveCards$Leak", rfl, bw_X1, by decide, big_of 717 (by decide +kernel) rfl, Or.inl rfl⟩
theorem kf_X1_18 : LkF RX1 18 1 2 (.int) true := ⟨RX1, TX1, 5, tyX1, "FiveCards$Leak", rfl, bw_X1, tyX1_ok, nmX1, by decide, big_of 717 (by decide +kernel) rfl, Or.inl rfl, rfl, rfl, fun h => rfl⟩
theorem kg_X1_28 : LkG RX1 28 1 3 := ⟨RX1, TX1, 5, "FiveCards$Leak", rfl, bw_X1, by decide, big_of 718 (by decide +kernel) rfl, Or.inl rfl⟩
theorem kf_X1_28 : LkF RX1 28 1 3 (.boolean) false := ⟨RX1, TX1, 5, tyX1, "FiveCards$Leak", rfl, bw_X1, tyX1_ok, nmX1, by decide, big_of 718 (by decide +kernel) rfl, Or.inl rfl, rfl, rfl, fun h => absurd h (by decide)⟩
theorem kg_X11_199 : LkG RX11 199 1 3 := ⟨RX1, TX1, 5, "FiveCards$Leak", rfl, bw_X1, by decide, big_of 719 (by decide +kernel) rfl, Or.inl rfl⟩
theorem kf_X11_199 : LkF RX11 199 1 3 (.boolean) false := ⟨RX1, TX1, 5, tyX1, "FiveCards$Leak", rfl, bw_X1, tyX1_ok, nmX1, by decide, big_of 719 (by decide +kernel) rfl, Or.inl rfl, rfl, rfl, fun h => absurd h (by decide)⟩
theorem kg_X11_270 : LkG RX11 270 1 4 := ⟨RX1, TX1, 5, "FiveCards$Leak", rfl, bw_X1, by decide, big_of 720 (by decide +kernel) rfl, Or.inl rfl⟩
theorem kf_X11_270 : LkF RX11 270 1 4 (.boolean) false := ⟨RX1, TX1, 5, tyX1, "FiveCards$Leak", rfl, bw_X1, tyX1_ok, nmX1, by decide, big_of 720 (by decide +kernel) rfl, Or.inl rfl, rfl, rfl, fun h => absurd h (by decide)⟩
theorem kg_X6_7 : LkG RX6 7 6 0 := ⟨RX6, TX6, 2, "FiveCards$Screen", rfl, bw_X6, by decide, big_of 763 (by decide +kernel) rfl, Or.inl rfl⟩
theorem kf_X6_7 : LkF RX6 7 6 0 (.int) true := ⟨RX6, TX6, 2, tyX6, "FiveCards$Screen", rfl, bw_X6, tyX6_ok, nmX6, by decide, big_of 763 (by decide +kernel) rfl, Or.inl rfl, rfl, rfl, fun h => rfl⟩
theorem kg_X11_340 : LkG RX11 340 6 0 := ⟨RX6, TX6, 2, "FiveCards$Screen", rfl, bw_X6, by decide, big_of 764 (by decide +kernel) rfl, Or.inl rfl⟩
theorem kg_X6_13 : LkG RX6 13 6 1 := ⟨RX6, TX6, 2, "FiveCards$Screen", rfl, bw_X6, by decide, big_of 765 (by decide +kernel) rfl, Or.inl rfl⟩
theorem kf_X6_13 : LkF RX6 13 6 1 (.int) true := ⟨RX6, TX6, 2, tyX6, "FiveCards$Screen", rfl, bw_X6, tyX6_ok, nmX6, by decide, big_of 765 (by decide +kernel) rfl, Or.inl rfl, rfl, rfl, fun h => rfl⟩
theorem kg_X11_337 : LkG RX11 337 6 1 := ⟨RX6, TX6, 2, "FiveCards$Screen", rfl, bw_X6, by decide, big_of 766 (by decide +kernel) rfl, Or.inl rfl⟩
theorem kg_X0_7 : LkG RX0 7 0 0 := ⟨RX0, TX0, 2, "FiveCards$Fraction", rfl, bw_X0, by decide, big_of 814 (by decide +kernel) rfl, Or.inl rfl⟩
theorem kf_X0_7 : LkF RX0 7 0 0 (.long) false := ⟨RX0, TX0, 2, tyX0, "FiveCards$Fraction", rfl, bw_X0, tyX0_ok, nmX0, by decide, big_of 814 (by decide +kernel) rfl, Or.inl rfl, rfl, rfl, fun h => absurd h (by decide)⟩
theorem kg_X11_244 : LkG RX11 244 0 0 := ⟨RX0, TX0, 2, "FiveCards$Fraction", rfl, bw_X0, by decide, big_of 815 (by decide +kernel) rfl, Or.inl rfl⟩
theorem kf_X11_244 : LkF RX11 244 0 0 (.long) false := ⟨RX0, TX0, 2, tyX0, "FiveCards$Fraction", rfl, bw_X0, tyX0_ok, nmX0, by decide, big_of 815 (by decide +kernel) rfl, Or.inl rfl, rfl, rfl, fun h => absurd h (by decide)⟩
theorem kg_X0_13 : LkG RX0 13 0 1 := ⟨RX0, TX0, 2, "FiveCards$Fraction", rfl, bw_X0, by decide, big_of 816 (by decide +kernel) rfl, Or.inl rfl⟩
theorem kf_X0_13 : LkF RX0 13 0 1 (.long) false := ⟨RX0, TX0, 2, tyX0, "FiveCards$Fraction", rfl, bw_X0, tyX0_ok, nmX0, by decide, big_of 816 (by decide +kernel) rfl, Or.inl rfl, rfl, rfl, fun h => absurd h (by decide)⟩
theorem kg_X11_248 : LkG RX11 248 0 1 := ⟨RX0, TX0, 2, "FiveCards$Fraction", rfl, bw_X0, by decide, big_of 817 (by decide +kernel) rfl, Or.inl rfl⟩
theorem kf_X11_248 : LkF RX11 248 0 1 (.long) false := ⟨RX0, TX0, 2, tyX0, "FiveCards$Fraction", rfl, bw_X0, tyX0_ok, nmX0, by decide, big_of 817 (by decide +kernel) rfl, Or.inl rfl, rfl, rfl, fun h => absurd h (by decide)⟩
theorem kg_X12_13 : LkG RX12 13 12 1 := ⟨RX12, TX12, 65, "FiveCardsModel", rfl, bw_X12, by decide, big_of 951 (by decide +kernel) rfl, Or.inl rfl⟩
theorem kf_X12_13 : LkF RX12 13 12 1 (.array .int) true := ⟨RX12, TX12, 65, tyX12, "FiveCardsModel", rfl, bw_X12, tyX12_ok, nmX12, by decide, big_of 951 (by decide +kernel) rfl, Or.inl rfl, rfl, rfl, fun h => rfl⟩
theorem kg_X12_17 : LkG RX12 17 12 2 := ⟨RX12, TX12, 65, "FiveCardsModel", rfl, bw_X12, by decide, big_of 952 (by decide +kernel) rfl, Or.inl rfl⟩
theorem kf_X12_17 : LkF RX12 17 12 2 (.array .int) true := ⟨RX12, TX12, 65, tyX12, "FiveCardsModel", rfl, bw_X12, tyX12_ok, nmX12, by decide, big_of 952 (by decide +kernel) rfl, Or.inl rfl, rfl, rfl, fun h => rfl⟩
theorem kg_X12_134 : LkG RX12 134 12 3 := ⟨RX12, TX12, 65, "FiveCardsModel", rfl, bw_X12, by decide, big_of 953 (by decide +kernel) rfl, Or.inl rfl⟩
theorem kf_X12_134 : LkF RX12 134 12 3 (.int) false := ⟨RX12, TX12, 65, tyX12, "FiveCardsModel", rfl, bw_X12, tyX12_ok, nmX12, by decide, big_of 953 (by decide +kernel) rfl, Or.inl rfl, rfl, rfl, fun h => absurd h (by decide)⟩
theorem kg_X12_380 : LkG RX12 380 12 4 := ⟨RX12, TX12, 65, "FiveCardsModel", rfl, bw_X12, by decide, big_of 954 (by decide +kernel) rfl, Or.inl rfl⟩
theorem kf_X12_380 : LkF RX12 380 12 4 (.int) false := ⟨RX12, TX12, 65, tyX12, "FiveCardsModel", rfl, bw_X12, tyX12_ok, nmX12, by decide, big_of 954 (by decide +kernel) rfl, Or.inl rfl, rfl, rfl, fun h => absurd h (by decide)⟩
theorem kg_X12_20 : LkG RX12 20 12 5 := ⟨RX12, TX12, 65, "FiveCardsModel", rfl, bw_X12, by decide, big_of 955 (by decide +kernel) rfl, Or.inl rfl⟩
theorem kf_X12_20 : LkF RX12 20 12 5 (.array .int) true := ⟨RX12, TX12, 65, tyX12, "FiveCardsModel", rfl, bw_X12, tyX12_ok, nmX12, by decide, big_of 955 (by decide +kernel) rfl, Or.inl rfl, rfl, rfl, fun h => rfl⟩
theorem kg_X12_239 : LkG RX12 239 12 6 := ⟨RX12, TX12, 65, "FiveCardsModel", rfl, bw_X12, by decide, big_of 956 (by decide +kernel) rfl, Or.inl rfl⟩
theorem kf_X12_239 : LkF RX12 239 12 6 (.int) false := ⟨RX12, TX12, 65, tyX12, "FiveCardsModel", rfl, bw_X12, tyX12_ok, nmX12, by decide, big_of 956 (by decide +kernel) rfl, Or.inl rfl, rfl, rfl, fun h => absurd h (by decide)⟩
theorem kg_X12_23 : LkG RX12 23 12 7 := ⟨RX12, TX12, 65, "FiveCardsModel", rfl, bw_X12, by decide, big_of 957 (by decide +kernel) rfl, Or.inl rfl⟩
theorem kf_X12_23 : LkF RX12 23 12 7 (.array .long) true := ⟨RX12, TX12, 65, tyX12, "FiveCardsModel", rfl, bw_X12, tyX12_ok, nmX12, by decide, big_of 957 (by decide +kernel) rfl, Or.inl rfl, rfl, rfl, fun h => rfl⟩
theorem kg_X12_27 : LkG RX12 27 12 8 := ⟨RX12, TX12, 65, "FiveCardsModel", rfl, bw_X12, by decide, big_of 958 (by decide +kernel) rfl, Or.inl rfl⟩
theorem kf_X12_27 : LkF RX12 27 12 8 (.array .int) true := ⟨RX12, TX12, 65, tyX12, "FiveCardsModel", rfl, bw_X12, tyX12_ok, nmX12, by decide, big_of 958 (by decide +kernel) rfl, Or.inl rfl, rfl, rfl, fun h => rfl⟩
theorem kg_X12_30 : LkG RX12 30 12 9 := ⟨RX12, TX12, 65, "FiveCardsModel", rfl, bw_X12, by decide, big_of 959 (by decide +kernel) rfl, Or.inl rfl⟩
theorem kf_X12_30 : LkF RX12 30 12 9 (.array .int) true := ⟨RX12, TX12, 65, tyX12, "FiveCardsModel", rfl, bw_X12, tyX12_ok, nmX12, by decide, big_of 959 (by decide +kernel) rfl, Or.inl rfl, rfl, rfl, fun h => rfl⟩
theorem kg_X12_150 : LkG RX12 150 12 10 := ⟨RX12, TX12, 65, "FiveCardsModel", rfl, bw_X12, by decide, big_of 960 (by decide +kernel) rfl, Or.inl rfl⟩
theorem kf_X12_150 : LkF RX12 150 12 10 (.int) false := ⟨RX12, TX12, 65, tyX12, "FiveCardsModel", rfl, bw_X12, tyX12_ok, nmX12, by decide, big_of 960 (by decide +kernel) rfl, Or.inl rfl, rfl, rfl, fun h => absurd h (by decide)⟩
theorem kg_X12_33 : LkG RX12 33 12 11 := ⟨RX12, TX12, 65, "FiveCardsModel", rfl, bw_X12, by decide, big_of 961 (by decide +kernel) rfl, Or.inl rfl⟩
theorem kf_X12_33 : LkF RX12 33 12 11 (.array .int) true := ⟨RX12, TX12, 65, tyX12, "FiveCardsModel", rfl, bw_X12, tyX12_ok, nmX12, by decide, big_of 961 (by decide +kernel) rfl, Or.inl rfl, rfl, rfl, fun h => rfl⟩
theorem kg_X12_36 : LkG RX12 36 12 12 := ⟨RX12, TX12, 65, "FiveCardsModel", rfl, bw_X12, by decide, big_of 962 (by decide +kernel) rfl, Or.inl rfl⟩
theorem kf_X12_36 : LkF RX12 36 12 12 (.array .int) true := ⟨RX12, TX12, 65, tyX12, "FiveCardsModel", rfl, bw_X12, tyX12_ok, nmX12, by decide, big_of 962 (by decide +kernel) rfl, Or.inl rfl, rfl, rfl, fun h => rfl⟩
theorem kg_X12_39 : LkG RX12 39 12 13 := ⟨RX12, TX12, 65, "FiveCardsModel", rfl, bw_X12, by decide, big_of 963 (by decide +kernel) rfl, Or.inl rfl⟩
theorem kf_X12_39 : LkF RX12 39 12 13 (.array .int) true := ⟨RX12, TX12, 65, tyX12, "FiveCardsModel", rfl, bw_X12, tyX12_ok, nmX12, by decide, big_of 963 (by decide +kernel) rfl, Or.inl rfl, rfl, rfl, fun h => rfl⟩
theorem kg_X12_42 : LkG RX12 42 12 14 := ⟨RX12, TX12, 65, "FiveCardsModel", rfl, bw_X12, by decide, big_of 964 (by decide +kernel) rfl, Or.inl rfl⟩
theorem kf_X12_42 : LkF RX12 42 12 14 (.array .int) true := ⟨RX12, TX12, 65, tyX12, "FiveCardsModel", rfl, bw_X12, tyX12_ok, nmX12, by decide, big_of 964 (by decide +kernel) rfl, Or.inl rfl, rfl, rfl, fun h => rfl⟩
theorem kg_X12_45 : LkG RX12 45 12 15 := ⟨RX12, TX12, 65, "FiveCardsModel", rfl, bw_X12, by decide, big_of 965 (by decide +kernel) rfl, Or.inl rfl⟩
theorem kf_X12_45 : LkF RX12 45 12 15 (.array .int) true := ⟨RX12, TX12, 65, tyX12, "FiveCardsModel", rfl, bw_X12, tyX12_ok, nmX12, by decide, big_of 965 (by decide +kernel) rfl, Or.inl rfl, rfl, rfl, fun h => rfl⟩
theorem kg_X12_48 : LkG RX12 48 12 16 := ⟨RX12, TX12, 65, "FiveCardsModel", rfl, bw_X12, by decide, big_of 966 (by decide +kernel) rfl, Or.inl rfl⟩
theorem kf_X12_48 : LkF RX12 48 12 16 (.array .int) true := ⟨RX12, TX12, 65, tyX12, "FiveCardsModel", rfl, bw_X12, tyX12_ok, nmX12, by decide, big_of 966 (by decide +kernel) rfl, Or.inl rfl, rfl, rfl, fun h => rfl⟩
theorem kg_X12_51 : LkG RX12 51 12 17 := ⟨RX12, TX12, 65, "FiveCardsModel", rfl, bw_X12, by decide, big_of 967 (by decide +kernel) rfl, Or.inl rfl⟩
theorem kf_X12_51 : LkF RX12 51 12 17 (.array .int) true := ⟨RX12, TX12, 65, tyX12, "FiveCardsModel", rfl, bw_X12, tyX12_ok, nmX12, by decide, big_of 967 (by decide +kernel) rfl, Or.inl rfl, rfl, rfl, fun h => rfl⟩
theorem kg_X12_139 : LkG RX12 139 12 18 := ⟨RX12, TX12, 65, "FiveCardsModel", rfl, bw_X12, by decide, big_of 968 (by decide +kernel) rfl, Or.inl rfl⟩
theorem kf_X12_139 : LkF RX12 139 12 18 (.int) false := ⟨RX12, TX12, 65, tyX12, "FiveCardsModel", rfl, bw_X12, tyX12_ok, nmX12, by decide, big_of 968 (by decide +kernel) rfl, Or.inl rfl, rfl, rfl, fun h => absurd h (by decide)⟩
theorem kg_X12_54 : LkG RX12 54 12 19 := ⟨RX12, TX12, 65, "FiveCardsModel", rfl, bw_X12, by decide, big_of 969 (by decide +kernel) rfl, Or.inl rfl⟩
theorem kf_X12_54 : LkF RX12 54 12 19 (.array .int) true := ⟨RX12, TX12, 65, tyX12, "FiveCardsModel", rfl, bw_X12, tyX12_ok, nmX12, by decide, big_of 969 (by decide +kernel) rfl, Or.inl rfl, rfl, rfl, fun h => rfl⟩
theorem kg_X12_57 : LkG RX12 57 12 20 := ⟨RX12, TX12, 65, "FiveCardsModel", rfl, bw_X12, by decide, big_of 970 (by decide +kernel) rfl, Or.inl rfl⟩
theorem kf_X12_57 : LkF RX12 57 12 20 (.array .int) true := ⟨RX12, TX12, 65, tyX12, "FiveCardsModel", rfl, bw_X12, tyX12_ok, nmX12, by decide, big_of 970 (by decide +kernel) rfl, Or.inl rfl, rfl, rfl, fun h => rfl⟩
theorem kg_X12_60 : LkG RX12 60 12 21 := ⟨RX12, TX12, 65, "FiveCardsModel", rfl, bw_X12, by decide, big_of 971 (by decide +kernel) rfl, Or.inl rfl⟩
theorem kf_X12_60 : LkF RX12 60 12 21 (.array .long) true := ⟨RX12, TX12, 65, tyX12, "FiveCardsModel", rfl, bw_X12, tyX12_ok, nmX12, by decide, big_of 971 (by decide +kernel) rfl, Or.inl rfl, rfl, rfl, fun h => rfl⟩
theorem kg_X12_63 : LkG RX12 63 12 22 := ⟨RX12, TX12, 65, "FiveCardsModel", rfl, bw_X12, by decide, big_of 972 (by decide +kernel) rfl, Or.inl rfl⟩
theorem kf_X12_63 : LkF RX12 63 12 22 (.array .long) true := ⟨RX12, TX12, 65, tyX12, "FiveCardsModel", rfl, bw_X12, tyX12_ok, nmX12, by decide, big_of 972 (by decide +kernel) rfl, Or.inl rfl, rfl, rfl, fun h => rfl⟩
theorem kg_X12_66 : LkG RX12 66 12 23 := ⟨RX12, TX12, 65, "FiveCardsModel", rfl, bw_X12, by decide, big_of 973 (by decide +kernel) rfl, Or.inl rfl⟩
theorem kf_X12_66 : LkF RX12 66 12 23 (.array .int) true := ⟨RX12, TX12, 65, tyX12, "FiveCardsModel", rfl, bw_X12, tyX12_ok, nmX12, by decide, big_of 973 (by decide +kernel) rfl, Or.inl rfl, rfl, rfl, fun h => rfl⟩
theorem kg_X12_69 : LkG RX12 69 12 24 := ⟨RX12, TX12, 65, "FiveCardsModel", rfl, bw_X12, by decide, big_of 974 (by decide +kernel) rfl, Or.inl rfl⟩
theorem kf_X12_69 : LkF RX12 69 12 24 (.array .int) true := ⟨RX12, TX12, 65, tyX12, "FiveCardsModel", rfl, bw_X12, tyX12_ok, nmX12, by decide, big_of 974 (by decide +kernel) rfl, Or.inl rfl, rfl, rfl, fun h => rfl⟩
theorem kg_X12_72 : LkG RX12 72 12 25 := ⟨RX12, TX12, 65, "FiveCardsModel", rfl, bw_X12, by decide, big_of 975 (by decide +kernel) rfl, Or.inl rfl⟩
theorem kf_X12_72 : LkF RX12 72 12 25 (.array .int) true := ⟨RX12, TX12, 65, tyX12, "FiveCardsModel", rfl, bw_X12, tyX12_ok, nmX12, by decide, big_of 975 (by decide +kernel) rfl, Or.inl rfl, rfl, rfl, fun h => rfl⟩
theorem kg_X12_75 : LkG RX12 75 12 26 := ⟨RX12, TX12, 65, "FiveCardsModel", rfl, bw_X12, by decide, big_of 976 (by decide +kernel) rfl, Or.inl rfl⟩
theorem kf_X12_75 : LkF RX12 75 12 26 (.array .int) true := ⟨RX12, TX12, 65, tyX12, "FiveCardsModel", rfl, bw_X12, tyX12_ok, nmX12, by decide, big_of 976 (by decide +kernel) rfl, Or.inl rfl, rfl, rfl, fun h => rfl⟩
theorem kg_X12_78 : LkG RX12 78 12 27 := ⟨RX12, TX12, 65, "FiveCardsModel", rfl, bw_X12, by decide, big_of 977 (by decide +kernel) rfl, Or.inl rfl⟩
theorem kf_X12_78 : LkF RX12 78 12 27 (.array .int) true := ⟨RX12, TX12, 65, tyX12, "FiveCardsModel", rfl, bw_X12, tyX12_ok, nmX12, by decide, big_of 977 (by decide +kernel) rfl, Or.inl rfl, rfl, rfl, fun h => rfl⟩
theorem kg_X12_213 : LkG RX12 213 12 28 := ⟨RX12, TX12, 65, "FiveCardsModel", rfl, bw_X12, by decide, big_of 978 (by decide +kernel) rfl, Or.inl rfl⟩
theorem kf_X12_213 : LkF RX12 213 12 28 (.int) false := ⟨RX12, TX12, 65, tyX12, "FiveCardsModel", rfl, bw_X12, tyX12_ok, nmX12, by decide, big_of 978 (by decide +kernel) rfl, Or.inl rfl, rfl, rfl, fun h => absurd h (by decide)⟩
theorem kg_X12_81 : LkG RX12 81 12 29 := ⟨RX12, TX12, 65, "FiveCardsModel", rfl, bw_X12, by decide, big_of 979 (by decide +kernel) rfl, Or.inl rfl⟩
theorem kf_X12_81 : LkF RX12 81 12 29 (.array .int) true := ⟨RX12, TX12, 65, tyX12, "FiveCardsModel", rfl, bw_X12, tyX12_ok, nmX12, by decide, big_of 979 (by decide +kernel) rfl, Or.inl rfl, rfl, rfl, fun h => rfl⟩
theorem kg_X12_84 : LkG RX12 84 12 30 := ⟨RX12, TX12, 65, "FiveCardsModel", rfl, bw_X12, by decide, big_of 980 (by decide +kernel) rfl, Or.inl rfl⟩
theorem kf_X12_84 : LkF RX12 84 12 30 (.array .int) true := ⟨RX12, TX12, 65, tyX12, "FiveCardsModel", rfl, bw_X12, tyX12_ok, nmX12, by decide, big_of 980 (by decide +kernel) rfl, Or.inl rfl, rfl, rfl, fun h => rfl⟩
theorem kg_X12_231 : LkG RX12 231 12 31 := ⟨RX12, TX12, 65, "FiveCardsModel", rfl, bw_X12, by decide, big_of 981 (by decide +kernel) rfl, Or.inl rfl⟩
theorem kf_X12_231 : LkF RX12 231 12 31 (.int) false := ⟨RX12, TX12, 65, tyX12, "FiveCardsModel", rfl, bw_X12, tyX12_ok, nmX12, by decide, big_of 981 (by decide +kernel) rfl, Or.inl rfl, rfl, rfl, fun h => absurd h (by decide)⟩
theorem kg_X12_245 : LkG RX12 245 12 32 := ⟨RX12, TX12, 65, "FiveCardsModel", rfl, bw_X12, by decide, big_of 982 (by decide +kernel) rfl, Or.inl rfl⟩
theorem kf_X12_245 : LkF RX12 245 12 32 (.int) false := ⟨RX12, TX12, 65, tyX12, "FiveCardsModel", rfl, bw_X12, tyX12_ok, nmX12, by decide, big_of 982 (by decide +kernel) rfl, Or.inl rfl, rfl, rfl, fun h => absurd h (by decide)⟩
theorem kg_X12_242 : LkG RX12 242 12 33 := ⟨RX12, TX12, 65, "FiveCardsModel", rfl, bw_X12, by decide, big_of 983 (by decide +kernel) rfl, Or.inl rfl⟩
theorem kf_X12_242 : LkF RX12 242 12 33 (.int) false := ⟨RX12, TX12, 65, tyX12, "FiveCardsModel", rfl, bw_X12, tyX12_ok, nmX12, by decide, big_of 983 (by decide +kernel) rfl, Or.inl rfl, rfl, rfl, fun h => absurd h (by decide)⟩
theorem kg_X12_257 : LkG RX12 257 12 34 := ⟨RX12, TX12, 65, "FiveCardsModel", rfl, bw_X12, by decide, big_of 984 (by decide +kernel) rfl, Or.inl rfl⟩
theorem kf_X12_257 : LkF RX12 257 12 34 (.int) false := ⟨RX12, TX12, 65, tyX12, "FiveCardsModel", rfl, bw_X12, tyX12_ok, nmX12, by decide, big_of 984 (by decide +kernel) rfl, Or.inl rfl, rfl, rfl, fun h => absurd h (by decide)⟩
theorem kg_X12_254 : LkG RX12 254 12 35 := ⟨RX12, TX12, 65, "FiveCardsModel", rfl, bw_X12, by decide, big_of 985 (by decide +kernel) rfl, Or.inl rfl⟩
theorem kf_X12_254 : LkF RX12 254 12 35 (.int) false := ⟨RX12, TX12, 65, tyX12, "FiveCardsModel", rfl, bw_X12, tyX12_ok, nmX12, by decide, big_of 985 (by decide +kernel) rfl, Or.inl rfl, rfl, rfl, fun h => absurd h (by decide)⟩
theorem kg_X12_264 : LkG RX12 264 12 36 := ⟨RX12, TX12, 65, "FiveCardsModel", rfl, bw_X12, by decide, big_of 986 (by decide +kernel) rfl, Or.inl rfl⟩
theorem kf_X12_264 : LkF RX12 264 12 36 (.long) false := ⟨RX12, TX12, 65, tyX12, "FiveCardsModel", rfl, bw_X12, tyX12_ok, nmX12, by decide, big_of 986 (by decide +kernel) rfl, Or.inl rfl, rfl, rfl, fun h => absurd h (by decide)⟩
theorem kg_X12_248 : LkG RX12 248 12 37 := ⟨RX12, TX12, 65, "FiveCardsModel", rfl, bw_X12, by decide, big_of 987 (by decide +kernel) rfl, Or.inl rfl⟩
theorem kf_X12_248 : LkF RX12 248 12 37 (.int) false := ⟨RX12, TX12, 65, tyX12, "FiveCardsModel", rfl, bw_X12, tyX12_ok, nmX12, by decide, big_of 987 (by decide +kernel) rfl, Or.inl rfl, rfl, rfl, fun h => absurd h (by decide)⟩
theorem kg_X12_285 : LkG RX12 285 12 38 := ⟨RX12, TX12, 65, "FiveCardsModel", rfl, bw_X12, by decide, big_of 988 (by decide +kernel) rfl, Or.inl rfl⟩
theorem kf_X12_285 : LkF RX12 285 12 38 (.int) false := ⟨RX12, TX12, 65, tyX12, "FiveCardsModel", rfl, bw_X12, tyX12_ok, nmX12, by decide, big_of 988 (by decide +kernel) rfl, Or.inl rfl, rfl, rfl, fun h => absurd h (by decide)⟩
theorem kg_X12_278 : LkG RX12 278 12 39 := ⟨RX12, TX12, 65, "FiveCardsModel", rfl, bw_X12, by decide, big_of 989 (by decide +kernel) rfl, Or.inl rfl⟩
theorem kf_X12_278 : LkF RX12 278 12 39 (.boolean) false := ⟨RX12, TX12, 65, tyX12, "FiveCardsModel", rfl, bw_X12, tyX12_ok, nmX12, by decide, big_of 989 (by decide +kernel) rfl, Or.inl rfl, rfl, rfl, fun h => absurd h (by decide)⟩
theorem kg_X12_282 : LkG RX12 282 12 40 := ⟨RX12, TX12, 65, "FiveCardsModel", rfl, bw_X12, by decide, big_of 990 (by decide +kernel) rfl, Or.inl rfl⟩
theorem kf_X12_282 : LkF RX12 282 12 40 (.int) false := ⟨RX12, TX12, 65, tyX12, "FiveCardsModel", rfl, bw_X12, tyX12_ok, nmX12, by decide, big_of 990 (by decide +kernel) rfl, Or.inl rfl, rfl, rfl, fun h => absurd h (by decide)⟩
theorem kg_X12_300 : LkG RX12 300 12 41 := ⟨RX12, TX12, 65, "FiveCardsModel", rfl, bw_X12, by decide, big_of 991 (by decide +kernel) rfl, Or.inl rfl⟩
theorem kf_X12_300 : LkF RX12 300 12 41 (.int) false := ⟨RX12, TX12, 65, tyX12, "FiveCardsModel", rfl, bw_X12, tyX12_ok, nmX12, by decide, big_of 991 (by decide +kernel) rfl, Or.inl rfl, rfl, rfl, fun h => absurd h (by decide)⟩
theorem kg_X12_305 : LkG RX12 305 12 42 := ⟨RX12, TX12, 65, "FiveCardsModel", rfl, bw_X12, by decide, big_of 992 (by decide +kernel) rfl, Or.inl rfl⟩
theorem kf_X12_305 : LkF RX12 305 12 42 (.int) false := ⟨RX12, TX12, 65, tyX12, "FiveCardsModel", rfl, bw_X12, tyX12_ok, nmX12, by decide, big_of 992 (by decide +kernel) rfl, Or.inl rfl, rfl, rfl, fun h => absurd h (by decide)⟩
theorem kg_X12_310 : LkG RX12 310 12 43 := ⟨RX12, TX12, 65, "FiveCardsModel", rfl, bw_X12, by decide, big_of 993 (by decide +kernel) rfl, Or.inl rfl⟩
theorem kf_X12_310 : LkF RX12 310 12 43 (.int) false := ⟨RX12, TX12, 65, tyX12, "FiveCardsModel", rfl, bw_X12, tyX12_ok, nmX12, by decide, big_of 993 (by decide +kernel) rfl, Or.inl rfl, rfl, rfl, fun h => absurd h (by decide)⟩
theorem kg_X12_315 : LkG RX12 315 12 44 := ⟨RX12, TX12, 65, "FiveCardsModel", rfl, bw_X12, by decide, big_of 994 (by decide +kernel) rfl, Or.inl rfl⟩
theorem kf_X12_315 : LkF RX12 315 12 44 (.int) false := ⟨RX12, TX12, 65, tyX12, "FiveCardsModel", rfl, bw_X12, tyX12_ok, nmX12, by decide, big_of 994 (by decide +kernel) rfl, Or.inl rfl, rfl, rfl, fun h => absurd h (by decide)⟩
theorem kg_X12_320 : LkG RX12 320 12 45 := ⟨RX12, TX12, 65, "FiveCardsModel", rfl, bw_X12, by decide, big_of 995 (by decide +kernel) rfl, Or.inl rfl⟩
theorem kf_X12_320 : LkF RX12 320 12 45 (.int) false := ⟨RX12, TX12, 65, tyX12, "FiveCardsModel", rfl, bw_X12, tyX12_ok, nmX12, by decide, big_of 995 (by decide +kernel) rfl, Or.inl rfl, rfl, rfl, fun h => absurd h (by decide)⟩
theorem kg_X12_325 : LkG RX12 325 12 46 := ⟨RX12, TX12, 65, "FiveCardsModel", rfl, bw_X12, by decide, big_of 996 (by decide +kernel) rfl, Or.inl rfl⟩
theorem kf_X12_325 : LkF RX12 325 12 46 (.int) false := ⟨RX12, TX12, 65, tyX12, "FiveCardsModel", rfl, bw_X12, tyX12_ok, nmX12, by decide, big_of 996 (by decide +kernel) rfl, Or.inl rfl, rfl, rfl, fun h => absurd h (by decide)⟩
theorem kg_X12_383 : LkG RX12 383 12 47 := ⟨RX12, TX12, 65, "FiveCardsModel", rfl, bw_X12, by decide, big_of 997 (by decide +kernel) rfl, Or.inl rfl⟩
theorem kf_X12_383 : LkF RX12 383 12 47 (.long) false := ⟨RX12, TX12, 65, tyX12, "FiveCardsModel", rfl, bw_X12, tyX12_ok, nmX12, by decide, big_of 997 (by decide +kernel) rfl, Or.inl rfl, rfl, rfl, fun h => absurd h (by decide)⟩
theorem kg_X12_386 : LkG RX12 386 12 48 := ⟨RX12, TX12, 65, "FiveCardsModel", rfl, bw_X12, by decide, big_of 998 (by decide +kernel) rfl, Or.inl rfl⟩
theorem kf_X12_386 : LkF RX12 386 12 48 (.long) false := ⟨RX12, TX12, 65, tyX12, "FiveCardsModel", rfl, bw_X12, tyX12_ok, nmX12, by decide, big_of 998 (by decide +kernel) rfl, Or.inl rfl, rfl, rfl, fun h => absurd h (by decide)⟩
theorem kg_X12_406 : LkG RX12 406 12 49 := ⟨RX12, TX12, 65, "FiveCardsModel", rfl, bw_X12, by decide, big_of 999 (by decide +kernel) rfl, Or.inl rfl⟩
theorem kf_X12_406 : LkF RX12 406 12 49 (.int) false := ⟨RX12, TX12, 65, tyX12, "FiveCardsModel", rfl, bw_X12, tyX12_ok, nmX12, by decide, big_of 999 (by decide +kernel) rfl, Or.inl rfl, rfl, rfl, fun h => absurd h (by decide)⟩
theorem kg_X12_409 : LkG RX12 409 12 50 := ⟨RX12, TX12, 65, "FiveCardsModel", rfl, bw_X12, by decide, big_of 1000 (by decide +kernel) rfl, Or.inl rfl⟩
theorem kf_X12_409 : LkF RX12 409 12 50 (.int) false := ⟨RX12, TX12, 65, tyX12, "FiveCardsModel", rfl, bw_X12, tyX12_ok, nmX12, by decide, big_of 1000 (by decide +kernel) rfl, Or.inl rfl, rfl, rfl, fun h => absurd h (by decide)⟩
theorem kg_X12_87 : LkG RX12 87 12 51 := ⟨RX12, TX12, 65, "FiveCardsModel", rfl, bw_X12, by decide, big_of 1001 (by decide +kernel) rfl, Or.inl rfl⟩
theorem kf_X12_87 : LkF RX12 87 12 51 (.array .int) true := ⟨RX12, TX12, 65, tyX12, "FiveCardsModel", rfl, bw_X12, tyX12_ok, nmX12, by decide, big_of 1001 (by decide +kernel) rfl, Or.inl rfl, rfl, rfl, fun h => rfl⟩
theorem kg_X12_90 : LkG RX12 90 12 52 := ⟨RX12, TX12, 65, "FiveCardsModel", rfl, bw_X12, by decide, big_of 1002 (by decide +kernel) rfl, Or.inl rfl⟩
theorem kf_X12_90 : LkF RX12 90 12 52 (.array .int) true := ⟨RX12, TX12, 65, tyX12, "FiveCardsModel", rfl, bw_X12, tyX12_ok, nmX12, by decide, big_of 1002 (by decide +kernel) rfl, Or.inl rfl, rfl, rfl, fun h => rfl⟩
theorem kg_X12_93 : LkG RX12 93 12 53 := ⟨RX12, TX12, 65, "FiveCardsModel", rfl, bw_X12, by decide, big_of 1003 (by decide +kernel) rfl, Or.inl rfl⟩
theorem kf_X12_93 : LkF RX12 93 12 53 (.array .int) true := ⟨RX12, TX12, 65, tyX12, "FiveCardsModel", rfl, bw_X12, tyX12_ok, nmX12, by decide, big_of 1003 (by decide +kernel) rfl, Or.inl rfl, rfl, rfl, fun h => rfl⟩
theorem kg_X12_96 : LkG RX12 96 12 54 := ⟨RX12, TX12, 65, "FiveCardsModel", rfl, bw_X12, by decide, big_of 1004 (by decide +kernel) rfl, Or.inl rfl⟩
theorem kf_X12_96 : LkF RX12 96 12 54 (.array .int) true := ⟨RX12, TX12, 65, tyX12, "FiveCardsModel", rfl, bw_X12, tyX12_ok, nmX12, by decide, big_of 1004 (by decide +kernel) rfl, Or.inl rfl, rfl, rfl, fun h => rfl⟩
theorem kg_X12_99 : LkG RX12 99 12 55 := ⟨RX12, TX12, 65, "FiveCardsModel", rfl, bw_X12, by decide, big_of 1005 (by decide +kernel) rfl, Or.inl rfl⟩
theorem kf_X12_99 : LkF RX12 99 12 55 (.array .int) true := ⟨RX12, TX12, 65, tyX12, "FiveCardsModel", rfl, bw_X12, tyX12_ok, nmX12, by decide, big_of 1005 (by decide +kernel) rfl, Or.inl rfl, rfl, rfl, fun h => rfl⟩
theorem kg_X12_102 : LkG RX12 102 12 56 := ⟨RX12, TX12, 65, "FiveCardsModel", rfl, bw_X12, by decide, big_of 1006 (by decide +kernel) rfl, Or.inl rfl⟩
theorem kf_X12_102 : LkF RX12 102 12 56 (.array .int) true := ⟨RX12, TX12, 65, tyX12, "FiveCardsModel", rfl, bw_X12, tyX12_ok, nmX12, by decide, big_of 1006 (by decide +kernel) rfl, Or.inl rfl, rfl, rfl, fun h => rfl⟩
theorem kg_X12_418 : LkG RX12 418 12 57 := ⟨RX12, TX12, 65, "FiveCardsModel", rfl, bw_X12, by decide, big_of 1007 (by decide +kernel) rfl, Or.inl rfl⟩
theorem kf_X12_418 : LkF RX12 418 12 57 (.boolean) false := ⟨RX12, TX12, 65, tyX12, "FiveCardsModel", rfl, bw_X12, tyX12_ok, nmX12, by decide, big_of 1007 (by decide +kernel) rfl, Or.inl rfl, rfl, rfl, fun h => absurd h (by decide)⟩
theorem kg_X12_421 : LkG RX12 421 12 58 := ⟨RX12, TX12, 65, "FiveCardsModel", rfl, bw_X12, by decide, big_of 1008 (by decide +kernel) rfl, Or.inl rfl⟩
theorem kf_X12_421 : LkF RX12 421 12 58 (.int) false := ⟨RX12, TX12, 65, tyX12, "FiveCardsModel", rfl, bw_X12, tyX12_ok, nmX12, by decide, big_of 1008 (by decide +kernel) rfl, Or.inl rfl, rfl, rfl, fun h => absurd h (by decide)⟩
theorem kg_X12_424 : LkG RX12 424 12 59 := ⟨RX12, TX12, 65, "FiveCardsModel", rfl, bw_X12, by decide, big_of 1009 (by decide +kernel) rfl, Or.inl rfl⟩
theorem kf_X12_424 : LkF RX12 424 12 59 (.int) false := ⟨RX12, TX12, 65, tyX12, "FiveCardsModel", rfl, bw_X12, tyX12_ok, nmX12, by decide, big_of 1009 (by decide +kernel) rfl, Or.inl rfl, rfl, rfl, fun h => absurd h (by decide)⟩
theorem kg_X12_427 : LkG RX12 427 12 60 := ⟨RX12, TX12, 65, "FiveCardsModel", rfl, bw_X12, by decide, big_of 1010 (by decide +kernel) rfl, Or.inl rfl⟩
theorem kf_X12_427 : LkF RX12 427 12 60 (.int) false := ⟨RX12, TX12, 65, tyX12, "FiveCardsModel", rfl, bw_X12, tyX12_ok, nmX12, by decide, big_of 1010 (by decide +kernel) rfl, Or.inl rfl, rfl, rfl, fun h => absurd h (by decide)⟩
theorem kg_X12_105 : LkG RX12 105 12 61 := ⟨RX12, TX12, 65, "FiveCardsModel", rfl, bw_X12, by decide, big_of 1011 (by decide +kernel) rfl, Or.inl rfl⟩
theorem kf_X12_105 : LkF RX12 105 12 61 (.array .boolean) true := ⟨RX12, TX12, 65, tyX12, "FiveCardsModel", rfl, bw_X12, tyX12_ok, nmX12, by decide, big_of 1011 (by decide +kernel) rfl, Or.inl rfl, rfl, rfl, fun h => rfl⟩
theorem kg_X12_109 : LkG RX12 109 12 62 := ⟨RX12, TX12, 65, "FiveCardsModel", rfl, bw_X12, by decide, big_of 1012 (by decide +kernel) rfl, Or.inl rfl⟩
theorem kf_X12_109 : LkF RX12 109 12 62 (.array .int) true := ⟨RX12, TX12, 65, tyX12, "FiveCardsModel", rfl, bw_X12, tyX12_ok, nmX12, by decide, big_of 1012 (by decide +kernel) rfl, Or.inl rfl, rfl, rfl, fun h => rfl⟩
theorem kg_X12_112 : LkG RX12 112 12 63 := ⟨RX12, TX12, 65, "FiveCardsModel", rfl, bw_X12, by decide, big_of 1013 (by decide +kernel) rfl, Or.inl rfl⟩
theorem kf_X12_112 : LkF RX12 112 12 63 (.array .int) true := ⟨RX12, TX12, 65, tyX12, "FiveCardsModel", rfl, bw_X12, tyX12_ok, nmX12, by decide, big_of 1013 (by decide +kernel) rfl, Or.inl rfl, rfl, rfl, fun h => rfl⟩
theorem kg_X12_115 : LkG RX12 115 12 64 := ⟨RX12, TX12, 65, "FiveCardsModel", rfl, bw_X12, by decide, big_of 1014 (by decide +kernel) rfl, Or.inl rfl⟩
theorem kf_X12_115 : LkF RX12 115 12 64 (.array .int) true := ⟨RX12, TX12, 65, tyX12, "FiveCardsModel", rfl, bw_X12, tyX12_ok, nmX12, by decide, big_of 1014 (by decide +kernel) rfl, Or.inl rfl, rfl, rfl, fun h => rfl⟩
theorem kl_L_7 : Cond.classLink RL 7 RX11 ∈ BIG := big_of 26 (by decide +kernel) rfl
theorem kn_L_7 : LkN RL 7 11 14 [.null, .null, .null, .null, .null, .null, .null, .null, .null, .null, .int 0, .int 0, .int 0, .int 0] := ⟨RX11, TX11, tyX11, rfl, bw_X11, tyX11_ok, kl_L_7, big_of 27 (by decide +kernel) rfl, big_of 1 (by decide +kernel) rfl, by decide +kernel⟩
theorem kl_X11_7 : Cond.classLink RX11 7 RJx4a65c ∈ BIG := big_of 34 (by decide +kernel) rfl
theorem kn_X11_7 : LkN RX11 7 13 3 [.int 0, .null, .int 0] := ⟨RJx4a65c, TJx4a65c, tyJx4a65c, rfl, bw_Jx4a65c, tyJx4a65c_ok, kl_X11_7, big_of 35 (by decide +kernel) rfl, big_of 4 (by decide +kernel) rfl, by decide +kernel⟩
theorem kl_X11_28 : Cond.classLink RX11 28 RX7 ∈ BIG := big_of 60 (by decide +kernel) rfl
theorem kn_X11_28 : LkN RX11 28 7 3 [.null, .int 0, .int 0] := ⟨RX7, TX7, tyX7, rfl, bw_X7, tyX7_ok, kl_X11_28, big_of 141 (by decide +kernel) rfl, big_of 9 (by decide +kernel) rfl, by decide +kernel⟩
theorem kl_X11_34 : Cond.classLink RX11 34 RX8 ∈ BIG := big_of 62 (by decide +kernel) rfl
theorem kn_X11_34 : LkN RX11 34 8 2 [.null, .int 0] := ⟨RX8, TX8, tyX8, rfl, bw_X8, tyX8_ok, kl_X11_34, big_of 63 (by decide +kernel) rfl, big_of 5 (by decide +kernel) rfl, by decide +kernel⟩
theorem kl_X11_41 : Cond.classLink RX11 41 RX4 ∈ BIG := big_of 79 (by decide +kernel) rfl
theorem kn_X11_41 : LkN RX11 41 4 7 [.null, .null, .null, .int 0, .int 0, .int 0, .int 0] := ⟨RX4, TX4, tyX4, rfl, bw_X4, tyX4_ok, kl_X11_41, big_of 80 (by decide +kernel) rfl, big_of 6 (by decide +kernel) rfl, by decide +kernel⟩
theorem kl_X4_9 : Cond.classLink RX4 9 RX10 ∈ BIG := big_of 85 (by decide +kernel) rfl
theorem kn_X4_9 : LkN RX4 9 10 4 [.null, .null, .null, .int 0] := ⟨RX10, TX10, tyX10, rfl, bw_X10, tyX10_ok, kl_X4_9, big_of 86 (by decide +kernel) rfl, big_of 7 (by decide +kernel) rfl, by decide +kernel⟩
theorem kl_X11_48 : Cond.classLink RX11 48 RX2 ∈ BIG := big_of 130 (by decide +kernel) rfl
theorem kn_X11_48 : LkN RX11 48 2 1 [.null] := ⟨RX2, TX2, tyX2, rfl, bw_X2, tyX2_ok, kl_X11_48, big_of 131 (by decide +kernel) rfl, big_of 8 (by decide +kernel) rfl, by decide +kernel⟩
theorem kl_X4_22 : Cond.classLink RX4 22 RX9 ∈ BIG := big_of 321 (by decide +kernel) rfl
theorem kn_X4_22 : LkN RX4 22 9 3 [.null, .null, .null] := ⟨RX9, TX9, tyX9, rfl, bw_X9, tyX9_ok, kl_X4_22, big_of 322 (by decide +kernel) rfl, big_of 15 (by decide +kernel) rfl, by decide +kernel⟩
theorem kl_J7_317 : Cond.classLink RJ7 317 "[I" ∈ BIG := big_of 332 (by decide +kernel) rfl
theorem kl_X4_62 : Cond.classLink RX4 62 "[I" ∈ BIG := big_of 340 (by decide +kernel) rfl
theorem kl_J7_110 : Cond.classLink RJ7 110 "[Ljava/lang/Object;" ∈ BIG := big_of 404 (by decide +kernel) rfl
theorem kl_J7_2 : Cond.classLink RJ7 2 "java/lang/Object" ∈ BIG := big_of 406 (by decide +kernel) rfl
theorem kl_Jx4a65c_7 : Cond.classLink RJx4a65c 7 "java/lang/Object" ∈ BIG := big_of 408 (by decide +kernel) rfl
theorem kl_X11_90 : Cond.classLink RX11 90 RX3 ∈ BIG := big_of 460 (by decide +kernel) rfl
theorem kn_X11_90 : LkN RX11 90 3 2 [.null, .int 0] := ⟨RX3, TX3, tyX3, rfl, bw_X3, tyX3_ok, kl_X11_90, big_of 461 (by decide +kernel) rfl, big_of 20 (by decide +kernel) rfl, by decide +kernel⟩
theorem kl_X11_107 : Cond.classLink RX11 107 RX5 ∈ BIG := big_of 487 (by decide +kernel) rfl
theorem kn_X11_107 : LkN RX11 107 5 14 [.int 0, .null, .int 0, .int 0, .null, .null, .int 0, .int 0, .null, .null, .null, .null, .int 0, .int 0] := ⟨RX5, TX5, tyX5, rfl, bw_X5, tyX5_ok, kl_X11_107, big_of 488 (by decide +kernel) rfl, big_of 21 (by decide +kernel) rfl, by decide +kernel⟩
theorem kl_X11_194 : Cond.classLink RX11 194 RX1 ∈ BIG := big_of 638 (by decide +kernel) rfl
theorem kn_X11_194 : LkN RX11 194 1 5 [.int 0, .int 0, .int 0, .int 0, .int 0] := ⟨RX1, TX1, tyX1, rfl, bw_X1, tyX1_ok, kl_X11_194, big_of 646 (by decide +kernel) rfl, big_of 23 (by decide +kernel) rfl, by decide +kernel⟩
theorem kl_X11_175 : Cond.classLink RX11 175 RX9 ∈ BIG := big_of 663 (by decide +kernel) rfl
theorem kl_X11_212 : Cond.classLink RX11 212 RX6 ∈ BIG := big_of 757 (by decide +kernel) rfl
theorem kn_X11_212 : LkN RX11 212 6 2 [.int 0, .int 0] := ⟨RX6, TX6, tyX6, rfl, bw_X6, tyX6_ok, kl_X11_212, big_of 758 (by decide +kernel) rfl, big_of 24 (by decide +kernel) rfl, by decide +kernel⟩
theorem kl_X11_235 : Cond.classLink RX11 235 RX0 ∈ BIG := big_of 808 (by decide +kernel) rfl
theorem kn_X11_235 : LkN RX11 235 0 2 [.long 0, .long 0] := ⟨RX0, TX0, tyX0, rfl, bw_X0, tyX0_ok, kl_X11_235, big_of 809 (by decide +kernel) rfl, big_of 25 (by decide +kernel) rfl, by decide +kernel⟩
theorem kl_L_10 : Cond.classLink RL 10 RX12 ∈ BIG := big_of 934 (by decide +kernel) rfl
theorem kn_L_10 : LkN RL 10 12 65 [.int 0, .null, .null, .int 0, .int 0, .null, .int 0, .null, .null, .null, .int 0, .null, .null, .null, .null, .null, .null, .null, .int 0, .null, .null, .null, .null, .null, .null, .null, .null, .null, .int 0, .null, .null, .int 0, .int 0, .int 0, .int 0, .int 0, .long 0, .int 0, .int 0, .int 0, .int 0, .int 0, .int 0, .int 0, .int 0, .int 0, .int 0, .long 0, .long 0, .int 0, .int 0, .null, .null, .null, .null, .null, .null, .int 0, .int 0, .int 0, .int 0, .null, .null, .null, .null] := ⟨RX12, TX12, tyX12, rfl, bw_X12, tyX12_ok, kl_L_10, big_of 935 (by decide +kernel) rfl, big_of 19 (by decide +kernel) rfl, by decide +kernel⟩
theorem kc_J8_200 : Cond.constant RJ8 200 2147483639 ∈ BIG := big_of 376 (by decide +kernel) rfl
theorem kc_X11_85 : Cond.constant RX11 85 99999 ∈ BIG := big_of 456 (by decide +kernel) rfl
theorem kc_X5_91 : Cond.constantLong RX5 91 48271 ∈ BIG := big_of 603 (by decide +kernel) rfl
theorem kc_X5_93 : Cond.constantLong RX5 93 2147483647 ∈ BIG := big_of 604 (by decide +kernel) rfl
theorem kc_X11_146 : Cond.constant RX11 146 (-1000000) ∈ BIG := big_of 617 (by decide +kernel) rfl
theorem kc_X11_180 : Cond.constantLong RX11 180 (-4611686018427387904) ∈ BIG := big_of 678 (by decide +kernel) rfl
theorem kc_X12_118 : Cond.constantLong RX12 118 8319396939027718204 ∈ BIG := big_of 940 (by decide +kernel) rfl
theorem kc_X12_137 : Cond.constantLong RX12 137 255 ∈ BIG := big_of 945 (by decide +kernel) rfl
theorem kc_X12_124 : Cond.constantLong RX12 124 2335232355660217120 ∈ BIG := big_of 946 (by decide +kernel) rfl
theorem kc_X12_126 : Cond.constantLong RX12 126 7738703066957094972 ∈ BIG := big_of 947 (by decide +kernel) rfl
theorem kc_X12_128 : Cond.constantLong RX12 128 8314059567200302195 ∈ BIG := big_of 948 (by decide +kernel) rfl
theorem kc_X12_130 : Cond.constantLong RX12 130 2318545033095113587 ∈ BIG := big_of 949 (by decide +kernel) rfl
theorem kc_X12_132 : Cond.constantLong RX12 132 2318544795711774752 ∈ BIG := big_of 950 (by decide +kernel) rfl
theorem kc_X12_148 : Cond.constantLong RX12 148 99999 ∈ BIG := big_of 1151 (by decide +kernel) rfl
theorem kc_X12_153 : Cond.constantLong RX12 153 7 ∈ BIG := big_of 1159 (by decide +kernel) rfl
theorem kc_X12_155 : Cond.constantLong RX12 155 99 ∈ BIG := big_of 1160 (by decide +kernel) rfl
theorem kc_X12_430 : Cond.constantLong RX12 430 3 ∈ BIG := big_of 1180 (by decide +kernel) rfl
theorem kc_X12_146 : Cond.constantLong RX12 146 4 ∈ BIG := big_of 1184 (by decide +kernel) rfl
theorem kc_X12_175 : Cond.constantLong RX12 175 48271 ∈ BIG := big_of 1205 (by decide +kernel) rfl
theorem kc_X12_177 : Cond.constantLong RX12 177 2147483647 ∈ BIG := big_of 1206 (by decide +kernel) rfl
theorem kc_X12_186 : Cond.constant RX12 186 (-1000000) ∈ BIG := big_of 1215 (by decide +kernel) rfl
theorem kc_X12_260 : Cond.constantLong RX12 260 97 ∈ BIG := big_of 1252 (by decide +kernel) rfl
theorem kc_X12_262 : Cond.constantLong RX12 262 122 ∈ BIG := big_of 1253 (by decide +kernel) rfl
theorem kc_X12_268 : Cond.constantLong RX12 268 27 ∈ BIG := big_of 1254 (by decide +kernel) rfl
theorem kc_X12_270 : Cond.constantLong RX12 270 96 ∈ BIG := big_of 1255 (by decide +kernel) rfl
theorem kc_X12_211 : Cond.constantLong RX12 211 (-1) ∈ BIG := big_of 1256 (by decide +kernel) rfl
theorem kc_X12_272 : Cond.constantLong RX12 272 48 ∈ BIG := big_of 1257 (by decide +kernel) rfl
theorem kc_X12_274 : Cond.constantLong RX12 274 57 ∈ BIG := big_of 1258 (by decide +kernel) rfl
theorem kc_X12_276 : Cond.constantLong RX12 276 10 ∈ BIG := big_of 1259 (by decide +kernel) rfl
theorem kc_X12_367 : Cond.constantLong RX12 367 388978 ∈ BIG := big_of 1260 (by decide +kernel) rfl
theorem kc_X12_350 : Cond.constantLong RX12 350 10631 ∈ BIG := big_of 1285 (by decide +kernel) rfl
theorem kc_X12_294 : Cond.constantLong RX12 294 164584 ∈ BIG := big_of 1310 (by decide +kernel) rfl
theorem kc_X12_303 : Cond.constantLong RX12 303 13703 ∈ BIG := big_of 1311 (by decide +kernel) rfl
theorem kc_X12_308 : Cond.constantLong RX12 308 1065 ∈ BIG := big_of 1312 (by decide +kernel) rfl
theorem kc_X12_313 : Cond.constantLong RX12 313 6476752 ∈ BIG := big_of 1313 (by decide +kernel) rfl
theorem kc_X12_318 : Cond.constantLong RX12 318 2968 ∈ BIG := big_of 1314 (by decide +kernel) rfl
theorem kc_X12_323 : Cond.constantLong RX12 323 279875 ∈ BIG := big_of 1315 (by decide +kernel) rfl
theorem kc_X12_348 : Cond.constantLong RX12 348 43 ∈ BIG := big_of 1316 (by decide +kernel) rfl
theorem kc_X12_358 : Cond.constantLong RX12 358 60 ∈ BIG := big_of 1317 (by decide +kernel) rfl
theorem kc_X12_360 : Cond.constantLong RX12 360 1111 ∈ BIG := big_of 1318 (by decide +kernel) rfl
theorem kc_X12_365 : Cond.constantLong RX12 365 423 ∈ BIG := big_of 1319 (by decide +kernel) rfl
theorem kc_X12_373 : Cond.constantLong RX12 373 220309 ∈ BIG := big_of 1320 (by decide +kernel) rfl
theorem kc_X12_375 : Cond.constantLong RX12 375 13903 ∈ BIG := big_of 1321 (by decide +kernel) rfl
theorem kc_X12_203 : Cond.constantLong RX12 203 25 ∈ BIG := big_of 1326 (by decide +kernel) rfl
theorem kc_X12_205 : Cond.constantLong RX12 205 (-4611686018427387904) ∈ BIG := big_of 1327 (by decide +kernel) rfl
theorem kc_X12_216 : Cond.constantLong RX12 216 5 ∈ BIG := big_of 1336 (by decide +kernel) rfl
theorem kc_X12_227 : Cond.constantLong RX12 227 50 ∈ BIG := big_of 1361 (by decide +kernel) rfl
theorem kc_X12_229 : Cond.constantLong RX12 229 63 ∈ BIG := big_of 1362 (by decide +kernel) rfl
theorem kc_X12_237 : Cond.constantLong RX12 237 8 ∈ BIG := big_of 1379 (by decide +kernel) rfl
theorem kc_X12_412 : Cond.constantLong RX12 412 100 ∈ BIG := big_of 1414 (by decide +kernel) rfl
theorem kc_X12_432 : Cond.constantLong RX12 432 2 ∈ BIG := big_of 1443 (by decide +kernel) rfl
theorem kc_X12_434 : Cond.constantLong RX12 434 12 ∈ BIG := big_of 1456 (by decide +kernel) rfl
theorem kc_L_81 : Cond.constantLong RL 81 4294967295 ∈ BIG := big_of 1465 (by decide +kernel) rfl
theorem ka_int : Cond.arrayClass .int ∈ BIG := big_of 78 (by decide +kernel) rfl
theorem ka_long : Cond.arrayClass .long ∈ BIG := big_of 140 (by decide +kernel) rfl
theorem ka_byte : Cond.arrayClass .byte ∈ BIG := big_of 355 (by decide +kernel) rfl
theorem ka_boolean : Cond.arrayClass .boolean ∈ BIG := big_of 1146 (by decide +kernel) rfl
end
