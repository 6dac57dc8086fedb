section
-- ===== PART A: goes FIRST, ahead of the names: the tables' words, and 'selects' of the private methods out of them =====
/-- a private method of a class that the tables say can be made, by its rows of tables_1 -/
def lw_okq (q : MethodName × Nat) : Prop := (q.1.cls ≠ "java/lang/invoke/MethodHandle" ∧ q.1.cls ≠ "java/lang/invoke/VarHandle") ∧ Cond.instantiable q.1.cls q.2 ∈ tables_1 ∧ Cond.privateMethod q.1 ∈ tables_1 ∧ Cond.instanceMethod q.1 ∈ tables_1
theorem lw_p0 : lw_okq (⟨"FiveCards", "readTape", "()I"⟩, 14) := ⟨⟨by decide +kernel, by decide +kernel⟩, List.mem_of_getElem? (i := 27) (by decide +kernel), List.mem_of_getElem? (i := 215) (by decide +kernel), List.mem_of_getElem? (i := 216) (by decide +kernel)⟩
theorem lw_p1 : lw_okq (⟨"FiveCards$Tokens", "add", "(III)V"⟩, 4) := ⟨⟨by decide +kernel, by decide +kernel⟩, List.mem_of_getElem? (i := 86) (by decide +kernel), List.mem_of_getElem? (i := 273) (by decide +kernel), List.mem_of_getElem? (i := 274) (by decide +kernel)⟩
theorem lw_p2 : lw_okq (⟨"FiveCards$Reader", "expect", "(I)V"⟩, 7) := ⟨⟨by decide +kernel, by decide +kernel⟩, List.mem_of_getElem? (i := 80) (by decide +kernel), List.mem_of_getElem? (i := 280) (by decide +kernel), List.mem_of_getElem? (i := 281) (by decide +kernel)⟩
theorem lw_p3 : lw_okq (⟨"FiveCards$Reader", "step", "()V"⟩, 7) := ⟨⟨by decide +kernel, by decide +kernel⟩, List.mem_of_getElem? (i := 80) (by decide +kernel), List.mem_of_getElem? (i := 284) (by decide +kernel), List.mem_of_getElem? (i := 285) (by decide +kernel)⟩
theorem lw_p4 : lw_okq (⟨"FiveCards$Reader", "refuse", "()V"⟩, 7) := ⟨⟨by decide +kernel, by decide +kernel⟩, List.mem_of_getElem? (i := 80) (by decide +kernel), List.mem_of_getElem? (i := 288) (by decide +kernel), List.mem_of_getElem? (i := 289) (by decide +kernel)⟩
theorem lw_p5 : lw_okq (⟨"FiveCards$Reader", "chain", "(II)V"⟩, 7) := ⟨⟨by decide +kernel, by decide +kernel⟩, List.mem_of_getElem? (i := 80) (by decide +kernel), List.mem_of_getElem? (i := 292) (by decide +kernel), List.mem_of_getElem? (i := 293) (by decide +kernel)⟩
theorem lw_p6 : lw_okq (⟨"FiveCards$Reader", "part", "(II)V"⟩, 7) := ⟨⟨by decide +kernel, by decide +kernel⟩, List.mem_of_getElem? (i := 80) (by decide +kernel), List.mem_of_getElem? (i := 296) (by decide +kernel), List.mem_of_getElem? (i := 297) (by decide +kernel)⟩
theorem lw_p7 : lw_okq (⟨"FiveCards$Reader", "one", "(I)V"⟩, 7) := ⟨⟨by decide +kernel, by decide +kernel⟩, List.mem_of_getElem? (i := 80) (by decide +kernel), List.mem_of_getElem? (i := 300) (by decide +kernel), List.mem_of_getElem? (i := 301) (by decide +kernel)⟩
theorem lw_p8 : lw_okq (⟨"FiveCards$Reader", "put", "(I)V"⟩, 7) := ⟨⟨by decide +kernel, by decide +kernel⟩, List.mem_of_getElem? (i := 80) (by decide +kernel), List.mem_of_getElem? (i := 304) (by decide +kernel), List.mem_of_getElem? (i := 305) (by decide +kernel)⟩
theorem lw_p9 : lw_okq (⟨"FiveCards$Reader", "denial", "(I)V"⟩, 7) := ⟨⟨by decide +kernel, by decide +kernel⟩, List.mem_of_getElem? (i := 80) (by decide +kernel), List.mem_of_getElem? (i := 311) (by decide +kernel), List.mem_of_getElem? (i := 312) (by decide +kernel)⟩
theorem lw_p10 : lw_okq (⟨"java/util/ArrayList", "add", "(Ljava/lang/Object;[Ljava/lang/Object;I)V"⟩, 3) := ⟨⟨by decide +kernel, by decide +kernel⟩, List.mem_of_getElem? (i := 35) (by decide +kernel), List.mem_of_getElem? (i := 361) (by decide +kernel), List.mem_of_getElem? (i := 362) (by decide +kernel)⟩
theorem lw_p11 : lw_okq (⟨"java/util/ArrayList", "grow", "()[Ljava/lang/Object;"⟩, 3) := ⟨⟨by decide +kernel, by decide +kernel⟩, List.mem_of_getElem? (i := 35) (by decide +kernel), List.mem_of_getElem? (i := 365) (by decide +kernel), List.mem_of_getElem? (i := 366) (by decide +kernel)⟩
theorem lw_p12 : lw_okq (⟨"java/util/ArrayList", "grow", "(I)[Ljava/lang/Object;"⟩, 3) := ⟨⟨by decide +kernel, by decide +kernel⟩, List.mem_of_getElem? (i := 35) (by decide +kernel), List.mem_of_getElem? (i := 369) (by decide +kernel), List.mem_of_getElem? (i := 370) (by decide +kernel)⟩
theorem lw_p13 : lw_okq (⟨"FiveCards", "isPlace", "(II)Z"⟩, 14) := ⟨⟨by decide +kernel, by decide +kernel⟩, List.mem_of_getElem? (i := 27) (by decide +kernel), List.mem_of_getElem? (i := 563) (by decide +kernel), List.mem_of_getElem? (i := 564) (by decide +kernel)⟩
theorem lw_p14 : lw_okq (⟨"FiveCards$Run", "hitsAmong", "([I)I"⟩, 14) := ⟨⟨by decide +kernel, by decide +kernel⟩, List.mem_of_getElem? (i := 488) (by decide +kernel), List.mem_of_getElem? (i := 610) (by decide +kernel), List.mem_of_getElem? (i := 611) (by decide +kernel)⟩
theorem lw_p15 : lw_okq (⟨"FiveCards$Run", "mostLeft", "()I"⟩, 14) := ⟨⟨by decide +kernel, by decide +kernel⟩, List.mem_of_getElem? (i := 488) (by decide +kernel), List.mem_of_getElem? (i := 627) (by decide +kernel), List.mem_of_getElem? (i := 628) (by decide +kernel)⟩
def lw_privs_1 : List (MethodName × Nat) := [(⟨"FiveCards", "readTape", "()I"⟩, 14), (⟨"FiveCards$Tokens", "add", "(III)V"⟩, 4), (⟨"FiveCards$Reader", "expect", "(I)V"⟩, 7), (⟨"FiveCards$Reader", "step", "()V"⟩, 7), (⟨"FiveCards$Reader", "refuse", "()V"⟩, 7), (⟨"FiveCards$Reader", "chain", "(II)V"⟩, 7), (⟨"FiveCards$Reader", "part", "(II)V"⟩, 7), (⟨"FiveCards$Reader", "one", "(I)V"⟩, 7), (⟨"FiveCards$Reader", "put", "(I)V"⟩, 7), (⟨"FiveCards$Reader", "denial", "(I)V"⟩, 7), (⟨"java/util/ArrayList", "add", "(Ljava/lang/Object;[Ljava/lang/Object;I)V"⟩, 3), (⟨"java/util/ArrayList", "grow", "()[Ljava/lang/Object;"⟩, 3), (⟨"java/util/ArrayList", "grow", "(I)[Ljava/lang/Object;"⟩, 3), (⟨"FiveCards", "isPlace", "(II)Z"⟩, 14), (⟨"FiveCards$Run", "hitsAmong", "([I)I"⟩, 14), (⟨"FiveCards$Run", "mostLeft", "()I"⟩, 14)]
theorem lw_r1 : ∀ q ∈ lw_privs_1, lw_okq q := List.forall_mem_cons.mpr ⟨lw_p0, List.forall_mem_cons.mpr ⟨lw_p1, List.forall_mem_cons.mpr ⟨lw_p2, List.forall_mem_cons.mpr ⟨lw_p3, List.forall_mem_cons.mpr ⟨lw_p4, List.forall_mem_cons.mpr ⟨lw_p5, List.forall_mem_cons.mpr ⟨lw_p6, List.forall_mem_cons.mpr ⟨lw_p7, List.forall_mem_cons.mpr ⟨lw_p8, List.forall_mem_cons.mpr ⟨lw_p9, List.forall_mem_cons.mpr ⟨lw_p10, List.forall_mem_cons.mpr ⟨lw_p11, List.forall_mem_cons.mpr ⟨lw_p12, List.forall_mem_cons.mpr ⟨lw_p13, List.forall_mem_cons.mpr ⟨lw_p14, List.forall_mem_cons.mpr ⟨lw_p15, fun _ h => absurd h List.not_mem_nil⟩⟩⟩⟩⟩⟩⟩⟩⟩⟩⟩⟩⟩⟩⟩⟩
theorem lw_p16 : lw_okq (⟨"FiveCards", "bound", "(LFiveCards$Run;)I"⟩, 14) := ⟨⟨by decide +kernel, by decide +kernel⟩, List.mem_of_getElem? (i := 27) (by decide +kernel), List.mem_of_getElem? (i := 635) (by decide +kernel), List.mem_of_getElem? (i := 636) (by decide +kernel)⟩
theorem lw_p17 : lw_okq (⟨"FiveCards$Leak", "openHits", "(LFiveCards$Run;)I"⟩, 5) := ⟨⟨by decide +kernel, by decide +kernel⟩, List.mem_of_getElem? (i := 646) (by decide +kernel), List.mem_of_getElem? (i := 644) (by decide +kernel), List.mem_of_getElem? (i := 645) (by decide +kernel)⟩
theorem lw_p18 : lw_okq (⟨"FiveCards", "ruled", "(II)I"⟩, 14) := ⟨⟨by decide +kernel, by decide +kernel⟩, List.mem_of_getElem? (i := 27) (by decide +kernel), List.mem_of_getElem? (i := 652) (by decide +kernel), List.mem_of_getElem? (i := 653) (by decide +kernel)⟩
theorem lw_p19 : lw_okq (⟨"FiveCards", "runsTill", "(I)I"⟩, 14) := ⟨⟨by decide +kernel, by decide +kernel⟩, List.mem_of_getElem? (i := 27) (by decide +kernel), List.mem_of_getElem? (i := 656) (by decide +kernel), List.mem_of_getElem? (i := 657) (by decide +kernel)⟩
theorem lw_p20 : lw_okq (⟨"FiveCards", "hitsTill", "(I)I"⟩, 14) := ⟨⟨by decide +kernel, by decide +kernel⟩, List.mem_of_getElem? (i := 27) (by decide +kernel), List.mem_of_getElem? (i := 660) (by decide +kernel), List.mem_of_getElem? (i := 661) (by decide +kernel)⟩
theorem lw_p21 : lw_okq (⟨"FiveCards$Odds", "addSign", "(III)V"⟩, 1) := ⟨⟨by decide +kernel, by decide +kernel⟩, List.mem_of_getElem? (i := 131) (by decide +kernel), List.mem_of_getElem? (i := 691) (by decide +kernel), List.mem_of_getElem? (i := 692) (by decide +kernel)⟩
theorem lw_p22 : lw_okq (⟨"FiveCards", "kindsOfLeaks", "(I)I"⟩, 14) := ⟨⟨by decide +kernel, by decide +kernel⟩, List.mem_of_getElem? (i := 27) (by decide +kernel), List.mem_of_getElem? (i := 777) (by decide +kernel), List.mem_of_getElem? (i := 778) (by decide +kernel)⟩
theorem lw_p23 : lw_okq (⟨"FiveCards", "kindsShutBy", "(I)I"⟩, 14) := ⟨⟨by decide +kernel, by decide +kernel⟩, List.mem_of_getElem? (i := 27) (by decide +kernel), List.mem_of_getElem? (i := 781) (by decide +kernel), List.mem_of_getElem? (i := 782) (by decide +kernel)⟩
theorem lw_p24 : lw_okq (⟨"FiveCards", "hoursOf", "(I)I"⟩, 14) := ⟨⟨by decide +kernel, by decide +kernel⟩, List.mem_of_getElem? (i := 27) (by decide +kernel), List.mem_of_getElem? (i := 785) (by decide +kernel), List.mem_of_getElem? (i := 786) (by decide +kernel)⟩
theorem lw_p25 : lw_okq (⟨"FiveCards", "hitsInDays", "(III)I"⟩, 14) := ⟨⟨by decide +kernel, by decide +kernel⟩, List.mem_of_getElem? (i := 27) (by decide +kernel), List.mem_of_getElem? (i := 843) (by decide +kernel), List.mem_of_getElem? (i := 844) (by decide +kernel)⟩
theorem lw_p26 : lw_okq (⟨"FiveCards", "runsInDays", "(III)I"⟩, 14) := ⟨⟨by decide +kernel, by decide +kernel⟩, List.mem_of_getElem? (i := 27) (by decide +kernel), List.mem_of_getElem? (i := 851) (by decide +kernel), List.mem_of_getElem? (i := 852) (by decide +kernel)⟩
theorem lw_p27 : lw_okq (⟨"FiveCards", "hitsOfAll", "()I"⟩, 14) := ⟨⟨by decide +kernel, by decide +kernel⟩, List.mem_of_getElem? (i := 27) (by decide +kernel), List.mem_of_getElem? (i := 888) (by decide +kernel), List.mem_of_getElem? (i := 889) (by decide +kernel)⟩
theorem lw_p28 : lw_okq (⟨"FiveCardsModel", "spell", "(IJ)V"⟩, 65) := ⟨⟨by decide +kernel, by decide +kernel⟩, List.mem_of_getElem? (i := 935) (by decide +kernel), List.mem_of_getElem? (i := 942) (by decide +kernel), List.mem_of_getElem? (i := 943) (by decide +kernel)⟩
theorem lw_p29 : lw_okq (⟨"FiveCardsModel", "isRun", "(I)Z"⟩, 65) := ⟨⟨by decide +kernel, by decide +kernel⟩, List.mem_of_getElem? (i := 935) (by decide +kernel), List.mem_of_getElem? (i := 1166) (by decide +kernel), List.mem_of_getElem? (i := 1167) (by decide +kernel)⟩
theorem lw_p30 : lw_okq (⟨"FiveCardsModel", "sizeOf", "(I)I"⟩, 65) := ⟨⟨by decide +kernel, by decide +kernel⟩, List.mem_of_getElem? (i := 935) (by decide +kernel), List.mem_of_getElem? (i := 1170) (by decide +kernel), List.mem_of_getElem? (i := 1171) (by decide +kernel)⟩
theorem lw_p31 : lw_okq (⟨"FiveCardsModel", "isHit", "(II)Z"⟩, 65) := ⟨⟨by decide +kernel, by decide +kernel⟩, List.mem_of_getElem? (i := 935) (by decide +kernel), List.mem_of_getElem? (i := 1190) (by decide +kernel), List.mem_of_getElem? (i := 1191) (by decide +kernel)⟩
def lw_privs_2 : List (MethodName × Nat) := [(⟨"FiveCards", "bound", "(LFiveCards$Run;)I"⟩, 14), (⟨"FiveCards$Leak", "openHits", "(LFiveCards$Run;)I"⟩, 5), (⟨"FiveCards", "ruled", "(II)I"⟩, 14), (⟨"FiveCards", "runsTill", "(I)I"⟩, 14), (⟨"FiveCards", "hitsTill", "(I)I"⟩, 14), (⟨"FiveCards$Odds", "addSign", "(III)V"⟩, 1), (⟨"FiveCards", "kindsOfLeaks", "(I)I"⟩, 14), (⟨"FiveCards", "kindsShutBy", "(I)I"⟩, 14), (⟨"FiveCards", "hoursOf", "(I)I"⟩, 14), (⟨"FiveCards", "hitsInDays", "(III)I"⟩, 14), (⟨"FiveCards", "runsInDays", "(III)I"⟩, 14), (⟨"FiveCards", "hitsOfAll", "()I"⟩, 14), (⟨"FiveCardsModel", "spell", "(IJ)V"⟩, 65), (⟨"FiveCardsModel", "isRun", "(I)Z"⟩, 65), (⟨"FiveCardsModel", "sizeOf", "(I)I"⟩, 65), (⟨"FiveCardsModel", "isHit", "(II)Z"⟩, 65)]
theorem lw_r2 : ∀ q ∈ lw_privs_2, lw_okq q := List.forall_mem_cons.mpr ⟨lw_p16, List.forall_mem_cons.mpr ⟨lw_p17, List.forall_mem_cons.mpr ⟨lw_p18, List.forall_mem_cons.mpr ⟨lw_p19, List.forall_mem_cons.mpr ⟨lw_p20, List.forall_mem_cons.mpr ⟨lw_p21, List.forall_mem_cons.mpr ⟨lw_p22, List.forall_mem_cons.mpr ⟨lw_p23, List.forall_mem_cons.mpr ⟨lw_p24, List.forall_mem_cons.mpr ⟨lw_p25, List.forall_mem_cons.mpr ⟨lw_p26, List.forall_mem_cons.mpr ⟨lw_p27, List.forall_mem_cons.mpr ⟨lw_p28, List.forall_mem_cons.mpr ⟨lw_p29, List.forall_mem_cons.mpr ⟨lw_p30, List.forall_mem_cons.mpr ⟨lw_p31, fun _ h => absurd h List.not_mem_nil⟩⟩⟩⟩⟩⟩⟩⟩⟩⟩⟩⟩⟩⟩⟩⟩
theorem lw_p32 : lw_okq (⟨"FiveCardsModel", "mixes", "(II)V"⟩, 65) := ⟨⟨by decide +kernel, by decide +kernel⟩, List.mem_of_getElem? (i := 935) (by decide +kernel), List.mem_of_getElem? (i := 1202) (by decide +kernel), List.mem_of_getElem? (i := 1203) (by decide +kernel)⟩
theorem lw_p33 : lw_okq (⟨"FiveCardsModel", "hitsOf", "(I)I"⟩, 65) := ⟨⟨by decide +kernel, by decide +kernel⟩, List.mem_of_getElem? (i := 935) (by decide +kernel), List.mem_of_getElem? (i := 1208) (by decide +kernel), List.mem_of_getElem? (i := 1209) (by decide +kernel)⟩
theorem lw_p34 : lw_okq (⟨"FiveCardsModel", "nextOf", "(I)I"⟩, 65) := ⟨⟨by decide +kernel, by decide +kernel⟩, List.mem_of_getElem? (i := 935) (by decide +kernel), List.mem_of_getElem? (i := 1217) (by decide +kernel), List.mem_of_getElem? (i := 1218) (by decide +kernel)⟩
theorem lw_p35 : lw_okq (⟨"FiveCardsModel", "byLeft", "(I)I"⟩, 65) := ⟨⟨by decide +kernel, by decide +kernel⟩, List.mem_of_getElem? (i := 935) (by decide +kernel), List.mem_of_getElem? (i := 1221) (by decide +kernel), List.mem_of_getElem? (i := 1222) (by decide +kernel)⟩
theorem lw_p36 : lw_okq (⟨"FiveCardsModel", "alikeOf", "(I)I"⟩, 65) := ⟨⟨by decide +kernel, by decide +kernel⟩, List.mem_of_getElem? (i := 935) (by decide +kernel), List.mem_of_getElem? (i := 1225) (by decide +kernel), List.mem_of_getElem? (i := 1226) (by decide +kernel)⟩
theorem lw_p37 : lw_okq (⟨"FiveCardsModel", "boundOf", "(I)I"⟩, 65) := ⟨⟨by decide +kernel, by decide +kernel⟩, List.mem_of_getElem? (i := 935) (by decide +kernel), List.mem_of_getElem? (i := 1229) (by decide +kernel), List.mem_of_getElem? (i := 1230) (by decide +kernel)⟩
theorem lw_p38 : lw_okq (⟨"FiveCardsModel", "givesOf", "(II)I"⟩, 65) := ⟨⟨by decide +kernel, by decide +kernel⟩, List.mem_of_getElem? (i := 935) (by decide +kernel), List.mem_of_getElem? (i := 1233) (by decide +kernel), List.mem_of_getElem? (i := 1234) (by decide +kernel)⟩
theorem lw_p39 : lw_okq (⟨"FiveCardsModel", "saysOf", "(II)I"⟩, 65) := ⟨⟨by decide +kernel, by decide +kernel⟩, List.mem_of_getElem? (i := 935) (by decide +kernel), List.mem_of_getElem? (i := 1237) (by decide +kernel), List.mem_of_getElem? (i := 1238) (by decide +kernel)⟩
theorem lw_p40 : lw_okq (⟨"FiveCardsModel", "read", "(II)I"⟩, 65) := ⟨⟨by decide +kernel, by decide +kernel⟩, List.mem_of_getElem? (i := 935) (by decide +kernel), List.mem_of_getElem? (i := 1241) (by decide +kernel), List.mem_of_getElem? (i := 1242) (by decide +kernel)⟩
theorem lw_p41 : lw_okq (⟨"FiveCardsModel", "next", "()V"⟩, 65) := ⟨⟨by decide +kernel, by decide +kernel⟩, List.mem_of_getElem? (i := 935) (by decide +kernel), List.mem_of_getElem? (i := 1245) (by decide +kernel), List.mem_of_getElem? (i := 1246) (by decide +kernel)⟩
theorem lw_p42 : lw_okq (⟨"FiveCardsModel", "byteAt", "(I)I"⟩, 65) := ⟨⟨by decide +kernel, by decide +kernel⟩, List.mem_of_getElem? (i := 935) (by decide +kernel), List.mem_of_getElem? (i := 1249) (by decide +kernel), List.mem_of_getElem? (i := 1250) (by decide +kernel)⟩
theorem lw_p43 : lw_okq (⟨"FiveCardsModel", "part", "(J)I"⟩, 65) := ⟨⟨by decide +kernel, by decide +kernel⟩, List.mem_of_getElem? (i := 935) (by decide +kernel), List.mem_of_getElem? (i := 1262) (by decide +kernel), List.mem_of_getElem? (i := 1263) (by decide +kernel)⟩
theorem lw_p44 : lw_okq (⟨"FiveCardsModel", "isWord", "(J)Z"⟩, 65) := ⟨⟨by decide +kernel, by decide +kernel⟩, List.mem_of_getElem? (i := 935) (by decide +kernel), List.mem_of_getElem? (i := 1266) (by decide +kernel), List.mem_of_getElem? (i := 1267) (by decide +kernel)⟩
theorem lw_p45 : lw_okq (⟨"FiveCardsModel", "fail", "()V"⟩, 65) := ⟨⟨by decide +kernel, by decide +kernel⟩, List.mem_of_getElem? (i := 935) (by decide +kernel), List.mem_of_getElem? (i := 1270) (by decide +kernel), List.mem_of_getElem? (i := 1271) (by decide +kernel)⟩
theorem lw_p46 : lw_okq (⟨"FiveCardsModel", "either", "()I"⟩, 65) := ⟨⟨by decide +kernel, by decide +kernel⟩, List.mem_of_getElem? (i := 935) (by decide +kernel), List.mem_of_getElem? (i := 1274) (by decide +kernel), List.mem_of_getElem? (i := 1275) (by decide +kernel)⟩
theorem lw_p47 : lw_okq (⟨"FiveCardsModel", "both", "()I"⟩, 65) := ⟨⟨by decide +kernel, by decide +kernel⟩, List.mem_of_getElem? (i := 935) (by decide +kernel), List.mem_of_getElem? (i := 1278) (by decide +kernel), List.mem_of_getElem? (i := 1279) (by decide +kernel)⟩
def lw_privs_3 : List (MethodName × Nat) := [(⟨"FiveCardsModel", "mixes", "(II)V"⟩, 65), (⟨"FiveCardsModel", "hitsOf", "(I)I"⟩, 65), (⟨"FiveCardsModel", "nextOf", "(I)I"⟩, 65), (⟨"FiveCardsModel", "byLeft", "(I)I"⟩, 65), (⟨"FiveCardsModel", "alikeOf", "(I)I"⟩, 65), (⟨"FiveCardsModel", "boundOf", "(I)I"⟩, 65), (⟨"FiveCardsModel", "givesOf", "(II)I"⟩, 65), (⟨"FiveCardsModel", "saysOf", "(II)I"⟩, 65), (⟨"FiveCardsModel", "read", "(II)I"⟩, 65), (⟨"FiveCardsModel", "next", "()V"⟩, 65), (⟨"FiveCardsModel", "byteAt", "(I)I"⟩, 65), (⟨"FiveCardsModel", "part", "(J)I"⟩, 65), (⟨"FiveCardsModel", "isWord", "(J)Z"⟩, 65), (⟨"FiveCardsModel", "fail", "()V"⟩, 65), (⟨"FiveCardsModel", "either", "()I"⟩, 65), (⟨"FiveCardsModel", "both", "()I"⟩, 65)]
theorem lw_r3 : ∀ q ∈ lw_privs_3, lw_okq q := List.forall_mem_cons.mpr ⟨lw_p32, List.forall_mem_cons.mpr ⟨lw_p33, List.forall_mem_cons.mpr ⟨lw_p34, List.forall_mem_cons.mpr ⟨lw_p35, List.forall_mem_cons.mpr ⟨lw_p36, List.forall_mem_cons.mpr ⟨lw_p37, List.forall_mem_cons.mpr ⟨lw_p38, List.forall_mem_cons.mpr ⟨lw_p39, List.forall_mem_cons.mpr ⟨lw_p40, List.forall_mem_cons.mpr ⟨lw_p41, List.forall_mem_cons.mpr ⟨lw_p42, List.forall_mem_cons.mpr ⟨lw_p43, List.forall_mem_cons.mpr ⟨lw_p44, List.forall_mem_cons.mpr ⟨lw_p45, List.forall_mem_cons.mpr ⟨lw_p46, List.forall_mem_cons.mpr ⟨lw_p47, fun _ h => absurd h List.not_mem_nil⟩⟩⟩⟩⟩⟩⟩⟩⟩⟩⟩⟩⟩⟩⟩⟩
theorem lw_p48 : lw_okq (⟨"FiveCardsModel", "not", "()I"⟩, 65) := ⟨⟨by decide +kernel, by decide +kernel⟩, List.mem_of_getElem? (i := 935) (by decide +kernel), List.mem_of_getElem? (i := 1282) (by decide +kernel), List.mem_of_getElem? (i := 1283) (by decide +kernel)⟩
theorem lw_p49 : lw_okq (⟨"FiveCardsModel", "opens", "()Z"⟩, 65) := ⟨⟨by decide +kernel, by decide +kernel⟩, List.mem_of_getElem? (i := 935) (by decide +kernel), List.mem_of_getElem? (i := 1287) (by decide +kernel), List.mem_of_getElem? (i := 1288) (by decide +kernel)⟩
theorem lw_p50 : lw_okq (⟨"FiveCardsModel", "added", "()I"⟩, 65) := ⟨⟨by decide +kernel, by decide +kernel⟩, List.mem_of_getElem? (i := 935) (by decide +kernel), List.mem_of_getElem? (i := 1291) (by decide +kernel), List.mem_of_getElem? (i := 1292) (by decide +kernel)⟩
theorem lw_p51 : lw_okq (⟨"FiveCardsModel", "term", "()I"⟩, 65) := ⟨⟨by decide +kernel, by decide +kernel⟩, List.mem_of_getElem? (i := 935) (by decide +kernel), List.mem_of_getElem? (i := 1295) (by decide +kernel), List.mem_of_getElem? (i := 1296) (by decide +kernel)⟩
theorem lw_p52 : lw_okq (⟨"FiveCardsModel", "one", "()I"⟩, 65) := ⟨⟨by decide +kernel, by decide +kernel⟩, List.mem_of_getElem? (i := 935) (by decide +kernel), List.mem_of_getElem? (i := 1299) (by decide +kernel), List.mem_of_getElem? (i := 1300) (by decide +kernel)⟩
theorem lw_p53 : lw_okq (⟨"FiveCardsModel", "isSign", "(I)Z"⟩, 65) := ⟨⟨by decide +kernel, by decide +kernel⟩, List.mem_of_getElem? (i := 935) (by decide +kernel), List.mem_of_getElem? (i := 1303) (by decide +kernel), List.mem_of_getElem? (i := 1304) (by decide +kernel)⟩
theorem lw_p54 : lw_okq (⟨"FiveCardsModel", "name", "()I"⟩, 65) := ⟨⟨by decide +kernel, by decide +kernel⟩, List.mem_of_getElem? (i := 935) (by decide +kernel), List.mem_of_getElem? (i := 1307) (by decide +kernel), List.mem_of_getElem? (i := 1308) (by decide +kernel)⟩
theorem lw_p55 : lw_okq (⟨"FiveCardsModel", "counts1", "(I)V"⟩, 65) := ⟨⟨by decide +kernel, by decide +kernel⟩, List.mem_of_getElem? (i := 935) (by decide +kernel), List.mem_of_getElem? (i := 1329) (by decide +kernel), List.mem_of_getElem? (i := 1330) (by decide +kernel)⟩
theorem lw_p56 : lw_okq (⟨"FiveCardsModel", "isLeak", "(I)Z"⟩, 65) := ⟨⟨by decide +kernel, by decide +kernel⟩, List.mem_of_getElem? (i := 935) (by decide +kernel), List.mem_of_getElem? (i := 1342) (by decide +kernel), List.mem_of_getElem? (i := 1343) (by decide +kernel)⟩
theorem lw_p57 : lw_okq (⟨"FiveCardsModel", "countsOf", "(I)I"⟩, 65) := ⟨⟨by decide +kernel, by decide +kernel⟩, List.mem_of_getElem? (i := 935) (by decide +kernel), List.mem_of_getElem? (i := 1354) (by decide +kernel), List.mem_of_getElem? (i := 1355) (by decide +kernel)⟩
theorem lw_p58 : lw_okq (⟨"FiveCardsModel", "kindsBy", "(I)I"⟩, 65) := ⟨⟨by decide +kernel, by decide +kernel⟩, List.mem_of_getElem? (i := 935) (by decide +kernel), List.mem_of_getElem? (i := 1368) (by decide +kernel), List.mem_of_getElem? (i := 1369) (by decide +kernel)⟩
theorem lw_p59 : lw_okq (⟨"FiveCardsModel", "zero", "()V"⟩, 65) := ⟨⟨by decide +kernel, by decide +kernel⟩, List.mem_of_getElem? (i := 935) (by decide +kernel), List.mem_of_getElem? (i := 1396) (by decide +kernel), List.mem_of_getElem? (i := 1397) (by decide +kernel)⟩
theorem lw_p60 : lw_okq (⟨"FiveCardsModel", "expected", "(I)I"⟩, 65) := ⟨⟨by decide +kernel, by decide +kernel⟩, List.mem_of_getElem? (i := 935) (by decide +kernel), List.mem_of_getElem? (i := 1400) (by decide +kernel), List.mem_of_getElem? (i := 1401) (by decide +kernel)⟩
theorem lw_p61 : lw_okq (⟨"FiveCardsModel", "adds", "(JJ)V"⟩, 65) := ⟨⟨by decide +kernel, by decide +kernel⟩, List.mem_of_getElem? (i := 935) (by decide +kernel), List.mem_of_getElem? (i := 1404) (by decide +kernel), List.mem_of_getElem? (i := 1405) (by decide +kernel)⟩
theorem lw_p62 : lw_okq (⟨"FiveCardsModel", "ran", "(III)V"⟩, 65) := ⟨⟨by decide +kernel, by decide +kernel⟩, List.mem_of_getElem? (i := 935) (by decide +kernel), List.mem_of_getElem? (i := 1416) (by decide +kernel), List.mem_of_getElem? (i := 1417) (by decide +kernel)⟩
def lw_privs_4 : List (MethodName × Nat) := [(⟨"FiveCardsModel", "not", "()I"⟩, 65), (⟨"FiveCardsModel", "opens", "()Z"⟩, 65), (⟨"FiveCardsModel", "added", "()I"⟩, 65), (⟨"FiveCardsModel", "term", "()I"⟩, 65), (⟨"FiveCardsModel", "one", "()I"⟩, 65), (⟨"FiveCardsModel", "isSign", "(I)Z"⟩, 65), (⟨"FiveCardsModel", "name", "()I"⟩, 65), (⟨"FiveCardsModel", "counts1", "(I)V"⟩, 65), (⟨"FiveCardsModel", "isLeak", "(I)Z"⟩, 65), (⟨"FiveCardsModel", "countsOf", "(I)I"⟩, 65), (⟨"FiveCardsModel", "kindsBy", "(I)I"⟩, 65), (⟨"FiveCardsModel", "zero", "()V"⟩, 65), (⟨"FiveCardsModel", "expected", "(I)I"⟩, 65), (⟨"FiveCardsModel", "adds", "(JJ)V"⟩, 65), (⟨"FiveCardsModel", "ran", "(III)V"⟩, 65)]
theorem lw_r4 : ∀ q ∈ lw_privs_4, lw_okq q := List.forall_mem_cons.mpr ⟨lw_p48, List.forall_mem_cons.mpr ⟨lw_p49, List.forall_mem_cons.mpr ⟨lw_p50, List.forall_mem_cons.mpr ⟨lw_p51, List.forall_mem_cons.mpr ⟨lw_p52, List.forall_mem_cons.mpr ⟨lw_p53, List.forall_mem_cons.mpr ⟨lw_p54, List.forall_mem_cons.mpr ⟨lw_p55, List.forall_mem_cons.mpr ⟨lw_p56, List.forall_mem_cons.mpr ⟨lw_p57, List.forall_mem_cons.mpr ⟨lw_p58, List.forall_mem_cons.mpr ⟨lw_p59, List.forall_mem_cons.mpr ⟨lw_p60, List.forall_mem_cons.mpr ⟨lw_p61, List.forall_mem_cons.mpr ⟨lw_p62, fun _ h => absurd h List.not_mem_nil⟩⟩⟩⟩⟩⟩⟩⟩⟩⟩⟩⟩⟩⟩⟩
def lw_privs : List (MethodName × Nat) := lw_privs_1 ++ (lw_privs_2 ++ (lw_privs_3 ++ (lw_privs_4)))
def lw_tbl : List Cond := k2_sels lw_privs ++ tables_1
theorem lw_privs_ok : ∀ q ∈ lw_privs, lw_okq q := by
  show ∀ q ∈ lw_privs_1 ++ (lw_privs_2 ++ (lw_privs_3 ++ (lw_privs_4))), lw_okq q
  exact List.forall_mem_append.mpr ⟨lw_r1, List.forall_mem_append.mpr ⟨lw_r2, List.forall_mem_append.mpr ⟨lw_r3, lw_r4⟩⟩⟩
def RX0 : String := "FiveCards$Fraction"
def TX0 : u_T := fun k => match k with
  | 0 => ("FiveCards$Fraction", "above", "J", false)
  | _ => ("FiveCards$Fraction", "below", "J", false)
def tyX0 : Nat → FieldType := fun k => match k with
  | 0 => .long
  | _ => .long
abbrev wsX00 : List Cond := u_ws RX0 TX0 2
theorem nmX0 : ∀ a, a < 2 → ∀ b, b < 2 → a ≠ b → (TX0 a).2.1 ≠ (TX0 b).2.1 := by decide +kernel
theorem tyX0_ok : ∀ k, k < 2 → parseFieldDescriptor (TX0 k).2.2.1 = some (tyX0 k) := by decide +kernel
abbrev cX0_init : ByteArray := prog_2_method_1_code
def yX0_init : MethodName := ⟨RX0, "<init>", "()V"⟩
abbrev cX0_add : ByteArray := prog_2_method_2_code
def yX0_add : MethodName := ⟨RX0, "add", "(JJ)V"⟩
abbrev cX0_greatestDivisor : ByteArray := prog_2_method_3_code
def yX0_greatestDivisor : MethodName := ⟨RX0, "greatestDivisor", "(JJ)J"⟩
def RX1 : String := "FiveCards$Leak"
def TX1 : u_T := fun k => match k with
  | 0 => ("FiveCards$Leak", "kind", "I", true)
  | 1 => ("FiveCards$Leak", "number", "I", true)
  | 2 => ("FiveCards$Leak", "sign", "I", true)
  | 3 => ("FiveCards$Leak", "isShut", "Z", false)
  | _ => ("FiveCards$Leak", "wasShut", "Z", false)
def tyX1 : Nat → FieldType := fun k => match k with
  | 0 => .int
  | 1 => .int
  | 2 => .int
  | 3 => .boolean
  | _ => .boolean
abbrev wsX10 : List Cond := u_ws RX1 TX1 5
theorem nmX1 : ∀ a, a < 5 → ∀ b, b < 5 → a ≠ b → (TX1 a).2.1 ≠ (TX1 b).2.1 := by decide +kernel
theorem tyX1_ok : ∀ k, k < 5 → parseFieldDescriptor (TX1 k).2.2.1 = some (tyX1 k) := by decide +kernel
abbrev cX1_init : ByteArray := prog_3_method_1_code
def yX1_init : MethodName := ⟨RX1, "<init>", "(III)V"⟩
abbrev cX1_isUnder : ByteArray := prog_3_method_2_code
def yX1_isUnder : MethodName := ⟨RX1, "isUnder", "(I)Z"⟩
abbrev cX1_weight : ByteArray := prog_3_method_3_code
def yX1_weight : MethodName := ⟨RX1, "weight", "()I"⟩
abbrev cX1_mostHits : ByteArray := prog_3_method_4_code
def yX1_mostHits : MethodName := ⟨RX1, "mostHits", "(LFiveCards$Run;)I"⟩
abbrev cX1_openHits : ByteArray := prog_3_method_5_code
def yX1_openHits : MethodName := ⟨RX1, "openHits", "(LFiveCards$Run;)I"⟩
def RX2 : String := "FiveCards$Odds"
def TX2 : u_T := fun k => match k with
  | _ => ("FiveCards$Odds", "chosen", "[J", true)
def tyX2 : Nat → FieldType := fun k => match k with
  | _ => .array .long
abbrev wsX20 : List Cond := u_ws RX2 TX2 1
theorem nmX2 : ∀ a, a < 1 → ∀ b, b < 1 → a ≠ b → (TX2 a).2.1 ≠ (TX2 b).2.1 := by decide +kernel
theorem tyX2_ok : ∀ k, k < 1 → parseFieldDescriptor (TX2 k).2.2.1 = some (tyX2 k) := by decide +kernel
abbrev cX2_init : ByteArray := prog_4_method_1_code
def yX2_init : MethodName := ⟨RX2, "<init>", "()V"⟩
abbrev cX2_work : ByteArray := prog_4_method_2_code
def yX2_work : MethodName := ⟨RX2, "work", "(LFiveCards$Run;)V"⟩
abbrev cX2_addSign : ByteArray := prog_4_method_3_code
def yX2_addSign : MethodName := ⟨RX2, "addSign", "(III)V"⟩
abbrev cX2_allOrders : ByteArray := prog_4_method_4_code
def yX2_allOrders : MethodName := ⟨RX2, "allOrders", "()J"⟩
abbrev cX2_ordersWith : ByteArray := prog_4_method_5_code
def yX2_ordersWith : MethodName := ⟨RX2, "ordersWith", "(I)J"⟩
abbrev cX2_choices : ByteArray := prog_4_method_6_code
def yX2_choices : MethodName := ⟨RX2, "choices", "(II)J"⟩
def RX3 : String := "FiveCards$Pack"
def TX3 : u_T := fun k => match k with
  | 0 => ("FiveCards$Pack", "cardsOf", "[I", true)
  | _ => ("FiveCards$Pack", "cards", "I", true)
def tyX3 : Nat → FieldType := fun k => match k with
  | 0 => .array .int
  | _ => .int
abbrev wsX30 : List Cond := u_ws RX3 TX3 2
theorem nmX3 : ∀ a, a < 2 → ∀ b, b < 2 → a ≠ b → (TX3 a).2.1 ≠ (TX3 b).2.1 := by decide +kernel
theorem tyX3_ok : ∀ k, k < 2 → parseFieldDescriptor (TX3 k).2.2.1 = some (tyX3 k) := by decide +kernel
abbrev cX3_init : ByteArray := prog_5_method_1_code
def yX3_init : MethodName := ⟨RX3, "<init>", "(I)V"⟩
def RX4 : String := "FiveCards$Reader"
def TX4 : u_T := fun k => match k with
  | 0 => ("FiveCards$Reader", "tokens", "LFiveCards$Tokens;", true)
  | 1 => ("FiveCards$Reader", "codes", "[I", true)
  | 2 => ("FiveCards$Reader", "ends", "[I", true)
  | 3 => ("FiveCards$Reader", "length", "I", false)
  | 4 => ("FiveCards$Reader", "at", "I", false)
  | 5 => ("FiveCards$Reader", "token", "I", false)
  | _ => ("FiveCards$Reader", "fault", "I", false)
def tyX4 : Nat → FieldType := fun k => match k with
  | 0 => .object "FiveCards$Tokens"
  | 1 => .array .int
  | 2 => .array .int
  | 3 => .int
  | 4 => .int
  | 5 => .int
  | _ => .int
abbrev wsX40 : List Cond := u_ws RX4 TX4 7
theorem nmX4 : ∀ a, a < 7 → ∀ b, b < 7 → a ≠ b → (TX4 a).2.1 ≠ (TX4 b).2.1 := by decide +kernel
theorem tyX4_ok : ∀ k, k < 7 → parseFieldDescriptor (TX4 k).2.2.1 = some (tyX4 k) := by decide +kernel
abbrev cX4_init : ByteArray := prog_6_method_1_code
def yX4_init : MethodName := ⟨RX4, "<init>", "()V"⟩
abbrev cX4_read : ByteArray := prog_6_method_2_code
def yX4_read : MethodName := ⟨RX4, "read", "(LFiveCards$Tape;)I"⟩
abbrev cX4_textRead : ByteArray := prog_6_method_3_code
def yX4_textRead : MethodName := ⟨RX4, "textRead", "()LFiveCards$Text;"⟩
abbrev cX4_expect : ByteArray := prog_6_method_4_code
def yX4_expect : MethodName := ⟨RX4, "expect", "(I)V"⟩
abbrev cX4_step : ByteArray := prog_6_method_5_code
def yX4_step : MethodName := ⟨RX4, "step", "()V"⟩
abbrev cX4_refuse : ByteArray := prog_6_method_6_code
def yX4_refuse : MethodName := ⟨RX4, "refuse", "()V"⟩
abbrev cX4_put : ByteArray := prog_6_method_7_code
def yX4_put : MethodName := ⟨RX4, "put", "(I)V"⟩
abbrev cX4_chain : ByteArray := prog_6_method_8_code
def yX4_chain : MethodName := ⟨RX4, "chain", "(II)V"⟩
abbrev cX4_part : ByteArray := prog_6_method_9_code
def yX4_part : MethodName := ⟨RX4, "part", "(II)V"⟩
abbrev cX4_denial : ByteArray := prog_6_method_10_code
def yX4_denial : MethodName := ⟨RX4, "denial", "(I)V"⟩
abbrev cX4_one : ByteArray := prog_6_method_11_code
def yX4_one : MethodName := ⟨RX4, "one", "(I)V"⟩
abbrev cX4_levelOf : ByteArray := prog_6_method_12_code
def yX4_levelOf : MethodName := ⟨RX4, "levelOf", "(I)I"⟩
def RX5 : String := "FiveCards$Run"
def TX5 : u_T := fun k => match k with
  | 0 => ("FiveCards$Run", "packNumber", "I", true)
  | 1 => ("FiveCards$Run", "pack", "LFiveCards$Pack;", true)
  | 2 => ("FiveCards$Run", "guesser", "I", true)
  | 3 => ("FiveCards$Run", "day", "I", true)
  | 4 => ("FiveCards$Run", "cards", "[I", true)
  | 5 => ("FiveCards$Run", "guesses", "[I", true)
  | 6 => ("FiveCards$Run", "slips", "I", false)
  | 7 => ("FiveCards$Run", "putIn", "I", false)
  | 8 => ("FiveCards$Run", "spare", "[I", true)
  | 9 => ("FiveCards$Run", "left", "[I", true)
  | 10 => ("FiveCards$Run", "keptCards", "[I", true)
  | 11 => ("FiveCards$Run", "keptGuesses", "[I", true)
  | 12 => ("FiveCards$Run", "keptSlips", "I", false)
  | _ => ("FiveCards$Run", "keptPutIn", "I", false)
def tyX5 : Nat → FieldType := fun k => match k with
  | 0 => .int
  | 1 => .object "FiveCards$Pack"
  | 2 => .int
  | 3 => .int
  | 4 => .array .int
  | 5 => .array .int
  | 6 => .int
  | 7 => .int
  | 8 => .array .int
  | 9 => .array .int
  | 10 => .array .int
  | 11 => .array .int
  | 12 => .int
  | _ => .int
abbrev wsX50 : List Cond := u_ws RX5 TX5 14
theorem nmX5 : ∀ a, a < 14 → ∀ b, b < 14 → a ≠ b → (TX5 a).2.1 ≠ (TX5 b).2.1 := by decide +kernel
theorem tyX5_ok : ∀ k, k < 14 → parseFieldDescriptor (TX5 k).2.2.1 = some (tyX5 k) := by decide +kernel
abbrev cX5_init : ByteArray := prog_7_method_1_code
def yX5_init : MethodName := ⟨RX5, "<init>", "(ILFiveCards$Pack;II)V"⟩
abbrev cX5_isOf : ByteArray := prog_7_method_2_code
def yX5_isOf : MethodName := ⟨RX5, "isOf", "(III)Z"⟩
abbrev cX5_hits : ByteArray := prog_7_method_3_code
def yX5_hits : MethodName := ⟨RX5, "hits", "()I"⟩
abbrev cX5_hitsAmong : ByteArray := prog_7_method_4_code
def yX5_hitsAmong : MethodName := ⟨RX5, "hitsAmong", "([I)I"⟩
abbrev cX5_nextHits : ByteArray := prog_7_method_5_code
def yX5_nextHits : MethodName := ⟨RX5, "nextHits", "()I"⟩
abbrev cX5_alike : ByteArray := prog_7_method_6_code
def yX5_alike : MethodName := ⟨RX5, "alike", "()I"⟩
abbrev cX5_hitsByLeft : ByteArray := prog_7_method_7_code
def yX5_hitsByLeft : MethodName := ⟨RX5, "hitsByLeft", "()I"⟩
abbrev cX5_mostLeft : ByteArray := prog_7_method_8_code
def yX5_mostLeft : MethodName := ⟨RX5, "mostLeft", "()I"⟩
abbrev cX5_guessesOf : ByteArray := prog_7_method_9_code
def yX5_guessesOf : MethodName := ⟨RX5, "guessesOf", "(I)I"⟩
abbrev cX5_expectedAbove : ByteArray := prog_7_method_10_code
def yX5_expectedAbove : MethodName := ⟨RX5, "expectedAbove", "()I"⟩
abbrev cX5_takeGuesses : ByteArray := prog_7_method_11_code
def yX5_takeGuesses : MethodName := ⟨RX5, "takeGuesses", "(LFiveCards$Sheet;I)I"⟩
abbrev cX5_writeAnew : ByteArray := prog_7_method_12_code
def yX5_writeAnew : MethodName := ⟨RX5, "writeAnew", "(II)I"⟩
abbrev cX5_cutAt : ByteArray := prog_7_method_13_code
def yX5_cutAt : MethodName := ⟨RX5, "cutAt", "(I)V"⟩
abbrev cX5_hitsIfShuffled : ByteArray := prog_7_method_14_code
def yX5_hitsIfShuffled : MethodName := ⟨RX5, "hitsIfShuffled", "(I)I"⟩
abbrev cX5_mix : ByteArray := prog_7_method_15_code
def yX5_mix : MethodName := ⟨RX5, "mix", "([II)V"⟩
abbrev cX5_keep : ByteArray := prog_7_method_16_code
def yX5_keep : MethodName := ⟨RX5, "keep", "()V"⟩
abbrev cX5_layBack : ByteArray := prog_7_method_17_code
def yX5_layBack : MethodName := ⟨RX5, "layBack", "()V"⟩
def RX6 : String := "FiveCards$Screen"
def TX6 : u_T := fun k => match k with
  | 0 => ("FiveCards$Screen", "hours", "I", true)
  | _ => ("FiveCards$Screen", "kinds", "I", true)
def tyX6 : Nat → FieldType := fun k => match k with
  | 0 => .int
  | _ => .int
abbrev wsX60 : List Cond := u_ws RX6 TX6 2
theorem nmX6 : ∀ a, a < 2 → ∀ b, b < 2 → a ≠ b → (TX6 a).2.1 ≠ (TX6 b).2.1 := by decide +kernel
theorem tyX6_ok : ∀ k, k < 2 → parseFieldDescriptor (TX6 k).2.2.1 = some (tyX6 k) := by decide +kernel
abbrev cX6_init : ByteArray := prog_8_method_1_code
def yX6_init : MethodName := ⟨RX6, "<init>", "(II)V"⟩
def RX7 : String := "FiveCards$Sheet"
def TX7 : u_T := fun k => match k with
  | 0 => ("FiveCards$Sheet", "items", "[I", true)
  | 1 => ("FiveCards$Sheet", "sort", "I", false)
  | _ => ("FiveCards$Sheet", "size", "I", false)
def tyX7 : Nat → FieldType := fun k => match k with
  | 0 => .array .int
  | 1 => .int
  | _ => .int
abbrev wsX70 : List Cond := u_ws RX7 TX7 3
theorem nmX7 : ∀ a, a < 3 → ∀ b, b < 3 → a ≠ b → (TX7 a).2.1 ≠ (TX7 b).2.1 := by decide +kernel
theorem tyX7_ok : ∀ k, k < 3 → parseFieldDescriptor (TX7 k).2.2.1 = some (tyX7 k) := by decide +kernel
abbrev cX7_init : ByteArray := prog_9_method_1_code
def yX7_init : MethodName := ⟨RX7, "<init>", "()V"⟩
abbrev cX7_isMissing : ByteArray := prog_9_method_2_code
def yX7_isMissing : MethodName := ⟨RX7, "isMissing", "()Z"⟩
abbrev cX7_become : ByteArray := prog_9_method_3_code
def yX7_become : MethodName := ⟨RX7, "become", "(II)V"⟩
abbrev cX7_holds : ByteArray := prog_9_method_4_code
def yX7_holds : MethodName := ⟨RX7, "holds", "(II)Z"⟩
abbrev cX7_write : ByteArray := prog_9_method_5_code
def yX7_write : MethodName := ⟨RX7, "write", "(II)V"⟩
def RX8 : String := "FiveCards$Tape"
def TX8 : u_T := fun k => match k with
  | 0 => ("FiveCards$Tape", "bytes", "[I", true)
  | _ => ("FiveCards$Tape", "size", "I", false)
def tyX8 : Nat → FieldType := fun k => match k with
  | 0 => .array .int
  | _ => .int
abbrev wsX80 : List Cond := u_ws RX8 TX8 2
theorem nmX8 : ∀ a, a < 2 → ∀ b, b < 2 → a ≠ b → (TX8 a).2.1 ≠ (TX8 b).2.1 := by decide +kernel
theorem tyX8_ok : ∀ k, k < 2 → parseFieldDescriptor (TX8 k).2.2.1 = some (tyX8 k) := by decide +kernel
abbrev cX8_init : ByteArray := prog_10_method_1_code
def yX8_init : MethodName := ⟨RX8, "<init>", "()V"⟩
abbrev cX8_add : ByteArray := prog_10_method_2_code
def yX8_add : MethodName := ⟨RX8, "add", "(I)V"⟩
abbrev cX8_endFrom : ByteArray := prog_10_method_3_code
def yX8_endFrom : MethodName := ⟨RX8, "endFrom", "(I)I"⟩
abbrev cX8_numberIn : ByteArray := prog_10_method_4_code
def yX8_numberIn : MethodName := ⟨RX8, "numberIn", "(II)I"⟩
abbrev cX8_stands : ByteArray := prog_10_method_5_code
def yX8_stands : MethodName := ⟨RX8, "stands", "(Ljava/lang/String;II)Z"⟩
abbrev cX8_isBlank : ByteArray := prog_10_method_6_code
def yX8_isBlank : MethodName := ⟨RX8, "isBlank", "(I)Z"⟩
abbrev cX8_isLetter : ByteArray := prog_10_method_7_code
def yX8_isLetter : MethodName := ⟨RX8, "isLetter", "(I)Z"⟩
abbrev cX8_isDigit : ByteArray := prog_10_method_8_code
def yX8_isDigit : MethodName := ⟨RX8, "isDigit", "(I)Z"⟩
def RX9 : String := "FiveCards$Text"
def TX9 : u_T := fun k => match k with
  | 0 => ("FiveCards$Text", "codes", "[I", true)
  | 1 => ("FiveCards$Text", "ends", "[I", true)
  | _ => ("FiveCards$Text", "stack", "[I", true)
def tyX9 : Nat → FieldType := fun k => match k with
  | 0 => .array .int
  | 1 => .array .int
  | _ => .array .int
abbrev wsX90 : List Cond := u_ws RX9 TX9 3
theorem nmX9 : ∀ a, a < 3 → ∀ b, b < 3 → a ≠ b → (TX9 a).2.1 ≠ (TX9 b).2.1 := by decide +kernel
theorem tyX9_ok : ∀ k, k < 3 → parseFieldDescriptor (TX9 k).2.2.1 = some (tyX9 k) := by decide +kernel
abbrev cX9_init : ByteArray := prog_11_method_1_code
def yX9_init : MethodName := ⟨RX9, "<init>", "([I[I)V"⟩
abbrev cX9_value : ByteArray := prog_11_method_2_code
def yX9_value : MethodName := ⟨RX9, "value", "(I[I)I"⟩
abbrev cX9_joined : ByteArray := prog_11_method_3_code
def yX9_joined : MethodName := ⟨RX9, "joined", "(III)I"⟩
abbrev cX9_bit : ByteArray := prog_11_method_4_code
def yX9_bit : MethodName := ⟨RX9, "bit", "(Z)I"⟩
def RX10 : String := "FiveCards$Tokens"
def TX10 : u_T := fun k => match k with
  | 0 => ("FiveCards$Tokens", "kinds", "[I", true)
  | 1 => ("FiveCards$Tokens", "places", "[I", true)
  | 2 => ("FiveCards$Tokens", "numbers", "[I", true)
  | _ => ("FiveCards$Tokens", "size", "I", false)
def tyX10 : Nat → FieldType := fun k => match k with
  | 0 => .array .int
  | 1 => .array .int
  | 2 => .array .int
  | _ => .int
abbrev wsX100 : List Cond := u_ws RX10 TX10 4
theorem nmX10 : ∀ a, a < 4 → ∀ b, b < 4 → a ≠ b → (TX10 a).2.1 ≠ (TX10 b).2.1 := by decide +kernel
theorem tyX10_ok : ∀ k, k < 4 → parseFieldDescriptor (TX10 k).2.2.1 = some (tyX10 k) := by decide +kernel
abbrev cX10_init : ByteArray := prog_12_method_1_code
def yX10_init : MethodName := ⟨RX10, "<init>", "()V"⟩
abbrev cX10_cutTape : ByteArray := prog_12_method_2_code
def yX10_cutTape : MethodName := ⟨RX10, "cutTape", "(LFiveCards$Tape;)V"⟩
abbrev cX10_add : ByteArray := prog_12_method_3_code
def yX10_add : MethodName := ⟨RX10, "add", "(III)V"⟩
abbrev cX10_kindOf : ByteArray := prog_12_method_4_code
def yX10_kindOf : MethodName := ⟨RX10, "kindOf", "(LFiveCards$Tape;II)I"⟩
abbrev cX10_wordIn : ByteArray := prog_12_method_5_code
def yX10_wordIn : MethodName := ⟨RX10, "wordIn", "(LFiveCards$Tape;II)I"⟩
abbrev cX10_wordOf : ByteArray := prog_12_method_6_code
def yX10_wordOf : MethodName := ⟨RX10, "wordOf", "(I)Ljava/lang/String;"⟩
def RX11 : String := "FiveCards"
def TX11 : u_T := fun k => match k with
  | 0 => ("FiveCards", "packs", "Ljava/util/ArrayList;", true)
  | 1 => ("FiveCards", "runs", "Ljava/util/ArrayList;", true)
  | 2 => ("FiveCards", "leaks", "Ljava/util/ArrayList;", true)
  | 3 => ("FiveCards", "screens", "Ljava/util/ArrayList;", true)
  | 4 => ("FiveCards", "texts", "Ljava/util/ArrayList;", true)
  | 5 => ("FiveCards", "sheets", "[LFiveCards$Sheet;", true)
  | 6 => ("FiveCards", "tape", "LFiveCards$Tape;", true)
  | 7 => ("FiveCards", "reader", "LFiveCards$Reader;", true)
  | 8 => ("FiveCards", "odds", "LFiveCards$Odds;", true)
  | 9 => ("FiveCards", "names", "[I", true)
  | 10 => ("FiveCards", "rule", "I", false)
  | 11 => ("FiveCards", "imageRuns", "I", false)
  | 12 => ("FiveCards", "imageLeaks", "I", false)
  | _ => ("FiveCards", "imageRule", "I", false)
def tyX11 : Nat → FieldType := fun k => match k with
  | 0 => .object "java/util/ArrayList"
  | 1 => .object "java/util/ArrayList"
  | 2 => .object "java/util/ArrayList"
  | 3 => .object "java/util/ArrayList"
  | 4 => .object "java/util/ArrayList"
  | 5 => .array (.object "FiveCards$Sheet")
  | 6 => .object "FiveCards$Tape"
  | 7 => .object "FiveCards$Reader"
  | 8 => .object "FiveCards$Odds"
  | 9 => .array .int
  | 10 => .int
  | 11 => .int
  | 12 => .int
  | _ => .int
abbrev wsX110 : List Cond := u_ws RX11 TX11 14
theorem nmX11 : ∀ a, a < 14 → ∀ b, b < 14 → a ≠ b → (TX11 a).2.1 ≠ (TX11 b).2.1 := by decide +kernel
theorem tyX11_ok : ∀ k, k < 14 → parseFieldDescriptor (TX11 k).2.2.1 = some (tyX11 k) := by decide +kernel
abbrev cX11_init : ByteArray := prog_1_method_1_code
def yX11_init : MethodName := ⟨RX11, "<init>", "()V"⟩
abbrev cX11_pack : ByteArray := prog_1_method_2_code
def yX11_pack : MethodName := ⟨RX11, "pack", "(I)I"⟩
abbrev cX11_run : ByteArray := prog_1_method_3_code
def yX11_run : MethodName := ⟨RX11, "run", "(III)I"⟩
abbrev cX11_at : ByteArray := prog_1_method_4_code
def yX11_at : MethodName := ⟨RX11, "at", "(III)I"⟩
abbrev cX11_guess : ByteArray := prog_1_method_5_code
def yX11_guess : MethodName := ⟨RX11, "guess", "(III)I"⟩
abbrev cX11_slip : ByteArray := prog_1_method_6_code
def yX11_slip : MethodName := ⟨RX11, "slip", "(III)I"⟩
abbrev cX11_cut : ByteArray := prog_1_method_7_code
def yX11_cut : MethodName := ⟨RX11, "cut", "(II)I"⟩
abbrev cX11_shuffle : ByteArray := prog_1_method_8_code
def yX11_shuffle : MethodName := ⟨RX11, "shuffle", "(II)I"⟩
abbrev cX11_told : ByteArray := prog_1_method_9_code
def yX11_told : MethodName := ⟨RX11, "told", "(II)I"⟩
abbrev cX11_exact : ByteArray := prog_1_method_10_code
def yX11_exact : MethodName := ⟨RX11, "exact", "(III)J"⟩
abbrev cX11_leak : ByteArray := prog_1_method_11_code
def yX11_leak : MethodName := ⟨RX11, "leak", "(III)I"⟩
abbrev cX11_shut : ByteArray := prog_1_method_12_code
def yX11_shut : MethodName := ⟨RX11, "shut", "(II)I"⟩
abbrev cX11_gives : ByteArray := prog_1_method_13_code
def yX11_gives : MethodName := ⟨RX11, "gives", "(II)I"⟩
abbrev cX11_counts : ByteArray := prog_1_method_14_code
def yX11_counts : MethodName := ⟨RX11, "counts", "(I)I"⟩
abbrev cX11_screen : ByteArray := prog_1_method_15_code
def yX11_screen : MethodName := ⟨RX11, "screen", "(II)I"⟩
abbrev cX11_plan : ByteArray := prog_1_method_16_code
def yX11_plan : MethodName := ⟨RX11, "plan", "(II)I"⟩
abbrev cX11_weighs : ByteArray := prog_1_method_17_code
def yX11_weighs : MethodName := ⟨RX11, "weighs", "(I)I"⟩
abbrev cX11_feed : ByteArray := prog_1_method_18_code
def yX11_feed : MethodName := ⟨RX11, "feed", "(IJ)I"⟩
abbrev cX11_text : ByteArray := prog_1_method_19_code
def yX11_text : MethodName := ⟨RX11, "text", "()I"⟩
abbrev cX11_force : ByteArray := prog_1_method_20_code
def yX11_force : MethodName := ⟨RX11, "force", "(I)I"⟩
abbrev cX11_series : ByteArray := prog_1_method_21_code
def yX11_series : MethodName := ⟨RX11, "series", "(III)J"⟩
abbrev cX11_best : ByteArray := prog_1_method_22_code
def yX11_best : MethodName := ⟨RX11, "best", "(I)I"⟩
abbrev cX11_falls : ByteArray := prog_1_method_23_code
def yX11_falls : MethodName := ⟨RX11, "falls", "(III)J"⟩
abbrev cX11_mixed : ByteArray := prog_1_method_24_code
def yX11_mixed : MethodName := ⟨RX11, "mixed", "(III)I"⟩
abbrev cX11_image : ByteArray := prog_1_method_25_code
def yX11_image : MethodName := ⟨RX11, "image", "()I"⟩
abbrev cX11_back : ByteArray := prog_1_method_26_code
def yX11_back : MethodName := ⟨RX11, "back", "()I"⟩
abbrev cX11_count : ByteArray := prog_1_method_27_code
def yX11_count : MethodName := ⟨RX11, "count", "(I)I"⟩
abbrev cX11_sheet : ByteArray := prog_1_method_28_code
def yX11_sheet : MethodName := ⟨RX11, "sheet", "(III)I"⟩
abbrev cX11_cell : ByteArray := prog_1_method_29_code
def yX11_cell : MethodName := ⟨RX11, "cell", "(III)I"⟩
abbrev cX11_copy : ByteArray := prog_1_method_30_code
def yX11_copy : MethodName := ⟨RX11, "copy", "(IIIII)I"⟩
abbrev cX11_runs : ByteArray := prog_1_method_31_code
def yX11_runs : MethodName := ⟨RX11, "runs", "(IIII)I"⟩
abbrev cX11_taken : ByteArray := prog_1_method_32_code
def yX11_taken : MethodName := ⟨RX11, "taken", "(II)I"⟩
abbrev cX11_within : ByteArray := prog_1_method_33_code
def yX11_within : MethodName := ⟨RX11, "within", "(III)Z"⟩
abbrev cX11_among : ByteArray := prog_1_method_34_code
def yX11_among : MethodName := ⟨RX11, "among", "(II)Z"⟩
abbrev cX11_isBits : ByteArray := prog_1_method_35_code
def yX11_isBits : MethodName := ⟨RX11, "isBits", "(II)Z"⟩
abbrev cX11_isPlace : ByteArray := prog_1_method_36_code
def yX11_isPlace : MethodName := ⟨RX11, "isPlace", "(II)Z"⟩
abbrev cX11_readTape : ByteArray := prog_1_method_37_code
def yX11_readTape : MethodName := ⟨RX11, "readTape", "()I"⟩
abbrev cX11_bound : ByteArray := prog_1_method_38_code
def yX11_bound : MethodName := ⟨RX11, "bound", "(LFiveCards$Run;)I"⟩
abbrev cX11_ruled : ByteArray := prog_1_method_39_code
def yX11_ruled : MethodName := ⟨RX11, "ruled", "(II)I"⟩
abbrev cX11_runsTill : ByteArray := prog_1_method_40_code
def yX11_runsTill : MethodName := ⟨RX11, "runsTill", "(I)I"⟩
abbrev cX11_hitsTill : ByteArray := prog_1_method_41_code
def yX11_hitsTill : MethodName := ⟨RX11, "hitsTill", "(I)I"⟩
abbrev cX11_runsInDays : ByteArray := prog_1_method_42_code
def yX11_runsInDays : MethodName := ⟨RX11, "runsInDays", "(III)I"⟩
abbrev cX11_hitsInDays : ByteArray := prog_1_method_43_code
def yX11_hitsInDays : MethodName := ⟨RX11, "hitsInDays", "(III)I"⟩
abbrev cX11_hitsOfAll : ByteArray := prog_1_method_44_code
def yX11_hitsOfAll : MethodName := ⟨RX11, "hitsOfAll", "()I"⟩
abbrev cX11_kindsOfLeaks : ByteArray := prog_1_method_45_code
def yX11_kindsOfLeaks : MethodName := ⟨RX11, "kindsOfLeaks", "(I)I"⟩
abbrev cX11_kindsShutBy : ByteArray := prog_1_method_46_code
def yX11_kindsShutBy : MethodName := ⟨RX11, "kindsShutBy", "(I)I"⟩
abbrev cX11_hoursOf : ByteArray := prog_1_method_47_code
def yX11_hoursOf : MethodName := ⟨RX11, "hoursOf", "(I)I"⟩
def RX12 : String := "FiveCardsModel"
def TX12 : u_T := fun k => match k with
  | 0 => ("FiveCardsModel", "thrown", "I", false)
  | 1 => ("FiveCardsModel", "texts", "[I", true)
  | 2 => ("FiveCardsModel", "textSize", "[I", true)
  | 3 => ("FiveCardsModel", "textCount", "I", false)
  | 4 => ("FiveCardsModel", "rule", "I", false)
  | 5 => ("FiveCardsModel", "tape", "[I", true)
  | 6 => ("FiveCardsModel", "taped", "I", false)
  | 7 => ("FiveCardsModel", "choose", "[J", true)
  | 8 => ("FiveCardsModel", "packOf", "[I", true)
  | 9 => ("FiveCardsModel", "packSize", "[I", true)
  | 10 => ("FiveCardsModel", "packs", "I", false)
  | 11 => ("FiveCardsModel", "runPack", "[I", true)
  | 12 => ("FiveCardsModel", "guesser", "[I", true)
  | 13 => ("FiveCardsModel", "day", "[I", true)
  | 14 => ("FiveCardsModel", "cards", "[I", true)
  | 15 => ("FiveCardsModel", "guesses", "[I", true)
  | 16 => ("FiveCardsModel", "slips", "[I", true)
  | 17 => ("FiveCardsModel", "putIn", "[I", true)
  | 18 => ("FiveCardsModel", "runMany", "I", false)
  | 19 => ("FiveCardsModel", "cutCards", "[I", true)
  | 20 => ("FiveCardsModel", "left", "[I", true)
  | 21 => ("FiveCardsModel", "held", "[J", true)
  | 22 => ("FiveCardsModel", "heldNext", "[J", true)
  | 23 => ("FiveCardsModel", "guessed", "[I", true)
  | 24 => ("FiveCardsModel", "kind", "[I", true)
  | 25 => ("FiveCardsModel", "number", "[I", true)
  | 26 => ("FiveCardsModel", "signOf", "[I", true)
  | 27 => ("FiveCardsModel", "isShut", "[I", true)
  | 28 => ("FiveCardsModel", "leaks", "I", false)
  | 29 => ("FiveCardsModel", "hours", "[I", true)
  | 30 => ("FiveCardsModel", "kinds", "[I", true)
  | 31 => ("FiveCardsModel", "screens", "I", false)
  | 32 => ("FiveCardsModel", "from", "I", false)
  | 33 => ("FiveCardsModel", "size", "I", false)
  | 34 => ("FiveCardsModel", "token", "I", false)
  | 35 => ("FiveCardsModel", "tokenAt", "I", false)
  | 36 => ("FiveCardsModel", "tokenWorth", "J", false)
  | 37 => ("FiveCardsModel", "here", "I", false)
  | 38 => ("FiveCardsModel", "open", "I", false)
  | 39 => ("FiveCardsModel", "bad", "Z", false)
  | 40 => ("FiveCardsModel", "fault", "I", false)
  | 41 => ("FiveCardsModel", "aboutHits", "I", false)
  | 42 => ("FiveCardsModel", "aboutRun", "I", false)
  | 43 => ("FiveCardsModel", "aboutAll", "I", false)
  | 44 => ("FiveCardsModel", "aboutLeaks", "I", false)
  | 45 => ("FiveCardsModel", "aboutDay", "I", false)
  | 46 => ("FiveCardsModel", "aboutNext", "I", false)
  | 47 => ("FiveCardsModel", "above", "J", false)
  | 48 => ("FiveCardsModel", "below", "J", false)
  | 49 => ("FiveCardsModel", "ranMany", "I", false)
  | 50 => ("FiveCardsModel", "ranHits", "I", false)
  | 51 => ("FiveCardsModel", "aside", "[I", true)
  | 52 => ("FiveCardsModel", "imageCards", "[I", true)
  | 53 => ("FiveCardsModel", "imageGuesses", "[I", true)
  | 54 => ("FiveCardsModel", "imageSlips", "[I", true)
  | 55 => ("FiveCardsModel", "imagePutIn", "[I", true)
  | 56 => ("FiveCardsModel", "imageShut", "[I", true)
  | 57 => ("FiveCardsModel", "hasImage", "Z", false)
  | 58 => ("FiveCardsModel", "imageRuns", "I", false)
  | 59 => ("FiveCardsModel", "imageLeaks", "I", false)
  | 60 => ("FiveCardsModel", "imageRule", "I", false)
  | 61 => ("FiveCardsModel", "isThere", "[Z", true)
  | 62 => ("FiveCardsModel", "sorts", "[I", true)
  | 63 => ("FiveCardsModel", "sheetSize", "[I", true)
  | _ => ("FiveCardsModel", "items", "[I", true)
def tyX12 : Nat → FieldType := fun k => match k with
  | 0 => .int
  | 1 => .array .int
  | 2 => .array .int
  | 3 => .int
  | 4 => .int
  | 5 => .array .int
  | 6 => .int
  | 7 => .array .long
  | 8 => .array .int
  | 9 => .array .int
  | 10 => .int
  | 11 => .array .int
  | 12 => .array .int
  | 13 => .array .int
  | 14 => .array .int
  | 15 => .array .int
  | 16 => .array .int
  | 17 => .array .int
  | 18 => .int
  | 19 => .array .int
  | 20 => .array .int
  | 21 => .array .long
  | 22 => .array .long
  | 23 => .array .int
  | 24 => .array .int
  | 25 => .array .int
  | 26 => .array .int
  | 27 => .array .int
  | 28 => .int
  | 29 => .array .int
  | 30 => .array .int
  | 31 => .int
  | 32 => .int
  | 33 => .int
  | 34 => .int
  | 35 => .int
  | 36 => .long
  | 37 => .int
  | 38 => .int
  | 39 => .boolean
  | 40 => .int
  | 41 => .int
  | 42 => .int
  | 43 => .int
  | 44 => .int
  | 45 => .int
  | 46 => .int
  | 47 => .long
  | 48 => .long
  | 49 => .int
  | 50 => .int
  | 51 => .array .int
  | 52 => .array .int
  | 53 => .array .int
  | 54 => .array .int
  | 55 => .array .int
  | 56 => .array .int
  | 57 => .boolean
  | 58 => .int
  | 59 => .int
  | 60 => .int
  | 61 => .array .boolean
  | 62 => .array .int
  | 63 => .array .int
  | _ => .array .int
abbrev wsX120 : List Cond := u_ws RX12 TX12 65
theorem nmX12 : ∀ a, a < 65 → ∀ b, b < 65 → a ≠ b → (TX12 a).2.1 ≠ (TX12 b).2.1 := by decide +kernel
theorem tyX12_ok : ∀ k, k < 65 → parseFieldDescriptor (TX12 k).2.2.1 = some (tyX12 k) := by decide +kernel
abbrev cX12_in : ByteArray := prog_14_method_2_code
def yX12_in : MethodName := ⟨RX12, "in", "(JJJ)Z"⟩
abbrev cX12_init : ByteArray := prog_14_method_3_code
def yX12_init : MethodName := ⟨RX12, "<init>", "()V"⟩
abbrev cX12_spell : ByteArray := prog_14_method_4_code
def yX12_spell : MethodName := ⟨RX12, "spell", "(IJ)V"⟩
abbrev cX12_isRun : ByteArray := prog_14_method_5_code
def yX12_isRun : MethodName := ⟨RX12, "isRun", "(I)Z"⟩
abbrev cX12_isSignOf : ByteArray := prog_14_method_6_code
def yX12_isSignOf : MethodName := ⟨RX12, "isSignOf", "(I)Z"⟩
abbrev cX12_sizeOf : ByteArray := prog_14_method_7_code
def yX12_sizeOf : MethodName := ⟨RX12, "sizeOf", "(I)I"⟩
abbrev cX12_pack : ByteArray := prog_14_method_8_code
def yX12_pack : MethodName := ⟨RX12, "pack", "(I)I"⟩
abbrev cX12_run : ByteArray := prog_14_method_9_code
def yX12_run : MethodName := ⟨RX12, "run", "(III)I"⟩
abbrev cX12_at : ByteArray := prog_14_method_10_code
def yX12_at : MethodName := ⟨RX12, "at", "(III)I"⟩
abbrev cX12_guess : ByteArray := prog_14_method_11_code
def yX12_guess : MethodName := ⟨RX12, "guess", "(III)I"⟩
abbrev cX12_isHit : ByteArray := prog_14_method_12_code
def yX12_isHit : MethodName := ⟨RX12, "isHit", "(II)Z"⟩
abbrev cX12_slip : ByteArray := prog_14_method_13_code
def yX12_slip : MethodName := ⟨RX12, "slip", "(III)I"⟩
abbrev cX12_cut : ByteArray := prog_14_method_14_code
def yX12_cut : MethodName := ⟨RX12, "cut", "(II)I"⟩
abbrev cX12_mixes : ByteArray := prog_14_method_15_code
def yX12_mixes : MethodName := ⟨RX12, "mixes", "(II)V"⟩
abbrev cX12_shuffle : ByteArray := prog_14_method_16_code
def yX12_shuffle : MethodName := ⟨RX12, "shuffle", "(II)I"⟩
abbrev cX12_hitsOf : ByteArray := prog_14_method_17_code
def yX12_hitsOf : MethodName := ⟨RX12, "hitsOf", "(I)I"⟩
abbrev cX12_nextOf : ByteArray := prog_14_method_18_code
def yX12_nextOf : MethodName := ⟨RX12, "nextOf", "(I)I"⟩
abbrev cX12_alikeOf : ByteArray := prog_14_method_19_code
def yX12_alikeOf : MethodName := ⟨RX12, "alikeOf", "(I)I"⟩
abbrev cX12_byLeft : ByteArray := prog_14_method_20_code
def yX12_byLeft : MethodName := ⟨RX12, "byLeft", "(I)I"⟩
abbrev cX12_told : ByteArray := prog_14_method_21_code
def yX12_told : MethodName := ⟨RX12, "told", "(II)I"⟩
abbrev cX12_counts1 : ByteArray := prog_14_method_22_code
def yX12_counts1 : MethodName := ⟨RX12, "counts1", "(I)V"⟩
abbrev cX12_exact : ByteArray := prog_14_method_23_code
def yX12_exact : MethodName := ⟨RX12, "exact", "(III)J"⟩
abbrev cX12_isLeak : ByteArray := prog_14_method_24_code
def yX12_isLeak : MethodName := ⟨RX12, "isLeak", "(I)Z"⟩
abbrev cX12_leak : ByteArray := prog_14_method_25_code
def yX12_leak : MethodName := ⟨RX12, "leak", "(III)I"⟩
abbrev cX12_shut : ByteArray := prog_14_method_26_code
def yX12_shut : MethodName := ⟨RX12, "shut", "(II)I"⟩
abbrev cX12_givesOf : ByteArray := prog_14_method_27_code
def yX12_givesOf : MethodName := ⟨RX12, "givesOf", "(II)I"⟩
abbrev cX12_gives : ByteArray := prog_14_method_28_code
def yX12_gives : MethodName := ⟨RX12, "gives", "(II)I"⟩
abbrev cX12_countsOf : ByteArray := prog_14_method_29_code
def yX12_countsOf : MethodName := ⟨RX12, "countsOf", "(I)I"⟩
abbrev cX12_counts : ByteArray := prog_14_method_30_code
def yX12_counts : MethodName := ⟨RX12, "counts", "(I)I"⟩
abbrev cX12_boundOf : ByteArray := prog_14_method_31_code
def yX12_boundOf : MethodName := ⟨RX12, "boundOf", "(I)I"⟩
abbrev cX12_screen : ByteArray := prog_14_method_32_code
def yX12_screen : MethodName := ⟨RX12, "screen", "(II)I"⟩
abbrev cX12_kindsBy : ByteArray := prog_14_method_33_code
def yX12_kindsBy : MethodName := ⟨RX12, "kindsBy", "(I)I"⟩
abbrev cX12_plan : ByteArray := prog_14_method_34_code
def yX12_plan : MethodName := ⟨RX12, "plan", "(II)I"⟩
abbrev cX12_weighs : ByteArray := prog_14_method_35_code
def yX12_weighs : MethodName := ⟨RX12, "weighs", "(I)I"⟩
abbrev cX12_feed : ByteArray := prog_14_method_36_code
def yX12_feed : MethodName := ⟨RX12, "feed", "(IJ)I"⟩
abbrev cX12_byteAt : ByteArray := prog_14_method_37_code
def yX12_byteAt : MethodName := ⟨RX12, "byteAt", "(I)I"⟩
abbrev cX12_next : ByteArray := prog_14_method_38_code
def yX12_next : MethodName := ⟨RX12, "next", "()V"⟩
abbrev cX12_fail : ByteArray := prog_14_method_39_code
def yX12_fail : MethodName := ⟨RX12, "fail", "()V"⟩
abbrev cX12_isWord : ByteArray := prog_14_method_40_code
def yX12_isWord : MethodName := ⟨RX12, "isWord", "(J)Z"⟩
abbrev cX12_isSign : ByteArray := prog_14_method_41_code
def yX12_isSign : MethodName := ⟨RX12, "isSign", "(I)Z"⟩
abbrev cX12_opens : ByteArray := prog_14_method_42_code
def yX12_opens : MethodName := ⟨RX12, "opens", "()Z"⟩
abbrev cX12_name : ByteArray := prog_14_method_43_code
def yX12_name : MethodName := ⟨RX12, "name", "()I"⟩
abbrev cX12_one : ByteArray := prog_14_method_44_code
def yX12_one : MethodName := ⟨RX12, "one", "()I"⟩
abbrev cX12_term : ByteArray := prog_14_method_45_code
def yX12_term : MethodName := ⟨RX12, "term", "()I"⟩
abbrev cX12_added : ByteArray := prog_14_method_46_code
def yX12_added : MethodName := ⟨RX12, "added", "()I"⟩
abbrev cX12_not : ByteArray := prog_14_method_47_code
def yX12_not : MethodName := ⟨RX12, "not", "()I"⟩
abbrev cX12_both : ByteArray := prog_14_method_48_code
def yX12_both : MethodName := ⟨RX12, "both", "()I"⟩
abbrev cX12_either : ByteArray := prog_14_method_49_code
def yX12_either : MethodName := ⟨RX12, "either", "()I"⟩
abbrev cX12_part : ByteArray := prog_14_method_50_code
def yX12_part : MethodName := ⟨RX12, "part", "(J)I"⟩
abbrev cX12_read : ByteArray := prog_14_method_51_code
def yX12_read : MethodName := ⟨RX12, "read", "(II)I"⟩
abbrev cX12_text : ByteArray := prog_14_method_52_code
def yX12_text : MethodName := ⟨RX12, "text", "()I"⟩
abbrev cX12_force : ByteArray := prog_14_method_53_code
def yX12_force : MethodName := ⟨RX12, "force", "(I)I"⟩
abbrev cX12_saysOf : ByteArray := prog_14_method_54_code
def yX12_saysOf : MethodName := ⟨RX12, "saysOf", "(II)I"⟩
abbrev cX12_common : ByteArray := prog_14_method_55_code
def yX12_common : MethodName := ⟨RX12, "common", "(JJ)J"⟩
abbrev cX12_adds : ByteArray := prog_14_method_56_code
def yX12_adds : MethodName := ⟨RX12, "adds", "(JJ)V"⟩
abbrev cX12_zero : ByteArray := prog_14_method_57_code
def yX12_zero : MethodName := ⟨RX12, "zero", "()V"⟩
abbrev cX12_expected : ByteArray := prog_14_method_58_code
def yX12_expected : MethodName := ⟨RX12, "expected", "(I)I"⟩
abbrev cX12_isGuesser : ByteArray := prog_14_method_59_code
def yX12_isGuesser : MethodName := ⟨RX12, "isGuesser", "(I)Z"⟩
abbrev cX12_series : ByteArray := prog_14_method_60_code
def yX12_series : MethodName := ⟨RX12, "series", "(III)J"⟩
abbrev cX12_ran : ByteArray := prog_14_method_61_code
def yX12_ran : MethodName := ⟨RX12, "ran", "(III)V"⟩
abbrev cX12_best : ByteArray := prog_14_method_62_code
def yX12_best : MethodName := ⟨RX12, "best", "(I)I"⟩
abbrev cX12_falls : ByteArray := prog_14_method_63_code
def yX12_falls : MethodName := ⟨RX12, "falls", "(III)J"⟩
abbrev cX12_mixed : ByteArray := prog_14_method_64_code
def yX12_mixed : MethodName := ⟨RX12, "mixed", "(III)I"⟩
abbrev cX12_image : ByteArray := prog_14_method_65_code
def yX12_image : MethodName := ⟨RX12, "image", "()I"⟩
abbrev cX12_back : ByteArray := prog_14_method_66_code
def yX12_back : MethodName := ⟨RX12, "back", "()I"⟩
abbrev cX12_count : ByteArray := prog_14_method_67_code
def yX12_count : MethodName := ⟨RX12, "count", "(I)I"⟩
abbrev cX12_isSheet : ByteArray := prog_14_method_68_code
def yX12_isSheet : MethodName := ⟨RX12, "isSheet", "(I)Z"⟩
abbrev cX12_sheet : ByteArray := prog_14_method_69_code
def yX12_sheet : MethodName := ⟨RX12, "sheet", "(III)I"⟩
abbrev cX12_cell : ByteArray := prog_14_method_70_code
def yX12_cell : MethodName := ⟨RX12, "cell", "(III)I"⟩
abbrev cX12_copy : ByteArray := prog_14_method_71_code
def yX12_copy : MethodName := ⟨RX12, "copy", "(IIIII)I"⟩
abbrev cX12_runs : ByteArray := prog_14_method_72_code
def yX12_runs : MethodName := ⟨RX12, "runs", "(IIII)I"⟩
abbrev cX12_over : ByteArray := prog_14_method_73_code
def yX12_over : MethodName := ⟨RX12, "over", "(I)I"⟩
abbrev cX12_taken : ByteArray := prog_14_method_74_code
def yX12_taken : MethodName := ⟨RX12, "taken", "(II)I"⟩
def RJx145de : String := "java/io/Serializable"
def TJx145de : u_T := fun k => match k with
  | _ => ("", "", "", false)
def tyJx145de : Nat → FieldType := fun k => match k with
  | _ => .int
abbrev wsJx145de0 : List Cond := u_ws RJx145de TJx145de 0
theorem nmJx145de : ∀ a, a < 0 → ∀ b, b < 0 → a ≠ b → (TJx145de a).2.1 ≠ (TJx145de b).2.1 := by decide +kernel
theorem tyJx145de_ok : ∀ k, k < 0 → parseFieldDescriptor (TJx145de k).2.2.1 = some (tyJx145de k) := by decide +kernel
def RJx9f9b0 : String := "java/lang/CharSequence"
def TJx9f9b0 : u_T := fun k => match k with
  | _ => ("", "", "", false)
def tyJx9f9b0 : Nat → FieldType := fun k => match k with
  | _ => .int
abbrev wsJx9f9b00 : List Cond := u_ws RJx9f9b0 TJx9f9b0 0
theorem nmJx9f9b0 : ∀ a, a < 0 → ∀ b, b < 0 → a ≠ b → (TJx9f9b0 a).2.1 ≠ (TJx9f9b0 b).2.1 := by decide +kernel
theorem tyJx9f9b0_ok : ∀ k, k < 0 → parseFieldDescriptor (TJx9f9b0 k).2.2.1 = some (tyJx9f9b0 k) := by decide +kernel
def RJx8e188 : String := "java/lang/Cloneable"
def TJx8e188 : u_T := fun k => match k with
  | _ => ("", "", "", false)
def tyJx8e188 : Nat → FieldType := fun k => match k with
  | _ => .int
abbrev wsJx8e1880 : List Cond := u_ws RJx8e188 TJx8e188 0
theorem nmJx8e188 : ∀ a, a < 0 → ∀ b, b < 0 → a ≠ b → (TJx8e188 a).2.1 ≠ (TJx8e188 b).2.1 := by decide +kernel
theorem tyJx8e188_ok : ∀ k, k < 0 → parseFieldDescriptor (TJx8e188 k).2.2.1 = some (tyJx8e188 k) := by decide +kernel
def RJxb160c : String := "java/lang/Comparable"
def TJxb160c : u_T := fun k => match k with
  | _ => ("", "", "", false)
def tyJxb160c : Nat → FieldType := fun k => match k with
  | _ => .int
abbrev wsJxb160c0 : List Cond := u_ws RJxb160c TJxb160c 0
theorem nmJxb160c : ∀ a, a < 0 → ∀ b, b < 0 → a ≠ b → (TJxb160c a).2.1 ≠ (TJxb160c b).2.1 := by decide +kernel
theorem tyJxb160c_ok : ∀ k, k < 0 → parseFieldDescriptor (TJxb160c k).2.2.1 = some (tyJxb160c k) := by decide +kernel
def RJxab1ab : String := "java/lang/Iterable"
def TJxab1ab : u_T := fun k => match k with
  | _ => ("", "", "", false)
def tyJxab1ab : Nat → FieldType := fun k => match k with
  | _ => .int
abbrev wsJxab1ab0 : List Cond := u_ws RJxab1ab TJxab1ab 0
theorem nmJxab1ab : ∀ a, a < 0 → ∀ b, b < 0 → a ≠ b → (TJxab1ab a).2.1 ≠ (TJxab1ab b).2.1 := by decide +kernel
theorem tyJxab1ab_ok : ∀ k, k < 0 → parseFieldDescriptor (TJxab1ab k).2.2.1 = some (tyJxab1ab k) := by decide +kernel
def RJ9 : String := "java/lang/Math"
def TJ9 : u_T := fun k => match k with
  | _ => ("", "", "", false)
def tyJ9 : Nat → FieldType := fun k => match k with
  | _ => .int
abbrev wsJ90 : List Cond := u_ws RJ9 TJ9 0
theorem nmJ9 : ∀ a, a < 0 → ∀ b, b < 0 → a ≠ b → (TJ9 a).2.1 ≠ (TJ9 b).2.1 := by decide +kernel
theorem tyJ9_ok : ∀ k, k < 0 → parseFieldDescriptor (TJ9 k).2.2.1 = some (tyJ9 k) := by decide +kernel
abbrev cJ9_abs_067f4 : ByteArray := prog_20_method_61_code
def yJ9_abs_067f4 : MethodName := ⟨RJ9, "abs", "(J)J"⟩
abbrev cJ9_max_7cf53 : ByteArray := prog_20_method_65_code
def yJ9_max_7cf53 : MethodName := ⟨RJ9, "max", "(II)I"⟩
abbrev cJ9_min_7cf53 : ByteArray := prog_20_method_69_code
def yJ9_min_7cf53 : MethodName := ⟨RJ9, "min", "(II)I"⟩
def RJ0 : String := "java/lang/String"
def TJ0 : u_T := fun k => match k with
  | _ => ("", "", "", false)
def tyJ0 : Nat → FieldType := fun k => match k with
  | _ => .int
abbrev wsJ00 : List Cond := u_ws RJ0 TJ0 0
theorem nmJ0 : ∀ a, a < 0 → ∀ b, b < 0 → a ≠ b → (TJ0 a).2.1 ≠ (TJ0 b).2.1 := by decide +kernel
theorem tyJ0_ok : ∀ k, k < 0 → parseFieldDescriptor (TJ0 k).2.2.1 = some (tyJ0 k) := by decide +kernel
abbrev cJ0_length_8abf5 : ByteArray := prog_21_method_54_code
def yJ0_length_8abf5 : MethodName := ⟨RJ0, "length", "()I"⟩
abbrev cJ0_charAt_5068e : ByteArray := prog_21_method_56_code
def yJ0_charAt_5068e : MethodName := ⟨RJ0, "charAt", "(I)C"⟩
abbrev cJ0_coder_7d493 : ByteArray := prog_21_method_152_code
def yJ0_coder_7d493 : MethodName := ⟨RJ0, "coder", "()B"⟩
abbrev cJ0_isLatin1_aae02 : ByteArray := prog_21_method_154_code
def yJ0_isLatin1_aae02 : MethodName := ⟨RJ0, "isLatin1", "()Z"⟩
abbrev cJ0_checkIndex_df160 : ByteArray := prog_21_method_155_code
def yJ0_checkIndex_df160 : MethodName := ⟨RJ0, "checkIndex", "(II)V"⟩
def RJ1 : String := "java/lang/StringLatin1"
def TJ1 : u_T := fun k => match k with
  | _ => ("", "", "", false)
def tyJ1 : Nat → FieldType := fun k => match k with
  | _ => .int
abbrev wsJ10 : List Cond := u_ws RJ1 TJ1 0
theorem nmJ1 : ∀ a, a < 0 → ∀ b, b < 0 → a ≠ b → (TJ1 a).2.1 ≠ (TJ1 b).2.1 := by decide +kernel
theorem tyJ1_ok : ∀ k, k < 0 → parseFieldDescriptor (TJ1 k).2.2.1 = some (tyJ1 k) := by decide +kernel
abbrev cJ1_charAt_3b067 : ByteArray := prog_22_method_2_code
def yJ1_charAt_3b067 : MethodName := ⟨RJ1, "charAt", "([BI)C"⟩
def RJ2 : String := "java/lang/StringUTF16"
def TJ2 : u_T := fun k => match k with
  | _ => ("", "", "", false)
def tyJ2 : Nat → FieldType := fun k => match k with
  | _ => .int
abbrev wsJ20 : List Cond := u_ws RJ2 TJ2 0
theorem nmJ2 : ∀ a, a < 0 → ∀ b, b < 0 → a ≠ b → (TJ2 a).2.1 ≠ (TJ2 b).2.1 := by decide +kernel
theorem tyJ2_ok : ∀ k, k < 0 → parseFieldDescriptor (TJ2 k).2.2.1 = some (tyJ2 k) := by decide +kernel
abbrev cJ2_getChar_3b067 : ByteArray := prog_23_method_5_code
def yJ2_getChar_3b067 : MethodName := ⟨RJ2, "getChar", "([BI)C"⟩
abbrev cJ2_length_9d52b : ByteArray := prog_23_method_6_code
def yJ2_length_9d52b : MethodName := ⟨RJ2, "length", "([B)I"⟩
abbrev cJ2_charAt_3b067 : ByteArray := prog_23_method_83_code
def yJ2_charAt_3b067 : MethodName := ⟨RJ2, "charAt", "([BI)C"⟩
abbrev cJ2_checkIndex_2214a : ByteArray := prog_23_method_91_code
def yJ2_checkIndex_2214a : MethodName := ⟨RJ2, "checkIndex", "(I[B)V"⟩
def RJ10 : String := "java/lang/System"
def TJ10 : u_T := fun k => match k with
  | _ => ("", "", "", false)
def tyJ10 : Nat → FieldType := fun k => match k with
  | _ => .int
abbrev wsJ100 : List Cond := u_ws RJ10 TJ10 0
theorem nmJ10 : ∀ a, a < 0 → ∀ b, b < 0 → a ≠ b → (TJ10 a).2.1 ≠ (TJ10 b).2.1 := by decide +kernel
theorem tyJ10_ok : ∀ k, k < 0 → parseFieldDescriptor (TJ10 k).2.2.1 = some (tyJ10 k) := by decide +kernel
def RJxfd54e : String := "java/lang/constant/Constable"
def TJxfd54e : u_T := fun k => match k with
  | _ => ("", "", "", false)
def tyJxfd54e : Nat → FieldType := fun k => match k with
  | _ => .int
abbrev wsJxfd54e0 : List Cond := u_ws RJxfd54e TJxfd54e 0
theorem nmJxfd54e : ∀ a, a < 0 → ∀ b, b < 0 → a ≠ b → (TJxfd54e a).2.1 ≠ (TJxfd54e b).2.1 := by decide +kernel
theorem tyJxfd54e_ok : ∀ k, k < 0 → parseFieldDescriptor (TJxfd54e k).2.2.1 = some (tyJxfd54e k) := by decide +kernel
def RJx3cf43 : String := "java/lang/constant/ConstantDesc"
def TJx3cf43 : u_T := fun k => match k with
  | _ => ("", "", "", false)
def tyJx3cf43 : Nat → FieldType := fun k => match k with
  | _ => .int
abbrev wsJx3cf430 : List Cond := u_ws RJx3cf43 TJx3cf43 0
theorem nmJx3cf43 : ∀ a, a < 0 → ∀ b, b < 0 → a ≠ b → (TJx3cf43 a).2.1 ≠ (TJx3cf43 b).2.1 := by decide +kernel
theorem tyJx3cf43_ok : ∀ k, k < 0 → parseFieldDescriptor (TJx3cf43 k).2.2.1 = some (tyJx3cf43 k) := by decide +kernel
def RJxa1e45 : String := "java/util/AbstractCollection"
def TJxa1e45 : u_T := fun k => match k with
  | _ => ("", "", "", false)
def tyJxa1e45 : Nat → FieldType := fun k => match k with
  | _ => .int
abbrev wsJxa1e450 : List Cond := u_ws RJxa1e45 TJxa1e45 0
theorem nmJxa1e45 : ∀ a, a < 0 → ∀ b, b < 0 → a ≠ b → (TJxa1e45 a).2.1 ≠ (TJxa1e45 b).2.1 := by decide +kernel
theorem tyJxa1e45_ok : ∀ k, k < 0 → parseFieldDescriptor (TJxa1e45 k).2.2.1 = some (tyJxa1e45 k) := by decide +kernel
abbrev cJxa1e45_init_da8c8 : ByteArray := prog_27_method_1_code
def yJxa1e45_init_da8c8 : MethodName := ⟨RJxa1e45, "<init>", "()V"⟩
def RJxc12de : String := "java/util/AbstractList"
def TJxc12de : u_T := fun k => match k with
  | _ => ("", "", "", false)
def tyJxc12de : Nat → FieldType := fun k => match k with
  | _ => .int
abbrev wsJxc12de0 : List Cond := u_ws RJxc12de TJxc12de 0
theorem nmJxc12de : ∀ a, a < 0 → ∀ b, b < 0 → a ≠ b → (TJxc12de a).2.1 ≠ (TJxc12de b).2.1 := by decide +kernel
theorem tyJxc12de_ok : ∀ k, k < 0 → parseFieldDescriptor (TJxc12de k).2.2.1 = some (tyJxc12de k) := by decide +kernel
abbrev cJxc12de_init_da8c8 : ByteArray := prog_28_method_1_code
def yJxc12de_init_da8c8 : MethodName := ⟨RJxc12de, "<init>", "()V"⟩
def RJx4a65c : String := "java/util/ArrayList"
def TJx4a65c : u_T := fun k => match k with
  | 0 => ("java/util/AbstractList", "modCount", "I", false)
  | 1 => ("java/util/ArrayList", "elementData", "[Ljava/lang/Object;", false)
  | _ => ("java/util/ArrayList", "size", "I", false)
def tyJx4a65c : Nat → FieldType := fun k => match k with
  | 0 => .int
  | 1 => .array (.object "java/lang/Object")
  | _ => .int
abbrev wsJx4a65c0 : List Cond := u_ws RJx4a65c TJx4a65c 3
theorem nmJx4a65c : ∀ a, a < 3 → ∀ b, b < 3 → a ≠ b → (TJx4a65c a).2.1 ≠ (TJx4a65c b).2.1 := by decide +kernel
theorem tyJx4a65c_ok : ∀ k, k < 3 → parseFieldDescriptor (TJx4a65c k).2.2.1 = some (tyJx4a65c k) := by decide +kernel
abbrev cJx4a65c_init_da8c8 : ByteArray := prog_29_method_2_code
def yJx4a65c_init_da8c8 : MethodName := ⟨RJx4a65c, "<init>", "()V"⟩
abbrev cJx4a65c_grow_92f84 : ByteArray := prog_29_method_6_code
def yJx4a65c_grow_92f84 : MethodName := ⟨RJx4a65c, "grow", "(I)[Ljava/lang/Object;"⟩
abbrev cJx4a65c_grow_d5877 : ByteArray := prog_29_method_7_code
def yJx4a65c_grow_d5877 : MethodName := ⟨RJx4a65c, "grow", "()[Ljava/lang/Object;"⟩
abbrev cJx4a65c_size_8abf5 : ByteArray := prog_29_method_8_code
def yJx4a65c_size_8abf5 : MethodName := ⟨RJx4a65c, "size", "()I"⟩
abbrev cJx4a65c_elementData_915e3 : ByteArray := prog_29_method_18_code
def yJx4a65c_elementData_915e3 : MethodName := ⟨RJx4a65c, "elementData", "(I)Ljava/lang/Object;"⟩
abbrev cJx4a65c_get_915e3 : ByteArray := prog_29_method_20_code
def yJx4a65c_get_915e3 : MethodName := ⟨RJx4a65c, "get", "(I)Ljava/lang/Object;"⟩
abbrev cJx4a65c_add_72be8 : ByteArray := prog_29_method_24_code
def yJx4a65c_add_72be8 : MethodName := ⟨RJx4a65c, "add", "(Ljava/lang/Object;[Ljava/lang/Object;I)V"⟩
abbrev cJx4a65c_add_9ea2d : ByteArray := prog_29_method_25_code
def yJx4a65c_add_9ea2d : MethodName := ⟨RJx4a65c, "add", "(Ljava/lang/Object;)Z"⟩
def RJ7 : String := "java/util/Arrays"
def TJ7 : u_T := fun k => match k with
  | _ => ("", "", "", false)
def tyJ7 : Nat → FieldType := fun k => match k with
  | _ => .int
abbrev wsJ70 : List Cond := u_ws RJ7 TJ7 0
theorem nmJ7 : ∀ a, a < 0 → ∀ b, b < 0 → a ≠ b → (TJ7 a).2.1 ≠ (TJ7 b).2.1 := by decide +kernel
theorem tyJ7_ok : ∀ k, k < 0 → parseFieldDescriptor (TJ7 k).2.2.1 = some (tyJ7 k) := by decide +kernel
abbrev cJ7_fill_d0a16 : ByteArray := prog_30_method_101_code
def yJ7_fill_d0a16 : MethodName := ⟨RJ7, "fill", "([JJ)V"⟩
abbrev cJ7_fill_53178 : ByteArray := prog_30_method_103_code
def yJ7_fill_53178 : MethodName := ⟨RJ7, "fill", "([II)V"⟩
abbrev cJ7_copyOf_1904c : ByteArray := prog_30_method_119_code
def yJ7_copyOf_1904c : MethodName := ⟨RJ7, "copyOf", "([Ljava/lang/Object;I)[Ljava/lang/Object;"⟩
abbrev cJ7_copyOf_6403c : ByteArray := prog_30_method_120_code
def yJ7_copyOf_6403c : MethodName := ⟨RJ7, "copyOf", "([Ljava/lang/Object;ILjava/lang/Class;)[Ljava/lang/Object;"⟩
abbrev cJ7_copyOf_59c91 : ByteArray := prog_30_method_123_code
def yJ7_copyOf_59c91 : MethodName := ⟨RJ7, "copyOf", "([II)[I"⟩
def RJx5ef63 : String := "java/util/Collection"
def TJx5ef63 : u_T := fun k => match k with
  | _ => ("", "", "", false)
def tyJx5ef63 : Nat → FieldType := fun k => match k with
  | _ => .int
abbrev wsJx5ef630 : List Cond := u_ws RJx5ef63 TJx5ef63 0
theorem nmJx5ef63 : ∀ a, a < 0 → ∀ b, b < 0 → a ≠ b → (TJx5ef63 a).2.1 ≠ (TJx5ef63 b).2.1 := by decide +kernel
theorem tyJx5ef63_ok : ∀ k, k < 0 → parseFieldDescriptor (TJx5ef63 k).2.2.1 = some (tyJx5ef63 k) := by decide +kernel
def RJxbd725 : String := "java/util/List"
def TJxbd725 : u_T := fun k => match k with
  | _ => ("", "", "", false)
def tyJxbd725 : Nat → FieldType := fun k => match k with
  | _ => .int
abbrev wsJxbd7250 : List Cond := u_ws RJxbd725 TJxbd725 0
theorem nmJxbd725 : ∀ a, a < 0 → ∀ b, b < 0 → a ≠ b → (TJxbd725 a).2.1 ≠ (TJxbd725 b).2.1 := by decide +kernel
theorem tyJxbd725_ok : ∀ k, k < 0 → parseFieldDescriptor (TJxbd725 k).2.2.1 = some (tyJxbd725 k) := by decide +kernel
def RJ15 : String := "java/util/Objects"
def TJ15 : u_T := fun k => match k with
  | _ => ("", "", "", false)
def tyJ15 : Nat → FieldType := fun k => match k with
  | _ => .int
abbrev wsJ150 : List Cond := u_ws RJ15 TJ15 0
theorem nmJ15 : ∀ a, a < 0 → ∀ b, b < 0 → a ≠ b → (TJ15 a).2.1 ≠ (TJ15 b).2.1 := by decide +kernel
theorem tyJ15_ok : ∀ k, k < 0 → parseFieldDescriptor (TJ15 k).2.2.1 = some (tyJ15 k) := by decide +kernel
abbrev cJ15_checkIndex_7cf53 : ByteArray := prog_33_method_17_code
def yJ15_checkIndex_7cf53 : MethodName := ⟨RJ15, "checkIndex", "(II)I"⟩
def RJxf0a74 : String := "java/util/RandomAccess"
def TJxf0a74 : u_T := fun k => match k with
  | _ => ("", "", "", false)
def tyJxf0a74 : Nat → FieldType := fun k => match k with
  | _ => .int
abbrev wsJxf0a740 : List Cond := u_ws RJxf0a74 TJxf0a74 0
theorem nmJxf0a74 : ∀ a, a < 0 → ∀ b, b < 0 → a ≠ b → (TJxf0a74 a).2.1 ≠ (TJxf0a74 b).2.1 := by decide +kernel
theorem tyJxf0a74_ok : ∀ k, k < 0 → parseFieldDescriptor (TJxf0a74 k).2.2.1 = some (tyJxf0a74 k) := by decide +kernel
def RJxa66e6 : String := "java/util/SequencedCollection"
def TJxa66e6 : u_T := fun k => match k with
  | _ => ("", "", "", false)
def tyJxa66e6 : Nat → FieldType := fun k => match k with
  | _ => .int
abbrev wsJxa66e60 : List Cond := u_ws RJxa66e6 TJxa66e6 0
theorem nmJxa66e6 : ∀ a, a < 0 → ∀ b, b < 0 → a ≠ b → (TJxa66e6 a).2.1 ≠ (TJxa66e6 b).2.1 := by decide +kernel
theorem tyJxa66e6_ok : ∀ k, k < 0 → parseFieldDescriptor (TJxa66e6 k).2.2.1 = some (tyJxa66e6 k) := by decide +kernel
def RJ8 : String := "jdk/internal/util/ArraysSupport"
def TJ8 : u_T := fun k => match k with
  | _ => ("", "", "", false)
def tyJ8 : Nat → FieldType := fun k => match k with
  | _ => .int
abbrev wsJ80 : List Cond := u_ws RJ8 TJ8 0
theorem nmJ8 : ∀ a, a < 0 → ∀ b, b < 0 → a ≠ b → (TJ8 a).2.1 ≠ (TJ8 b).2.1 := by decide +kernel
theorem tyJ8_ok : ∀ k, k < 0 → parseFieldDescriptor (TJ8 k).2.2.1 = some (tyJ8 k) := by decide +kernel
abbrev cJ8_newLength_cabcc : ByteArray := prog_36_method_27_code
def yJ8_newLength_cabcc : MethodName := ⟨RJ8, "newLength", "(III)I"⟩
abbrev cJ8_hugeLength_7cf53 : ByteArray := prog_36_method_28_code
def yJ8_hugeLength_7cf53 : MethodName := ⟨RJ8, "hugeLength", "(II)I"⟩
def RJ3 : String := "jdk/internal/util/Preconditions"
def TJ3 : u_T := fun k => match k with
  | _ => ("", "", "", false)
def tyJ3 : Nat → FieldType := fun k => match k with
  | _ => .int
abbrev wsJ30 : List Cond := u_ws RJ3 TJ3 0
theorem nmJ3 : ∀ a, a < 0 → ∀ b, b < 0 → a ≠ b → (TJ3 a).2.1 ≠ (TJ3 b).2.1 := by decide +kernel
theorem tyJ3_ok : ∀ k, k < 0 → parseFieldDescriptor (TJ3 k).2.2.1 = some (tyJ3 k) := by decide +kernel
abbrev cJ3_checkIndex_8e157 : ByteArray := prog_37_method_11_code
def yJ3_checkIndex_8e157 : MethodName := ⟨RJ3, "checkIndex", "(IILjava/util/function/BiFunction;)I"⟩
def RL : String := "FiveCardsLaw"
abbrev cL_law : ByteArray := code
def yL_law : MethodName := ⟨RL, "law", "([I)Z"⟩
abbrev kcl : List vw_C := [(RX0, TX0, 2), (RX1, TX1, 5), (RX2, TX2, 1), (RX3, TX3, 2), (RX4, TX4, 7), (RX5, TX5, 14), (RX6, TX6, 2), (RX7, TX7, 3), (RX8, TX8, 2), (RX9, TX9, 3), (RX10, TX10, 4), (RX11, TX11, 14), (RX12, TX12, 65), (RJx4a65c, TJx4a65c, 3)]
def BIG : List Cond := lw_tbl.filter goodWord
theorem big_of {w : Cond} (i : Nat) (h : tables_1[i]? = some w) (hg : goodWord w = true) : w ∈ BIG := List.mem_filter.mpr ⟨List.mem_append_right _ (List.mem_of_getElem? h), hg⟩
theorem big_sel {q : MethodName × Nat} (i : Nat) (h : lw_privs[i]? = some q) : Cond.selects q.1.cls q.1 q.1 ∈ BIG := List.mem_filter.mpr ⟨List.mem_append_left _ (List.mem_map.mpr ⟨q, List.mem_of_getElem? h, rfl⟩), rfl⟩
theorem big_ws {C : String} {T : u_T} {N : Nat} (is : List Nat) (h : u_ws C T N = is.filterMap (fun i => tables_1[i]?)) (hg : (u_ws C T N).all goodWord = true) : ∀ w ∈ u_ws C T N, w ∈ BIG := by
  intro w hw
  have h1 := List.all_eq_true.mp hg w hw
  rw [h] at hw
  obtain ⟨i, -, hi⟩ := List.mem_filterMap.mp hw
  exact big_of i hi h1
theorem good_cons {y : MethodName} {cc : ByteArray} {nL : Nat} {rt : Option FieldType} {y' : MethodName} {cc' : ByteArray} {nL' : Nat} {rt' : Option FieldType} (h : Cond.code y cc nL rt ∈ BIG) : GoodIn (Cond.code y' cc' nL' rt' :: BIG) (Cond.code y cc nL rt :: BIG) := by
  intro w hw
  rcases List.mem_cons.mp hw with rfl | hw
  · exact ⟨List.mem_cons_of_mem _ h, Or.inl rfl⟩
  · exact ⟨List.mem_cons_of_mem _ hw, good_of_word (List.mem_filter.mp hw).2⟩
end
section
/-! THE LAYER: a heap of ours is a partial map from addresses to contents; AJ: from here the method comes to its end; Fn: a method's contract over such heaps -/
abbrev KX : Type := Launch × va_G × (Nat → ClassId) × (Nat → Nat) × Value
abbrev kE : Type := (Nat × vp_A) ⊕ (Nat × List Value)
abbrev AH : Type := Nat → Option kE
abbrev kI (n : Nat) (f : Nat → Int32) : kE := .inl (0, n, .inl f)
abbrev kL (n : Nat) (f : Nat → Int64) : kE := .inl (1, n, .inr (.inl f))
abbrev kQ (t n : Nat) (f : Nat → Option Nat) : kE := .inl (t, n, .inr (.inr (.inr (.inr f))))
abbrev kB (n : Nat) (f : Nat → Int32) : kE := .inl (4, n, .inl f)
abbrev kO (c : Nat) (fs : List Value) : kE := .inr (c, fs)
def ktyl : List FieldType := [.int, .long, .object "java/lang/Object", .object "FiveCards$Sheet", .boolean]
def ktys (X : KX) : List (ClassId × FieldType) := [(X.2.2.1 0, .int), (X.2.2.1 1, .long), (X.2.2.1 2, .object "java/lang/Object"), (X.2.2.1 3, .object "FiveCards$Sheet"), (X.2.2.1 4, .boolean)]
theorem ktys_at {X : KX} {t : Nat} {ty : FieldType} (h : ktyl[t]? = some ty) : (ktys X)[t]? = some (X.2.2.1 t, ty) := by
  match t, h with
  | 0, h => cases h; rfl
  | 1, h => cases h; rfl
  | 2, h => cases h; rfl
  | 3, h => cases h; rfl
  | 4, h => cases h; rfl
  | t + 5, h => simp [ktyl] at h
def cE (X : KX) : kE → va_E
  | .inl (t, a) => .inl (X.2.2.1 t, a)
  | .inr o => .inr o
def kws (X : KX) (h : AH) (dom : List Nat) : va_W := dom.map (fun a => (a, cE X ((h a).getD (.inr (0, [])))))
def Dom (h : AH) (dom : List Nat) : Prop := ∀ a, (h a).isSome = true ↔ a ∈ dom
def Rep (X : KX) (A : Nat → Prop) (h : AH) (H : Heap) : Prop := ∃ dom : List Nat, Dom h dom ∧ va_P X.2.1 kcl (kws X h dom) H ∧ va_D A (kws X h dom)
def kput (h : AH) (a : Nat) (e : kE) : AH := fun b => if b = a then some e else h b
theorem kput_eq {h : AH} {a : Nat} {e : kE} : kput h a e a = some e := if_pos rfl
theorem kput_ne {h : AH} {a b : Nat} {e : kE} (hb : b ≠ a) : kput h a e b = h b := if_neg hb
theorem kput_put {h : AH} {a : Nat} {e e' : kE} : kput (kput h a e) a e' = kput h a e' := by
  funext b
  simp only [kput]
  by_cases hb : b = a
  · rw [if_pos hb, if_pos hb]
  · rw [if_neg hb, if_neg hb, if_neg hb]
theorem kput_self {h : AH} {a : Nat} {e : kE} (ha : h a = some e) : kput h a e = h := by
  funext b
  simp only [kput]
  by_cases hb : b = a
  · rw [if_pos hb, hb, ha]
  · rw [if_neg hb]
theorem kput_comm {h : AH} {a b : Nat} {e e' : kE} (hab : a ≠ b) : kput (kput h a e) b e' = kput (kput h b e') a e := by
  funext c
  simp only [kput]
  by_cases hb : c = b
  · rw [if_pos hb, if_neg (fun q => hab (q.symm.trans hb)), if_pos hb]
  · rw [if_neg hb]
    by_cases ha : c = a
    · rw [if_pos ha, if_pos ha]
    · rw [if_neg ha, if_neg ha, if_neg hb]
theorem kput_some {h : AH} {a b : Nat} {e : kE} (hb : (h b).isSome = true) : (kput h a e b).isSome = true := by
  simp only [kput]
  by_cases q : b = a
  · rw [if_pos q]; rfl
  · rw [if_neg q]; exact hb
theorem kws_len {X : KX} {h : AH} {dom : List Nat} : (kws X h dom).length = dom.length := List.length_map _
theorem kws_at {X : KX} {h : AH} {dom : List Nat} {a : Nat} {e : kE} (hD : Dom h dom) (ha : h a = some e) : ∃ q : Nat, dom[q]? = some a ∧ (kws X h dom)[q]? = some (a, cE X e) := by
  have hm : a ∈ dom := (hD a).mp (by rw [ha]; rfl)
  obtain ⟨q, hq⟩ := List.getElem?_of_mem hm
  refine ⟨q, hq, ?_⟩
  rw [kws, List.getElem?_map, hq]
  show some (a, cE X ((h a).getD _)) = _
  rw [ha]
  rfl
theorem kws_mem {X : KX} {h : AH} {dom : List Nat} {k : Nat} {p : Nat × va_E} (hp : (kws X h dom)[k]? = some p) : dom[k]? = some p.1 := by
  rw [kws, List.getElem?_map] at hp
  cases hd : dom[k]? with
  | none => rw [hd] at hp; cases hp
  | some a => rw [hd] at hp; cases hp; rfl
theorem dom_inj {X : KX} {A : Nat → Prop} {h : AH} {dom : List Nat} (hD : va_D A (kws X h dom)) {i j a : Nat} (hi : dom[i]? = some a) (hj : dom[j]? = some a) : i = j := by
  refine hD.1 i j (a, cE X ((h a).getD (.inr (0, [])))) (a, cE X ((h a).getD (.inr (0, [])))) ?_ ?_ rfl
  · rw [kws, List.getElem?_map, hi]; rfl
  · rw [kws, List.getElem?_map, hj]; rfl
theorem kws_set {X : KX} {A : Nat → Prop} {h : AH} {dom : List Nat} {a q : Nat} {e : kE} (hD : va_D A (kws X h dom)) (hq : dom[q]? = some a) : (kws X h dom).set q (a, cE X e) = kws X (kput h a e) dom := by
  refine List.ext_getElem? fun i => ?_
  rw [List.getElem?_set]
  by_cases hi : q = i
  · subst hi
    have hl : q < (kws X h dom).length := by rw [kws_len]; exact (List.getElem?_eq_some_iff.mp hq).1
    rw [if_pos rfl, if_pos hl, kws, List.getElem?_map, hq]
    show _ = some (a, cE X ((kput h a e a).getD _))
    rw [kput_eq]
    rfl
  · rw [if_neg hi, kws, kws, List.getElem?_map, List.getElem?_map]
    cases hd : dom[i]? with
    | none => rfl
    | some b =>
      show some (b, _) = some (b, _)
      have hb : b ≠ a := fun z => hi (dom_inj hD hq (by rw [hd, z]))
      rw [kput_ne hb]
theorem Dom.put {h : AH} {dom : List Nat} {a : Nat} {e0 e : kE} (hD : Dom h dom) (ha : h a = some e0) : Dom (kput h a e) dom := by
  intro b
  by_cases hb : b = a
  · subst hb
    rw [kput_eq, ← hD b, ha]
    exact ⟨fun _ => rfl, fun _ => rfl⟩
  · rw [kput_ne hb]
    exact hD b
theorem Dom.fresh {X : KX} {A : Nat → Prop} {h : AH} {dom : List Nat} {q : Nat} {e : va_E} (hd : Dom h dom) (hD : va_D A (kws X h dom ++ [(q, e)])) : h q = none := by
  cases hq : h q with
  | none => rfl
  | some x =>
    obtain ⟨k, h1, h2⟩ := kws_at (X := X) hd hq
    have hl : k < (kws X h dom).length := (List.getElem?_eq_some_iff.mp h2).1
    have h3 : (kws X h dom ++ [(q, e)])[k]? = some (q, cE X x) := by rw [List.getElem?_append_left hl]; exact h2
    have h4 : (kws X h dom ++ [(q, e)])[(kws X h dom).length]? = some (q, e) := by rw [List.getElem?_append_right (Nat.le_refl _), Nat.sub_self]; rfl
    have := hD.1 _ _ _ _ h3 h4 rfl
    omega
theorem kws_app {X : KX} {h : AH} {dom : List Nat} {q : Nat} {e : kE} (hd : Dom h dom) (hq : h q = none) : kws X h dom ++ [(q, cE X e)] = kws X (kput h q e) (dom ++ [q]) := by
  rw [kws, kws, List.map_append]
  congr 1
  · refine List.map_congr_left fun b hb => ?_
    have hbq : b ≠ q := fun z => by
      have := (hd b).mpr hb
      rw [z, hq] at this
      cases this
    rw [kput_ne hbq]
  · show [(q, cE X e)] = [(q, cE X ((kput h q e q).getD _))]
    rw [kput_eq]
    rfl
theorem Dom.new {h : AH} {dom : List Nat} {q : Nat} {e : kE} (hd : Dom h dom) : Dom (kput h q e) (dom ++ [q]) := by
  intro b
  rw [List.mem_append, List.mem_singleton]
  by_cases hb : b = q
  · subst hb
    rw [kput_eq]
    exact ⟨fun _ => Or.inr rfl, fun _ => rfl⟩
  · rw [kput_ne hb, hd b]
    exact ⟨Or.inl, fun z => z.elim id (fun z => absurd z hb)⟩
def k_strs : List (String × Nat × String × Nat) := [("FiveCards", 66, "stop 8 < hits ; keep 4 < hits ; say hits - leaks - 5 ;", 0), ("FiveCards$Tokens", 73, "hits", 1), ("FiveCards$Tokens", 75, "run", 2), ("FiveCards$Tokens", 77, "all", 3), ("FiveCards$Tokens", 79, "leaks", 4), ("FiveCards$Tokens", 81, "day", 5), ("FiveCards$Tokens", 83, "next", 6), ("FiveCards$Tokens", 85, "stop", 7), ("FiveCards$Tokens", 87, "keep", 8), ("FiveCards$Tokens", 89, "say", 9), ("FiveCards$Tokens", 91, "or", 10), ("FiveCards$Tokens", 93, "and", 11), ("FiveCards$Tokens", 95, "not", 12)]
def k_nests : List (String × Nat × MethodName) := [("FiveCards", 36, ⟨"FiveCards$Tape", "<init>", "()V"⟩), ("FiveCards", 43, ⟨"FiveCards$Reader", "<init>", "()V"⟩), ("FiveCards$Reader", 11, ⟨"FiveCards$Tokens", "<init>", "()V"⟩), ("FiveCards", 50, ⟨"FiveCards$Odds", "<init>", "()V"⟩), ("FiveCards", 65, ⟨"FiveCards$Sheet", "<init>", "()V"⟩), ("FiveCards$Reader", 100, ⟨"FiveCards", "among", "(II)Z"⟩), ("FiveCards$Run", 77, ⟨"FiveCards", "among", "(II)Z"⟩), ("FiveCards", 237, ⟨"FiveCards$Fraction", "<init>", "()V"⟩)]
def k_len : List Nat := [54, 4, 3, 3, 5, 3, 4, 4, 4, 3, 2, 3, 3]
def k_byt : List (List Int32) := [[115, 116, 111, 112, 32, 56, 32, 60, 32, 104, 105, 116, 115, 32, 59, 32, 107, 101, 101, 112, 32, 52, 32, 60, 32, 104, 105, 116, 115, 32, 59, 32, 115, 97, 121, 32, 104, 105, 116, 115, 32, 45, 32, 108, 101, 97, 107, 115, 32, 45, 32, 53, 32, 59], [104, 105, 116, 115], [114, 117, 110], [97, 108, 108], [108, 101, 97, 107, 115], [100, 97, 121], [110, 101, 120, 116], [115, 116, 111, 112], [107, 101, 101, 112], [115, 97, 121], [111, 114], [97, 110, 100], [110, 111, 116]]
def k_under : Nat → Int32 := fun j => match j with
  | 0 => -1
  | 1 => 0
  | 2 => 0
  | 3 => 0
  | 4 => 2
  | _ => 4
def k_weights : Nat → Int32 := fun j => match j with
  | 0 => 1
  | 1 => 2
  | 2 => 1
  | 3 => 4
  | 4 => 2
  | _ => 4
/-- what the start gives of statics, texts and of words that aren't on the tables alone -/
def EFX (X : KX) (A : Nat → Prop) (U : State) : Prop :=
  va_Z RX1 "UNDER" "[I" (.ref (X.2.2.2.1 0)) A U U.heap ∧ va_T .int (X.2.2.2.1 0) 6 (fun j => .int (k_under j)) A U U.heap ∧
  va_Z RX1 "WEIGHTS" "[I" (.ref (X.2.2.2.1 1)) A U U.heap ∧ va_T .int (X.2.2.2.1 1) 6 (fun j => .int (k_weights j)) A U U.heap ∧
  va_Z RJx4a65c "DEFAULTCAPACITY_EMPTY_ELEMENTDATA" "[Ljava/lang/Object;" (.ref (X.2.2.2.1 2)) A U U.heap ∧ va_T (.object "java/lang/Object") (X.2.2.2.1 2) 0 (fun _ => .null) A U U.heap ∧
  va_Z "java/lang/String" "COMPACT_STRINGS" "Z" (.int 1) A U U.heap ∧
  va_Z "jdk/internal/util/Preconditions" "SIOOBE_FORMATTER" "Ljava/util/function/BiFunction;" X.2.2.2.2 A U U.heap ∧
  vk_S 13 k_len k_byt (fun i => X.2.2.2.1 (10 + i)) (fun i => X.2.2.2.1 (30 + i)) A U U.heap ∧
  (∀ q ∈ k_strs, vk_R q.1 q.2.1 q.2.2.1 (X.2.2.2.1 (10 + q.2.2.2)) U) ∧
  (∀ q ∈ k_nests, va_Nw (.methodLinkNest q.1 q.2.1 q.2.2 "FiveCards") U) ∧
  va_Nw (.castable "[I" "java/lang/Cloneable") U ∧ (∀ q ∈ kcl, va_Nw (.castable q.1 "java/lang/Object") U) ∧
  va_AO "FiveCards$Sheet" U ∧ va_AO "java/lang/Object" U ∧ va_Mi "[Ljava/lang/Object;" (X.2.2.2.1 3) U ∧ va_Dc U ∧ (X.2.2.2.2 = .null ∨ ∃ t : Nat, X.2.2.2.2 = .ref t)
theorem efx_move {X : KX} {A B : Nat → Prop} {u U : State} (h : EFX X A u) (hW : u.WarmedH U.vm) (hk : ∀ a : Nat, a < u.heap.size → ¬ A a → U.heap[a]? = u.heap[a]?) (hAB : ∀ q, B q → A q) : EFX X B U := by
  obtain ⟨h1, h2, h3, h4, h5, h6, h7, h8, h9, h10, h11, h12, h13, h14, h15, h16, h17, h18⟩ := h
  have hv := hW.alike
  exact ⟨((h1.kept hk).moved hv).narrow hAB, ((h2.kept hk).moved hv).narrow hAB, ((h3.kept hk).moved hv).narrow hAB, ((h4.kept hk).moved hv).narrow hAB, ((h5.kept hk).moved hv).narrow hAB, ((h6.kept hk).moved hv).narrow hAB, ((h7.kept hk).moved hv).narrow hAB, ((h8.kept hk).moved hv).narrow hAB, ((h9.kept hk).moved hv).narrow hAB,
    fun q hq => vk_R.warm hW (h10 q hq), fun q hq => va_Nw.warmM hW (h11 q hq), va_Nw.warmC hW h12, fun q hq => va_Nw.warmC hW (h13 q hq), h14.moved hv, h15.moved hv, h16.moved hv, h17.moved hv, h18⟩
abbrev MX : Type := Program × Env × Room × State × MethodId × Array Value × List Frame × Method × Code × (State → Prop) × (Nat → Prop)
abbrev mE (M : MX) : Env := M.2.1
abbrev mR (M : MX) : Room := M.2.2.1
abbrev mS (M : MX) : State := M.2.2.2.1
abbrev mI (M : MX) : MethodId := M.2.2.2.2.1
abbrev mArgs (M : MX) : Array Value := M.2.2.2.2.2.1
abbrev mBelow (M : MX) : List Frame := M.2.2.2.2.2.2.1
abbrev mMeth (M : MX) : Method := M.2.2.2.2.2.2.2.1
abbrev mC (M : MX) : Code := M.2.2.2.2.2.2.2.2.1
abbrev mQ (M : MX) : State → Prop := M.2.2.2.2.2.2.2.2.2.1
abbrev mA (M : MX) : Nat → Prop := M.2.2.2.2.2.2.2.2.2.2
abbrev WM (X : KX) (M : MX) (H : Heap) (locs : List Loc) (uc us : Nat) (g : JFrame) : Prop := W M.1 X.1 (mE M) (mR M) (mS M) (mI M) (mArgs M) (mBelow M) (mMeth M) (mC M) H locs uc us (mQ M) g
def MOk (X : KX) (M : MX) (y : MethodName) (cc : ByteArray) (nL : Nat) (rt : Option FieldType) : Prop :=
  M.1.tables.exec = Jvm.exec ∧ (mC M).code = cc ∧ (mC M).maxLocals = nL ∧ (mMeth M).sig.returnType = rt ∧ (mMeth M).locks = false ∧ (mMeth M).name = y.name ∧ (mS M).vm.findClass y.cls = some (mI M).cls ∧ (∀ w ∈ BIG, w.before (mArgs M) (mS M) = true) ∧ va_K X.2.1 kcl (ktys X) (mS M) ∧ EFX X (mA M) (mS M) ∧ (∀ q, (mS M).heap.size ≤ q → mA M q)
def AJ (X : KX) (M : MX) (y : MethodName) (cc : ByteArray) (nL : Nat) (rt : Option FieldType) (pc : Nat) (L : List (Nat × Value)) (st : List Value) (h : AH) (uc us : Nat) : Prop :=
  MOk X M y cc nL rt → ∀ (H : Heap) (locs : List Loc) (ls : Array Slot), Rep X (mA M) h H → va_S (mA M) (mS M).heap H locs → lv_has ls nL L → WM X M H locs uc us (F0 (mI M) pc ls st)
def rmd (d kc ks : Nat) : Room := { frames := d, cells := kc, slots := ks, locals := 40 * d }
def fQ (X : KX) (A : Nat → Prop) (Post : Option Value → AH → Prop) : State → Outcome → State → Prop := fun st o t => (∃ (r : Option Value) (h' : AH), o = .returned r ∧ Post r h' ∧ Rep X A h' t.heap) ∧ va_F A st t
def fB (X : KX) (h : AH) (dom : List Nat) (sz : Nat) (U : State) : Prop := U.heap.size = sz ∧ va_P X.2.1 kcl (kws X h dom) U.heap ∧ va_K X.2.1 kcl (ktys X) U ∧ va_D (fun _ => True) (kws X h dom) ∧ EFX X (va_A (kws X h dom) sz) U
def Fn (X : KX) (d kc ks : Nat) (y : MethodName) (cc : ByteArray) (nL : Nat) (rt : Option FieldType) (args : List Value) (h : AH) (Post : Option Value → AH → Prop) : Prop :=
  ∀ (dom : List Nat) (sz : Nat), Dom h dom → Met X.1 y (Cond.code y cc nL rt :: BIG) (rmd d kc ks) (va_Pc args (fB X h dom sz)) (fun _ => fQ X (va_A (kws X h dom) sz) Post) kc ks (va_A (kws X h dom) sz)
def MSp (X : KX) (M : MX) (d kc ks : Nat) (Post : Option Value → AH → Prop) : Prop := mR M = rmd d kc ks ∧ mQ M = MQ (mBelow M) (fun _ => fQ X (mA M) Post) (mArgs M) (mS M) kc ks (mA M)
theorem fn_of {X : KX} {d kc ks : Nat} {y : MethodName} {cc : ByteArray} {nL : Nat} {rt : Option FieldType} {args : List Value} {h : AH} {Post : Option Value → AH → Prop} (hy : plainName y.cls = true) (hn : (lg_sl args).length ≤ nL)
    (body : ∀ M : MX, MSp X M d kc ks Post → AJ X M y cc nL rt 0 (lv_args 0 args) [] h 0 0) : Fn X d kc ks y cc nL rt args h Post := by
  intro dom sz hd
  refine Met.ofW (cc := cc) (maxL := nL) (ret := rt) hy rfl ?_
  intro p e s m ar below meth c s₁ B hml hv
  obtain ⟨rfl, hsz, hP, hK, hD, hE⟩ := hv
  subst hsz
  have hts := atoms_spec (ws := Cond.code y cc nL rt :: BIG) B.pre
  have hb := body (p, e, rmd d kc ks, s, m, args.toArray, below, meth, c, MQ below (fun _ => fQ X (va_A (kws X h dom) s.heap.size) Post) args.toArray s kc ks (va_A (kws X h dom) s.heap.size), va_A (kws X h dom) s.heap.size) ⟨rfl, rfl⟩
    ⟨B.exec, B.bytes, hml, B.returns, B.notSynchronized, (name_of_methodNamed B.named B.method).1, findClass_of_methodNamed B.named, fun w hw => hts w (List.mem_cons_of_mem _ hw), hK, hE, fun q hq => Or.inr hq⟩
    s.heap [] _ ⟨dom, hd, hP, hD.self⟩ va_S.rf (lv_entry args hn)
  rw [lg_entry_eq]
  exact hb
section LAY
variable {X : KX} {M : MX} {y : MethodName} {cc : ByteArray} {nL : Nat} {rt : Option FieldType} {pc : Nat} {L : List (Nat × Value)} {st : List Value} {h : AH} {uc us : Nat}
theorem a_iconst {n : Int} {v : Int32} (hd : decode cc pc = .ok (.iconst n, 1)) (hv : Int32.ofInt n = v) (k : AJ X M y cc nL rt (pc + 1) L (.int v :: st) h uc us) : AJ X M y cc nL rt pc L st h uc us := fun ok H locs ls hR hS hL => lv_iconst ok.1 ok.2.1 hd hv (k ok H locs ls hR hS hL)
theorem a_bipush {n : Int} {v : Int32} (hd : decode cc pc = .ok (.bipush n, 2)) (hv : (Int8.ofInt n).toInt32 = v) (k : AJ X M y cc nL rt (pc + 2) L (.int v :: st) h uc us) : AJ X M y cc nL rt pc L st h uc us := fun ok H locs ls hR hS hL => lv_bipush ok.1 ok.2.1 hd hv (k ok H locs ls hR hS hL)
theorem a_sipush {n : Int} {v : Int32} (hd : decode cc pc = .ok (.sipush n, 3)) (hv : (Int16.ofInt n).toInt32 = v) (k : AJ X M y cc nL rt (pc + 3) L (.int v :: st) h uc us) : AJ X M y cc nL rt pc L st h uc us := fun ok H locs ls hR hS hL => lv_sipush ok.1 ok.2.1 hd hv (k ok H locs ls hR hS hL)
theorem a_lconst {n : Fin 2} {v : Int64} (hd : decode cc pc = .ok (.lconst n, 1)) (hv : Int64.ofNat (n : Nat) = v) (k : AJ X M y cc nL rt (pc + 1) L (.long v :: st) h uc us) : AJ X M y cc nL rt pc L st h uc us := fun ok H locs ls hR hS hL => lv_lconst ok.1 ok.2.1 hd hv (k ok H locs ls hR hS hL)
theorem a_null  (hd : decode cc pc = .ok (.aconst_null, 1))  (k : AJ X M y cc nL rt (pc + 1) L (.null :: st) h uc us) : AJ X M y cc nL rt pc L st h uc us := fun ok H locs ls hR hS hL => lv_null ok.1 ok.2.1 hd (k ok H locs ls hR hS hL)
theorem lk_in {L : List (Nat × Value)} {i : Nat} {v : Value} (h : L.lookup i = some v) : (i, v) ∈ L := by
  induction L with
  | nil => cases h
  | cons q l ih =>
    obtain ⟨j, w⟩ := q
    rw [List.lookup_cons] at h
    by_cases hj : i = j
    · subst hj
      simp at h
      subst h
      exact List.mem_cons_self
    · have hb : (i == j) = false := by simpa using hj
      rw [hb] at h
      exact List.mem_cons_of_mem _ (ih h)
theorem a_iload_n {i : Nat} {k0 : Fin 4} {x : Int32} (hd : decode cc pc = .ok (.iload_n k0, 1)) (hi : (k0 : Nat) = i) (hl : L.lookup i = some (.int x)) (k : AJ X M y cc nL rt (pc + 1) L (.int x :: st) h uc us) : AJ X M y cc nL rt pc L st h uc us := fun ok H locs ls hR hS hL => lv_iload_n ok.1 ok.2.1 hd hi (hL.2.2 _ (lk_in hl)) (k ok H locs ls hR hS hL)
theorem a_iload {i : Nat} {x : Int32} (hd : decode cc pc = .ok (.iload i, 2))  (hl : L.lookup i = some (.int x)) (k : AJ X M y cc nL rt (pc + 2) L (.int x :: st) h uc us) : AJ X M y cc nL rt pc L st h uc us := fun ok H locs ls hR hS hL => lv_iload ok.1 ok.2.1 hd  (hL.2.2 _ (lk_in hl)) (k ok H locs ls hR hS hL)
theorem a_lload_n {i : Nat} {k0 : Fin 4} {x : Int64} (hd : decode cc pc = .ok (.lload_n k0, 1)) (hi : (k0 : Nat) = i) (hl : L.lookup i = some (.long x)) (k : AJ X M y cc nL rt (pc + 1) L (.long x :: st) h uc us) : AJ X M y cc nL rt pc L st h uc us := fun ok H locs ls hR hS hL => lv_lload_n ok.1 ok.2.1 hd hi (hL.2.2 _ (lk_in hl)) (k ok H locs ls hR hS hL)
theorem a_lload {i : Nat} {x : Int64} (hd : decode cc pc = .ok (.lload i, 2))  (hl : L.lookup i = some (.long x)) (k : AJ X M y cc nL rt (pc + 2) L (.long x :: st) h uc us) : AJ X M y cc nL rt pc L st h uc us := fun ok H locs ls hR hS hL => lv_lload ok.1 ok.2.1 hd  (hL.2.2 _ (lk_in hl)) (k ok H locs ls hR hS hL)
theorem a_aload_n {i : Nat} {k0 : Fin 4} {x : Nat} (hd : decode cc pc = .ok (.aload_n k0, 1)) (hi : (k0 : Nat) = i) (hl : L.lookup i = some (.ref x)) (k : AJ X M y cc nL rt (pc + 1) L (.ref x :: st) h uc us) : AJ X M y cc nL rt pc L st h uc us := fun ok H locs ls hR hS hL => lv_aload_n ok.1 ok.2.1 hd hi (hL.2.2 _ (lk_in hl)) (k ok H locs ls hR hS hL)
theorem a_aload {i : Nat} {x : Nat} (hd : decode cc pc = .ok (.aload i, 2))  (hl : L.lookup i = some (.ref x)) (k : AJ X M y cc nL rt (pc + 2) L (.ref x :: st) h uc us) : AJ X M y cc nL rt pc L st h uc us := fun ok H locs ls hR hS hL => lv_aload ok.1 ok.2.1 hd  (hL.2.2 _ (lk_in hl)) (k ok H locs ls hR hS hL)
theorem a_aload_nN {i : Nat} {k0 : Fin 4} (hd : decode cc pc = .ok (.aload_n k0, 1)) (hi : (k0 : Nat) = i) (hl : L.lookup i = some (.null)) (k : AJ X M y cc nL rt (pc + 1) L (.null :: st) h uc us) : AJ X M y cc nL rt pc L st h uc us := fun ok H locs ls hR hS hL => lv_aload_nN ok.1 ok.2.1 hd hi (hL.2.2 _ (lk_in hl)) (k ok H locs ls hR hS hL)
theorem a_aloadN {i : Nat}  (hd : decode cc pc = .ok (.aload i, 2))  (hl : L.lookup i = some (.null)) (k : AJ X M y cc nL rt (pc + 2) L (.null :: st) h uc us) : AJ X M y cc nL rt pc L st h uc us := fun ok H locs ls hR hS hL => lv_aloadN ok.1 ok.2.1 hd  (hL.2.2 _ (lk_in hl)) (k ok H locs ls hR hS hL)
abbrev lset1 (L : List (Nat × Value)) (i : Nat) (v : Value) : List (Nat × Value) := (i, v) :: L.filter (fun q => !(q.1 == i) && !(q.1 + 1 == i && q.2.category == 2))
abbrev lset2 (L : List (Nat × Value)) (i : Nat) (v : Value) : List (Nat × Value) := (i, v) :: L.filter (fun q => !(q.1 == i) && (!(q.1 == i + 1) && !(q.1 + 1 == i && q.2.category == 2)))
theorem a_istore_n {i : Nat} {k0 : Fin 4} {x : Int32} {L1 : List (Nat × Value)} (hd : decode cc pc = .ok (.istore_n k0, 1)) (hi : (k0 : Nat) = i) (hn : i < nL) (hl : lset1 L i (.int x) = L1) (k : AJ X M y cc nL rt (pc + 1) L1 st h uc us) : AJ X M y cc nL rt pc L (.int x :: st) h uc us := fun ok H locs ls hR hS hL => lv_istore_n ok.1 ok.2.1 hd hi hL hn hl (fun ls1 hL1 => k ok H locs ls1 hR hS hL1)
theorem a_istore {i : Nat} {x : Int32} {L1 : List (Nat × Value)} (hd : decode cc pc = .ok (.istore i, 2))  (hn : i < nL) (hl : lset1 L i (.int x) = L1) (k : AJ X M y cc nL rt (pc + 2) L1 st h uc us) : AJ X M y cc nL rt pc L (.int x :: st) h uc us := fun ok H locs ls hR hS hL => lv_istore ok.1 ok.2.1 hd  hL hn hl (fun ls1 hL1 => k ok H locs ls1 hR hS hL1)
theorem a_lstore_n {i : Nat} {k0 : Fin 4} {x : Int64} {L1 : List (Nat × Value)} (hd : decode cc pc = .ok (.lstore_n k0, 1)) (hi : (k0 : Nat) = i) (hn : i + 1 < nL) (hl : lset2 L i (.long x) = L1) (k : AJ X M y cc nL rt (pc + 1) L1 st h uc us) : AJ X M y cc nL rt pc L (.long x :: st) h uc us := fun ok H locs ls hR hS hL => lv_lstore_n ok.1 ok.2.1 hd hi hL hn hl (fun ls1 hL1 => k ok H locs ls1 hR hS hL1)
theorem a_lstore {i : Nat} {x : Int64} {L1 : List (Nat × Value)} (hd : decode cc pc = .ok (.lstore i, 2))  (hn : i + 1 < nL) (hl : lset2 L i (.long x) = L1) (k : AJ X M y cc nL rt (pc + 2) L1 st h uc us) : AJ X M y cc nL rt pc L (.long x :: st) h uc us := fun ok H locs ls hR hS hL => lv_lstore ok.1 ok.2.1 hd  hL hn hl (fun ls1 hL1 => k ok H locs ls1 hR hS hL1)
theorem a_astore_n {i : Nat} {k0 : Fin 4} {x : Nat} {L1 : List (Nat × Value)} (hd : decode cc pc = .ok (.astore_n k0, 1)) (hi : (k0 : Nat) = i) (hn : i < nL) (hl : lset1 L i (.ref x) = L1) (k : AJ X M y cc nL rt (pc + 1) L1 st h uc us) : AJ X M y cc nL rt pc L (.ref x :: st) h uc us := fun ok H locs ls hR hS hL => lv_astore_n ok.1 ok.2.1 hd hi hL hn hl (fun ls1 hL1 => k ok H locs ls1 hR hS hL1)
theorem a_astore {i : Nat} {x : Nat} {L1 : List (Nat × Value)} (hd : decode cc pc = .ok (.astore i, 2))  (hn : i < nL) (hl : lset1 L i (.ref x) = L1) (k : AJ X M y cc nL rt (pc + 2) L1 st h uc us) : AJ X M y cc nL rt pc L (.ref x :: st) h uc us := fun ok H locs ls hR hS hL => lv_astore ok.1 ok.2.1 hd  hL hn hl (fun ls1 hL1 => k ok H locs ls1 hR hS hL1)
theorem a_astore_nN {i : Nat} {k0 : Fin 4} {L1 : List (Nat × Value)} (hd : decode cc pc = .ok (.astore_n k0, 1)) (hi : (k0 : Nat) = i) (hn : i < nL) (hl : lset1 L i (.null) = L1) (k : AJ X M y cc nL rt (pc + 1) L1 st h uc us) : AJ X M y cc nL rt pc L (.null :: st) h uc us := fun ok H locs ls hR hS hL => lv_astore_nN ok.1 ok.2.1 hd hi hL hn hl (fun ls1 hL1 => k ok H locs ls1 hR hS hL1)
theorem a_astoreN {i : Nat}  {L1 : List (Nat × Value)} (hd : decode cc pc = .ok (.astore i, 2))  (hn : i < nL) (hl : lset1 L i (.null) = L1) (k : AJ X M y cc nL rt (pc + 2) L1 st h uc us) : AJ X M y cc nL rt pc L (.null :: st) h uc us := fun ok H locs ls hR hS hL => lv_astoreN ok.1 ok.2.1 hd  hL hn hl (fun ls1 hL1 => k ok H locs ls1 hR hS hL1)
theorem a_iinc {i : Nat} {n : Int} {x v : Int32} {L1 : List (Nat × Value)} (hd : decode cc pc = .ok (.iinc i n, 3)) (hk : L.lookup i = some (.int x)) (hv : x + Int32.ofInt n = v) (hn : i < nL) (hl : lset1 L i (.int v) = L1) (k : AJ X M y cc nL rt (pc + 3) L1 st h uc us) : AJ X M y cc nL rt pc L st h uc us := fun ok H locs ls hR hS hL => by
  obtain ⟨j, hj⟩ := List.getElem?_of_mem (lk_in hk)
  exact lv_iinc ok.1 ok.2.1 hd hL hj hv hn hl (fun ls1 hL1 => k ok H locs ls1 hR hS hL1)
theorem a_iadd {a b : Int32} (hd : decode cc pc = .ok (.iadd, 1))  (k : AJ X M y cc nL rt (pc + 1) L (.int (a + b) :: st) h uc us) : AJ X M y cc nL rt pc L (.int b :: .int a :: st) h uc us := fun ok H locs ls hR hS hL => lv_iadd ok.1 ok.2.1 hd (k ok H locs ls hR hS hL)
theorem a_isub {a b : Int32} (hd : decode cc pc = .ok (.isub, 1))  (k : AJ X M y cc nL rt (pc + 1) L (.int (a - b) :: st) h uc us) : AJ X M y cc nL rt pc L (.int b :: .int a :: st) h uc us := fun ok H locs ls hR hS hL => lv_isub ok.1 ok.2.1 hd (k ok H locs ls hR hS hL)
theorem a_imul {a b : Int32} (hd : decode cc pc = .ok (.imul, 1))  (k : AJ X M y cc nL rt (pc + 1) L (.int (a * b) :: st) h uc us) : AJ X M y cc nL rt pc L (.int b :: .int a :: st) h uc us := fun ok H locs ls hR hS hL => lv_imul ok.1 ok.2.1 hd (k ok H locs ls hR hS hL)
theorem a_iand {a b : Int32} (hd : decode cc pc = .ok (.iand, 1))  (k : AJ X M y cc nL rt (pc + 1) L (.int (a &&& b) :: st) h uc us) : AJ X M y cc nL rt pc L (.int b :: .int a :: st) h uc us := fun ok H locs ls hR hS hL => lv_iand ok.1 ok.2.1 hd (k ok H locs ls hR hS hL)
theorem a_ior {a b : Int32} (hd : decode cc pc = .ok (.ior, 1))  (k : AJ X M y cc nL rt (pc + 1) L (.int (a ||| b) :: st) h uc us) : AJ X M y cc nL rt pc L (.int b :: .int a :: st) h uc us := fun ok H locs ls hR hS hL => lv_ior ok.1 ok.2.1 hd (k ok H locs ls hR hS hL)
theorem a_ixor {a b : Int32} (hd : decode cc pc = .ok (.ixor, 1))  (k : AJ X M y cc nL rt (pc + 1) L (.int (a ^^^ b) :: st) h uc us) : AJ X M y cc nL rt pc L (.int b :: .int a :: st) h uc us := fun ok H locs ls hR hS hL => lv_ixor ok.1 ok.2.1 hd (k ok H locs ls hR hS hL)
theorem a_ishl {a b : Int32} (hd : decode cc pc = .ok (.ishl, 1))  (k : AJ X M y cc nL rt (pc + 1) L (.int (a <<< (b &&& 31)) :: st) h uc us) : AJ X M y cc nL rt pc L (.int b :: .int a :: st) h uc us := fun ok H locs ls hR hS hL => lv_ishl ok.1 ok.2.1 hd (k ok H locs ls hR hS hL)
theorem a_ishr {a b : Int32} (hd : decode cc pc = .ok (.ishr, 1))  (k : AJ X M y cc nL rt (pc + 1) L (.int (a >>> (b &&& 31)) :: st) h uc us) : AJ X M y cc nL rt pc L (.int b :: .int a :: st) h uc us := fun ok H locs ls hR hS hL => lv_ishr ok.1 ok.2.1 hd (k ok H locs ls hR hS hL)
theorem a_idiv {a b : Int32} (hd : decode cc pc = .ok (.idiv, 1)) (hne : ¬ b = 0) (k : AJ X M y cc nL rt (pc + 1) L (.int (a / b) :: st) h uc us) : AJ X M y cc nL rt pc L (.int b :: .int a :: st) h uc us := fun ok H locs ls hR hS hL => lv_idiv ok.1 ok.2.1 hd hne (k ok H locs ls hR hS hL)
theorem a_irem {a b : Int32} (hd : decode cc pc = .ok (.irem, 1)) (hne : ¬ b = 0) (k : AJ X M y cc nL rt (pc + 1) L (.int (a - a / b * b) :: st) h uc us) : AJ X M y cc nL rt pc L (.int b :: .int a :: st) h uc us := fun ok H locs ls hR hS hL => lv_irem ok.1 ok.2.1 hd hne (k ok H locs ls hR hS hL)
theorem a_ineg {a : Int32} (hd : decode cc pc = .ok (.ineg, 1))  (k : AJ X M y cc nL rt (pc + 1) L (.int (-a) :: st) h uc us) : AJ X M y cc nL rt pc L (.int a :: st) h uc us := fun ok H locs ls hR hS hL => lv_ineg ok.1 ok.2.1 hd (k ok H locs ls hR hS hL)
theorem a_ladd {a b : Int64} (hd : decode cc pc = .ok (.ladd, 1))  (k : AJ X M y cc nL rt (pc + 1) L (.long (a + b) :: st) h uc us) : AJ X M y cc nL rt pc L (.long b :: .long a :: st) h uc us := fun ok H locs ls hR hS hL => lv_ladd ok.1 ok.2.1 hd (k ok H locs ls hR hS hL)
theorem a_lsub {a b : Int64} (hd : decode cc pc = .ok (.lsub, 1))  (k : AJ X M y cc nL rt (pc + 1) L (.long (a - b) :: st) h uc us) : AJ X M y cc nL rt pc L (.long b :: .long a :: st) h uc us := fun ok H locs ls hR hS hL => lv_lsub ok.1 ok.2.1 hd (k ok H locs ls hR hS hL)
theorem a_lmul {a b : Int64} (hd : decode cc pc = .ok (.lmul, 1))  (k : AJ X M y cc nL rt (pc + 1) L (.long (a * b) :: st) h uc us) : AJ X M y cc nL rt pc L (.long b :: .long a :: st) h uc us := fun ok H locs ls hR hS hL => lv_lmul ok.1 ok.2.1 hd (k ok H locs ls hR hS hL)
theorem a_land {a b : Int64} (hd : decode cc pc = .ok (.land, 1))  (k : AJ X M y cc nL rt (pc + 1) L (.long (a &&& b) :: st) h uc us) : AJ X M y cc nL rt pc L (.long b :: .long a :: st) h uc us := fun ok H locs ls hR hS hL => lv_land ok.1 ok.2.1 hd (k ok H locs ls hR hS hL)
theorem a_lor {a b : Int64} (hd : decode cc pc = .ok (.lor, 1))  (k : AJ X M y cc nL rt (pc + 1) L (.long (a ||| b) :: st) h uc us) : AJ X M y cc nL rt pc L (.long b :: .long a :: st) h uc us := fun ok H locs ls hR hS hL => lv_lor ok.1 ok.2.1 hd (k ok H locs ls hR hS hL)
theorem a_ldiv {a b : Int64} (hd : decode cc pc = .ok (.ldiv, 1)) (hne : ¬ b = 0) (k : AJ X M y cc nL rt (pc + 1) L (.long (a / b) :: st) h uc us) : AJ X M y cc nL rt pc L (.long b :: .long a :: st) h uc us := fun ok H locs ls hR hS hL => lv_ldiv ok.1 ok.2.1 hd hne (k ok H locs ls hR hS hL)
theorem a_lrem {a b : Int64} (hd : decode cc pc = .ok (.lrem, 1)) (hne : ¬ b = 0) (k : AJ X M y cc nL rt (pc + 1) L (.long (a - a / b * b) :: st) h uc us) : AJ X M y cc nL rt pc L (.long b :: .long a :: st) h uc us := fun ok H locs ls hR hS hL => lv_lrem ok.1 ok.2.1 hd hne (k ok H locs ls hR hS hL)
theorem a_lneg {a : Int64} (hd : decode cc pc = .ok (.lneg, 1))  (k : AJ X M y cc nL rt (pc + 1) L (.long (-a) :: st) h uc us) : AJ X M y cc nL rt pc L (.long a :: st) h uc us := fun ok H locs ls hR hS hL => lv_lneg ok.1 ok.2.1 hd (k ok H locs ls hR hS hL)
theorem a_lshl {a : Int64} {b : Int32} (hd : decode cc pc = .ok (.lshl, 1))  (k : AJ X M y cc nL rt (pc + 1) L (.long (a <<< (b.toInt64 &&& 63)) :: st) h uc us) : AJ X M y cc nL rt pc L (.int b :: .long a :: st) h uc us := fun ok H locs ls hR hS hL => lv_lshl ok.1 ok.2.1 hd rfl (k ok H locs ls hR hS hL)
theorem a_lshr {a : Int64} {b : Int32} (hd : decode cc pc = .ok (.lshr, 1))  (k : AJ X M y cc nL rt (pc + 1) L (.long (a >>> (b.toInt64 &&& 63)) :: st) h uc us) : AJ X M y cc nL rt pc L (.int b :: .long a :: st) h uc us := fun ok H locs ls hR hS hL => lv_lshr ok.1 ok.2.1 hd rfl (k ok H locs ls hR hS hL)
theorem a_lushr {a : Int64} {b : Int32} (hd : decode cc pc = .ok (.lushr, 1))  (k : AJ X M y cc nL rt (pc + 1) L (.long (a.toUInt64 >>> (b.toInt64.toUInt64 &&& Int64.toUInt64 63)).toInt64 :: st) h uc us) : AJ X M y cc nL rt pc L (.int b :: .long a :: st) h uc us := fun ok H locs ls hR hS hL => lv_lushr ok.1 ok.2.1 hd rfl (k ok H locs ls hR hS hL)
theorem a_lcmp {a b : Int64} (hd : decode cc pc = .ok (.lcmp, 1))  (k : AJ X M y cc nL rt (pc + 1) L (.int (lg_cmp a b) :: st) h uc us) : AJ X M y cc nL rt pc L (.long b :: .long a :: st) h uc us := fun ok H locs ls hR hS hL => W.lcmp ok.1 ok.2.1 hd (k ok H locs ls hR hS hL)
theorem a_i2l {a : Int32} (hd : decode cc pc = .ok (.i2l, 1))  (k : AJ X M y cc nL rt (pc + 1) L (.long a.toInt64 :: st) h uc us) : AJ X M y cc nL rt pc L (.int a :: st) h uc us := fun ok H locs ls hR hS hL => lv_i2l ok.1 ok.2.1 hd rfl (k ok H locs ls hR hS hL)
theorem a_l2i {a : Int64} (hd : decode cc pc = .ok (.l2i, 1))  (k : AJ X M y cc nL rt (pc + 1) L (.int a.toInt32 :: st) h uc us) : AJ X M y cc nL rt pc L (.long a :: st) h uc us := fun ok H locs ls hR hS hL => lv_l2i ok.1 ok.2.1 hd rfl (k ok H locs ls hR hS hL)
theorem a_i2b {a : Int32} (hd : decode cc pc = .ok (.i2b, 1))  (k : AJ X M y cc nL rt (pc + 1) L (.int a.toInt8.toInt32 :: st) h uc us) : AJ X M y cc nL rt pc L (.int a :: st) h uc us := fun ok H locs ls hR hS hL => lv_i2b ok.1 ok.2.1 hd rfl (k ok H locs ls hR hS hL)
theorem a_i2s {a : Int32} (hd : decode cc pc = .ok (.i2s, 1))  (k : AJ X M y cc nL rt (pc + 1) L (.int a.toInt16.toInt32 :: st) h uc us) : AJ X M y cc nL rt pc L (.int a :: st) h uc us := fun ok H locs ls hR hS hL => lv_i2s ok.1 ok.2.1 hd rfl (k ok H locs ls hR hS hL)
theorem a_i2c {a : Int32} (hd : decode cc pc = .ok (.i2c, 1))  (k : AJ X M y cc nL rt (pc + 1) L (.int (a.toUInt32 % 65536).toInt32 :: st) h uc us) : AJ X M y cc nL rt pc L (.int a :: st) h uc us := fun ok H locs ls hR hS hL => lv_i2c ok.1 ok.2.1 hd rfl (k ok H locs ls hR hS hL)
theorem a_dup {v : Value} (hd : decode cc pc = .ok (.dup, 1)) (hv : v.category = 1) (k : AJ X M y cc nL rt (pc + 1) L (v :: v :: st) h uc us) : AJ X M y cc nL rt pc L (v :: st) h uc us := fun ok H locs ls hR hS hL => lv_dup ok.1 ok.2.1 hd hv (k ok H locs ls hR hS hL)
theorem a_pop {v : Value} (hd : decode cc pc = .ok (.pop, 1)) (hv : v.category = 1) (k : AJ X M y cc nL rt (pc + 1) L st h uc us) : AJ X M y cc nL rt pc L (v :: st) h uc us := fun ok H locs ls hR hS hL => lv_pop ok.1 ok.2.1 hd hv (k ok H locs ls hR hS hL)
theorem a_dup2 {v w : Value} (hd : decode cc pc = .ok (.dup2, 1)) (hv : v.category = 1) (hw : w.category = 1) (k : AJ X M y cc nL rt (pc + 1) L (v :: w :: v :: w :: st) h uc us) : AJ X M y cc nL rt pc L (v :: w :: st) h uc us := fun ok H locs ls hR hS hL => lv_dup2_11 ok.1 ok.2.1 hd hv hw (k ok H locs ls hR hS hL)
theorem a_dup_x1 {v w : Value} (hd : decode cc pc = .ok (.dup_x1, 1)) (hv : v.category = 1) (hw : w.category = 1) (k : AJ X M y cc nL rt (pc + 1) L (v :: w :: v :: st) h uc us) : AJ X M y cc nL rt pc L (v :: w :: st) h uc us := fun ok H locs ls hR hS hL => lv_dup_x1 ok.1 ok.2.1 hd hv hw (k ok H locs ls hR hS hL)
theorem a_goto {off : Int} {tgt : Nat} (hd : decode cc pc = .ok (.goto off, 3)) (ht : (pc : Int) + off = (tgt : Int)) (k : AJ X M y cc nL rt tgt L st h uc us) : AJ X M y cc nL rt pc L st h uc us := fun ok H locs ls hR hS hL => lv_goto ok.1 ok.2.1 hd ht (k ok H locs ls hR hS hL)
theorem a_if_eq {a : Int32} {off : Int} {tgt : Nat} (hd : decode cc pc = .ok (.ifCond .eq off, 3)) (ht : (pc : Int) + off = (tgt : Int)) (kt : a = 0 → AJ X M y cc nL rt tgt L st h uc us) (kf : ¬ a = 0 → AJ X M y cc nL rt (pc + 3) L st h uc us) : AJ X M y cc nL rt pc L (.int a :: st) h uc us := fun ok H locs ls hR hS hL => lv_if_eq ok.1 ok.2.1 hd ht (fun c => kt c ok H locs ls hR hS hL) (fun c => kf c ok H locs ls hR hS hL)
theorem a_if_eq_t {a : Int32} {off : Int} {tgt : Nat} (hd : decode cc pc = .ok (.ifCond .eq off, 3)) (ht : (pc : Int) + off = (tgt : Int)) (hc : a = 0) (kt : AJ X M y cc nL rt tgt L st h uc us) : AJ X M y cc nL rt pc L (.int a :: st) h uc us := a_if_eq hd ht (fun _ => kt) (fun c => absurd hc c)
theorem a_if_eq_f {a : Int32} {off : Int} {tgt : Nat} (hd : decode cc pc = .ok (.ifCond .eq off, 3)) (ht : (pc : Int) + off = (tgt : Int)) (hc : ¬ a = 0) (kf : AJ X M y cc nL rt (pc + 3) L st h uc us) : AJ X M y cc nL rt pc L (.int a :: st) h uc us := a_if_eq hd ht (fun c => absurd c hc) (fun _ => kf)
theorem a_icmp_eq {a b : Int32} {off : Int} {tgt : Nat} (hd : decode cc pc = .ok (.if_icmp .eq off, 3)) (ht : (pc : Int) + off = (tgt : Int)) (kt : a = b → AJ X M y cc nL rt tgt L st h uc us) (kf : ¬ a = b → AJ X M y cc nL rt (pc + 3) L st h uc us) : AJ X M y cc nL rt pc L (.int b :: .int a :: st) h uc us := fun ok H locs ls hR hS hL => lv_icmp_eq ok.1 ok.2.1 hd ht (fun c => kt c ok H locs ls hR hS hL) (fun c => kf c ok H locs ls hR hS hL)
theorem a_icmp_eq_t {a b : Int32} {off : Int} {tgt : Nat} (hd : decode cc pc = .ok (.if_icmp .eq off, 3)) (ht : (pc : Int) + off = (tgt : Int)) (hc : a = b) (kt : AJ X M y cc nL rt tgt L st h uc us) : AJ X M y cc nL rt pc L (.int b :: .int a :: st) h uc us := a_icmp_eq hd ht (fun _ => kt) (fun c => absurd hc c)
theorem a_icmp_eq_f {a b : Int32} {off : Int} {tgt : Nat} (hd : decode cc pc = .ok (.if_icmp .eq off, 3)) (ht : (pc : Int) + off = (tgt : Int)) (hc : ¬ a = b) (kf : AJ X M y cc nL rt (pc + 3) L st h uc us) : AJ X M y cc nL rt pc L (.int b :: .int a :: st) h uc us := a_icmp_eq hd ht (fun c => absurd c hc) (fun _ => kf)
theorem a_if_ne {a : Int32} {off : Int} {tgt : Nat} (hd : decode cc pc = .ok (.ifCond .ne off, 3)) (ht : (pc : Int) + off = (tgt : Int)) (kt : ¬ a = 0 → AJ X M y cc nL rt tgt L st h uc us) (kf : a = 0 → AJ X M y cc nL rt (pc + 3) L st h uc us) : AJ X M y cc nL rt pc L (.int a :: st) h uc us := fun ok H locs ls hR hS hL => lv_if_ne ok.1 ok.2.1 hd ht (fun c => kt c ok H locs ls hR hS hL) (fun c => kf c ok H locs ls hR hS hL)
theorem a_if_ne_t {a : Int32} {off : Int} {tgt : Nat} (hd : decode cc pc = .ok (.ifCond .ne off, 3)) (ht : (pc : Int) + off = (tgt : Int)) (hc : ¬ a = 0) (kt : AJ X M y cc nL rt tgt L st h uc us) : AJ X M y cc nL rt pc L (.int a :: st) h uc us := a_if_ne hd ht (fun _ => kt) (fun c => absurd c hc)
theorem a_if_ne_f {a : Int32} {off : Int} {tgt : Nat} (hd : decode cc pc = .ok (.ifCond .ne off, 3)) (ht : (pc : Int) + off = (tgt : Int)) (hc : a = 0) (kf : AJ X M y cc nL rt (pc + 3) L st h uc us) : AJ X M y cc nL rt pc L (.int a :: st) h uc us := a_if_ne hd ht (fun c => absurd c (fun z => z hc)) (fun _ => kf)
theorem a_icmp_ne {a b : Int32} {off : Int} {tgt : Nat} (hd : decode cc pc = .ok (.if_icmp .ne off, 3)) (ht : (pc : Int) + off = (tgt : Int)) (kt : ¬ a = b → AJ X M y cc nL rt tgt L st h uc us) (kf : a = b → AJ X M y cc nL rt (pc + 3) L st h uc us) : AJ X M y cc nL rt pc L (.int b :: .int a :: st) h uc us := fun ok H locs ls hR hS hL => lv_icmp_ne ok.1 ok.2.1 hd ht (fun c => kt c ok H locs ls hR hS hL) (fun c => kf c ok H locs ls hR hS hL)
theorem a_icmp_ne_t {a b : Int32} {off : Int} {tgt : Nat} (hd : decode cc pc = .ok (.if_icmp .ne off, 3)) (ht : (pc : Int) + off = (tgt : Int)) (hc : ¬ a = b) (kt : AJ X M y cc nL rt tgt L st h uc us) : AJ X M y cc nL rt pc L (.int b :: .int a :: st) h uc us := a_icmp_ne hd ht (fun _ => kt) (fun c => absurd c hc)
theorem a_icmp_ne_f {a b : Int32} {off : Int} {tgt : Nat} (hd : decode cc pc = .ok (.if_icmp .ne off, 3)) (ht : (pc : Int) + off = (tgt : Int)) (hc : a = b) (kf : AJ X M y cc nL rt (pc + 3) L st h uc us) : AJ X M y cc nL rt pc L (.int b :: .int a :: st) h uc us := a_icmp_ne hd ht (fun c => absurd c (fun z => z hc)) (fun _ => kf)
theorem a_if_lt {a : Int32} {off : Int} {tgt : Nat} (hd : decode cc pc = .ok (.ifCond .lt off, 3)) (ht : (pc : Int) + off = (tgt : Int)) (kt : a < 0 → AJ X M y cc nL rt tgt L st h uc us) (kf : ¬ a < 0 → AJ X M y cc nL rt (pc + 3) L st h uc us) : AJ X M y cc nL rt pc L (.int a :: st) h uc us := fun ok H locs ls hR hS hL => lv_if_lt ok.1 ok.2.1 hd ht (fun c => kt c ok H locs ls hR hS hL) (fun c => kf c ok H locs ls hR hS hL)
theorem a_if_lt_t {a : Int32} {off : Int} {tgt : Nat} (hd : decode cc pc = .ok (.ifCond .lt off, 3)) (ht : (pc : Int) + off = (tgt : Int)) (hc : a < 0) (kt : AJ X M y cc nL rt tgt L st h uc us) : AJ X M y cc nL rt pc L (.int a :: st) h uc us := a_if_lt hd ht (fun _ => kt) (fun c => absurd hc c)
theorem a_if_lt_f {a : Int32} {off : Int} {tgt : Nat} (hd : decode cc pc = .ok (.ifCond .lt off, 3)) (ht : (pc : Int) + off = (tgt : Int)) (hc : ¬ a < 0) (kf : AJ X M y cc nL rt (pc + 3) L st h uc us) : AJ X M y cc nL rt pc L (.int a :: st) h uc us := a_if_lt hd ht (fun c => absurd c hc) (fun _ => kf)
theorem a_icmp_lt {a b : Int32} {off : Int} {tgt : Nat} (hd : decode cc pc = .ok (.if_icmp .lt off, 3)) (ht : (pc : Int) + off = (tgt : Int)) (kt : a < b → AJ X M y cc nL rt tgt L st h uc us) (kf : ¬ a < b → AJ X M y cc nL rt (pc + 3) L st h uc us) : AJ X M y cc nL rt pc L (.int b :: .int a :: st) h uc us := fun ok H locs ls hR hS hL => lv_icmp_lt ok.1 ok.2.1 hd ht (fun c => kt c ok H locs ls hR hS hL) (fun c => kf c ok H locs ls hR hS hL)
theorem a_icmp_lt_t {a b : Int32} {off : Int} {tgt : Nat} (hd : decode cc pc = .ok (.if_icmp .lt off, 3)) (ht : (pc : Int) + off = (tgt : Int)) (hc : a < b) (kt : AJ X M y cc nL rt tgt L st h uc us) : AJ X M y cc nL rt pc L (.int b :: .int a :: st) h uc us := a_icmp_lt hd ht (fun _ => kt) (fun c => absurd hc c)
theorem a_icmp_lt_f {a b : Int32} {off : Int} {tgt : Nat} (hd : decode cc pc = .ok (.if_icmp .lt off, 3)) (ht : (pc : Int) + off = (tgt : Int)) (hc : ¬ a < b) (kf : AJ X M y cc nL rt (pc + 3) L st h uc us) : AJ X M y cc nL rt pc L (.int b :: .int a :: st) h uc us := a_icmp_lt hd ht (fun c => absurd c hc) (fun _ => kf)
theorem a_if_ge {a : Int32} {off : Int} {tgt : Nat} (hd : decode cc pc = .ok (.ifCond .ge off, 3)) (ht : (pc : Int) + off = (tgt : Int)) (kt : 0 ≤ a → AJ X M y cc nL rt tgt L st h uc us) (kf : ¬ 0 ≤ a → AJ X M y cc nL rt (pc + 3) L st h uc us) : AJ X M y cc nL rt pc L (.int a :: st) h uc us := fun ok H locs ls hR hS hL => lv_if_ge ok.1 ok.2.1 hd ht (fun c => kt c ok H locs ls hR hS hL) (fun c => kf c ok H locs ls hR hS hL)
theorem a_if_ge_t {a : Int32} {off : Int} {tgt : Nat} (hd : decode cc pc = .ok (.ifCond .ge off, 3)) (ht : (pc : Int) + off = (tgt : Int)) (hc : 0 ≤ a) (kt : AJ X M y cc nL rt tgt L st h uc us) : AJ X M y cc nL rt pc L (.int a :: st) h uc us := a_if_ge hd ht (fun _ => kt) (fun c => absurd hc c)
theorem a_if_ge_f {a : Int32} {off : Int} {tgt : Nat} (hd : decode cc pc = .ok (.ifCond .ge off, 3)) (ht : (pc : Int) + off = (tgt : Int)) (hc : ¬ 0 ≤ a) (kf : AJ X M y cc nL rt (pc + 3) L st h uc us) : AJ X M y cc nL rt pc L (.int a :: st) h uc us := a_if_ge hd ht (fun c => absurd c hc) (fun _ => kf)
theorem a_icmp_ge {a b : Int32} {off : Int} {tgt : Nat} (hd : decode cc pc = .ok (.if_icmp .ge off, 3)) (ht : (pc : Int) + off = (tgt : Int)) (kt : b ≤ a → AJ X M y cc nL rt tgt L st h uc us) (kf : ¬ b ≤ a → AJ X M y cc nL rt (pc + 3) L st h uc us) : AJ X M y cc nL rt pc L (.int b :: .int a :: st) h uc us := fun ok H locs ls hR hS hL => lv_icmp_ge ok.1 ok.2.1 hd ht (fun c => kt c ok H locs ls hR hS hL) (fun c => kf c ok H locs ls hR hS hL)
theorem a_icmp_ge_t {a b : Int32} {off : Int} {tgt : Nat} (hd : decode cc pc = .ok (.if_icmp .ge off, 3)) (ht : (pc : Int) + off = (tgt : Int)) (hc : b ≤ a) (kt : AJ X M y cc nL rt tgt L st h uc us) : AJ X M y cc nL rt pc L (.int b :: .int a :: st) h uc us := a_icmp_ge hd ht (fun _ => kt) (fun c => absurd hc c)
theorem a_icmp_ge_f {a b : Int32} {off : Int} {tgt : Nat} (hd : decode cc pc = .ok (.if_icmp .ge off, 3)) (ht : (pc : Int) + off = (tgt : Int)) (hc : ¬ b ≤ a) (kf : AJ X M y cc nL rt (pc + 3) L st h uc us) : AJ X M y cc nL rt pc L (.int b :: .int a :: st) h uc us := a_icmp_ge hd ht (fun c => absurd c hc) (fun _ => kf)
theorem a_if_gt {a : Int32} {off : Int} {tgt : Nat} (hd : decode cc pc = .ok (.ifCond .gt off, 3)) (ht : (pc : Int) + off = (tgt : Int)) (kt : 0 < a → AJ X M y cc nL rt tgt L st h uc us) (kf : ¬ 0 < a → AJ X M y cc nL rt (pc + 3) L st h uc us) : AJ X M y cc nL rt pc L (.int a :: st) h uc us := fun ok H locs ls hR hS hL => lv_if_gt ok.1 ok.2.1 hd ht (fun c => kt c ok H locs ls hR hS hL) (fun c => kf c ok H locs ls hR hS hL)
theorem a_if_gt_t {a : Int32} {off : Int} {tgt : Nat} (hd : decode cc pc = .ok (.ifCond .gt off, 3)) (ht : (pc : Int) + off = (tgt : Int)) (hc : 0 < a) (kt : AJ X M y cc nL rt tgt L st h uc us) : AJ X M y cc nL rt pc L (.int a :: st) h uc us := a_if_gt hd ht (fun _ => kt) (fun c => absurd hc c)
theorem a_if_gt_f {a : Int32} {off : Int} {tgt : Nat} (hd : decode cc pc = .ok (.ifCond .gt off, 3)) (ht : (pc : Int) + off = (tgt : Int)) (hc : ¬ 0 < a) (kf : AJ X M y cc nL rt (pc + 3) L st h uc us) : AJ X M y cc nL rt pc L (.int a :: st) h uc us := a_if_gt hd ht (fun c => absurd c hc) (fun _ => kf)
theorem a_icmp_gt {a b : Int32} {off : Int} {tgt : Nat} (hd : decode cc pc = .ok (.if_icmp .gt off, 3)) (ht : (pc : Int) + off = (tgt : Int)) (kt : b < a → AJ X M y cc nL rt tgt L st h uc us) (kf : ¬ b < a → AJ X M y cc nL rt (pc + 3) L st h uc us) : AJ X M y cc nL rt pc L (.int b :: .int a :: st) h uc us := fun ok H locs ls hR hS hL => lv_icmp_gt ok.1 ok.2.1 hd ht (fun c => kt c ok H locs ls hR hS hL) (fun c => kf c ok H locs ls hR hS hL)
theorem a_icmp_gt_t {a b : Int32} {off : Int} {tgt : Nat} (hd : decode cc pc = .ok (.if_icmp .gt off, 3)) (ht : (pc : Int) + off = (tgt : Int)) (hc : b < a) (kt : AJ X M y cc nL rt tgt L st h uc us) : AJ X M y cc nL rt pc L (.int b :: .int a :: st) h uc us := a_icmp_gt hd ht (fun _ => kt) (fun c => absurd hc c)
theorem a_icmp_gt_f {a b : Int32} {off : Int} {tgt : Nat} (hd : decode cc pc = .ok (.if_icmp .gt off, 3)) (ht : (pc : Int) + off = (tgt : Int)) (hc : ¬ b < a) (kf : AJ X M y cc nL rt (pc + 3) L st h uc us) : AJ X M y cc nL rt pc L (.int b :: .int a :: st) h uc us := a_icmp_gt hd ht (fun c => absurd c hc) (fun _ => kf)
theorem a_if_le {a : Int32} {off : Int} {tgt : Nat} (hd : decode cc pc = .ok (.ifCond .le off, 3)) (ht : (pc : Int) + off = (tgt : Int)) (kt : a ≤ 0 → AJ X M y cc nL rt tgt L st h uc us) (kf : ¬ a ≤ 0 → AJ X M y cc nL rt (pc + 3) L st h uc us) : AJ X M y cc nL rt pc L (.int a :: st) h uc us := fun ok H locs ls hR hS hL => lv_if_le ok.1 ok.2.1 hd ht (fun c => kt c ok H locs ls hR hS hL) (fun c => kf c ok H locs ls hR hS hL)
theorem a_if_le_t {a : Int32} {off : Int} {tgt : Nat} (hd : decode cc pc = .ok (.ifCond .le off, 3)) (ht : (pc : Int) + off = (tgt : Int)) (hc : a ≤ 0) (kt : AJ X M y cc nL rt tgt L st h uc us) : AJ X M y cc nL rt pc L (.int a :: st) h uc us := a_if_le hd ht (fun _ => kt) (fun c => absurd hc c)
theorem a_if_le_f {a : Int32} {off : Int} {tgt : Nat} (hd : decode cc pc = .ok (.ifCond .le off, 3)) (ht : (pc : Int) + off = (tgt : Int)) (hc : ¬ a ≤ 0) (kf : AJ X M y cc nL rt (pc + 3) L st h uc us) : AJ X M y cc nL rt pc L (.int a :: st) h uc us := a_if_le hd ht (fun c => absurd c hc) (fun _ => kf)
theorem a_icmp_le {a b : Int32} {off : Int} {tgt : Nat} (hd : decode cc pc = .ok (.if_icmp .le off, 3)) (ht : (pc : Int) + off = (tgt : Int)) (kt : a ≤ b → AJ X M y cc nL rt tgt L st h uc us) (kf : ¬ a ≤ b → AJ X M y cc nL rt (pc + 3) L st h uc us) : AJ X M y cc nL rt pc L (.int b :: .int a :: st) h uc us := fun ok H locs ls hR hS hL => lv_icmp_le ok.1 ok.2.1 hd ht (fun c => kt c ok H locs ls hR hS hL) (fun c => kf c ok H locs ls hR hS hL)
theorem a_icmp_le_t {a b : Int32} {off : Int} {tgt : Nat} (hd : decode cc pc = .ok (.if_icmp .le off, 3)) (ht : (pc : Int) + off = (tgt : Int)) (hc : a ≤ b) (kt : AJ X M y cc nL rt tgt L st h uc us) : AJ X M y cc nL rt pc L (.int b :: .int a :: st) h uc us := a_icmp_le hd ht (fun _ => kt) (fun c => absurd hc c)
theorem a_icmp_le_f {a b : Int32} {off : Int} {tgt : Nat} (hd : decode cc pc = .ok (.if_icmp .le off, 3)) (ht : (pc : Int) + off = (tgt : Int)) (hc : ¬ a ≤ b) (kf : AJ X M y cc nL rt (pc + 3) L st h uc us) : AJ X M y cc nL rt pc L (.int b :: .int a :: st) h uc us := a_icmp_le hd ht (fun c => absurd c hc) (fun _ => kf)
theorem a_ifnonnull {x : Nat} {off : Int} {tgt : Nat} (hd : decode cc pc = .ok (.ifnonnull off, 3)) (ht : (pc : Int) + off = (tgt : Int)) (k : AJ X M y cc nL rt tgt L st h uc us) : AJ X M y cc nL rt pc L (.ref x :: st) h uc us := fun ok H locs ls hR hS hL => lv_ifnonnull ok.1 ok.2.1 hd ht (k ok H locs ls hR hS hL)
theorem a_ifnonnullN {off : Int} (hd : decode cc pc = .ok (.ifnonnull off, 3))  (k : AJ X M y cc nL rt (pc + 3) L st h uc us) : AJ X M y cc nL rt pc L (.null :: st) h uc us := fun ok H locs ls hR hS hL => lv_ifnonnullN ok.1 ok.2.1 hd (k ok H locs ls hR hS hL)
theorem a_tabOut {dflt lo hi : Int} {offs : Array Int} {len : Nat} {a : Int32} {tgt : Nat} (hd : decode cc pc = .ok (.tableswitch dflt lo hi offs, len)) (hx : a.toInt < lo ∨ hi < a.toInt) (ht : (pc : Int) + dflt = (tgt : Int)) (k : AJ X M y cc nL rt tgt L st h uc us) : AJ X M y cc nL rt pc L (.int a :: st) h uc us := fun ok H locs ls hR hS hL => lv_tableOut ok.1 ok.2.1 hd hx ht (k ok H locs ls hR hS hL)
theorem a_tabIn {dflt lo hi : Int} {offs : Array Int} {len : Nat} {a : Int32} {off : Int} {tgt : Nat} (hd : decode cc pc = .ok (.tableswitch dflt lo hi offs, len)) (h1 : ¬ a.toInt < lo) (h2 : ¬ hi < a.toInt) (ho : offs[(a.toInt - lo).toNat]? = some off) (ht : (pc : Int) + off = (tgt : Int)) (k : AJ X M y cc nL rt tgt L st h uc us) : AJ X M y cc nL rt pc L (.int a :: st) h uc us := fun ok H locs ls hR hS hL => lv_tableIn ok.1 ok.2.1 hd h1 h2 ho ht (k ok H locs ls hR hS hL)
theorem a_look {dflt : Int} {ps : Array (Int × Int)} {len : Nat} {a : Int32} {off : Int} {tgt : Nat} (hd : decode cc pc = .ok (.lookupswitch dflt ps, len)) (hp : (ps.toList.zip (ps.toList.drop 1)).all (fun (a, next) => a.1 < next.1) = true) (ho : Op.lookupswitch.offset ps.toList dflt a.toInt = off) (ht : (pc : Int) + off = (tgt : Int)) (k : AJ X M y cc nL rt tgt L st h uc us) : AJ X M y cc nL rt pc L (.int a :: st) h uc us := fun ok H locs ls hR hS hL => lv_lookup ok.1 ok.2.1 hd hp ho ht (k ok H locs ls hR hS hL)
theorem a_ldc {idx : Nat} {v : Int32} (hq : Cond.constant y.cls idx v ∈ BIG) (hd : decode cc pc = .ok (.ldc idx, 2)) (k : AJ X M y cc nL rt (pc + 2) L (.int v :: st) h uc us) : AJ X M y cc nL rt pc L st h uc us := fun ok H locs ls hR hS hL => lv_ldc ok.1 ok.2.1 ok.2.2.2.2.2.2.1 (ok.2.2.2.2.2.2.2.1 _ hq) hd (k ok H locs ls hR hS hL)
theorem a_ldc2 {idx : Nat} {v : Int64} (hq : Cond.constantLong y.cls idx v ∈ BIG) (hd : decode cc pc = .ok (.ldc2_w idx, 3)) (k : AJ X M y cc nL rt (pc + 3) L (.long v :: st) h uc us) : AJ X M y cc nL rt pc L st h uc us := fun ok H locs ls hR hS hL => lv_ldc2 ok.1 ok.2.1 ok.2.2.2.2.2.2.1 (ok.2.2.2.2.2.2.2.1 _ hq) hd (k ok H locs ls hR hS hL)
theorem a_ldcS {q : String × Nat × String × Nat} (hq : q ∈ k_strs) (ho : y.cls = q.1) (hd : decode cc pc = .ok (.ldc q.2.1, 2)) (k : AJ X M y cc nL rt (pc + 2) L (.ref (X.2.2.2.1 (10 + q.2.2.2)) :: st) h uc us) : AJ X M y cc nL rt pc L st h uc us := fun ok H locs ls hR hS hL => va_ldcS (own := q.1) (tx := q.2.2.1) ok.1 ok.2.1 (by rw [← ho]; exact ok.2.2.2.2.2.2.1) (ok.2.2.2.2.2.2.2.2.2.1.2.2.2.2.2.2.2.2.2.1 q hq) hd (k ok H locs ls hR hS hL)
/-- other names for the same locals: those that L1 lists -/
def subL (L1 L : List (Nat × Value)) : Prop := match L1 with
  | [] => True
  | q :: l => L.lookup q.1 = some q.2 ∧ subL l L
theorem subL_mem {L1 L : List (Nat × Value)} (h : subL L1 L) : ∀ q ∈ L1, q ∈ L := by
  induction L1 with
  | nil => intro q hq; cases hq
  | cons p l ih =>
    intro q hq
    rcases List.mem_cons.mp hq with rfl | hq
    · exact lk_in h.1
    · exact ih h.2 q hq
theorem a_loc {L1 : List (Nat × Value)} (hs : subL L1 L) (k : AJ X M y cc nL rt pc L1 st h uc us) : AJ X M y cc nL rt pc L st h uc us := fun ok H locs ls hR hS hL => k ok H locs ls hR hS ⟨hL.1, hL.2.1, fun q hq => hL.2.2 q (subL_mem hs q hq)⟩
theorem a_st {st1 : List Value} (e : st = st1) (k : AJ X M y cc nL rt pc L st1 h uc us) : AJ X M y cc nL rt pc L st h uc us := e ▸ k
theorem a_hp {h1 : AH} (e : h = h1) (k : AJ X M y cc nL rt pc L st h1 uc us) : AJ X M y cc nL rt pc L st h uc us := e ▸ k
theorem a_wid {uc1 us1 : Nat} (h1 : uc ≤ uc1) (h2 : us ≤ us1) (k : AJ X M y cc nL rt pc L st h uc1 us1) : AJ X M y cc nL rt pc L st h uc us := fun ok H locs ls hR hS hL => W.widen h1 h2 (k ok H locs ls hR hS hL)
def LkF (own : String) (idx ci k : Nat) (ty : FieldType) (fin : Bool) : Prop := ∃ (C : String) (T : u_T) (N : Nat) (ty0 : Nat → FieldType) (ref : String), kcl[ci]? = some (C, T, N) ∧ (∀ w ∈ u_ws C T N, w ∈ BIG) ∧ (∀ k, k < N → parseFieldDescriptor (T k).2.2.1 = some (ty0 k)) ∧ (∀ a, a < N → ∀ b, b < N → a ≠ b → (T a).2.1 ≠ (T b).2.1) ∧ k < N ∧ Cond.fieldLink own idx ref (T k).2.1 (T k).2.2.1 ∈ BIG ∧ (ref = (T k).1 ∨ Cond.sameField ref (T k).1 (T k).2.1 (T k).2.2.1 ∈ BIG) ∧ (T k).2.2.2 = fin ∧ ty0 k = ty ∧ (fin = true → (T k).1 = own)
theorem lk_same {args : Array Value} {s : State} {ref : String} {f : String × String × String × Bool} (hts : ∀ w ∈ BIG, w.before args s = true) (hr : ref = f.1 ∨ Cond.sameField ref f.1 f.2.1 f.2.2.1 ∈ BIG) : ∀ x, s.fieldFound? f.1 f.2.1 f.2.2.1 = some x → s.fieldFound? ref f.2.1 f.2.2.1 = some x := by
  intro x hx
  rcases hr with rfl | hr
  · exact hx
  · exact u_same (hts _ hr) x hx
theorem a_getfield {idx ci k a : Nat} {ty : FieldType} {fin : Bool} {fs : List Value} {v : Value} (lk : LkF y.cls idx ci k ty fin) (hd : decode cc pc = .ok (.getfield idx, 3)) (ha : h a = some (.inr (ci, fs))) (hv : fs[k]? = some v)
    (kk : AJ X M y cc nL rt (pc + 3) L (v :: st) h uc us) : AJ X M y cc nL rt pc L (.ref a :: st) h uc us := by
  intro ok H locs ls hR hS hL
  obtain ⟨C, T, N, ty0, ref, hc, hin, hty, hnm, hk, hlink, hsame, hfin, hty0, -⟩ := lk
  obtain ⟨dom, hdm, hP, hD⟩ := id hR
  obtain ⟨q0, -, he⟩ := kws_at (X := X) hdm ha
  have hts := ok.2.2.2.2.2.2.2.1
  exact va_get ok.1 ok.2.1 hts hin ok.2.2.2.2.2.2.1 ok.2.2.2.2.2.2.2.2.1 hP q0 he hc k hk (hts _ hlink) (lk_same hts hsame) hv hd (kk ok H locs ls hR hS hL)
theorem rep_set {A : Nat → Prop} {H1 : Heap} {a q0 : Nat} {e0 e : kE} {dom : List Nat} (hdm : Dom h dom) (hD : va_D A (kws X h dom)) (ha : h a = some e0) (hq : dom[q0]? = some a) (hP1 : va_P X.2.1 kcl ((kws X h dom).set q0 (a, cE X e)) H1) (hD1 : va_D A ((kws X h dom).set q0 (a, cE X e))) : Rep X A (kput h a e) H1 :=
  ⟨dom, hdm.put ha, by rw [← kws_set hD hq]; exact hP1, by rw [← kws_set hD hq]; exact hD1⟩
theorem a_putfield {idx ci k a : Nat} {ty : FieldType} {fs : List Value} {v : Value} (lk : LkF y.cls idx ci k ty false) (hd : decode cc pc = .ok (.putfield idx, 3)) (ha : h a = some (.inr (ci, fs))) (hn : narrow ty v = v) (hf : fits ty v = true) (hl : k < fs.length)
    (kk : AJ X M y cc nL rt (pc + 3) L st (kput h a (.inr (ci, fs.set k v))) uc us) : AJ X M y cc nL rt pc L (v :: .ref a :: st) h uc us := by
  intro ok H locs ls hR hS hL
  obtain ⟨C, T, N, ty0, ref, hc, hin, hty, hnm, hk, hlink, hsame, hfin, hty0, -⟩ := lk
  obtain ⟨dom, hdm, hP, hD⟩ := id hR
  obtain ⟨q0, hq, he⟩ := kws_at (X := X) hdm ha
  have hts := ok.2.2.2.2.2.2.2.1
  exact va_put ok.1 ok.2.1 hts hin ty0 hty hnm ok.2.2.2.2.2.2.1 ok.2.2.2.2.2.2.2.2.1 hP hD hS q0 he hc k hk (hts _ hlink) (lk_same hts hsame) hfin (ty := ty) (by rw [hty k hk, hty0]) hn hf hl hd (fun H1 locs1 hP1 hD1 hS1 => kk ok H1 locs1 ls (rep_set hdm hD ha hq (e := .inr (ci, fs.set k v)) hP1 hD1) hS1 hL)
theorem a_putfieldF {idx ci k a : Nat} {ty : FieldType} {fs : List Value} {v : Value} (lk : LkF y.cls idx ci k ty true) (hi : y.name = "<init>") (hd : decode cc pc = .ok (.putfield idx, 3)) (ha : h a = some (.inr (ci, fs))) (hn : narrow ty v = v) (hf : fits ty v = true) (hl : k < fs.length)
    (kk : AJ X M y cc nL rt (pc + 3) L st (kput h a (.inr (ci, fs.set k v))) uc us) : AJ X M y cc nL rt pc L (v :: .ref a :: st) h uc us := by
  intro ok H locs ls hR hS hL
  obtain ⟨C, T, N, ty0, ref, hc, hin, hty, hnm, hk, hlink, hsame, hfin, hty0, hdc⟩ := lk
  obtain ⟨dom, hdm, hP, hD⟩ := id hR
  obtain ⟨q0, hq, he⟩ := kws_at (X := X) hdm ha
  have hts := ok.2.2.2.2.2.2.2.1
  exact va_putF ok.1 ok.2.1 hts hin ty0 hty hnm ok.2.2.2.2.2.2.1 ok.2.2.2.2.2.2.2.2.1 hP hD hS q0 he hc k hk (hts _ hlink) (lk_same hts hsame) hfin (ok.2.2.2.2.2.1.trans hi) (hdc rfl) (ty := ty) (by rw [hty k hk, hty0]) hn hf hl hd (fun H1 locs1 hP1 hD1 hS1 => kk ok H1 locs1 ls (rep_set hdm hD ha hq (e := .inr (ci, fs.set k v)) hP1 hD1) hS1 hL)
theorem in_of {i : Int32} {j n : Nat} (hi : i = nI j) (hj : j < n) (hb : j < 2147483648) : vp_in i n ∧ i.toNatClampNeg = j := by
  have h1 := nI_clamp hb
  subst hi
  refine ⟨fun z => ?_, h1⟩
  rcases z with z | z
  · exact nI_pos hb z
  · rw [h1] at z
    omega
theorem a_iaload {a n : Nat} {f : Nat → Int32} {i : Int32} (hd : decode cc pc = .ok (.iaload, 1)) (ha : h a = some (kI n f)) (j : Nat) (hi : i = nI j) (hj : j < n) (hb : j < 2147483648)
    (kk : AJ X M y cc nL rt (pc + 1) L (.int (f j) :: st) h uc us) : AJ X M y cc nL rt pc L (.int i :: .ref a :: st) h uc us := by
  intro ok H locs ls hR hS hL
  obtain ⟨dom, hdm, hP, hD⟩ := id hR
  obtain ⟨q0, hq, he⟩ := kws_at (X := X) hdm ha
  obtain ⟨h1, h2⟩ := in_of hi hj hb
  refine va_iald ok.1 ok.2.1 ok.2.2.2.2.2.2.2.2.1 hP q0 0 he (ktys_at (t := 0) rfl) h1 hd ?_
  rw [h2]
  exact kk ok H locs ls hR hS hL
theorem a_laload {a n : Nat} {f : Nat → Int64} {i : Int32} (hd : decode cc pc = .ok (.laload, 1)) (ha : h a = some (kL n f)) (j : Nat) (hi : i = nI j) (hj : j < n) (hb : j < 2147483648)
    (kk : AJ X M y cc nL rt (pc + 1) L (.long (f j) :: st) h uc us) : AJ X M y cc nL rt pc L (.int i :: .ref a :: st) h uc us := by
  intro ok H locs ls hR hS hL
  obtain ⟨dom, hdm, hP, hD⟩ := id hR
  obtain ⟨q0, hq, he⟩ := kws_at (X := X) hdm ha
  obtain ⟨h1, h2⟩ := in_of hi hj hb
  refine va_lald ok.1 ok.2.1 ok.2.2.2.2.2.2.2.2.1 hP q0 1 he (ktys_at (t := 1) rfl) h1 hd ?_
  rw [h2]
  exact kk ok H locs ls hR hS hL
theorem a_baload {a n : Nat} {f : Nat → Int32} {i : Int32} (hd : decode cc pc = .ok (.baload, 1)) (ha : h a = some (kB n f)) (j : Nat) (hi : i = nI j) (hj : j < n) (hb : j < 2147483648)
    (kk : AJ X M y cc nL rt (pc + 1) L (.int (f j) :: st) h uc us) : AJ X M y cc nL rt pc L (.int i :: .ref a :: st) h uc us := by
  intro ok H locs ls hR hS hL
  obtain ⟨dom, hdm, hP, hD⟩ := id hR
  obtain ⟨q0, hq, he⟩ := kws_at (X := X) hdm ha
  obtain ⟨h1, h2⟩ := in_of hi hj hb
  refine va_zald ok.1 ok.2.1 ok.2.2.2.2.2.2.2.2.1 hP q0 4 he (ktys_at (t := 4) rfl) h1 hd ?_
  rw [h2]
  exact kk ok H locs ls hR hS hL
theorem a_aaload {t a n : Nat} {C : String} {f : Nat → Option Nat} {i : Int32} (ht : ktyl[t]? = some (.object C)) (hd : decode cc pc = .ok (.aaload, 1)) (ha : h a = some (kQ t n f)) (j : Nat) (hi : i = nI j) (hj : j < n) (hb : j < 2147483648)
    (kk : AJ X M y cc nL rt (pc + 1) L (va_rf (f j) :: st) h uc us) : AJ X M y cc nL rt pc L (.int i :: .ref a :: st) h uc us := by
  intro ok H locs ls hR hS hL
  obtain ⟨dom, hdm, hP, hD⟩ := id hR
  obtain ⟨q0, hq, he⟩ := kws_at (X := X) hdm ha
  obtain ⟨h1, h2⟩ := in_of hi hj hb
  refine va_aldq ok.1 ok.2.1 ok.2.2.2.2.2.2.2.2.1 hP q0 t he (ktys_at ht) h1 hd ?_
  rw [h2]
  exact kk ok H locs ls hR hS hL
theorem a_iastore {a n : Nat} {f : Nat → Int32} {i x : Int32} (hd : decode cc pc = .ok (.iastore, 1)) (ha : h a = some (kI n f)) (j : Nat) (hi : i = nI j) (hj : j < n) (hb : j < 2147483648)
    (kk : AJ X M y cc nL rt (pc + 1) L st (kput h a (kI n (upd f j x))) uc us) : AJ X M y cc nL rt pc L (.int x :: .int i :: .ref a :: st) h uc us := by
  intro ok H locs ls hR hS hL
  obtain ⟨dom, hdm, hP, hD⟩ := id hR
  obtain ⟨q0, hq, he⟩ := kws_at (X := X) hdm ha
  obtain ⟨h1, h2⟩ := in_of hi hj hb
  refine va_iast ok.1 ok.2.1 ok.2.2.2.2.2.2.2.2.1 hP hD hS q0 0 he (ktys_at (t := 0) rfl) h1 hd (fun H1 locs1 hP1 hD1 hS1 => ?_)
  rw [h2] at hP1 hD1
  exact kk ok H1 locs1 ls (rep_set hdm hD ha hq (e := kI n (upd f j x)) hP1 hD1) hS1 hL
theorem a_lastore {a n : Nat} {f : Nat → Int64} {i : Int32} {x : Int64} (hd : decode cc pc = .ok (.lastore, 1)) (ha : h a = some (kL n f)) (j : Nat) (hi : i = nI j) (hj : j < n) (hb : j < 2147483648)
    (kk : AJ X M y cc nL rt (pc + 1) L st (kput h a (kL n (vp_updL f j x))) uc us) : AJ X M y cc nL rt pc L (.long x :: .int i :: .ref a :: st) h uc us := by
  intro ok H locs ls hR hS hL
  obtain ⟨dom, hdm, hP, hD⟩ := id hR
  obtain ⟨q0, hq, he⟩ := kws_at (X := X) hdm ha
  obtain ⟨h1, h2⟩ := in_of hi hj hb
  refine va_last ok.1 ok.2.1 ok.2.2.2.2.2.2.2.2.1 hP hD hS q0 1 he (ktys_at (t := 1) rfl) h1 hd (fun H1 locs1 hP1 hD1 hS1 => ?_)
  rw [h2] at hP1 hD1
  exact kk ok H1 locs1 ls (rep_set hdm hD ha hq (e := kL n (vp_updL f j x)) hP1 hD1) hS1 hL
theorem a_bastore {a n : Nat} {f : Nat → Int32} {i x : Int32} (hd : decode cc pc = .ok (.bastore, 1)) (ha : h a = some (kB n f)) (j : Nat) (hi : i = nI j) (hj : j < n) (hb : j < 2147483648) (hx : vp_nar .boolean x = x)
    (kk : AJ X M y cc nL rt (pc + 1) L st (kput h a (kB n (upd f j x))) uc us) : AJ X M y cc nL rt pc L (.int x :: .int i :: .ref a :: st) h uc us := by
  intro ok H locs ls hR hS hL
  obtain ⟨dom, hdm, hP, hD⟩ := id hR
  obtain ⟨q0, hq, he⟩ := kws_at (X := X) hdm ha
  obtain ⟨h1, h2⟩ := in_of hi hj hb
  refine va_zast ok.1 ok.2.1 ok.2.2.2.2.2.2.2.2.1 hP hD hS q0 4 he (ktys_at (t := 4) rfl) h1 hd (fun H1 locs1 hP1 hD1 hS1 => ?_)
  rw [h2, hx] at hP1 hD1
  exact kk ok H1 locs1 ls (rep_set hdm hD ha hq (e := kB n (upd f j x)) hP1 hD1) hS1 hL
/-- storing an object into a row of its own class -/
theorem a_aastoreE {t a n ci v : Nat} {r : vw_C} {vs : List Value} {f : Nat → Option Nat} {i : Int32} (ht : ktyl[t]? = some (.object r.1)) (hc : kcl[ci]? = some r) (hd : decode cc pc = .ok (.aastore, 1)) (ha : h a = some (kQ t n f)) (hv : h v = some (.inr (ci, vs))) (j : Nat) (hi : i = nI j) (hj : j < n) (hb : j < 2147483648)
    (kk : AJ X M y cc nL rt (pc + 1) L st (kput h a (kQ t n (va_up f j (some v)))) uc us) : AJ X M y cc nL rt pc L (.ref v :: .int i :: .ref a :: st) h uc us := by
  intro ok H locs ls hR hS hL
  obtain ⟨dom, hdm, hP, hD⟩ := id hR
  obtain ⟨q0, hq, he⟩ := kws_at (X := X) hdm ha
  obtain ⟨q1, -, hev⟩ := kws_at (X := X) hdm hv
  obtain ⟨h1, h2⟩ := in_of hi hj hb
  refine va_astq ok.1 ok.2.1 ok.2.2.2.2.2.2.2.2.1 hP hD hS q0 t q1 ci he (ktys_at ht) hev hc h1 hd (fun H1 locs1 hP1 hD1 hS1 => ?_)
  rw [h2] at hP1 hD1
  exact kk ok H1 locs1 ls (rep_set hdm hD ha hq (e := kQ t n (va_up f j (some v))) hP1 hD1) hS1 hL
theorem k_any {A : Nat → Prop} {s : State} {H : Heap} {dom : List Nat} {ci v : Nat} {r : vw_C} {vs : List Value} (hK : va_K X.2.1 kcl (ktys X) s) (hE : EFX X A s) (hP : va_P X.2.1 kcl (kws X h dom) H) (hdm : Dom h dom) (hc : kcl[ci]? = some r) (hv : h v = some (.inr (ci, vs))) : va_Any "java/lang/Object" s H v := by
  obtain ⟨q1, -, hev⟩ := kws_at (X := X) hdm hv
  refine va_rAny hK hP hev hc (fun comp c0 h1 h2 => ?_)
  have hw := hE.2.2.2.2.2.2.2.2.2.2.2.2.1 r (List.mem_of_getElem? hc)
  exact vb_asgC hw comp c0 h1 h2
theorem a_aastoreO {a n ci v : Nat} {r : vw_C} {vs : List Value} {f : Nat → Option Nat} {i : Int32} (hc : kcl[ci]? = some r) (hd : decode cc pc = .ok (.aastore, 1)) (ha : h a = some (kQ 2 n f)) (hv : h v = some (.inr (ci, vs))) (j : Nat) (hi : i = nI j) (hj : j < n) (hb : j < 2147483648)
    (kk : AJ X M y cc nL rt (pc + 1) L st (kput h a (kQ 2 n (va_up f j (some v)))) uc us) : AJ X M y cc nL rt pc L (.ref v :: .int i :: .ref a :: st) h uc us := by
  intro ok H locs ls hR hS hL
  obtain ⟨dom, hdm, hP, hD⟩ := id hR
  obtain ⟨q0, hq, he⟩ := kws_at (X := X) hdm ha
  obtain ⟨h1, h2⟩ := in_of hi hj hb
  refine va_astqM ok.1 ok.2.1 ok.2.2.2.2.2.2.2.2.1 hP hD hS q0 2 he (ktys_at (t := 2) rfl) (k_any ok.2.2.2.2.2.2.2.2.1 ok.2.2.2.2.2.2.2.2.2.1 hP hdm hc hv) h1 hd (fun H1 locs1 hP1 hD1 hS1 => ?_)
  rw [h2] at hP1 hD1
  exact kk ok H1 locs1 ls (rep_set hdm hD ha hq (e := kQ 2 n (va_up f j (some v))) hP1 hD1) hS1 hL
theorem a_alen {a t n : Nat} {x : vp_A} {ty : FieldType} (ht : ktyl[t]? = some ty) (hd : decode cc pc = .ok (.arraylength, 1)) (ha : h a = some (.inl (t, x))) (hn : x.1 = n)
    (kk : AJ X M y cc nL rt (pc + 1) L (.int (nI n) :: st) h uc us) : AJ X M y cc nL rt pc L (.ref a :: st) h uc us := by
  intro ok H locs ls hR hS hL
  obtain ⟨dom, hdm, hP, hD⟩ := id hR
  obtain ⟨q0, hq, he⟩ := kws_at (X := X) hdm ha
  exact va_alen ok.1 ok.2.1 ok.2.2.2.2.2.2.2.2.1 hP q0 t he (ktys_at ht) (v := nI n) (by rw [hn]; rfl) hd (kk ok H locs ls hR hS hL)
theorem ra_inj {s : State} {c1 c2 : ClassId} {ty : FieldType} (h1 : va_RA s c1 ty) (h2 : va_RA s c2 ty) : c1 = c2 := by
  cases ty with
  | object C =>
    obtain ⟨_, _, -, -, -, a⟩ := h1
    obtain ⟨_, _, -, -, -, b⟩ := h2
    exact Option.some.inj (a.symm.trans b)
  | _ => exact Option.some.inj (h1.symm.trans h2)
theorem k_cls {s : State} {cA : ClassId} {t : Nat} {ty : FieldType} (ht : ktyl[t]? = some ty) (hK : va_K X.2.1 kcl (ktys X ++ [(cA, ty)]) s) : cA = X.2.2.1 t := by
  have hl : t < (ktys X).length := (List.getElem?_eq_some_iff.mp (ktys_at (X := X) ht)).1
  have h1 := (hK.2 t (X.2.2.1 t, ty) (by rw [List.getElem?_append_left hl]; exact ktys_at ht)).2
  have h2 := (hK.2 (ktys X).length (cA, ty) (by rw [List.getElem?_append_right (Nat.le_refl _), Nat.sub_self]; rfl)).2
  exact ra_inj h2 h1
theorem rep_new {A : Nat → Prop} {H1 : Heap} {q : Nat} {e : kE} {dom : List Nat} (hdm : Dom h dom) (hq : h q = none) (hP1 : va_P X.2.1 kcl (kws X h dom ++ [(q, cE X e)]) H1) (hD1 : va_D A (kws X h dom ++ [(q, cE X e)])) : Rep X A (kput h q e) H1 :=
  ⟨dom ++ [q], hdm.new, by rw [← kws_app hdm hq]; exact hP1, by rw [← kws_app hdm hq]; exact hD1⟩
theorem cl_nI {x : Int32} {N : Nat} (hx : x = nI N) (hN : N ≤ 1000000) : ¬ x < 0 ∧ x.toNatClampNeg = N := by
  subst hx
  exact ⟨nI_pos (by omega), nI_clamp (by omega)⟩
theorem a_newI {x : Int32} {N : Nat} (hq : Cond.arrayClass .int ∈ BIG) (hd : decode cc pc = .ok (.newarray .int, 2)) (hx : x = nI N) (hN : N ≤ 1000000) (hc : uc + 1 ≤ (mR M).cells) (hs : us + N ≤ (mR M).slots)
    (kk : ∀ q : Nat, h q = none → AJ X M y cc nL rt (pc + 2) L (.ref q :: st) (kput h q (kI N (fun _ => 0))) (uc + 1) (us + N)) : AJ X M y cc nL rt pc L (.int x :: st) h uc us := by
  intro ok H locs ls hR hS hL
  obtain ⟨dom, hdm, hP, hD⟩ := id hR
  obtain ⟨h1, h2⟩ := cl_nI hx hN
  refine va_newa (atype := .int) (ty := .int) (N' := N) (a0 := (N, .inl (fun _ => 0))) ok.1 ok.2.1 (ok.2.2.2.2.2.2.2.1 _ hq) rfl ok.2.2.2.2.2.2.2.2.1 hP hD hS ok.2.2.2.2.2.2.2.2.2.2 (fun cA => rfl) h1 h2 (by show N * 4 ≤ 536870912; omega) hc hs hd (fun q cA H1 hK1 hP1 hD1 hS1 => ?_)
  have e := k_cls (t := 0) rfl hK1
  subst e
  have hqn : h q = none := hdm.fresh hD1
  exact kk q hqn ok H1 locs ls (rep_new hdm hqn (e := kI N (fun _ => 0)) hP1 hD1) hS1 hL
theorem a_newL {x : Int32} {N : Nat} (hq : Cond.arrayClass .long ∈ BIG) (hd : decode cc pc = .ok (.newarray .long, 2)) (hx : x = nI N) (hN : N ≤ 1000000) (hc : uc + 1 ≤ (mR M).cells) (hs : us + N ≤ (mR M).slots)
    (kk : ∀ q : Nat, h q = none → AJ X M y cc nL rt (pc + 2) L (.ref q :: st) (kput h q (kL N (fun _ => 0))) (uc + 1) (us + N)) : AJ X M y cc nL rt pc L (.int x :: st) h uc us := by
  intro ok H locs ls hR hS hL
  obtain ⟨dom, hdm, hP, hD⟩ := id hR
  obtain ⟨h1, h2⟩ := cl_nI hx hN
  refine va_newa (atype := .long) (ty := .long) (N' := N) (a0 := (N, .inr (.inl (fun _ => 0)))) ok.1 ok.2.1 (ok.2.2.2.2.2.2.2.1 _ hq) rfl ok.2.2.2.2.2.2.2.2.1 hP hD hS ok.2.2.2.2.2.2.2.2.2.2 (fun cA => rfl) h1 h2 (by show N * 8 ≤ 536870912; omega) hc hs hd (fun q cA H1 hK1 hP1 hD1 hS1 => ?_)
  have e := k_cls (t := 1) rfl hK1
  subst e
  have hqn : h q = none := hdm.fresh hD1
  exact kk q hqn ok H1 locs ls (rep_new hdm hqn (e := kL N (fun _ => 0)) hP1 hD1) hS1 hL
theorem a_newZ {x : Int32} {N : Nat} (hq : Cond.arrayClass .boolean ∈ BIG) (hd : decode cc pc = .ok (.newarray .boolean, 2)) (hx : x = nI N) (hN : N ≤ 1000000) (hc : uc + 1 ≤ (mR M).cells) (hs : us + N ≤ (mR M).slots)
    (kk : ∀ q : Nat, h q = none → AJ X M y cc nL rt (pc + 2) L (.ref q :: st) (kput h q (kB N (fun _ => 0))) (uc + 1) (us + N)) : AJ X M y cc nL rt pc L (.int x :: st) h uc us := by
  intro ok H locs ls hR hS hL
  obtain ⟨dom, hdm, hP, hD⟩ := id hR
  obtain ⟨h1, h2⟩ := cl_nI hx hN
  refine va_newa (atype := .boolean) (ty := .boolean) (N' := N) (a0 := (N, .inl (fun _ => 0))) ok.1 ok.2.1 (ok.2.2.2.2.2.2.2.1 _ hq) rfl ok.2.2.2.2.2.2.2.2.1 hP hD hS ok.2.2.2.2.2.2.2.2.2.2 (fun cA => rfl) h1 h2 (by show N * 1 ≤ 536870912; omega) hc hs hd (fun q cA H1 hK1 hP1 hD1 hS1 => ?_)
  have e := k_cls (t := 4) rfl hK1
  subst e
  have hqn : h q = none := hdm.fresh hD1
  exact kk q hqn ok H1 locs ls (rep_new hdm hqn (e := kB N (fun _ => 0)) hP1 hD1) hS1 hL
theorem a_newQ {x : Int32} {N t idx : Nat} {C : String} (ht : ktyl[t]? = some (.object C)) (hC : C = "FiveCards$Sheet" ∨ C = "java/lang/Object") (hq : Cond.classLink y.cls idx C ∈ BIG) (hd : decode cc pc = .ok (.anewarray idx, 3)) (hx : x = nI N) (hN : N ≤ 1000000) (hc : uc + 1 ≤ (mR M).cells) (hs : us + N ≤ (mR M).slots)
    (kk : ∀ q : Nat, h q = none → AJ X M y cc nL rt (pc + 3) L (.ref q :: st) (kput h q (kQ t N (fun _ => none))) (uc + 1) (us + N)) : AJ X M y cc nL rt pc L (.int x :: st) h uc us := by
  intro ok H locs ls hR hS hL
  obtain ⟨dom, hdm, hP, hD⟩ := id hR
  obtain ⟨h1, h2⟩ := cl_nI hx hN
  have hE := ok.2.2.2.2.2.2.2.2.2.1
  have hAO : va_AO C (mS M) := by
    rcases hC with rfl | rfl
    · exact hE.2.2.2.2.2.2.2.2.2.2.2.2.2.1
    · exact hE.2.2.2.2.2.2.2.2.2.2.2.2.2.2.1
  refine va_newq (C := C) (N' := N) ok.1 ok.2.1 ok.2.2.2.2.2.2.1 (ok.2.2.2.2.2.2.2.1 _ hq) hAO ok.2.2.2.2.2.2.2.2.1 hP hD hS ok.2.2.2.2.2.2.2.2.2.2 h1 h2 (by omega) hc hs hd (fun q cA H1 hK1 hP1 hD1 hS1 => ?_)
  have e := k_cls ht hK1
  subst e
  have hqn : h q = none := hdm.fresh hD1
  exact kk q hqn ok H1 locs ls (rep_new hdm hqn (e := kQ t N (fun _ => none)) hP1 hD1) hS1 hL
def LkN (own : String) (idx ci N : Nat) (fs : List Value) : Prop := ∃ (C : String) (T : u_T) (ty0 : Nat → FieldType), kcl[ci]? = some (C, T, N) ∧ (∀ w ∈ u_ws C T N, w ∈ BIG) ∧ (∀ k, k < N → parseFieldDescriptor (T k).2.2.1 = some (ty0 k)) ∧ Cond.classLink own idx C ∈ BIG ∧ Cond.instantiable C N ∈ BIG ∧ Cond.initialized C ∈ BIG ∧ ∀ j, j < N → defaultValue (ty0 j) = vp_V fs j
theorem a_new {idx ci N : Nat} {fs : List Value} (lk : LkN y.cls idx ci N fs) (hd : decode cc pc = .ok (.new idx, 3)) (hc : uc + 1 ≤ (mR M).cells) (hs : us + N ≤ (mR M).slots)
    (kk : ∀ q : Nat, h q = none → AJ X M y cc nL rt (pc + 3) L (.ref q :: st) (kput h q (kO ci fs)) (uc + 1) (us + N)) : AJ X M y cc nL rt pc L st h uc us := by
  intro ok H locs ls hR hS hL
  obtain ⟨dom, hdm, hP, hD⟩ := id hR
  obtain ⟨C, T, ty0, h1, hin, hty, h2, h3, h4, h5⟩ := lk
  have hts := ok.2.2.2.2.2.2.2.1
  refine va_new (ci := ci) ok.1 ok.2.1 hts hin ty0 hty ok.2.2.2.2.2.2.1 (hts _ h2) (hts _ h3) (hts _ h4) ok.2.2.2.2.2.2.2.2.1 hP hD hS ok.2.2.2.2.2.2.2.2.2.2 h1 h5 hc hs hd (fun q H1 hP1 hD1 hS1 => ?_)
  have hqn : h q = none := hdm.fresh hD1
  exact kk q hqn ok H1 locs ls (rep_new hdm hqn (e := kO ci fs) hP1 hD1) hS1 hL
theorem a_cast {idx ci a : Nat} {C : String} {fs : List Value} (hq : Cond.classLink y.cls idx C ∈ BIG) (hc : (kcl[ci]?).map (fun q => q.1) = some C) (ha : h a = some (.inr (ci, fs))) (hd : decode cc pc = .ok (.checkcast idx, 3))
    (kk : AJ X M y cc nL rt (pc + 3) L (.ref a :: st) h uc us) : AJ X M y cc nL rt pc L (.ref a :: st) h uc us := by
  intro ok H locs ls hR hS hL
  obtain ⟨dom, hdm, hP, hD⟩ := id hR
  obtain ⟨q0, -, he⟩ := kws_at (X := X) hdm ha
  cases hk : kcl[ci]? with
  | none => rw [hk] at hc; cases hc
  | some r =>
    rw [hk] at hc
    cases hc
    exact va_castE ok.1 ok.2.1 ok.2.2.2.2.2.2.1 (ok.2.2.2.2.2.2.2.1 _ hq) (va_recv ok.2.2.2.2.2.2.2.2.1 hP hk he) hd (kk ok H locs ls hR hS hL)
theorem a_castN {idx : Nat} (hd : decode cc pc = .ok (.checkcast idx, 3)) (kk : AJ X M y cc nL rt (pc + 3) L (.null :: st) h uc us) : AJ X M y cc nL rt pc L (.null :: st) h uc us :=
  fun ok H locs ls hR hS hL => lv_castN ok.1 ok.2.1 hd (kk ok H locs ls hR hS hL)
/-- the name of an array class -/
theorem k_nm {s : State} {t : Nat} {ty : FieldType} {nm : String} (hK : va_K X.2.1 kcl (ktys X) s) (ht : ktyl[t]? = some ty) (hn : "[" ++ ty.toString = nm) : s.vm.findClass nm = some (X.2.2.1 t) := by
  have h2 := (hK.2 t (X.2.2.1 t, ty) (ktys_at ht)).2
  rw [← hn]
  cases ty with
  | object C =>
    obtain ⟨_, _, -, -, -, b⟩ := h2
    exact b
  | _ => exact h2
theorem a_castA {idx t a : Nat} {nm : String} {ty : FieldType} {x : vp_A} (hq : Cond.classLink y.cls idx nm ∈ BIG) (ht : ktyl[t]? = some ty) (hn : "[" ++ ty.toString = nm) (ha : h a = some (.inl (t, x))) (hd : decode cc pc = .ok (.checkcast idx, 3))
    (kk : AJ X M y cc nL rt (pc + 3) L (.ref a :: st) h uc us) : AJ X M y cc nL rt pc L (.ref a :: st) h uc us := by
  intro ok H locs ls hR hS hL
  obtain ⟨dom, hdm, hP, hD⟩ := id hR
  obtain ⟨q0, -, he⟩ := kws_at (X := X) hdm ha
  exact va_castA ok.1 ok.2.1 ok.2.2.2.2.2.2.1 (ok.2.2.2.2.2.2.2.1 _ hq) hP q0 he (k_nm ok.2.2.2.2.2.2.2.2.1 ht hn) hd (kk ok H locs ls hR hS hL)
theorem a_ret_i {d kc ks : Nat} {Post : Option Value → AH → Prop} {v : Int32} {ty : FieldType} (hM : MSp X M d kc ks Post) (hr : rt = some ty) (hn : narrow ty (.int v) = .int v) (hd : decode cc pc = .ok (.ireturn, 1)) (hc : uc ≤ kc) (hs : us ≤ ks) (hp : Post (some (.int v)) h) : AJ X M y cc nL rt pc L [.int v] h uc us := by
  intro ok H locs ls hR hS hL
  refine W.widen hc hs ?_
  rw [hM.2]
  exact W.zret ok.1 ok.2.1 (ok.2.2.2.1.trans hr) hn (fun t ht hW => ⟨⟨_, h, rfl, hp, by rw [ht]; exact hR⟩, hS.F ht⟩) hS.2.2 hd ok.2.2.2.2.1
theorem a_ret_l {d kc ks : Nat} {Post : Option Value → AH → Prop} {v : Int64} (hM : MSp X M d kc ks Post) (hr : rt = some .long) (hd : decode cc pc = .ok (.lreturn, 1)) (hc : uc ≤ kc) (hs : us ≤ ks) (hp : Post (some (.long v)) h) : AJ X M y cc nL rt pc L [.long v] h uc us := by
  intro ok H locs ls hR hS hL
  refine W.widen hc hs ?_
  rw [hM.2]
  exact W.lret ok.1 ok.2.1 (ok.2.2.2.1.trans hr) (fun t ht hW => ⟨⟨_, h, rfl, hp, by rw [ht]; exact hR⟩, hS.F ht⟩) hS.2.2 hd ok.2.2.2.2.1
theorem a_ret_v {d kc ks : Nat} {Post : Option Value → AH → Prop} (hM : MSp X M d kc ks Post) (hr : rt = none) (hd : decode cc pc = .ok (.return_, 1)) (hc : uc ≤ kc) (hs : us ≤ ks) (hp : Post none h) : AJ X M y cc nL rt pc L [] h uc us := by
  intro ok H locs ls hR hS hL
  refine W.widen hc hs ?_
  rw [hM.2]
  exact W.vret ok.1 ok.2.1 (ok.2.2.2.1.trans hr) (fun t ht hW => ⟨⟨_, h, rfl, hp, by rw [ht]; exact hR⟩, hS.F ht⟩) hS.2.2 hd ok.2.2.2.2.1
theorem a_ret_a {d kc ks : Nat} {Post : Option Value → AH → Prop} {v : Value} {ty : FieldType} (hM : MSp X M d kc ks Post) (hr : rt = some ty) (hrt : (∃ n, ty = .object n) ∨ ∃ t, ty = .array t) (hv : v = .null ∨ ∃ a, v = .ref a) (hd : decode cc pc = .ok (.areturn, 1)) (hc : uc ≤ kc) (hs : us ≤ ks) (hp : Post (some v) h) : AJ X M y cc nL rt pc L [v] h uc us := by
  intro ok H locs ls hR hS hL
  refine W.widen hc hs ?_
  rw [hM.2]
  exact W.aret ok.1 ok.2.1 (ok.2.2.2.1.trans hr) hrt hv (fun t ht hW => ⟨⟨_, h, rfl, hp, by rw [ht]; exact hR⟩, hS.F ht⟩) hS.2.2 hd ok.2.2.2.2.1
theorem fb_blind {dom : List Nat} {sz : Nat} {args : List Value} : FrameBlind (va_Pc args (fB X h dom sz)) := by
  intro a U g mk q
  obtain ⟨q0, q1, qP, qK, qD, qE⟩ := q
  exact ⟨q0, q1, qP, va_K.moved (u := U) (U := U.calling g mk a) (Vm.Alike.refl U.vm) qK, qD, efx_move (u := U) (U := U.calling g mk a) qE (State.WarmedH.refl U) (fun _ _ _ => rfl) (fun _ z => z)⟩
theorem a_in {dom : List Nat} {H : Heap} {locs : List Loc} (ok : MOk X M y cc nL rt) (hD : va_D (mA M) (kws X h dom)) (hS : va_S (mA M) (mS M).heap H locs) : ∀ q, va_A (kws X h dom) H.size q → mA M q := by
  intro q hq
  rcases hq with ⟨k, e, hk⟩ | hq
  · exact hD.2 k _ hk
  · exact ok.2.2.2.2.2.2.2.2.2.2 q (Nat.le_trans hS.1 hq)
theorem fb_of {dom : List Nat} {H : Heap} {locs : List Loc} (ok : MOk X M y cc nL rt) (hP : va_P X.2.1 kcl (kws X h dom) H) (hD : va_D (mA M) (kws X h dom)) (hS : va_S (mA M) (mS M).heap H locs) (U : State) (hU : U.heap = H) (hW : (mS M).WarmedH U.vm) : fB X h dom H.size U :=
  ⟨by rw [hU], by rw [hU]; exact hP, va_K.moved hW.alike ok.2.2.2.2.2.2.2.2.1, hD.weaken (fun _ _ _ _ => trivial), efx_move ok.2.2.2.2.2.2.2.2.2.1 hW (fun a h1 h2 => by rw [hU]; exact hS.2.1 a h1 h2) (a_in ok hD hS)⟩
theorem call_fin {Post : Option Value → AH → Prop} {stk : List Value} {kc' ks' : Nat} {dom : List Nat} {H : Heap} {locs : List Loc} {ls : Array Slot} (ok : MOk X M y cc nL rt) (hD : va_D (mA M) (kws X h dom)) (hS : va_S (mA M) (mS M).heap H locs) (hL : lv_has ls nL L)
    (hr : va_Run M.1 X.1 (mE M) (mR M) (mS M) (mI M) (mArgs M) (mBelow M) (mMeth M) (mC M) H locs uc us kc' ks' (F0 (mI M) pc ls stk) st (fQ X (va_A (kws X h dom) H.size) Post) (va_A (kws X h dom) H.size))
    (kk : ∀ (r : Option Value) (h' : AH), Post r h' → AJ X M y cc nL rt (pc + 3) L (r.toList ++ st) h' (uc + kc') (us + ks')) : WM X M H locs uc us (F0 (mI M) pc ls stk) := by
  have hA1 := a_in ok hD hS
  intro T hT XX
  obtain ⟨v, st₀, t, T', Lc, h0, X', hLc, e1, e2, ⟨⟨r, h', hv, hp, hR'⟩, hz, hk⟩, hst⟩ := hr T hT XX
  cases hv
  rw [h0] at hz hk
  obtain ⟨dom', hdm', hP', hD'⟩ := hR'
  obtain ⟨t2, a1, b1⟩ := kk _ h' hp ok T'.heap (locs ++ Lc) ls ⟨dom', hdm', by rw [e1]; exact hP', hD'.weaken (fun _ _ _ z => hA1 _ z)⟩
    ⟨Nat.le_trans hS.1 (by rw [e1]; exact hz), fun q h1 h2 => by rw [e1, hk q (Nat.lt_of_lt_of_le h1 hS.1) (fun z => h2 (hA1 q z))]; exact hS.2.1 q h1 h2, fun q hq => by
      rcases List.mem_append.mp hq with h | h
      · exact hS.2.2 q h
      · exact hA1 _ (hLc q h)⟩ hL T' rfl X'
  exact ⟨t2, hst t2 a1, b1⟩
theorem big_good {w : Cond} (hw : w ∈ BIG) : w ∈ BIG ∧ ((w.onTables && w.keeps) = true ∨ ∃ ty, w = .arrayClass ty) := ⟨hw, good_of_word (List.mem_filter.mp hw).2⟩
theorem big_code {y' : MethodName} {cc' : ByteArray} {nL' : Nat} {rt' : Option FieldType} (hq : Cond.code y' cc' nL' rt' ∈ BIG) : GoodIn BIG (Cond.code y' cc' nL' rt' :: BIG) := by
  intro w hw
  rcases List.mem_cons.mp hw with rfl | hw
  · exact big_good hq
  · exact big_good hw
def notMH (y : MethodName) : Prop := y.cls ≠ "java/lang/invoke/MethodHandle" ∧ y.cls ≠ "java/lang/invoke/VarHandle"
def LkV (own : String) (idx : Nat) (y : MethodName) (cc : ByteArray) (nL : Nat) (rt : Option FieldType) (n : Nat) : Prop := Cond.methodLink own idx y ∈ BIG ∧ Cond.instanceMethod y ∈ BIG ∧ Cond.selects y.cls y y ∈ BIG ∧ Cond.initialized y.cls ∈ BIG ∧ Cond.code y cc nL rt ∈ BIG ∧ notMH y ∧ (parseMethodDescriptor y.desc).map (fun d => d.parameters.length) = some n
def LkS (own : String) (idx : Nat) (y : MethodName) (cc : ByteArray) (nL : Nat) (rt : Option FieldType) (n : Nat) : Prop := (Cond.methodLink own idx y ∈ BIG ∨ (own, idx, y) ∈ k_nests) ∧ Cond.static y ∈ BIG ∧ Cond.initialized y.cls ∈ BIG ∧ Cond.code y cc nL rt ∈ BIG ∧ notMH y ∧ (parseMethodDescriptor y.desc).map (fun d => d.parameters.length) = some n
def LkI (own : String) (idx : Nat) (y : MethodName) (cc : ByteArray) (nL : Nat) (n : Nat) : Prop := (Cond.methodLink own idx y ∈ BIG ∨ (own, idx, y) ∈ k_nests) ∧ Cond.instanceMethod y ∈ BIG ∧ Cond.initialized y.cls ∈ BIG ∧ Cond.code y cc nL none ∈ BIG ∧ y.name = "<init>" ∧ notMH y ∧ (parseMethodDescriptor y.desc).map (fun d => d.parameters.length) = some n
def KRecv (X : KX) (M : MX) (h : AH) (C : String) (b : Nat) : Prop := va_K X.2.1 kcl (ktys X) (mS M) → EFX X (mA M) (mS M) → ∀ (H : Heap) (locs : List Loc), Rep X (mA M) h H → va_S (mA M) (mS M).heap H locs → ∃ cellB : Cell, H[b]? = some cellB ∧ cellB.vm.isStatics = false ∧ (mS M).vm.findClass C = some cellB.cls
theorem krecv_of {b ci : Nat} {fs : List Value} {C : String} (hc : (kcl[ci]?).map (fun q => q.1) = some C) (hb : h b = some (.inr (ci, fs))) : KRecv X M h C b := by
  intro hK _ H locs hR _
  obtain ⟨dom, hdm, hP, hD⟩ := hR
  obtain ⟨q0, -, he⟩ := kws_at (X := X) hdm hb
  cases hk : kcl[ci]? with
  | none => rw [hk] at hc; cases hc
  | some r =>
    rw [hk] at hc
    cases hc
    exact va_recv hK hP hk he
theorem krecv_str {i : Nat} (hi : i < 13) : KRecv X M h "java/lang/String" (X.2.2.2.1 (10 + i)) := by
  intro _ hE H locs _ hS
  exact vk_recv (adK := fun i => X.2.2.2.1 (10 + i)) hE.2.2.2.2.2.2.2.2.1 hi hS
def Rok (M : MX) (d' nL' c s : Nat) : Prop := d' + 1 ≤ (mR M).frames ∧ 8 + (nL' + 11) + 40 * d' ≤ (mR M).locals ∧ c ≤ (mR M).cells ∧ s ≤ (mR M).slots
theorem rok_of {d kc ks d' nL' c s : Nat} {Post : Option Value → AH → Prop} (hM : MSp X M d kc ks Post) (h1 : d' + 1 ≤ d) (h2 : nL' ≤ 21) (h3 : c ≤ kc) (h4 : s ≤ ks) : Rok M d' nL' c s := by
  unfold Rok
  rw [hM.1]
  exact ⟨h1, by show 8 + (nL' + 11) + 40 * d' ≤ 40 * d; omega, h3, h4⟩
theorem a_callV {idx b n d' kc' ks' : Nat} {y' : MethodName} {cc' : ByteArray} {nL' : Nat} {rt' : Option FieldType} {As stk : List Value} {Post : Option Value → AH → Prop} (lk : LkV y.cls idx y' cc' nL' rt' n) (hd : decode cc pc = .ok (.invokevirtual idx, 3)) (hf : Fn X d' kc' ks' y' cc' nL' rt' (.ref b :: As) h Post) (hst : stk = As.reverse ++ .ref b :: st) (hn : As.length = n) (hb : KRecv X M h y'.cls b) (hr : Rok M d' nL' (uc + kc') (us + ks')) (hw : (st.map fun v => v.category).sum ≤ 8)
    (kk : ∀ (r : Option Value) (h' : AH), Post r h' → AJ X M y cc nL rt (pc + 3) L (r.toList ++ st) h' (uc + kc') (us + ks')) : AJ X M y cc nL rt pc L stk h uc us := by
  intro ok H locs ls hR hS hL
  obtain ⟨dom, hdm, hP, hD⟩ := id hR
  obtain ⟨l1, l2, l3, l4, l5, l6, l7⟩ := lk
  have hts := ok.2.2.2.2.2.2.2.1
  have hG : GoodIn BIG (wsV y.cls idx y'.cls y' (Cond.code y' cc' nL' rt' :: BIG)) := by
    intro w hw
    rcases List.mem_append.mp hw with hw | hw
    · simp only [List.mem_cons, List.not_mem_nil, or_false] at hw
      rcases hw with rfl | rfl | rfl | rfl
      · exact big_good l1
      · exact big_good l2
      · exact big_good l3
      · exact big_good l4
    · exact big_code l5 w hw
  exact call_fin ok hD hS hL (va_runV (As := As) (rest := st) (Ts := BIG) ⟨ok.1, ok.2.1, ok.2.2.1, ok.2.2.2.2.2.2.1, hts⟩ (hf dom H.size hdm) (cwV n hts hG rfl rfl rfl ⟨rfl, l6.1, l6.2, l7⟩ ⟨hr.1, hr.2.1⟩)
    ⟨fb_blind, hb ok.2.2.2.2.2.2.2.2.1 ok.2.2.2.2.2.2.2.2.2.1 H locs hR hS, fun U hU hW => ⟨rfl, fb_of ok hP hD hS U hU hW⟩⟩ rfl hn hL.1 hst (lv_room hw) hd ⟨hr.2.2.1, hr.2.2.2⟩) kk
theorem a_callS {idx n d' kc' ks' : Nat} {y' : MethodName} {cc' : ByteArray} {nL' : Nat} {rt' : Option FieldType} {As stk : List Value} {Post : Option Value → AH → Prop} (lk : LkS y.cls idx y' cc' nL' rt' n) (hd : decode cc pc = .ok (.invokestatic idx, 3)) (hf : Fn X d' kc' ks' y' cc' nL' rt' As h Post) (hst : stk = As.reverse ++ st) (hn : As.length = n) (hr : Rok M d' nL' (uc + kc') (us + ks')) (hw : (st.map fun v => v.category).sum ≤ 8)
    (kk : ∀ (r : Option Value) (h' : AH), Post r h' → AJ X M y cc nL rt (pc + 3) L (r.toList ++ st) h' (uc + kc') (us + ks')) : AJ X M y cc nL rt pc L stk h uc us := by
  intro ok H locs ls hR hS hL
  obtain ⟨dom, hdm, hP, hD⟩ := id hR
  obtain ⟨l1, l2, l4, l5, l6, l7⟩ := lk
  have hts := ok.2.2.2.2.2.2.2.1
  rcases l1 with l1 | l1
  · have hG : GoodIn BIG (va_wsS y.cls idx y' (Cond.code y' cc' nL' rt' :: BIG)) := by
      intro w hw
      rcases List.mem_append.mp hw with hw | hw
      · simp only [List.mem_cons, List.not_mem_nil, or_false] at hw
        rcases hw with rfl | rfl | rfl
        · exact big_good l1
        · exact big_good l2
        · exact big_good l4
      · exact big_code l5 w hw
    exact call_fin ok hD hS hL (va_runS (As := As) (rest := st) (Ts := BIG) ⟨ok.1, ok.2.1, ok.2.2.1, ok.2.2.2.2.2.2.1, hts⟩ (hf dom H.size hdm) (va_cwS n hts hG rfl rfl rfl ⟨l6.1, l6.2, l7⟩ ⟨hr.1, hr.2.1⟩)
      ⟨fb_blind, fun U hU hW => ⟨rfl, fb_of ok hP hD hS U hU hW⟩⟩ rfl hn hL.1 hst (lv_room hw) hd ⟨hr.2.2.1, hr.2.2.2⟩) kk
  · have hnw := ok.2.2.2.2.2.2.2.2.2.1.2.2.2.2.2.2.2.2.2.2.1 _ l1
    exact call_fin ok hD hS hL (va_runSN (As := As) (rest := st) (Ts := BIG) ⟨ok.1, ok.2.1, ok.2.2.1, ok.2.2.2.2.2.2.1, hts⟩ (hf dom H.size hdm) ⟨va_cnB n hts (big_code l5) rfl rfl rfl hnw (hts _ l4) ⟨l6.1, l6.2, l7⟩ ⟨hr.1, hr.2.1⟩, hts _ l2, trivial⟩
      ⟨fb_blind, fun U hU hW => ⟨rfl, fb_of ok hP hD hS U hU hW⟩⟩ rfl hn hL.1 hst (lv_room hw) hd ⟨hr.2.2.1, hr.2.2.2⟩) kk
theorem a_callI {idx b n d' kc' ks' : Nat} {y' : MethodName} {cc' : ByteArray} {nL' : Nat} {As stk : List Value} {Post : Option Value → AH → Prop} (lk : LkI y.cls idx y' cc' nL' n) (hd : decode cc pc = .ok (.invokespecial idx, 3)) (hf : Fn X d' kc' ks' y' cc' nL' none (.ref b :: As) h Post) (hst : stk = As.reverse ++ .ref b :: st) (hn : As.length = n) (hr : Rok M d' nL' (uc + kc') (us + ks')) (hw : (st.map fun v => v.category).sum ≤ 8)
    (kk : ∀ (r : Option Value) (h' : AH), Post r h' → AJ X M y cc nL rt (pc + 3) L (r.toList ++ st) h' (uc + kc') (us + ks')) : AJ X M y cc nL rt pc L stk h uc us := by
  intro ok H locs ls hR hS hL
  obtain ⟨dom, hdm, hP, hD⟩ := id hR
  obtain ⟨l1, l2, l4, l5, l0, l6, l7⟩ := lk
  have hts := ok.2.2.2.2.2.2.2.1
  rcases l1 with l1 | l1
  · exact call_fin ok hD hS hL (va_runI (As := As) (rest := st) (Ts := BIG) ⟨ok.1, ok.2.1, ok.2.2.1, ok.2.2.2.2.2.2.1, hts⟩ (hf dom H.size hdm) (cwI n hts (big_code l5) rfl rfl rfl (hts _ l4) (hts _ l1) (hts _ l2) l0 ⟨l6.1, l6.2, l7⟩ ⟨hr.1, hr.2.1⟩)
      ⟨fb_blind, fun U hU hW => ⟨rfl, fb_of ok hP hD hS U hU hW⟩⟩ rfl hn hL.1 hst (lv_room hw) hd ⟨hr.2.2.1, hr.2.2.2⟩) kk
  · have hnw := ok.2.2.2.2.2.2.2.2.2.1.2.2.2.2.2.2.2.2.2.2.1 _ l1
    exact call_fin ok hD hS hL (va_runIN (As := As) (rest := st) (Ts := BIG) ⟨ok.1, ok.2.1, ok.2.2.1, ok.2.2.2.2.2.2.1, hts⟩ (hf dom H.size hdm) ⟨va_cnB n hts (big_code l5) rfl rfl rfl hnw (hts _ l4) ⟨l6.1, l6.2, l7⟩ ⟨hr.1, hr.2.1⟩, l0, hts _ l2⟩
      ⟨fb_blind, fun U hU hW => ⟨rfl, fb_of ok hP hD hS U hU hW⟩⟩ rfl hn hL.1 hst (lv_room hw) hd ⟨hr.2.2.1, hr.2.2.2⟩) kk
theorem a_objInit {idx b : Nat} (hq : Cond.methodLink y.cls idx objectInit ∈ BIG) (hq2 : Cond.instanceMethod objectInit ∈ BIG) (hq3 : Cond.code objectInit ⟨#[0xb1]⟩ 1 none ∈ BIG) (hd : decode cc pc = .ok (.invokespecial idx, 3)) (h1 : 1 ≤ (mR M).frames) (h2 : (st.map fun v => v.category).sum + 12 ≤ (mR M).locals)
    (kk : AJ X M y cc nL rt (pc + 3) L st h uc us) : AJ X M y cc nL rt pc L (.ref b :: st) h uc us := by
  intro ok H locs ls hR hS hL
  have hts := ok.2.2.2.2.2.2.2.1
  exact W.objInit ok.1 ok.2.1 ok.2.2.2.2.2.2.1 (hts _ hq) (hts _ hq2) (hts _ hq3) rfl (by rw [ok.2.2.1]; exact hL.1) rfl hd h1 (by show 2 * 0 + _ + 12 ≤ _; omega) (kk ok H locs ls hR hS hL)
end LAY
end
