theorem dX0_init_0 : decode cX0_init 0 = .ok (.aload_n 0, 1) := by decide +kernel
theorem dX0_init_1 : decode cX0_init 1 = .ok (.invokespecial 1, 3) := by decide +kernel
theorem dX0_init_4 : decode cX0_init 4 = .ok (.aload_n 0, 1) := by decide +kernel
theorem dX0_init_5 : decode cX0_init 5 = .ok (.lconst 0, 1) := by decide +kernel
theorem dX0_init_6 : decode cX0_init 6 = .ok (.putfield 7, 3) := by decide +kernel
theorem dX0_init_9 : decode cX0_init 9 = .ok (.aload_n 0, 1) := by decide +kernel
theorem dX0_init_10 : decode cX0_init 10 = .ok (.lconst 1, 1) := by decide +kernel
theorem dX0_init_11 : decode cX0_init 11 = .ok (.putfield 13, 3) := by decide +kernel
theorem dX0_init_14 : decode cX0_init 14 = .ok (.return_, 1) := by decide +kernel
theorem dX0_add_0 : decode cX0_add 0 = .ok (.lload_n 3, 1) := by decide +kernel
theorem dX0_add_1 : decode cX0_add 1 = .ok (.lconst 0, 1) := by decide +kernel
theorem dX0_add_2 : decode cX0_add 2 = .ok (.lcmp, 1) := by decide +kernel
theorem dX0_add_3 : decode cX0_add 3 = .ok (.ifCond .gt 4, 3) := by decide +kernel
theorem dX0_add_6 : decode cX0_add 6 = .ok (.return_, 1) := by decide +kernel
theorem dX0_add_7 : decode cX0_add 7 = .ok (.aload_n 0, 1) := by decide +kernel
theorem dX0_add_8 : decode cX0_add 8 = .ok (.getfield 7, 3) := by decide +kernel
theorem dX0_add_11 : decode cX0_add 11 = .ok (.lload_n 3, 1) := by decide +kernel
theorem dX0_add_12 : decode cX0_add 12 = .ok (.lmul, 1) := by decide +kernel
theorem dX0_add_13 : decode cX0_add 13 = .ok (.lload_n 1, 1) := by decide +kernel
theorem dX0_add_14 : decode cX0_add 14 = .ok (.aload_n 0, 1) := by decide +kernel
theorem dX0_add_15 : decode cX0_add 15 = .ok (.getfield 13, 3) := by decide +kernel
theorem dX0_add_18 : decode cX0_add 18 = .ok (.lmul, 1) := by decide +kernel
theorem dX0_add_19 : decode cX0_add 19 = .ok (.ladd, 1) := by decide +kernel
theorem dX0_add_20 : decode cX0_add 20 = .ok (.lstore 5, 2) := by decide +kernel
theorem dX0_add_22 : decode cX0_add 22 = .ok (.aload_n 0, 1) := by decide +kernel
theorem dX0_add_23 : decode cX0_add 23 = .ok (.getfield 13, 3) := by decide +kernel
theorem dX0_add_26 : decode cX0_add 26 = .ok (.lload_n 3, 1) := by decide +kernel
theorem dX0_add_27 : decode cX0_add 27 = .ok (.lmul, 1) := by decide +kernel
theorem dX0_add_28 : decode cX0_add 28 = .ok (.lstore 7, 2) := by decide +kernel
theorem dX0_add_30 : decode cX0_add 30 = .ok (.lload 5, 2) := by decide +kernel
theorem dX0_add_32 : decode cX0_add 32 = .ok (.invokestatic 16, 3) := by decide +kernel
theorem dX0_add_35 : decode cX0_add 35 = .ok (.lload 7, 2) := by decide +kernel
theorem dX0_add_37 : decode cX0_add 37 = .ok (.invokestatic 22, 3) := by decide +kernel
theorem dX0_add_40 : decode cX0_add 40 = .ok (.lstore 9, 2) := by decide +kernel
theorem dX0_add_42 : decode cX0_add 42 = .ok (.lload 9, 2) := by decide +kernel
theorem dX0_add_44 : decode cX0_add 44 = .ok (.lconst 0, 1) := by decide +kernel
theorem dX0_add_45 : decode cX0_add 45 = .ok (.lcmp, 1) := by decide +kernel
theorem dX0_add_46 : decode cX0_add 46 = .ok (.ifCond .le 21, 3) := by decide +kernel
theorem dX0_add_49 : decode cX0_add 49 = .ok (.aload_n 0, 1) := by decide +kernel
theorem dX0_add_50 : decode cX0_add 50 = .ok (.lload 5, 2) := by decide +kernel
theorem dX0_add_52 : decode cX0_add 52 = .ok (.lload 9, 2) := by decide +kernel
theorem dX0_add_54 : decode cX0_add 54 = .ok (.ldiv, 1) := by decide +kernel
theorem dX0_add_55 : decode cX0_add 55 = .ok (.putfield 7, 3) := by decide +kernel
theorem dX0_add_58 : decode cX0_add 58 = .ok (.aload_n 0, 1) := by decide +kernel
theorem dX0_add_59 : decode cX0_add 59 = .ok (.lload 7, 2) := by decide +kernel
theorem dX0_add_61 : decode cX0_add 61 = .ok (.lload 9, 2) := by decide +kernel
theorem dX0_add_63 : decode cX0_add 63 = .ok (.ldiv, 1) := by decide +kernel
theorem dX0_add_64 : decode cX0_add 64 = .ok (.putfield 13, 3) := by decide +kernel
theorem dX0_add_67 : decode cX0_add 67 = .ok (.return_, 1) := by decide +kernel
theorem dX0_greatestDivisor_0 : decode cX0_greatestDivisor 0 = .ok (.lload_n 2, 1) := by decide +kernel
theorem dX0_greatestDivisor_1 : decode cX0_greatestDivisor 1 = .ok (.lstore 4, 2) := by decide +kernel
theorem dX0_greatestDivisor_3 : decode cX0_greatestDivisor 3 = .ok (.lload_n 0, 1) := by decide +kernel
theorem dX0_greatestDivisor_4 : decode cX0_greatestDivisor 4 = .ok (.lstore 6, 2) := by decide +kernel
theorem dX0_greatestDivisor_6 : decode cX0_greatestDivisor 6 = .ok (.iconst 0, 1) := by decide +kernel
theorem dX0_greatestDivisor_7 : decode cX0_greatestDivisor 7 = .ok (.istore 8, 2) := by decide +kernel
theorem dX0_greatestDivisor_9 : decode cX0_greatestDivisor 9 = .ok (.iload 8, 2) := by decide +kernel
theorem dX0_greatestDivisor_11 : decode cX0_greatestDivisor 11 = .ok (.sipush 1000, 3) := by decide +kernel
theorem dX0_greatestDivisor_14 : decode cX0_greatestDivisor 14 = .ok (.if_icmp .ge 31, 3) := by decide +kernel
theorem dX0_greatestDivisor_17 : decode cX0_greatestDivisor 17 = .ok (.lload 6, 2) := by decide +kernel
theorem dX0_greatestDivisor_19 : decode cX0_greatestDivisor 19 = .ok (.lconst 0, 1) := by decide +kernel
theorem dX0_greatestDivisor_20 : decode cX0_greatestDivisor 20 = .ok (.lcmp, 1) := by decide +kernel
theorem dX0_greatestDivisor_21 : decode cX0_greatestDivisor 21 = .ok (.ifCond .eq 24, 3) := by decide +kernel
theorem dX0_greatestDivisor_24 : decode cX0_greatestDivisor 24 = .ok (.lload 4, 2) := by decide +kernel
theorem dX0_greatestDivisor_26 : decode cX0_greatestDivisor 26 = .ok (.lload 6, 2) := by decide +kernel
theorem dX0_greatestDivisor_28 : decode cX0_greatestDivisor 28 = .ok (.lrem, 1) := by decide +kernel
theorem dX0_greatestDivisor_29 : decode cX0_greatestDivisor 29 = .ok (.lstore 9, 2) := by decide +kernel
theorem dX0_greatestDivisor_31 : decode cX0_greatestDivisor 31 = .ok (.lload 6, 2) := by decide +kernel
theorem dX0_greatestDivisor_33 : decode cX0_greatestDivisor 33 = .ok (.lstore 4, 2) := by decide +kernel
theorem dX0_greatestDivisor_35 : decode cX0_greatestDivisor 35 = .ok (.lload 9, 2) := by decide +kernel
theorem dX0_greatestDivisor_37 : decode cX0_greatestDivisor 37 = .ok (.lstore 6, 2) := by decide +kernel
theorem dX0_greatestDivisor_39 : decode cX0_greatestDivisor 39 = .ok (.iinc 8 1, 3) := by decide +kernel
theorem dX0_greatestDivisor_42 : decode cX0_greatestDivisor 42 = .ok (.goto (-33), 3) := by decide +kernel
theorem dX0_greatestDivisor_45 : decode cX0_greatestDivisor 45 = .ok (.lload 4, 2) := by decide +kernel
theorem dX0_greatestDivisor_47 : decode cX0_greatestDivisor 47 = .ok (.lreturn, 1) := by decide +kernel
theorem dX1_init_0 : decode cX1_init 0 = .ok (.aload_n 0, 1) := by decide +kernel
theorem dX1_init_1 : decode cX1_init 1 = .ok (.invokespecial 3, 3) := by decide +kernel
theorem dX1_init_4 : decode cX1_init 4 = .ok (.aload_n 0, 1) := by decide +kernel
theorem dX1_init_5 : decode cX1_init 5 = .ok (.iload_n 1, 1) := by decide +kernel
theorem dX1_init_6 : decode cX1_init 6 = .ok (.putfield 9, 3) := by decide +kernel
theorem dX1_init_9 : decode cX1_init 9 = .ok (.aload_n 0, 1) := by decide +kernel
theorem dX1_init_10 : decode cX1_init 10 = .ok (.iload_n 2, 1) := by decide +kernel
theorem dX1_init_11 : decode cX1_init 11 = .ok (.putfield 15, 3) := by decide +kernel
theorem dX1_init_14 : decode cX1_init 14 = .ok (.aload_n 0, 1) := by decide +kernel
theorem dX1_init_15 : decode cX1_init 15 = .ok (.iload_n 3, 1) := by decide +kernel
theorem dX1_init_16 : decode cX1_init 16 = .ok (.putfield 18, 3) := by decide +kernel
theorem dX1_init_19 : decode cX1_init 19 = .ok (.return_, 1) := by decide +kernel
theorem dX1_isUnder_0 : decode cX1_isUnder 0 = .ok (.aload_n 0, 1) := by decide +kernel
theorem dX1_isUnder_1 : decode cX1_isUnder 1 = .ok (.getfield 9, 3) := by decide +kernel
theorem dX1_isUnder_4 : decode cX1_isUnder 4 = .ok (.istore_n 2, 1) := by decide +kernel
theorem dX1_isUnder_5 : decode cX1_isUnder 5 = .ok (.iconst 0, 1) := by decide +kernel
theorem dX1_isUnder_6 : decode cX1_isUnder 6 = .ok (.istore_n 3, 1) := by decide +kernel
theorem dX1_isUnder_7 : decode cX1_isUnder 7 = .ok (.iload_n 3, 1) := by decide +kernel
theorem dX1_isUnder_8 : decode cX1_isUnder 8 = .ok (.bipush 6, 2) := by decide +kernel
theorem dX1_isUnder_10 : decode cX1_isUnder 10 = .ok (.if_icmp .ge 27, 3) := by decide +kernel
theorem dX1_isUnder_13 : decode cX1_isUnder 13 = .ok (.iload_n 2, 1) := by decide +kernel
theorem dX1_isUnder_14 : decode cX1_isUnder 14 = .ok (.iconst (-1), 1) := by decide +kernel
theorem dX1_isUnder_15 : decode cX1_isUnder 15 = .ok (.if_icmp .eq 22, 3) := by decide +kernel
theorem dX1_isUnder_18 : decode cX1_isUnder 18 = .ok (.iload_n 2, 1) := by decide +kernel
theorem dX1_isUnder_19 : decode cX1_isUnder 19 = .ok (.iload_n 1, 1) := by decide +kernel
theorem dX1_isUnder_20 : decode cX1_isUnder 20 = .ok (.if_icmp .ne 5, 3) := by decide +kernel
theorem dX1_isUnder_23 : decode cX1_isUnder 23 = .ok (.iconst 1, 1) := by decide +kernel
theorem dX1_isUnder_24 : decode cX1_isUnder 24 = .ok (.ireturn, 1) := by decide +kernel
theorem dX1_isUnder_25 : decode cX1_isUnder 25 = .ok (.getstatic 21, 3) := by decide +kernel
theorem dX1_isUnder_28 : decode cX1_isUnder 28 = .ok (.iload_n 2, 1) := by decide +kernel
theorem dX1_isUnder_29 : decode cX1_isUnder 29 = .ok (.iaload, 1) := by decide +kernel
theorem dX1_isUnder_30 : decode cX1_isUnder 30 = .ok (.istore_n 2, 1) := by decide +kernel
theorem dX1_isUnder_31 : decode cX1_isUnder 31 = .ok (.iinc 3 1, 3) := by decide +kernel
theorem dX1_isUnder_34 : decode cX1_isUnder 34 = .ok (.goto (-27), 3) := by decide +kernel
theorem dX1_isUnder_37 : decode cX1_isUnder 37 = .ok (.iconst 0, 1) := by decide +kernel
theorem dX1_isUnder_38 : decode cX1_isUnder 38 = .ok (.ireturn, 1) := by decide +kernel
theorem dX1_weight_0 : decode cX1_weight 0 = .ok (.getstatic 25, 3) := by decide +kernel
theorem dX1_weight_3 : decode cX1_weight 3 = .ok (.aload_n 0, 1) := by decide +kernel
theorem dX1_weight_4 : decode cX1_weight 4 = .ok (.getfield 9, 3) := by decide +kernel
theorem dX1_weight_7 : decode cX1_weight 7 = .ok (.iaload, 1) := by decide +kernel
theorem dX1_weight_8 : decode cX1_weight 8 = .ok (.ireturn, 1) := by decide +kernel
theorem dX1_mostHits_0 : decode cX1_mostHits 0 = .ok (.aload_n 0, 1) := by decide +kernel
theorem dX1_mostHits_1 : decode cX1_mostHits 1 = .ok (.getfield 28, 3) := by decide +kernel
theorem dX1_mostHits_4 : decode cX1_mostHits 4 = .ok (.ifCond .eq 7, 3) := by decide +kernel
theorem dX1_mostHits_7 : decode cX1_mostHits 7 = .ok (.iconst 0, 1) := by decide +kernel
theorem dX1_mostHits_8 : decode cX1_mostHits 8 = .ok (.goto 16, 3) := by decide +kernel
theorem dX1_mostHits_11 : decode cX1_mostHits 11 = .ok (.aload_n 0, 1) := by decide +kernel
theorem dX1_mostHits_12 : decode cX1_mostHits 12 = .ok (.aload_n 1, 1) := by decide +kernel
theorem dX1_mostHits_13 : decode cX1_mostHits 13 = .ok (.invokevirtual 32, 3) := by decide +kernel
theorem dX1_mostHits_16 : decode cX1_mostHits 16 = .ok (.aload_n 1, 1) := by decide +kernel
theorem dX1_mostHits_17 : decode cX1_mostHits 17 = .ok (.getfield 36, 3) := by decide +kernel
theorem dX1_mostHits_20 : decode cX1_mostHits 20 = .ok (.arraylength, 1) := by decide +kernel
theorem dX1_mostHits_21 : decode cX1_mostHits 21 = .ok (.invokestatic 41, 3) := by decide +kernel
theorem dX1_mostHits_24 : decode cX1_mostHits 24 = .ok (.ireturn, 1) := by decide +kernel
theorem dX1_openHits_0 : decode cX1_openHits 0 = .ok (.aload_n 0, 1) := by decide +kernel
theorem dX1_openHits_1 : decode cX1_openHits 1 = .ok (.getfield 15, 3) := by decide +kernel
theorem dX1_openHits_4 : decode cX1_openHits 4 = .ok (.aload_n 1, 1) := by decide +kernel
theorem dX1_openHits_5 : decode cX1_openHits 5 = .ok (.getfield 47, 3) := by decide +kernel
theorem dX1_openHits_8 : decode cX1_openHits 8 = .ok (.getfield 51, 3) := by decide +kernel
theorem dX1_openHits_11 : decode cX1_openHits 11 = .ok (.aload_n 0, 1) := by decide +kernel
theorem dX1_openHits_12 : decode cX1_openHits 12 = .ok (.getfield 18, 3) := by decide +kernel
theorem dX1_openHits_15 : decode cX1_openHits 15 = .ok (.iaload, 1) := by decide +kernel
theorem dX1_openHits_16 : decode cX1_openHits 16 = .ok (.invokestatic 41, 3) := by decide +kernel
theorem dX1_openHits_19 : decode cX1_openHits 19 = .ok (.istore_n 2, 1) := by decide +kernel
theorem dX1_openHits_20 : decode cX1_openHits 20 = .ok (.aload_n 0, 1) := by decide +kernel
theorem dX1_openHits_21 : decode cX1_openHits 21 = .ok (.getfield 9, 3) := by decide +kernel
theorem dX1_openHits_24 : decode cX1_openHits 24 = .ok (.tableswitch 67 1 5 #[36, 43, 45, 57, 61], 36) := by decide +kernel
theorem dX1_openHits_60 : decode cX1_openHits 60 = .ok (.iconst 2, 1) := by decide +kernel
theorem dX1_openHits_61 : decode cX1_openHits 61 = .ok (.aload_n 0, 1) := by decide +kernel
theorem dX1_openHits_62 : decode cX1_openHits 62 = .ok (.getfield 15, 3) := by decide +kernel
theorem dX1_openHits_65 : decode cX1_openHits 65 = .ok (.imul, 1) := by decide +kernel
theorem dX1_openHits_66 : decode cX1_openHits 66 = .ok (.ireturn, 1) := by decide +kernel
theorem dX1_openHits_67 : decode cX1_openHits 67 = .ok (.iload_n 2, 1) := by decide +kernel
theorem dX1_openHits_68 : decode cX1_openHits 68 = .ok (.ireturn, 1) := by decide +kernel
theorem dX1_openHits_69 : decode cX1_openHits 69 = .ok (.aload_n 0, 1) := by decide +kernel
theorem dX1_openHits_70 : decode cX1_openHits 70 = .ok (.getfield 15, 3) := by decide +kernel
theorem dX1_openHits_73 : decode cX1_openHits 73 = .ok (.aload_n 1, 1) := by decide +kernel
theorem dX1_openHits_74 : decode cX1_openHits 74 = .ok (.invokevirtual 56, 3) := by decide +kernel
theorem dX1_openHits_77 : decode cX1_openHits 77 = .ok (.iconst 5, 1) := by decide +kernel
theorem dX1_openHits_78 : decode cX1_openHits 78 = .ok (.idiv, 1) := by decide +kernel
theorem dX1_openHits_79 : decode cX1_openHits 79 = .ok (.iadd, 1) := by decide +kernel
theorem dX1_openHits_80 : decode cX1_openHits 80 = .ok (.ireturn, 1) := by decide +kernel
theorem dX1_openHits_81 : decode cX1_openHits 81 = .ok (.iload_n 2, 1) := by decide +kernel
theorem dX1_openHits_82 : decode cX1_openHits 82 = .ok (.iconst 1, 1) := by decide +kernel
theorem dX1_openHits_83 : decode cX1_openHits 83 = .ok (.iadd, 1) := by decide +kernel
theorem dX1_openHits_84 : decode cX1_openHits 84 = .ok (.ireturn, 1) := by decide +kernel
theorem dX1_openHits_85 : decode cX1_openHits 85 = .ok (.iconst 2, 1) := by decide +kernel
theorem dX1_openHits_86 : decode cX1_openHits 86 = .ok (.iload_n 2, 1) := by decide +kernel
theorem dX1_openHits_87 : decode cX1_openHits 87 = .ok (.iconst 1, 1) := by decide +kernel
theorem dX1_openHits_88 : decode cX1_openHits 88 = .ok (.iadd, 1) := by decide +kernel
theorem dX1_openHits_89 : decode cX1_openHits 89 = .ok (.imul, 1) := by decide +kernel
theorem dX1_openHits_90 : decode cX1_openHits 90 = .ok (.ireturn, 1) := by decide +kernel
theorem dX1_openHits_91 : decode cX1_openHits 91 = .ok (.aload_n 0, 1) := by decide +kernel
theorem dX1_openHits_92 : decode cX1_openHits 92 = .ok (.getfield 15, 3) := by decide +kernel
theorem dX1_openHits_95 : decode cX1_openHits 95 = .ok (.ireturn, 1) := by decide +kernel
theorem dX2_init_0 : decode cX2_init 0 = .ok (.aload_n 0, 1) := by decide +kernel
theorem dX2_init_1 : decode cX2_init 1 = .ok (.invokespecial 3, 3) := by decide +kernel
theorem dX2_init_4 : decode cX2_init 4 = .ok (.aload_n 0, 1) := by decide +kernel
theorem dX2_init_5 : decode cX2_init 5 = .ok (.bipush 26, 2) := by decide +kernel
theorem dX2_init_7 : decode cX2_init 7 = .ok (.newarray .long, 2) := by decide +kernel
theorem dX2_init_9 : decode cX2_init 9 = .ok (.putfield 9, 3) := by decide +kernel
theorem dX2_init_12 : decode cX2_init 12 = .ok (.return_, 1) := by decide +kernel
theorem dX2_work_0 : decode cX2_work 0 = .ok (.aload_n 0, 1) := by decide +kernel
theorem dX2_work_1 : decode cX2_work 1 = .ok (.getfield 9, 3) := by decide +kernel
theorem dX2_work_4 : decode cX2_work 4 = .ok (.lconst 0, 1) := by decide +kernel
theorem dX2_work_5 : decode cX2_work 5 = .ok (.invokestatic 15, 3) := by decide +kernel
theorem dX2_work_8 : decode cX2_work 8 = .ok (.aload_n 0, 1) := by decide +kernel
theorem dX2_work_9 : decode cX2_work 9 = .ok (.getfield 9, 3) := by decide +kernel
theorem dX2_work_12 : decode cX2_work 12 = .ok (.iconst 0, 1) := by decide +kernel
theorem dX2_work_13 : decode cX2_work 13 = .ok (.lconst 1, 1) := by decide +kernel
theorem dX2_work_14 : decode cX2_work 14 = .ok (.lastore, 1) := by decide +kernel
theorem dX2_work_15 : decode cX2_work 15 = .ok (.iconst 0, 1) := by decide +kernel
theorem dX2_work_16 : decode cX2_work 16 = .ok (.istore_n 2, 1) := by decide +kernel
theorem dX2_work_17 : decode cX2_work 17 = .ok (.iconst 0, 1) := by decide +kernel
theorem dX2_work_18 : decode cX2_work 18 = .ok (.istore_n 3, 1) := by decide +kernel
theorem dX2_work_19 : decode cX2_work 19 = .ok (.iload_n 3, 1) := by decide +kernel
theorem dX2_work_20 : decode cX2_work 20 = .ok (.iconst 5, 1) := by decide +kernel
theorem dX2_work_21 : decode cX2_work 21 = .ok (.if_icmp .ge 37, 3) := by decide +kernel
theorem dX2_work_24 : decode cX2_work 24 = .ok (.aload_n 1, 1) := by decide +kernel
theorem dX2_work_25 : decode cX2_work 25 = .ok (.getfield 21, 3) := by decide +kernel
theorem dX2_work_28 : decode cX2_work 28 = .ok (.getfield 27, 3) := by decide +kernel
theorem dX2_work_31 : decode cX2_work 31 = .ok (.iload_n 3, 1) := by decide +kernel
theorem dX2_work_32 : decode cX2_work 32 = .ok (.iaload, 1) := by decide +kernel
theorem dX2_work_33 : decode cX2_work 33 = .ok (.istore 4, 2) := by decide +kernel
theorem dX2_work_35 : decode cX2_work 35 = .ok (.iload_n 2, 1) := by decide +kernel
theorem dX2_work_36 : decode cX2_work 36 = .ok (.iload 4, 2) := by decide +kernel
theorem dX2_work_38 : decode cX2_work 38 = .ok (.iadd, 1) := by decide +kernel
theorem dX2_work_39 : decode cX2_work 39 = .ok (.istore_n 2, 1) := by decide +kernel
theorem dX2_work_40 : decode cX2_work 40 = .ok (.aload_n 0, 1) := by decide +kernel
theorem dX2_work_41 : decode cX2_work 41 = .ok (.iload_n 2, 1) := by decide +kernel
theorem dX2_work_42 : decode cX2_work 42 = .ok (.iload 4, 2) := by decide +kernel
theorem dX2_work_44 : decode cX2_work 44 = .ok (.aload_n 1, 1) := by decide +kernel
theorem dX2_work_45 : decode cX2_work 45 = .ok (.iload_n 3, 1) := by decide +kernel
theorem dX2_work_46 : decode cX2_work 46 = .ok (.invokevirtual 33, 3) := by decide +kernel
theorem dX2_work_49 : decode cX2_work 49 = .ok (.invokevirtual 37, 3) := by decide +kernel
theorem dX2_work_52 : decode cX2_work 52 = .ok (.iinc 3 1, 3) := by decide +kernel
theorem dX2_work_55 : decode cX2_work 55 = .ok (.goto (-36), 3) := by decide +kernel
theorem dX2_work_58 : decode cX2_work 58 = .ok (.return_, 1) := by decide +kernel
theorem dX2_addSign_0 : decode cX2_addSign 0 = .ok (.bipush 25, 2) := by decide +kernel
theorem dX2_addSign_2 : decode cX2_addSign 2 = .ok (.istore 4, 2) := by decide +kernel
theorem dX2_addSign_4 : decode cX2_addSign 4 = .ok (.iload 4, 2) := by decide +kernel
theorem dX2_addSign_6 : decode cX2_addSign 6 = .ok (.ifCond .lt 77, 3) := by decide +kernel
theorem dX2_addSign_9 : decode cX2_addSign 9 = .ok (.lconst 0, 1) := by decide +kernel
theorem dX2_addSign_10 : decode cX2_addSign 10 = .ok (.lstore 5, 2) := by decide +kernel
theorem dX2_addSign_12 : decode cX2_addSign 12 = .ok (.iconst 0, 1) := by decide +kernel
theorem dX2_addSign_13 : decode cX2_addSign 13 = .ok (.istore 7, 2) := by decide +kernel
theorem dX2_addSign_15 : decode cX2_addSign 15 = .ok (.iload 7, 2) := by decide +kernel
theorem dX2_addSign_17 : decode cX2_addSign 17 = .ok (.iload_n 2, 1) := by decide +kernel
theorem dX2_addSign_18 : decode cX2_addSign 18 = .ok (.if_icmp .gt 50, 3) := by decide +kernel
theorem dX2_addSign_21 : decode cX2_addSign 21 = .ok (.iload 7, 2) := by decide +kernel
theorem dX2_addSign_23 : decode cX2_addSign 23 = .ok (.iload 4, 2) := by decide +kernel
theorem dX2_addSign_25 : decode cX2_addSign 25 = .ok (.if_icmp .gt 43, 3) := by decide +kernel
theorem dX2_addSign_28 : decode cX2_addSign 28 = .ok (.lload 5, 2) := by decide +kernel
theorem dX2_addSign_30 : decode cX2_addSign 30 = .ok (.aload_n 0, 1) := by decide +kernel
theorem dX2_addSign_31 : decode cX2_addSign 31 = .ok (.getfield 9, 3) := by decide +kernel
theorem dX2_addSign_34 : decode cX2_addSign 34 = .ok (.iload 4, 2) := by decide +kernel
theorem dX2_addSign_36 : decode cX2_addSign 36 = .ok (.iload 7, 2) := by decide +kernel
theorem dX2_addSign_38 : decode cX2_addSign 38 = .ok (.isub, 1) := by decide +kernel
theorem dX2_addSign_39 : decode cX2_addSign 39 = .ok (.laload, 1) := by decide +kernel
theorem dX2_addSign_40 : decode cX2_addSign 40 = .ok (.iload_n 3, 1) := by decide +kernel
theorem dX2_addSign_41 : decode cX2_addSign 41 = .ok (.iload 7, 2) := by decide +kernel
theorem dX2_addSign_43 : decode cX2_addSign 43 = .ok (.invokestatic 41, 3) := by decide +kernel
theorem dX2_addSign_46 : decode cX2_addSign 46 = .ok (.lmul, 1) := by decide +kernel
theorem dX2_addSign_47 : decode cX2_addSign 47 = .ok (.iload_n 1, 1) := by decide +kernel
theorem dX2_addSign_48 : decode cX2_addSign 48 = .ok (.iload 4, 2) := by decide +kernel
theorem dX2_addSign_50 : decode cX2_addSign 50 = .ok (.isub, 1) := by decide +kernel
theorem dX2_addSign_51 : decode cX2_addSign 51 = .ok (.iload_n 2, 1) := by decide +kernel
theorem dX2_addSign_52 : decode cX2_addSign 52 = .ok (.iload 7, 2) := by decide +kernel
theorem dX2_addSign_54 : decode cX2_addSign 54 = .ok (.isub, 1) := by decide +kernel
theorem dX2_addSign_55 : decode cX2_addSign 55 = .ok (.invokestatic 41, 3) := by decide +kernel
theorem dX2_addSign_58 : decode cX2_addSign 58 = .ok (.lmul, 1) := by decide +kernel
theorem dX2_addSign_59 : decode cX2_addSign 59 = .ok (.ladd, 1) := by decide +kernel
theorem dX2_addSign_60 : decode cX2_addSign 60 = .ok (.lstore 5, 2) := by decide +kernel
theorem dX2_addSign_62 : decode cX2_addSign 62 = .ok (.iinc 7 1, 3) := by decide +kernel
theorem dX2_addSign_65 : decode cX2_addSign 65 = .ok (.goto (-50), 3) := by decide +kernel
theorem dX2_addSign_68 : decode cX2_addSign 68 = .ok (.aload_n 0, 1) := by decide +kernel
theorem dX2_addSign_69 : decode cX2_addSign 69 = .ok (.getfield 9, 3) := by decide +kernel
theorem dX2_addSign_72 : decode cX2_addSign 72 = .ok (.iload 4, 2) := by decide +kernel
theorem dX2_addSign_74 : decode cX2_addSign 74 = .ok (.lload 5, 2) := by decide +kernel
theorem dX2_addSign_76 : decode cX2_addSign 76 = .ok (.lastore, 1) := by decide +kernel
theorem dX2_addSign_77 : decode cX2_addSign 77 = .ok (.iinc 4 (-1), 3) := by decide +kernel
theorem dX2_addSign_80 : decode cX2_addSign 80 = .ok (.goto (-76), 3) := by decide +kernel
theorem dX2_addSign_83 : decode cX2_addSign 83 = .ok (.return_, 1) := by decide +kernel
theorem dX2_allOrders_0 : decode cX2_allOrders 0 = .ok (.aload_n 0, 1) := by decide +kernel
theorem dX2_allOrders_1 : decode cX2_allOrders 1 = .ok (.getfield 9, 3) := by decide +kernel
theorem dX2_allOrders_4 : decode cX2_allOrders 4 = .ok (.iconst 0, 1) := by decide +kernel
theorem dX2_allOrders_5 : decode cX2_allOrders 5 = .ok (.laload, 1) := by decide +kernel
theorem dX2_allOrders_6 : decode cX2_allOrders 6 = .ok (.lreturn, 1) := by decide +kernel
theorem dX2_ordersWith_0 : decode cX2_ordersWith 0 = .ok (.lconst 0, 1) := by decide +kernel
theorem dX2_ordersWith_1 : decode cX2_ordersWith 1 = .ok (.lstore_n 2, 1) := by decide +kernel
theorem dX2_ordersWith_2 : decode cX2_ordersWith 2 = .ok (.iload_n 1, 1) := by decide +kernel
theorem dX2_ordersWith_3 : decode cX2_ordersWith 3 = .ok (.istore 4, 2) := by decide +kernel
theorem dX2_ordersWith_5 : decode cX2_ordersWith 5 = .ok (.iload 4, 2) := by decide +kernel
theorem dX2_ordersWith_7 : decode cX2_ordersWith 7 = .ok (.bipush 25, 2) := by decide +kernel
theorem dX2_ordersWith_9 : decode cX2_ordersWith 9 = .ok (.if_icmp .gt 45, 3) := by decide +kernel
theorem dX2_ordersWith_12 : decode cX2_ordersWith 12 = .ok (.iload 4, 2) := by decide +kernel
theorem dX2_ordersWith_14 : decode cX2_ordersWith 14 = .ok (.iload_n 1, 1) := by decide +kernel
theorem dX2_ordersWith_15 : decode cX2_ordersWith 15 = .ok (.invokestatic 41, 3) := by decide +kernel
theorem dX2_ordersWith_18 : decode cX2_ordersWith 18 = .ok (.aload_n 0, 1) := by decide +kernel
theorem dX2_ordersWith_19 : decode cX2_ordersWith 19 = .ok (.getfield 9, 3) := by decide +kernel
theorem dX2_ordersWith_22 : decode cX2_ordersWith 22 = .ok (.iload 4, 2) := by decide +kernel
theorem dX2_ordersWith_24 : decode cX2_ordersWith 24 = .ok (.laload, 1) := by decide +kernel
theorem dX2_ordersWith_25 : decode cX2_ordersWith 25 = .ok (.lmul, 1) := by decide +kernel
theorem dX2_ordersWith_26 : decode cX2_ordersWith 26 = .ok (.lstore 5, 2) := by decide +kernel
theorem dX2_ordersWith_28 : decode cX2_ordersWith 28 = .ok (.lload_n 2, 1) := by decide +kernel
theorem dX2_ordersWith_29 : decode cX2_ordersWith 29 = .ok (.iload 4, 2) := by decide +kernel
theorem dX2_ordersWith_31 : decode cX2_ordersWith 31 = .ok (.iload_n 1, 1) := by decide +kernel
theorem dX2_ordersWith_32 : decode cX2_ordersWith 32 = .ok (.isub, 1) := by decide +kernel
theorem dX2_ordersWith_33 : decode cX2_ordersWith 33 = .ok (.iconst 2, 1) := by decide +kernel
theorem dX2_ordersWith_34 : decode cX2_ordersWith 34 = .ok (.irem, 1) := by decide +kernel
theorem dX2_ordersWith_35 : decode cX2_ordersWith 35 = .ok (.ifCond .ne 8, 3) := by decide +kernel
theorem dX2_ordersWith_38 : decode cX2_ordersWith 38 = .ok (.lload 5, 2) := by decide +kernel
theorem dX2_ordersWith_40 : decode cX2_ordersWith 40 = .ok (.goto 6, 3) := by decide +kernel
theorem dX2_ordersWith_43 : decode cX2_ordersWith 43 = .ok (.lload 5, 2) := by decide +kernel
theorem dX2_ordersWith_45 : decode cX2_ordersWith 45 = .ok (.lneg, 1) := by decide +kernel
theorem dX2_ordersWith_46 : decode cX2_ordersWith 46 = .ok (.ladd, 1) := by decide +kernel
theorem dX2_ordersWith_47 : decode cX2_ordersWith 47 = .ok (.lstore_n 2, 1) := by decide +kernel
theorem dX2_ordersWith_48 : decode cX2_ordersWith 48 = .ok (.iinc 4 1, 3) := by decide +kernel
theorem dX2_ordersWith_51 : decode cX2_ordersWith 51 = .ok (.goto (-46), 3) := by decide +kernel
theorem dX2_ordersWith_54 : decode cX2_ordersWith 54 = .ok (.lload_n 2, 1) := by decide +kernel
theorem dX2_ordersWith_55 : decode cX2_ordersWith 55 = .ok (.lreturn, 1) := by decide +kernel
theorem dX2_choices_0 : decode cX2_choices 0 = .ok (.iload_n 1, 1) := by decide +kernel
theorem dX2_choices_1 : decode cX2_choices 1 = .ok (.ifCond .lt 8, 3) := by decide +kernel
theorem dX2_choices_4 : decode cX2_choices 4 = .ok (.iload_n 1, 1) := by decide +kernel
theorem dX2_choices_5 : decode cX2_choices 5 = .ok (.iload_n 0, 1) := by decide +kernel
theorem dX2_choices_6 : decode cX2_choices 6 = .ok (.if_icmp .le 5, 3) := by decide +kernel
theorem dX2_choices_9 : decode cX2_choices 9 = .ok (.lconst 0, 1) := by decide +kernel
theorem dX2_choices_10 : decode cX2_choices 10 = .ok (.lreturn, 1) := by decide +kernel
theorem dX2_choices_11 : decode cX2_choices 11 = .ok (.lconst 1, 1) := by decide +kernel
theorem dX2_choices_12 : decode cX2_choices 12 = .ok (.lstore_n 2, 1) := by decide +kernel
theorem dX2_choices_13 : decode cX2_choices 13 = .ok (.iconst 1, 1) := by decide +kernel
theorem dX2_choices_14 : decode cX2_choices 14 = .ok (.istore 4, 2) := by decide +kernel
theorem dX2_choices_16 : decode cX2_choices 16 = .ok (.iload 4, 2) := by decide +kernel
theorem dX2_choices_18 : decode cX2_choices 18 = .ok (.iload_n 1, 1) := by decide +kernel
theorem dX2_choices_19 : decode cX2_choices 19 = .ok (.if_icmp .gt 23, 3) := by decide +kernel
theorem dX2_choices_22 : decode cX2_choices 22 = .ok (.lload_n 2, 1) := by decide +kernel
theorem dX2_choices_23 : decode cX2_choices 23 = .ok (.iload_n 0, 1) := by decide +kernel
theorem dX2_choices_24 : decode cX2_choices 24 = .ok (.iload_n 1, 1) := by decide +kernel
theorem dX2_choices_25 : decode cX2_choices 25 = .ok (.isub, 1) := by decide +kernel
theorem dX2_choices_26 : decode cX2_choices 26 = .ok (.iload 4, 2) := by decide +kernel
theorem dX2_choices_28 : decode cX2_choices 28 = .ok (.iadd, 1) := by decide +kernel
theorem dX2_choices_29 : decode cX2_choices 29 = .ok (.i2l, 1) := by decide +kernel
theorem dX2_choices_30 : decode cX2_choices 30 = .ok (.lmul, 1) := by decide +kernel
theorem dX2_choices_31 : decode cX2_choices 31 = .ok (.iload 4, 2) := by decide +kernel
theorem dX2_choices_33 : decode cX2_choices 33 = .ok (.i2l, 1) := by decide +kernel
theorem dX2_choices_34 : decode cX2_choices 34 = .ok (.ldiv, 1) := by decide +kernel
theorem dX2_choices_35 : decode cX2_choices 35 = .ok (.lstore_n 2, 1) := by decide +kernel
theorem dX2_choices_36 : decode cX2_choices 36 = .ok (.iinc 4 1, 3) := by decide +kernel
theorem dX2_choices_39 : decode cX2_choices 39 = .ok (.goto (-23), 3) := by decide +kernel
theorem dX2_choices_42 : decode cX2_choices 42 = .ok (.lload_n 2, 1) := by decide +kernel
theorem dX2_choices_43 : decode cX2_choices 43 = .ok (.lreturn, 1) := by decide +kernel
theorem dX3_init_0 : decode cX3_init 0 = .ok (.aload_n 0, 1) := by decide +kernel
theorem dX3_init_1 : decode cX3_init 1 = .ok (.invokespecial 3, 3) := by decide +kernel
theorem dX3_init_4 : decode cX3_init 4 = .ok (.aload_n 0, 1) := by decide +kernel
theorem dX3_init_5 : decode cX3_init 5 = .ok (.iconst 5, 1) := by decide +kernel
theorem dX3_init_6 : decode cX3_init 6 = .ok (.newarray .int, 2) := by decide +kernel
theorem dX3_init_8 : decode cX3_init 8 = .ok (.putfield 9, 3) := by decide +kernel
theorem dX3_init_11 : decode cX3_init 11 = .ok (.iload_n 1, 1) := by decide +kernel
theorem dX3_init_12 : decode cX3_init 12 = .ok (.istore_n 2, 1) := by decide +kernel
theorem dX3_init_13 : decode cX3_init 13 = .ok (.iconst 0, 1) := by decide +kernel
theorem dX3_init_14 : decode cX3_init 14 = .ok (.istore_n 3, 1) := by decide +kernel
theorem dX3_init_15 : decode cX3_init 15 = .ok (.iconst 4, 1) := by decide +kernel
theorem dX3_init_16 : decode cX3_init 16 = .ok (.istore 4, 2) := by decide +kernel
theorem dX3_init_18 : decode cX3_init 18 = .ok (.iload 4, 2) := by decide +kernel
theorem dX3_init_20 : decode cX3_init 20 = .ok (.ifCond .lt 32, 3) := by decide +kernel
theorem dX3_init_23 : decode cX3_init 23 = .ok (.aload_n 0, 1) := by decide +kernel
theorem dX3_init_24 : decode cX3_init 24 = .ok (.getfield 9, 3) := by decide +kernel
theorem dX3_init_27 : decode cX3_init 27 = .ok (.iload 4, 2) := by decide +kernel
theorem dX3_init_29 : decode cX3_init 29 = .ok (.iload_n 2, 1) := by decide +kernel
theorem dX3_init_30 : decode cX3_init 30 = .ok (.bipush 10, 2) := by decide +kernel
theorem dX3_init_32 : decode cX3_init 32 = .ok (.irem, 1) := by decide +kernel
theorem dX3_init_33 : decode cX3_init 33 = .ok (.iastore, 1) := by decide +kernel
theorem dX3_init_34 : decode cX3_init 34 = .ok (.iload_n 3, 1) := by decide +kernel
theorem dX3_init_35 : decode cX3_init 35 = .ok (.iload_n 2, 1) := by decide +kernel
theorem dX3_init_36 : decode cX3_init 36 = .ok (.bipush 10, 2) := by decide +kernel
theorem dX3_init_38 : decode cX3_init 38 = .ok (.irem, 1) := by decide +kernel
theorem dX3_init_39 : decode cX3_init 39 = .ok (.iadd, 1) := by decide +kernel
theorem dX3_init_40 : decode cX3_init 40 = .ok (.istore_n 3, 1) := by decide +kernel
theorem dX3_init_41 : decode cX3_init 41 = .ok (.iload_n 2, 1) := by decide +kernel
theorem dX3_init_42 : decode cX3_init 42 = .ok (.bipush 10, 2) := by decide +kernel
theorem dX3_init_44 : decode cX3_init 44 = .ok (.idiv, 1) := by decide +kernel
theorem dX3_init_45 : decode cX3_init 45 = .ok (.istore_n 2, 1) := by decide +kernel
theorem dX3_init_46 : decode cX3_init 46 = .ok (.iinc 4 (-1), 3) := by decide +kernel
theorem dX3_init_49 : decode cX3_init 49 = .ok (.goto (-31), 3) := by decide +kernel
theorem dX3_init_52 : decode cX3_init 52 = .ok (.aload_n 0, 1) := by decide +kernel
theorem dX3_init_53 : decode cX3_init 53 = .ok (.iload_n 3, 1) := by decide +kernel
theorem dX3_init_54 : decode cX3_init 54 = .ok (.putfield 15, 3) := by decide +kernel
theorem dX3_init_57 : decode cX3_init 57 = .ok (.return_, 1) := by decide +kernel
theorem dX4_init_0 : decode cX4_init 0 = .ok (.aload_n 0, 1) := by decide +kernel
theorem dX4_init_1 : decode cX4_init 1 = .ok (.invokespecial 3, 3) := by decide +kernel
theorem dX4_init_4 : decode cX4_init 4 = .ok (.aload_n 0, 1) := by decide +kernel
theorem dX4_init_5 : decode cX4_init 5 = .ok (.new 9, 3) := by decide +kernel
theorem dX4_init_8 : decode cX4_init 8 = .ok (.dup, 1) := by decide +kernel
theorem dX4_init_9 : decode cX4_init 9 = .ok (.invokespecial 11, 3) := by decide +kernel
theorem dX4_init_12 : decode cX4_init 12 = .ok (.putfield 12, 3) := by decide +kernel
theorem dX4_init_15 : decode cX4_init 15 = .ok (.aload_n 0, 1) := by decide +kernel
theorem dX4_init_16 : decode cX4_init 16 = .ok (.sipush 160, 3) := by decide +kernel
theorem dX4_init_19 : decode cX4_init 19 = .ok (.newarray .int, 2) := by decide +kernel
theorem dX4_init_21 : decode cX4_init 21 = .ok (.putfield 18, 3) := by decide +kernel
theorem dX4_init_24 : decode cX4_init 24 = .ok (.aload_n 0, 1) := by decide +kernel
theorem dX4_init_25 : decode cX4_init 25 = .ok (.iconst 3, 1) := by decide +kernel
theorem dX4_init_26 : decode cX4_init 26 = .ok (.newarray .int, 2) := by decide +kernel
theorem dX4_init_28 : decode cX4_init 28 = .ok (.putfield 24, 3) := by decide +kernel
theorem dX4_init_31 : decode cX4_init 31 = .ok (.return_, 1) := by decide +kernel
theorem dX4_read_0 : decode cX4_read 0 = .ok (.aload_n 0, 1) := by decide +kernel
theorem dX4_read_1 : decode cX4_read 1 = .ok (.getfield 12, 3) := by decide +kernel
theorem dX4_read_4 : decode cX4_read 4 = .ok (.aload_n 1, 1) := by decide +kernel
theorem dX4_read_5 : decode cX4_read 5 = .ok (.invokevirtual 27, 3) := by decide +kernel
theorem dX4_read_8 : decode cX4_read 8 = .ok (.aload_n 0, 1) := by decide +kernel
theorem dX4_read_9 : decode cX4_read 9 = .ok (.iconst 0, 1) := by decide +kernel
theorem dX4_read_10 : decode cX4_read 10 = .ok (.putfield 31, 3) := by decide +kernel
theorem dX4_read_13 : decode cX4_read 13 = .ok (.aload_n 0, 1) := by decide +kernel
theorem dX4_read_14 : decode cX4_read 14 = .ok (.iconst (-1), 1) := by decide +kernel
theorem dX4_read_15 : decode cX4_read 15 = .ok (.putfield 35, 3) := by decide +kernel
theorem dX4_read_18 : decode cX4_read 18 = .ok (.aload_n 0, 1) := by decide +kernel
theorem dX4_read_19 : decode cX4_read 19 = .ok (.iconst 0, 1) := by decide +kernel
theorem dX4_read_20 : decode cX4_read 20 = .ok (.putfield 38, 3) := by decide +kernel
theorem dX4_read_23 : decode cX4_read 23 = .ok (.aload_n 0, 1) := by decide +kernel
theorem dX4_read_24 : decode cX4_read 24 = .ok (.aload_n 0, 1) := by decide +kernel
theorem dX4_read_25 : decode cX4_read 25 = .ok (.getfield 12, 3) := by decide +kernel
theorem dX4_read_28 : decode cX4_read 28 = .ok (.getfield 41, 3) := by decide +kernel
theorem dX4_read_31 : decode cX4_read 31 = .ok (.aload_n 0, 1) := by decide +kernel
theorem dX4_read_32 : decode cX4_read 32 = .ok (.getfield 38, 3) := by decide +kernel
theorem dX4_read_35 : decode cX4_read 35 = .ok (.iaload, 1) := by decide +kernel
theorem dX4_read_36 : decode cX4_read 36 = .ok (.putfield 44, 3) := by decide +kernel
theorem dX4_read_39 : decode cX4_read 39 = .ok (.iconst 0, 1) := by decide +kernel
theorem dX4_read_40 : decode cX4_read 40 = .ok (.istore_n 2, 1) := by decide +kernel
theorem dX4_read_41 : decode cX4_read 41 = .ok (.iload_n 2, 1) := by decide +kernel
theorem dX4_read_42 : decode cX4_read 42 = .ok (.iconst 3, 1) := by decide +kernel
theorem dX4_read_43 : decode cX4_read 43 = .ok (.if_icmp .ge 39, 3) := by decide +kernel
theorem dX4_read_46 : decode cX4_read 46 = .ok (.aload_n 0, 1) := by decide +kernel
theorem dX4_read_47 : decode cX4_read 47 = .ok (.bipush 6, 2) := by decide +kernel
theorem dX4_read_49 : decode cX4_read 49 = .ok (.iload_n 2, 1) := by decide +kernel
theorem dX4_read_50 : decode cX4_read 50 = .ok (.iadd, 1) := by decide +kernel
theorem dX4_read_51 : decode cX4_read 51 = .ok (.invokevirtual 47, 3) := by decide +kernel
theorem dX4_read_54 : decode cX4_read 54 = .ok (.aload_n 0, 1) := by decide +kernel
theorem dX4_read_55 : decode cX4_read 55 = .ok (.iconst 0, 1) := by decide +kernel
theorem dX4_read_56 : decode cX4_read 56 = .ok (.iconst 0, 1) := by decide +kernel
theorem dX4_read_57 : decode cX4_read 57 = .ok (.invokevirtual 51, 3) := by decide +kernel
theorem dX4_read_60 : decode cX4_read 60 = .ok (.aload_n 0, 1) := by decide +kernel
theorem dX4_read_61 : decode cX4_read 61 = .ok (.bipush 59, 2) := by decide +kernel
theorem dX4_read_63 : decode cX4_read 63 = .ok (.invokevirtual 47, 3) := by decide +kernel
theorem dX4_read_66 : decode cX4_read 66 = .ok (.aload_n 0, 1) := by decide +kernel
theorem dX4_read_67 : decode cX4_read 67 = .ok (.getfield 24, 3) := by decide +kernel
theorem dX4_read_70 : decode cX4_read 70 = .ok (.iload_n 2, 1) := by decide +kernel
theorem dX4_read_71 : decode cX4_read 71 = .ok (.aload_n 0, 1) := by decide +kernel
theorem dX4_read_72 : decode cX4_read 72 = .ok (.getfield 31, 3) := by decide +kernel
theorem dX4_read_75 : decode cX4_read 75 = .ok (.iastore, 1) := by decide +kernel
theorem dX4_read_76 : decode cX4_read 76 = .ok (.iinc 2 1, 3) := by decide +kernel
theorem dX4_read_79 : decode cX4_read 79 = .ok (.goto (-38), 3) := by decide +kernel
theorem dX4_read_82 : decode cX4_read 82 = .ok (.aload_n 0, 1) := by decide +kernel
theorem dX4_read_83 : decode cX4_read 83 = .ok (.iconst (-1), 1) := by decide +kernel
theorem dX4_read_84 : decode cX4_read 84 = .ok (.invokevirtual 47, 3) := by decide +kernel
theorem dX4_read_87 : decode cX4_read 87 = .ok (.aload_n 0, 1) := by decide +kernel
theorem dX4_read_88 : decode cX4_read 88 = .ok (.getfield 35, 3) := by decide +kernel
theorem dX4_read_91 : decode cX4_read 91 = .ok (.ireturn, 1) := by decide +kernel
theorem dX4_textRead_0 : decode cX4_textRead 0 = .ok (.new 22, 3) := by decide +kernel
theorem dX4_textRead_3 : decode cX4_textRead 3 = .ok (.dup, 1) := by decide +kernel
theorem dX4_textRead_4 : decode cX4_textRead 4 = .ok (.aload_n 0, 1) := by decide +kernel
theorem dX4_textRead_5 : decode cX4_textRead 5 = .ok (.getfield 18, 3) := by decide +kernel
theorem dX4_textRead_8 : decode cX4_textRead 8 = .ok (.aload_n 0, 1) := by decide +kernel
theorem dX4_textRead_9 : decode cX4_textRead 9 = .ok (.getfield 31, 3) := by decide +kernel
theorem dX4_textRead_12 : decode cX4_textRead 12 = .ok (.invokestatic 55, 3) := by decide +kernel
theorem dX4_textRead_15 : decode cX4_textRead 15 = .ok (.aload_n 0, 1) := by decide +kernel
theorem dX4_textRead_16 : decode cX4_textRead 16 = .ok (.getfield 24, 3) := by decide +kernel
theorem dX4_textRead_19 : decode cX4_textRead 19 = .ok (.invokevirtual 61, 3) := by decide +kernel
theorem dX4_textRead_22 : decode cX4_textRead 22 = .ok (.checkcast 62, 3) := by decide +kernel
theorem dX4_textRead_25 : decode cX4_textRead 25 = .ok (.invokespecial 66, 3) := by decide +kernel
theorem dX4_textRead_28 : decode cX4_textRead 28 = .ok (.areturn, 1) := by decide +kernel
theorem dX4_expect_0 : decode cX4_expect 0 = .ok (.aload_n 0, 1) := by decide +kernel
theorem dX4_expect_1 : decode cX4_expect 1 = .ok (.getfield 44, 3) := by decide +kernel
theorem dX4_expect_4 : decode cX4_expect 4 = .ok (.iload_n 1, 1) := by decide +kernel
theorem dX4_expect_5 : decode cX4_expect 5 = .ok (.if_icmp .ne 10, 3) := by decide +kernel
theorem dX4_expect_8 : decode cX4_expect 8 = .ok (.aload_n 0, 1) := by decide +kernel
theorem dX4_expect_9 : decode cX4_expect 9 = .ok (.invokevirtual 69, 3) := by decide +kernel
theorem dX4_expect_12 : decode cX4_expect 12 = .ok (.goto 7, 3) := by decide +kernel
theorem dX4_expect_15 : decode cX4_expect 15 = .ok (.aload_n 0, 1) := by decide +kernel
theorem dX4_expect_16 : decode cX4_expect 16 = .ok (.invokevirtual 72, 3) := by decide +kernel
theorem dX4_expect_19 : decode cX4_expect 19 = .ok (.return_, 1) := by decide +kernel
theorem dX4_step_0 : decode cX4_step 0 = .ok (.aload_n 0, 1) := by decide +kernel
theorem dX4_step_1 : decode cX4_step 1 = .ok (.getfield 38, 3) := by decide +kernel
theorem dX4_step_4 : decode cX4_step 4 = .ok (.iconst 1, 1) := by decide +kernel
theorem dX4_step_5 : decode cX4_step 5 = .ok (.iadd, 1) := by decide +kernel
theorem dX4_step_6 : decode cX4_step 6 = .ok (.aload_n 0, 1) := by decide +kernel
theorem dX4_step_7 : decode cX4_step 7 = .ok (.getfield 12, 3) := by decide +kernel
theorem dX4_step_10 : decode cX4_step 10 = .ok (.getfield 75, 3) := by decide +kernel
theorem dX4_step_13 : decode cX4_step 13 = .ok (.if_icmp .ge 13, 3) := by decide +kernel
theorem dX4_step_16 : decode cX4_step 16 = .ok (.aload_n 0, 1) := by decide +kernel
theorem dX4_step_17 : decode cX4_step 17 = .ok (.dup, 1) := by decide +kernel
theorem dX4_step_18 : decode cX4_step 18 = .ok (.getfield 38, 3) := by decide +kernel
theorem dX4_step_21 : decode cX4_step 21 = .ok (.iconst 1, 1) := by decide +kernel
theorem dX4_step_22 : decode cX4_step 22 = .ok (.iadd, 1) := by decide +kernel
theorem dX4_step_23 : decode cX4_step 23 = .ok (.putfield 38, 3) := by decide +kernel
theorem dX4_step_26 : decode cX4_step 26 = .ok (.aload_n 0, 1) := by decide +kernel
theorem dX4_step_27 : decode cX4_step 27 = .ok (.aload_n 0, 1) := by decide +kernel
theorem dX4_step_28 : decode cX4_step 28 = .ok (.getfield 12, 3) := by decide +kernel
theorem dX4_step_31 : decode cX4_step 31 = .ok (.getfield 41, 3) := by decide +kernel
theorem dX4_step_34 : decode cX4_step 34 = .ok (.aload_n 0, 1) := by decide +kernel
theorem dX4_step_35 : decode cX4_step 35 = .ok (.getfield 38, 3) := by decide +kernel
theorem dX4_step_38 : decode cX4_step 38 = .ok (.iaload, 1) := by decide +kernel
theorem dX4_step_39 : decode cX4_step 39 = .ok (.putfield 44, 3) := by decide +kernel
theorem dX4_step_42 : decode cX4_step 42 = .ok (.return_, 1) := by decide +kernel
theorem dX4_refuse_0 : decode cX4_refuse 0 = .ok (.aload_n 0, 1) := by decide +kernel
theorem dX4_refuse_1 : decode cX4_refuse 1 = .ok (.getfield 35, 3) := by decide +kernel
theorem dX4_refuse_4 : decode cX4_refuse 4 = .ok (.iconst (-1), 1) := by decide +kernel
theorem dX4_refuse_5 : decode cX4_refuse 5 = .ok (.if_icmp .ne 19, 3) := by decide +kernel
theorem dX4_refuse_8 : decode cX4_refuse 8 = .ok (.aload_n 0, 1) := by decide +kernel
theorem dX4_refuse_9 : decode cX4_refuse 9 = .ok (.aload_n 0, 1) := by decide +kernel
theorem dX4_refuse_10 : decode cX4_refuse 10 = .ok (.getfield 12, 3) := by decide +kernel
theorem dX4_refuse_13 : decode cX4_refuse 13 = .ok (.getfield 78, 3) := by decide +kernel
theorem dX4_refuse_16 : decode cX4_refuse 16 = .ok (.aload_n 0, 1) := by decide +kernel
theorem dX4_refuse_17 : decode cX4_refuse 17 = .ok (.getfield 38, 3) := by decide +kernel
theorem dX4_refuse_20 : decode cX4_refuse 20 = .ok (.iaload, 1) := by decide +kernel
theorem dX4_refuse_21 : decode cX4_refuse 21 = .ok (.putfield 35, 3) := by decide +kernel
theorem dX4_refuse_24 : decode cX4_refuse 24 = .ok (.aload_n 0, 1) := by decide +kernel
theorem dX4_refuse_25 : decode cX4_refuse 25 = .ok (.bipush (-2), 2) := by decide +kernel
theorem dX4_refuse_27 : decode cX4_refuse 27 = .ok (.putfield 44, 3) := by decide +kernel
theorem dX4_refuse_30 : decode cX4_refuse 30 = .ok (.return_, 1) := by decide +kernel
theorem dX4_put_0 : decode cX4_put 0 = .ok (.aload_n 0, 1) := by decide +kernel
theorem dX4_put_1 : decode cX4_put 1 = .ok (.getfield 31, 3) := by decide +kernel
theorem dX4_put_4 : decode cX4_put 4 = .ok (.aload_n 0, 1) := by decide +kernel
theorem dX4_put_5 : decode cX4_put 5 = .ok (.getfield 18, 3) := by decide +kernel
theorem dX4_put_8 : decode cX4_put 8 = .ok (.arraylength, 1) := by decide +kernel
theorem dX4_put_9 : decode cX4_put 9 = .ok (.if_icmp .ge 23, 3) := by decide +kernel
theorem dX4_put_12 : decode cX4_put 12 = .ok (.aload_n 0, 1) := by decide +kernel
theorem dX4_put_13 : decode cX4_put 13 = .ok (.getfield 18, 3) := by decide +kernel
theorem dX4_put_16 : decode cX4_put 16 = .ok (.aload_n 0, 1) := by decide +kernel
theorem dX4_put_17 : decode cX4_put 17 = .ok (.getfield 31, 3) := by decide +kernel
theorem dX4_put_20 : decode cX4_put 20 = .ok (.iload_n 1, 1) := by decide +kernel
theorem dX4_put_21 : decode cX4_put 21 = .ok (.iastore, 1) := by decide +kernel
theorem dX4_put_22 : decode cX4_put 22 = .ok (.aload_n 0, 1) := by decide +kernel
theorem dX4_put_23 : decode cX4_put 23 = .ok (.dup, 1) := by decide +kernel
theorem dX4_put_24 : decode cX4_put 24 = .ok (.getfield 31, 3) := by decide +kernel
theorem dX4_put_27 : decode cX4_put 27 = .ok (.iconst 1, 1) := by decide +kernel
theorem dX4_put_28 : decode cX4_put 28 = .ok (.iadd, 1) := by decide +kernel
theorem dX4_put_29 : decode cX4_put 29 = .ok (.putfield 31, 3) := by decide +kernel
theorem dX4_put_32 : decode cX4_put 32 = .ok (.return_, 1) := by decide +kernel
theorem dX4_chain_0 : decode cX4_chain 0 = .ok (.aload_n 0, 1) := by decide +kernel
theorem dX4_chain_1 : decode cX4_chain 1 = .ok (.iload_n 1, 1) := by decide +kernel
theorem dX4_chain_2 : decode cX4_chain 2 = .ok (.iload_n 2, 1) := by decide +kernel
theorem dX4_chain_3 : decode cX4_chain 3 = .ok (.invokevirtual 81, 3) := by decide +kernel
theorem dX4_chain_6 : decode cX4_chain 6 = .ok (.iconst 0, 1) := by decide +kernel
theorem dX4_chain_7 : decode cX4_chain 7 = .ok (.istore_n 3, 1) := by decide +kernel
theorem dX4_chain_8 : decode cX4_chain 8 = .ok (.iload_n 3, 1) := by decide +kernel
theorem dX4_chain_9 : decode cX4_chain 9 = .ok (.sipush 160, 3) := by decide +kernel
theorem dX4_chain_12 : decode cX4_chain 12 = .ok (.if_icmp .ge 52, 3) := by decide +kernel
theorem dX4_chain_15 : decode cX4_chain 15 = .ok (.aload_n 0, 1) := by decide +kernel
theorem dX4_chain_16 : decode cX4_chain 16 = .ok (.getfield 44, 3) := by decide +kernel
theorem dX4_chain_19 : decode cX4_chain 19 = .ok (.invokestatic 84, 3) := by decide +kernel
theorem dX4_chain_22 : decode cX4_chain 22 = .ok (.iload_n 1, 1) := by decide +kernel
theorem dX4_chain_23 : decode cX4_chain 23 = .ok (.if_icmp .ne 41, 3) := by decide +kernel
theorem dX4_chain_26 : decode cX4_chain 26 = .ok (.aload_n 0, 1) := by decide +kernel
theorem dX4_chain_27 : decode cX4_chain 27 = .ok (.getfield 44, 3) := by decide +kernel
theorem dX4_chain_30 : decode cX4_chain 30 = .ok (.istore 4, 2) := by decide +kernel
theorem dX4_chain_32 : decode cX4_chain 32 = .ok (.aload_n 0, 1) := by decide +kernel
theorem dX4_chain_33 : decode cX4_chain 33 = .ok (.invokevirtual 69, 3) := by decide +kernel
theorem dX4_chain_36 : decode cX4_chain 36 = .ok (.aload_n 0, 1) := by decide +kernel
theorem dX4_chain_37 : decode cX4_chain 37 = .ok (.iload_n 1, 1) := by decide +kernel
theorem dX4_chain_38 : decode cX4_chain 38 = .ok (.iload_n 2, 1) := by decide +kernel
theorem dX4_chain_39 : decode cX4_chain 39 = .ok (.invokevirtual 81, 3) := by decide +kernel
theorem dX4_chain_42 : decode cX4_chain 42 = .ok (.aload_n 0, 1) := by decide +kernel
theorem dX4_chain_43 : decode cX4_chain 43 = .ok (.iload 4, 2) := by decide +kernel
theorem dX4_chain_45 : decode cX4_chain 45 = .ok (.iconst (-1), 1) := by decide +kernel
theorem dX4_chain_46 : decode cX4_chain 46 = .ok (.ixor, 1) := by decide +kernel
theorem dX4_chain_47 : decode cX4_chain 47 = .ok (.invokevirtual 88, 3) := by decide +kernel
theorem dX4_chain_50 : decode cX4_chain 50 = .ok (.iload_n 1, 1) := by decide +kernel
theorem dX4_chain_51 : decode cX4_chain 51 = .ok (.iconst 2, 1) := by decide +kernel
theorem dX4_chain_52 : decode cX4_chain 52 = .ok (.if_icmp .ne 6, 3) := by decide +kernel
theorem dX4_chain_55 : decode cX4_chain 55 = .ok (.goto 9, 3) := by decide +kernel
theorem dX4_chain_58 : decode cX4_chain 58 = .ok (.iinc 3 1, 3) := by decide +kernel
theorem dX4_chain_61 : decode cX4_chain 61 = .ok (.goto (-53), 3) := by decide +kernel
theorem dX4_chain_64 : decode cX4_chain 64 = .ok (.return_, 1) := by decide +kernel
theorem dX4_part_0 : decode cX4_part 0 = .ok (.iload_n 1, 1) := by decide +kernel
theorem dX4_part_1 : decode cX4_part 1 = .ok (.iconst 4, 1) := by decide +kernel
theorem dX4_part_2 : decode cX4_part 2 = .ok (.if_icmp .lt 11, 3) := by decide +kernel
theorem dX4_part_5 : decode cX4_part 5 = .ok (.aload_n 0, 1) := by decide +kernel
theorem dX4_part_6 : decode cX4_part 6 = .ok (.iload_n 2, 1) := by decide +kernel
theorem dX4_part_7 : decode cX4_part 7 = .ok (.invokevirtual 91, 3) := by decide +kernel
theorem dX4_part_10 : decode cX4_part 10 = .ok (.goto 33, 3) := by decide +kernel
theorem dX4_part_13 : decode cX4_part 13 = .ok (.iload_n 1, 1) := by decide +kernel
theorem dX4_part_14 : decode cX4_part 14 = .ok (.iconst 1, 1) := by decide +kernel
theorem dX4_part_15 : decode cX4_part 15 = .ok (.if_icmp .ne 20, 3) := by decide +kernel
theorem dX4_part_18 : decode cX4_part 18 = .ok (.aload_n 0, 1) := by decide +kernel
theorem dX4_part_19 : decode cX4_part 19 = .ok (.getfield 44, 3) := by decide +kernel
theorem dX4_part_22 : decode cX4_part 22 = .ok (.bipush 11, 2) := by decide +kernel
theorem dX4_part_24 : decode cX4_part 24 = .ok (.if_icmp .ne 11, 3) := by decide +kernel
theorem dX4_part_27 : decode cX4_part 27 = .ok (.aload_n 0, 1) := by decide +kernel
theorem dX4_part_28 : decode cX4_part 28 = .ok (.iload_n 2, 1) := by decide +kernel
theorem dX4_part_29 : decode cX4_part 29 = .ok (.invokevirtual 94, 3) := by decide +kernel
theorem dX4_part_32 : decode cX4_part 32 = .ok (.goto 11, 3) := by decide +kernel
theorem dX4_part_35 : decode cX4_part 35 = .ok (.aload_n 0, 1) := by decide +kernel
theorem dX4_part_36 : decode cX4_part 36 = .ok (.iload_n 1, 1) := by decide +kernel
theorem dX4_part_37 : decode cX4_part 37 = .ok (.iconst 1, 1) := by decide +kernel
theorem dX4_part_38 : decode cX4_part 38 = .ok (.iadd, 1) := by decide +kernel
theorem dX4_part_39 : decode cX4_part 39 = .ok (.iload_n 2, 1) := by decide +kernel
theorem dX4_part_40 : decode cX4_part 40 = .ok (.invokevirtual 51, 3) := by decide +kernel
theorem dX4_part_43 : decode cX4_part 43 = .ok (.return_, 1) := by decide +kernel
theorem dX4_denial_0 : decode cX4_denial 0 = .ok (.iload_n 1, 1) := by decide +kernel
theorem dX4_denial_1 : decode cX4_denial 1 = .ok (.iconst 5, 1) := by decide +kernel
theorem dX4_denial_2 : decode cX4_denial 2 = .ok (.if_icmp .lt 8, 3) := by decide +kernel
theorem dX4_denial_5 : decode cX4_denial 5 = .ok (.aload_n 0, 1) := by decide +kernel
theorem dX4_denial_6 : decode cX4_denial 6 = .ok (.invokevirtual 72, 3) := by decide +kernel
theorem dX4_denial_9 : decode cX4_denial 9 = .ok (.return_, 1) := by decide +kernel
theorem dX4_denial_10 : decode cX4_denial 10 = .ok (.aload_n 0, 1) := by decide +kernel
theorem dX4_denial_11 : decode cX4_denial 11 = .ok (.invokevirtual 69, 3) := by decide +kernel
theorem dX4_denial_14 : decode cX4_denial 14 = .ok (.aload_n 0, 1) := by decide +kernel
theorem dX4_denial_15 : decode cX4_denial 15 = .ok (.iconst 1, 1) := by decide +kernel
theorem dX4_denial_16 : decode cX4_denial 16 = .ok (.iload_n 1, 1) := by decide +kernel
theorem dX4_denial_17 : decode cX4_denial 17 = .ok (.iconst 1, 1) := by decide +kernel
theorem dX4_denial_18 : decode cX4_denial 18 = .ok (.iadd, 1) := by decide +kernel
theorem dX4_denial_19 : decode cX4_denial 19 = .ok (.invokevirtual 81, 3) := by decide +kernel
theorem dX4_denial_22 : decode cX4_denial 22 = .ok (.aload_n 0, 1) := by decide +kernel
theorem dX4_denial_23 : decode cX4_denial 23 = .ok (.bipush (-12), 2) := by decide +kernel
theorem dX4_denial_25 : decode cX4_denial 25 = .ok (.invokevirtual 88, 3) := by decide +kernel
theorem dX4_denial_28 : decode cX4_denial 28 = .ok (.return_, 1) := by decide +kernel
theorem dX4_one_0 : decode cX4_one 0 = .ok (.aload_n 0, 1) := by decide +kernel
theorem dX4_one_1 : decode cX4_one 1 = .ok (.getfield 44, 3) := by decide +kernel
theorem dX4_one_4 : decode cX4_one 4 = .ok (.bipush 40, 2) := by decide +kernel
theorem dX4_one_6 : decode cX4_one 6 = .ok (.if_icmp .eq 12, 3) := by decide +kernel
theorem dX4_one_9 : decode cX4_one 9 = .ok (.aload_n 0, 1) := by decide +kernel
theorem dX4_one_10 : decode cX4_one 10 = .ok (.getfield 44, 3) := by decide +kernel
theorem dX4_one_13 : decode cX4_one 13 = .ok (.bipush 45, 2) := by decide +kernel
theorem dX4_one_15 : decode cX4_one 15 = .ok (.if_icmp .ne 7, 3) := by decide +kernel
theorem dX4_one_18 : decode cX4_one 18 = .ok (.iconst 1, 1) := by decide +kernel
theorem dX4_one_19 : decode cX4_one 19 = .ok (.goto 4, 3) := by decide +kernel
theorem dX4_one_22 : decode cX4_one 22 = .ok (.iconst 0, 1) := by decide +kernel
theorem dX4_one_23 : decode cX4_one 23 = .ok (.istore_n 2, 1) := by decide +kernel
theorem dX4_one_24 : decode cX4_one 24 = .ok (.iload_n 2, 1) := by decide +kernel
theorem dX4_one_25 : decode cX4_one 25 = .ok (.ifCond .eq 15, 3) := by decide +kernel
theorem dX4_one_28 : decode cX4_one 28 = .ok (.iload_n 1, 1) := by decide +kernel
theorem dX4_one_29 : decode cX4_one 29 = .ok (.iconst 5, 1) := by decide +kernel
theorem dX4_one_30 : decode cX4_one 30 = .ok (.if_icmp .lt 10, 3) := by decide +kernel
theorem dX4_one_33 : decode cX4_one 33 = .ok (.aload_n 0, 1) := by decide +kernel
theorem dX4_one_34 : decode cX4_one 34 = .ok (.invokevirtual 72, 3) := by decide +kernel
theorem dX4_one_37 : decode cX4_one 37 = .ok (.goto 128, 3) := by decide +kernel
theorem dX4_one_40 : decode cX4_one 40 = .ok (.aload_n 0, 1) := by decide +kernel
theorem dX4_one_41 : decode cX4_one 41 = .ok (.getfield 44, 3) := by decide +kernel
theorem dX4_one_44 : decode cX4_one 44 = .ok (.bipush 12, 2) := by decide +kernel
theorem dX4_one_46 : decode cX4_one 46 = .ok (.if_icmp .ne 26, 3) := by decide +kernel
theorem dX4_one_49 : decode cX4_one 49 = .ok (.aload_n 0, 1) := by decide +kernel
theorem dX4_one_50 : decode cX4_one 50 = .ok (.aload_n 0, 1) := by decide +kernel
theorem dX4_one_51 : decode cX4_one 51 = .ok (.getfield 12, 3) := by decide +kernel
theorem dX4_one_54 : decode cX4_one 54 = .ok (.getfield 97, 3) := by decide +kernel
theorem dX4_one_57 : decode cX4_one 57 = .ok (.aload_n 0, 1) := by decide +kernel
theorem dX4_one_58 : decode cX4_one 58 = .ok (.getfield 38, 3) := by decide +kernel
theorem dX4_one_61 : decode cX4_one 61 = .ok (.iaload, 1) := by decide +kernel
theorem dX4_one_62 : decode cX4_one 62 = .ok (.invokevirtual 88, 3) := by decide +kernel
theorem dX4_one_65 : decode cX4_one 65 = .ok (.aload_n 0, 1) := by decide +kernel
theorem dX4_one_66 : decode cX4_one 66 = .ok (.invokevirtual 69, 3) := by decide +kernel
theorem dX4_one_69 : decode cX4_one 69 = .ok (.goto 96, 3) := by decide +kernel
theorem dX4_one_72 : decode cX4_one 72 = .ok (.aload_n 0, 1) := by decide +kernel
theorem dX4_one_73 : decode cX4_one 73 = .ok (.getfield 44, 3) := by decide +kernel
theorem dX4_one_76 : decode cX4_one 76 = .ok (.bipush 6, 2) := by decide +kernel
theorem dX4_one_78 : decode cX4_one 78 = .ok (.invokestatic 100, 3) := by decide +kernel
theorem dX4_one_81 : decode cX4_one 81 = .ok (.ifCond .eq 20, 3) := by decide +kernel
theorem dX4_one_84 : decode cX4_one 84 = .ok (.aload_n 0, 1) := by decide +kernel
theorem dX4_one_85 : decode cX4_one 85 = .ok (.aload_n 0, 1) := by decide +kernel
theorem dX4_one_86 : decode cX4_one 86 = .ok (.getfield 44, 3) := by decide +kernel
theorem dX4_one_89 : decode cX4_one 89 = .ok (.iconst (-1), 1) := by decide +kernel
theorem dX4_one_90 : decode cX4_one 90 = .ok (.ixor, 1) := by decide +kernel
theorem dX4_one_91 : decode cX4_one 91 = .ok (.invokevirtual 88, 3) := by decide +kernel
theorem dX4_one_94 : decode cX4_one 94 = .ok (.aload_n 0, 1) := by decide +kernel
theorem dX4_one_95 : decode cX4_one 95 = .ok (.invokevirtual 69, 3) := by decide +kernel
theorem dX4_one_98 : decode cX4_one 98 = .ok (.goto 67, 3) := by decide +kernel
theorem dX4_one_101 : decode cX4_one 101 = .ok (.aload_n 0, 1) := by decide +kernel
theorem dX4_one_102 : decode cX4_one 102 = .ok (.getfield 44, 3) := by decide +kernel
theorem dX4_one_105 : decode cX4_one 105 = .ok (.bipush 45, 2) := by decide +kernel
theorem dX4_one_107 : decode cX4_one 107 = .ok (.if_icmp .ne 24, 3) := by decide +kernel
theorem dX4_one_110 : decode cX4_one 110 = .ok (.aload_n 0, 1) := by decide +kernel
theorem dX4_one_111 : decode cX4_one 111 = .ok (.invokevirtual 69, 3) := by decide +kernel
theorem dX4_one_114 : decode cX4_one 114 = .ok (.aload_n 0, 1) := by decide +kernel
theorem dX4_one_115 : decode cX4_one 115 = .ok (.iconst 4, 1) := by decide +kernel
theorem dX4_one_116 : decode cX4_one 116 = .ok (.iload_n 1, 1) := by decide +kernel
theorem dX4_one_117 : decode cX4_one 117 = .ok (.iconst 1, 1) := by decide +kernel
theorem dX4_one_118 : decode cX4_one 118 = .ok (.iadd, 1) := by decide +kernel
theorem dX4_one_119 : decode cX4_one 119 = .ok (.invokevirtual 81, 3) := by decide +kernel
theorem dX4_one_122 : decode cX4_one 122 = .ok (.aload_n 0, 1) := by decide +kernel
theorem dX4_one_123 : decode cX4_one 123 = .ok (.bipush (-14), 2) := by decide +kernel
theorem dX4_one_125 : decode cX4_one 125 = .ok (.invokevirtual 88, 3) := by decide +kernel
theorem dX4_one_128 : decode cX4_one 128 = .ok (.goto 37, 3) := by decide +kernel
theorem dX4_one_131 : decode cX4_one 131 = .ok (.aload_n 0, 1) := by decide +kernel
theorem dX4_one_132 : decode cX4_one 132 = .ok (.getfield 44, 3) := by decide +kernel
theorem dX4_one_135 : decode cX4_one 135 = .ok (.bipush 40, 2) := by decide +kernel
theorem dX4_one_137 : decode cX4_one 137 = .ok (.if_icmp .ne 24, 3) := by decide +kernel
theorem dX4_one_140 : decode cX4_one 140 = .ok (.aload_n 0, 1) := by decide +kernel
theorem dX4_one_141 : decode cX4_one 141 = .ok (.invokevirtual 69, 3) := by decide +kernel
theorem dX4_one_144 : decode cX4_one 144 = .ok (.aload_n 0, 1) := by decide +kernel
theorem dX4_one_145 : decode cX4_one 145 = .ok (.iconst 0, 1) := by decide +kernel
theorem dX4_one_146 : decode cX4_one 146 = .ok (.iload_n 1, 1) := by decide +kernel
theorem dX4_one_147 : decode cX4_one 147 = .ok (.iconst 1, 1) := by decide +kernel
theorem dX4_one_148 : decode cX4_one 148 = .ok (.iadd, 1) := by decide +kernel
theorem dX4_one_149 : decode cX4_one 149 = .ok (.invokevirtual 51, 3) := by decide +kernel
theorem dX4_one_152 : decode cX4_one 152 = .ok (.aload_n 0, 1) := by decide +kernel
theorem dX4_one_153 : decode cX4_one 153 = .ok (.bipush 41, 2) := by decide +kernel
theorem dX4_one_155 : decode cX4_one 155 = .ok (.invokevirtual 47, 3) := by decide +kernel
theorem dX4_one_158 : decode cX4_one 158 = .ok (.goto 7, 3) := by decide +kernel
theorem dX4_one_161 : decode cX4_one 161 = .ok (.aload_n 0, 1) := by decide +kernel
theorem dX4_one_162 : decode cX4_one 162 = .ok (.invokevirtual 72, 3) := by decide +kernel
theorem dX4_one_165 : decode cX4_one 165 = .ok (.return_, 1) := by decide +kernel
theorem dX4_levelOf_0 : decode cX4_levelOf 0 = .ok (.iload_n 0, 1) := by decide +kernel
theorem dX4_levelOf_1 : decode cX4_levelOf 1 = .ok (.lookupswitch 77 #[(9, 67), (10, 69), (42, 75), (43, 73), (45, 73), (60, 71), (61, 71)], 67) := by decide +kernel
theorem dX4_levelOf_68 : decode cX4_levelOf 68 = .ok (.iconst 0, 1) := by decide +kernel
theorem dX4_levelOf_69 : decode cX4_levelOf 69 = .ok (.ireturn, 1) := by decide +kernel
theorem dX4_levelOf_70 : decode cX4_levelOf 70 = .ok (.iconst 1, 1) := by decide +kernel
theorem dX4_levelOf_71 : decode cX4_levelOf 71 = .ok (.ireturn, 1) := by decide +kernel
theorem dX4_levelOf_72 : decode cX4_levelOf 72 = .ok (.iconst 2, 1) := by decide +kernel
theorem dX4_levelOf_73 : decode cX4_levelOf 73 = .ok (.ireturn, 1) := by decide +kernel
theorem dX4_levelOf_74 : decode cX4_levelOf 74 = .ok (.iconst 3, 1) := by decide +kernel
theorem dX4_levelOf_75 : decode cX4_levelOf 75 = .ok (.ireturn, 1) := by decide +kernel
theorem dX4_levelOf_76 : decode cX4_levelOf 76 = .ok (.iconst 4, 1) := by decide +kernel
theorem dX4_levelOf_77 : decode cX4_levelOf 77 = .ok (.ireturn, 1) := by decide +kernel
theorem dX4_levelOf_78 : decode cX4_levelOf 78 = .ok (.iconst (-1), 1) := by decide +kernel
theorem dX4_levelOf_79 : decode cX4_levelOf 79 = .ok (.ireturn, 1) := by decide +kernel
theorem dX5_init_0 : decode cX5_init 0 = .ok (.aload_n 0, 1) := by decide +kernel
theorem dX5_init_1 : decode cX5_init 1 = .ok (.invokespecial 3, 3) := by decide +kernel
theorem dX5_init_4 : decode cX5_init 4 = .ok (.aload_n 0, 1) := by decide +kernel
theorem dX5_init_5 : decode cX5_init 5 = .ok (.iconst 5, 1) := by decide +kernel
theorem dX5_init_6 : decode cX5_init 6 = .ok (.newarray .int, 2) := by decide +kernel
theorem dX5_init_8 : decode cX5_init 8 = .ok (.putfield 9, 3) := by decide +kernel
theorem dX5_init_11 : decode cX5_init 11 = .ok (.aload_n 0, 1) := by decide +kernel
theorem dX5_init_12 : decode cX5_init 12 = .ok (.iload_n 1, 1) := by decide +kernel
theorem dX5_init_13 : decode cX5_init 13 = .ok (.putfield 15, 3) := by decide +kernel
theorem dX5_init_16 : decode cX5_init 16 = .ok (.aload_n 0, 1) := by decide +kernel
theorem dX5_init_17 : decode cX5_init 17 = .ok (.aload_n 2, 1) := by decide +kernel
theorem dX5_init_18 : decode cX5_init 18 = .ok (.putfield 19, 3) := by decide +kernel
theorem dX5_init_21 : decode cX5_init 21 = .ok (.aload_n 0, 1) := by decide +kernel
theorem dX5_init_22 : decode cX5_init 22 = .ok (.iload_n 3, 1) := by decide +kernel
theorem dX5_init_23 : decode cX5_init 23 = .ok (.putfield 23, 3) := by decide +kernel
theorem dX5_init_26 : decode cX5_init 26 = .ok (.aload_n 0, 1) := by decide +kernel
theorem dX5_init_27 : decode cX5_init 27 = .ok (.iload 4, 2) := by decide +kernel
theorem dX5_init_29 : decode cX5_init 29 = .ok (.putfield 26, 3) := by decide +kernel
theorem dX5_init_32 : decode cX5_init 32 = .ok (.aload_n 0, 1) := by decide +kernel
theorem dX5_init_33 : decode cX5_init 33 = .ok (.aload_n 2, 1) := by decide +kernel
theorem dX5_init_34 : decode cX5_init 34 = .ok (.getfield 29, 3) := by decide +kernel
theorem dX5_init_37 : decode cX5_init 37 = .ok (.newarray .int, 2) := by decide +kernel
theorem dX5_init_39 : decode cX5_init 39 = .ok (.putfield 34, 3) := by decide +kernel
theorem dX5_init_42 : decode cX5_init 42 = .ok (.aload_n 0, 1) := by decide +kernel
theorem dX5_init_43 : decode cX5_init 43 = .ok (.aload_n 2, 1) := by decide +kernel
theorem dX5_init_44 : decode cX5_init 44 = .ok (.getfield 29, 3) := by decide +kernel
theorem dX5_init_47 : decode cX5_init 47 = .ok (.newarray .int, 2) := by decide +kernel
theorem dX5_init_49 : decode cX5_init 49 = .ok (.putfield 36, 3) := by decide +kernel
theorem dX5_init_52 : decode cX5_init 52 = .ok (.aload_n 0, 1) := by decide +kernel
theorem dX5_init_53 : decode cX5_init 53 = .ok (.aload_n 2, 1) := by decide +kernel
theorem dX5_init_54 : decode cX5_init 54 = .ok (.getfield 29, 3) := by decide +kernel
theorem dX5_init_57 : decode cX5_init 57 = .ok (.newarray .int, 2) := by decide +kernel
theorem dX5_init_59 : decode cX5_init 59 = .ok (.putfield 39, 3) := by decide +kernel
theorem dX5_init_62 : decode cX5_init 62 = .ok (.aload_n 0, 1) := by decide +kernel
theorem dX5_init_63 : decode cX5_init 63 = .ok (.aload_n 2, 1) := by decide +kernel
theorem dX5_init_64 : decode cX5_init 64 = .ok (.getfield 29, 3) := by decide +kernel
theorem dX5_init_67 : decode cX5_init 67 = .ok (.newarray .int, 2) := by decide +kernel
theorem dX5_init_69 : decode cX5_init 69 = .ok (.putfield 42, 3) := by decide +kernel
theorem dX5_init_72 : decode cX5_init 72 = .ok (.aload_n 0, 1) := by decide +kernel
theorem dX5_init_73 : decode cX5_init 73 = .ok (.aload_n 2, 1) := by decide +kernel
theorem dX5_init_74 : decode cX5_init 74 = .ok (.getfield 29, 3) := by decide +kernel
theorem dX5_init_77 : decode cX5_init 77 = .ok (.newarray .int, 2) := by decide +kernel
theorem dX5_init_79 : decode cX5_init 79 = .ok (.putfield 45, 3) := by decide +kernel
theorem dX5_init_82 : decode cX5_init 82 = .ok (.iconst 0, 1) := by decide +kernel
theorem dX5_init_83 : decode cX5_init 83 = .ok (.istore 5, 2) := by decide +kernel
theorem dX5_init_85 : decode cX5_init 85 = .ok (.iconst 0, 1) := by decide +kernel
theorem dX5_init_86 : decode cX5_init 86 = .ok (.istore 6, 2) := by decide +kernel
theorem dX5_init_88 : decode cX5_init 88 = .ok (.iload 6, 2) := by decide +kernel
theorem dX5_init_90 : decode cX5_init 90 = .ok (.iconst 5, 1) := by decide +kernel
theorem dX5_init_91 : decode cX5_init 91 = .ok (.if_icmp .ge 52, 3) := by decide +kernel
theorem dX5_init_94 : decode cX5_init 94 = .ok (.iconst 0, 1) := by decide +kernel
theorem dX5_init_95 : decode cX5_init 95 = .ok (.istore 7, 2) := by decide +kernel
theorem dX5_init_97 : decode cX5_init 97 = .ok (.iload 7, 2) := by decide +kernel
theorem dX5_init_99 : decode cX5_init 99 = .ok (.aload_n 2, 1) := by decide +kernel
theorem dX5_init_100 : decode cX5_init 100 = .ok (.getfield 48, 3) := by decide +kernel
theorem dX5_init_103 : decode cX5_init 103 = .ok (.iload 6, 2) := by decide +kernel
theorem dX5_init_105 : decode cX5_init 105 = .ok (.iaload, 1) := by decide +kernel
theorem dX5_init_106 : decode cX5_init 106 = .ok (.if_icmp .ge 31, 3) := by decide +kernel
theorem dX5_init_109 : decode cX5_init 109 = .ok (.iload 5, 2) := by decide +kernel
theorem dX5_init_111 : decode cX5_init 111 = .ok (.aload_n 0, 1) := by decide +kernel
theorem dX5_init_112 : decode cX5_init 112 = .ok (.getfield 34, 3) := by decide +kernel
theorem dX5_init_115 : decode cX5_init 115 = .ok (.arraylength, 1) := by decide +kernel
theorem dX5_init_116 : decode cX5_init 116 = .ok (.if_icmp .ge 21, 3) := by decide +kernel
theorem dX5_init_119 : decode cX5_init 119 = .ok (.aload_n 0, 1) := by decide +kernel
theorem dX5_init_120 : decode cX5_init 120 = .ok (.getfield 34, 3) := by decide +kernel
theorem dX5_init_123 : decode cX5_init 123 = .ok (.iload 5, 2) := by decide +kernel
theorem dX5_init_125 : decode cX5_init 125 = .ok (.iload 6, 2) := by decide +kernel
theorem dX5_init_127 : decode cX5_init 127 = .ok (.iastore, 1) := by decide +kernel
theorem dX5_init_128 : decode cX5_init 128 = .ok (.iinc 5 1, 3) := by decide +kernel
theorem dX5_init_131 : decode cX5_init 131 = .ok (.iinc 7 1, 3) := by decide +kernel
theorem dX5_init_134 : decode cX5_init 134 = .ok (.goto (-37), 3) := by decide +kernel
theorem dX5_init_137 : decode cX5_init 137 = .ok (.iinc 6 1, 3) := by decide +kernel
theorem dX5_init_140 : decode cX5_init 140 = .ok (.goto (-52), 3) := by decide +kernel
theorem dX5_init_143 : decode cX5_init 143 = .ok (.return_, 1) := by decide +kernel
theorem dX5_isOf_0 : decode cX5_isOf 0 = .ok (.aload_n 0, 1) := by decide +kernel
theorem dX5_isOf_1 : decode cX5_isOf 1 = .ok (.getfield 23, 3) := by decide +kernel
theorem dX5_isOf_4 : decode cX5_isOf 4 = .ok (.iload_n 1, 1) := by decide +kernel
theorem dX5_isOf_5 : decode cX5_isOf 5 = .ok (.if_icmp .ne 23, 3) := by decide +kernel
theorem dX5_isOf_8 : decode cX5_isOf 8 = .ok (.iload_n 2, 1) := by decide +kernel
theorem dX5_isOf_9 : decode cX5_isOf 9 = .ok (.aload_n 0, 1) := by decide +kernel
theorem dX5_isOf_10 : decode cX5_isOf 10 = .ok (.getfield 26, 3) := by decide +kernel
theorem dX5_isOf_13 : decode cX5_isOf 13 = .ok (.if_icmp .gt 15, 3) := by decide +kernel
theorem dX5_isOf_16 : decode cX5_isOf 16 = .ok (.aload_n 0, 1) := by decide +kernel
theorem dX5_isOf_17 : decode cX5_isOf 17 = .ok (.getfield 26, 3) := by decide +kernel
theorem dX5_isOf_20 : decode cX5_isOf 20 = .ok (.iload_n 3, 1) := by decide +kernel
theorem dX5_isOf_21 : decode cX5_isOf 21 = .ok (.if_icmp .ge 7, 3) := by decide +kernel
theorem dX5_isOf_24 : decode cX5_isOf 24 = .ok (.iconst 1, 1) := by decide +kernel
theorem dX5_isOf_25 : decode cX5_isOf 25 = .ok (.goto 4, 3) := by decide +kernel
theorem dX5_isOf_28 : decode cX5_isOf 28 = .ok (.iconst 0, 1) := by decide +kernel
theorem dX5_isOf_29 : decode cX5_isOf 29 = .ok (.ireturn, 1) := by decide +kernel
theorem dX5_hits_0 : decode cX5_hits 0 = .ok (.aload_n 0, 1) := by decide +kernel
theorem dX5_hits_1 : decode cX5_hits 1 = .ok (.aload_n 0, 1) := by decide +kernel
theorem dX5_hits_2 : decode cX5_hits 2 = .ok (.getfield 34, 3) := by decide +kernel
theorem dX5_hits_5 : decode cX5_hits 5 = .ok (.invokevirtual 51, 3) := by decide +kernel
theorem dX5_hits_8 : decode cX5_hits 8 = .ok (.ireturn, 1) := by decide +kernel
theorem dX5_hitsAmong_0 : decode cX5_hitsAmong 0 = .ok (.iconst 0, 1) := by decide +kernel
theorem dX5_hitsAmong_1 : decode cX5_hitsAmong 1 = .ok (.istore_n 2, 1) := by decide +kernel
theorem dX5_hitsAmong_2 : decode cX5_hitsAmong 2 = .ok (.iconst 0, 1) := by decide +kernel
theorem dX5_hitsAmong_3 : decode cX5_hitsAmong 3 = .ok (.istore_n 3, 1) := by decide +kernel
theorem dX5_hitsAmong_4 : decode cX5_hitsAmong 4 = .ok (.iload_n 3, 1) := by decide +kernel
theorem dX5_hitsAmong_5 : decode cX5_hitsAmong 5 = .ok (.aload_n 1, 1) := by decide +kernel
theorem dX5_hitsAmong_6 : decode cX5_hitsAmong 6 = .ok (.arraylength, 1) := by decide +kernel
theorem dX5_hitsAmong_7 : decode cX5_hitsAmong 7 = .ok (.if_icmp .ge 38, 3) := by decide +kernel
theorem dX5_hitsAmong_10 : decode cX5_hitsAmong 10 = .ok (.iload_n 3, 1) := by decide +kernel
theorem dX5_hitsAmong_11 : decode cX5_hitsAmong 11 = .ok (.aload_n 0, 1) := by decide +kernel
theorem dX5_hitsAmong_12 : decode cX5_hitsAmong 12 = .ok (.getfield 36, 3) := by decide +kernel
theorem dX5_hitsAmong_15 : decode cX5_hitsAmong 15 = .ok (.arraylength, 1) := by decide +kernel
theorem dX5_hitsAmong_16 : decode cX5_hitsAmong 16 = .ok (.if_icmp .ge 29, 3) := by decide +kernel
theorem dX5_hitsAmong_19 : decode cX5_hitsAmong 19 = .ok (.iload_n 2, 1) := by decide +kernel
theorem dX5_hitsAmong_20 : decode cX5_hitsAmong 20 = .ok (.aload_n 0, 1) := by decide +kernel
theorem dX5_hitsAmong_21 : decode cX5_hitsAmong 21 = .ok (.getfield 36, 3) := by decide +kernel
theorem dX5_hitsAmong_24 : decode cX5_hitsAmong 24 = .ok (.iload_n 3, 1) := by decide +kernel
theorem dX5_hitsAmong_25 : decode cX5_hitsAmong 25 = .ok (.iaload, 1) := by decide +kernel
theorem dX5_hitsAmong_26 : decode cX5_hitsAmong 26 = .ok (.aload_n 1, 1) := by decide +kernel
theorem dX5_hitsAmong_27 : decode cX5_hitsAmong 27 = .ok (.iload_n 3, 1) := by decide +kernel
theorem dX5_hitsAmong_28 : decode cX5_hitsAmong 28 = .ok (.iaload, 1) := by decide +kernel
theorem dX5_hitsAmong_29 : decode cX5_hitsAmong 29 = .ok (.if_icmp .ne 7, 3) := by decide +kernel
theorem dX5_hitsAmong_32 : decode cX5_hitsAmong 32 = .ok (.iconst 1, 1) := by decide +kernel
theorem dX5_hitsAmong_33 : decode cX5_hitsAmong 33 = .ok (.goto 4, 3) := by decide +kernel
theorem dX5_hitsAmong_36 : decode cX5_hitsAmong 36 = .ok (.iconst 0, 1) := by decide +kernel
theorem dX5_hitsAmong_37 : decode cX5_hitsAmong 37 = .ok (.iadd, 1) := by decide +kernel
theorem dX5_hitsAmong_38 : decode cX5_hitsAmong 38 = .ok (.istore_n 2, 1) := by decide +kernel
theorem dX5_hitsAmong_39 : decode cX5_hitsAmong 39 = .ok (.iinc 3 1, 3) := by decide +kernel
theorem dX5_hitsAmong_42 : decode cX5_hitsAmong 42 = .ok (.goto (-38), 3) := by decide +kernel
theorem dX5_hitsAmong_45 : decode cX5_hitsAmong 45 = .ok (.iload_n 2, 1) := by decide +kernel
theorem dX5_hitsAmong_46 : decode cX5_hitsAmong 46 = .ok (.ireturn, 1) := by decide +kernel
theorem dX5_nextHits_0 : decode cX5_nextHits 0 = .ok (.iconst 0, 1) := by decide +kernel
theorem dX5_nextHits_1 : decode cX5_nextHits 1 = .ok (.istore_n 1, 1) := by decide +kernel
theorem dX5_nextHits_2 : decode cX5_nextHits 2 = .ok (.iconst 0, 1) := by decide +kernel
theorem dX5_nextHits_3 : decode cX5_nextHits 3 = .ok (.istore_n 2, 1) := by decide +kernel
theorem dX5_nextHits_4 : decode cX5_nextHits 4 = .ok (.iload_n 2, 1) := by decide +kernel
theorem dX5_nextHits_5 : decode cX5_nextHits 5 = .ok (.iconst 1, 1) := by decide +kernel
theorem dX5_nextHits_6 : decode cX5_nextHits 6 = .ok (.iadd, 1) := by decide +kernel
theorem dX5_nextHits_7 : decode cX5_nextHits 7 = .ok (.aload_n 0, 1) := by decide +kernel
theorem dX5_nextHits_8 : decode cX5_nextHits 8 = .ok (.getfield 34, 3) := by decide +kernel
theorem dX5_nextHits_11 : decode cX5_nextHits 11 = .ok (.arraylength, 1) := by decide +kernel
theorem dX5_nextHits_12 : decode cX5_nextHits 12 = .ok (.if_icmp .ge 34, 3) := by decide +kernel
theorem dX5_nextHits_15 : decode cX5_nextHits 15 = .ok (.iload_n 1, 1) := by decide +kernel
theorem dX5_nextHits_16 : decode cX5_nextHits 16 = .ok (.aload_n 0, 1) := by decide +kernel
theorem dX5_nextHits_17 : decode cX5_nextHits 17 = .ok (.getfield 36, 3) := by decide +kernel
theorem dX5_nextHits_20 : decode cX5_nextHits 20 = .ok (.iload_n 2, 1) := by decide +kernel
theorem dX5_nextHits_21 : decode cX5_nextHits 21 = .ok (.iaload, 1) := by decide +kernel
theorem dX5_nextHits_22 : decode cX5_nextHits 22 = .ok (.aload_n 0, 1) := by decide +kernel
theorem dX5_nextHits_23 : decode cX5_nextHits 23 = .ok (.getfield 34, 3) := by decide +kernel
theorem dX5_nextHits_26 : decode cX5_nextHits 26 = .ok (.iload_n 2, 1) := by decide +kernel
theorem dX5_nextHits_27 : decode cX5_nextHits 27 = .ok (.iconst 1, 1) := by decide +kernel
theorem dX5_nextHits_28 : decode cX5_nextHits 28 = .ok (.iadd, 1) := by decide +kernel
theorem dX5_nextHits_29 : decode cX5_nextHits 29 = .ok (.iaload, 1) := by decide +kernel
theorem dX5_nextHits_30 : decode cX5_nextHits 30 = .ok (.if_icmp .ne 7, 3) := by decide +kernel
theorem dX5_nextHits_33 : decode cX5_nextHits 33 = .ok (.iconst 1, 1) := by decide +kernel
theorem dX5_nextHits_34 : decode cX5_nextHits 34 = .ok (.goto 4, 3) := by decide +kernel
theorem dX5_nextHits_37 : decode cX5_nextHits 37 = .ok (.iconst 0, 1) := by decide +kernel
theorem dX5_nextHits_38 : decode cX5_nextHits 38 = .ok (.iadd, 1) := by decide +kernel
theorem dX5_nextHits_39 : decode cX5_nextHits 39 = .ok (.istore_n 1, 1) := by decide +kernel
theorem dX5_nextHits_40 : decode cX5_nextHits 40 = .ok (.iinc 2 1, 3) := by decide +kernel
theorem dX5_nextHits_43 : decode cX5_nextHits 43 = .ok (.goto (-39), 3) := by decide +kernel
theorem dX5_nextHits_46 : decode cX5_nextHits 46 = .ok (.iload_n 1, 1) := by decide +kernel
theorem dX5_nextHits_47 : decode cX5_nextHits 47 = .ok (.ireturn, 1) := by decide +kernel
theorem dX5_alike_0 : decode cX5_alike 0 = .ok (.iconst 0, 1) := by decide +kernel
theorem dX5_alike_1 : decode cX5_alike 1 = .ok (.istore_n 1, 1) := by decide +kernel
theorem dX5_alike_2 : decode cX5_alike 2 = .ok (.iconst 1, 1) := by decide +kernel
theorem dX5_alike_3 : decode cX5_alike 3 = .ok (.istore_n 2, 1) := by decide +kernel
theorem dX5_alike_4 : decode cX5_alike 4 = .ok (.iload_n 2, 1) := by decide +kernel
theorem dX5_alike_5 : decode cX5_alike 5 = .ok (.aload_n 0, 1) := by decide +kernel
theorem dX5_alike_6 : decode cX5_alike 6 = .ok (.getfield 34, 3) := by decide +kernel
theorem dX5_alike_9 : decode cX5_alike 9 = .ok (.arraylength, 1) := by decide +kernel
theorem dX5_alike_10 : decode cX5_alike 10 = .ok (.if_icmp .ge 34, 3) := by decide +kernel
theorem dX5_alike_13 : decode cX5_alike 13 = .ok (.iload_n 1, 1) := by decide +kernel
theorem dX5_alike_14 : decode cX5_alike 14 = .ok (.aload_n 0, 1) := by decide +kernel
theorem dX5_alike_15 : decode cX5_alike 15 = .ok (.getfield 34, 3) := by decide +kernel
theorem dX5_alike_18 : decode cX5_alike 18 = .ok (.iload_n 2, 1) := by decide +kernel
theorem dX5_alike_19 : decode cX5_alike 19 = .ok (.iaload, 1) := by decide +kernel
theorem dX5_alike_20 : decode cX5_alike 20 = .ok (.aload_n 0, 1) := by decide +kernel
theorem dX5_alike_21 : decode cX5_alike 21 = .ok (.getfield 34, 3) := by decide +kernel
theorem dX5_alike_24 : decode cX5_alike 24 = .ok (.iload_n 2, 1) := by decide +kernel
theorem dX5_alike_25 : decode cX5_alike 25 = .ok (.iconst 1, 1) := by decide +kernel
theorem dX5_alike_26 : decode cX5_alike 26 = .ok (.isub, 1) := by decide +kernel
theorem dX5_alike_27 : decode cX5_alike 27 = .ok (.iaload, 1) := by decide +kernel
theorem dX5_alike_28 : decode cX5_alike 28 = .ok (.if_icmp .ne 7, 3) := by decide +kernel
theorem dX5_alike_31 : decode cX5_alike 31 = .ok (.iconst 1, 1) := by decide +kernel
theorem dX5_alike_32 : decode cX5_alike 32 = .ok (.goto 4, 3) := by decide +kernel
theorem dX5_alike_35 : decode cX5_alike 35 = .ok (.iconst 0, 1) := by decide +kernel
theorem dX5_alike_36 : decode cX5_alike 36 = .ok (.iadd, 1) := by decide +kernel
theorem dX5_alike_37 : decode cX5_alike 37 = .ok (.istore_n 1, 1) := by decide +kernel
theorem dX5_alike_38 : decode cX5_alike 38 = .ok (.iinc 2 1, 3) := by decide +kernel
theorem dX5_alike_41 : decode cX5_alike 41 = .ok (.goto (-37), 3) := by decide +kernel
theorem dX5_alike_44 : decode cX5_alike 44 = .ok (.iload_n 1, 1) := by decide +kernel
theorem dX5_alike_45 : decode cX5_alike 45 = .ok (.ireturn, 1) := by decide +kernel
theorem dX5_hitsByLeft_0 : decode cX5_hitsByLeft 0 = .ok (.aload_n 0, 1) := by decide +kernel
theorem dX5_hitsByLeft_1 : decode cX5_hitsByLeft 1 = .ok (.getfield 19, 3) := by decide +kernel
theorem dX5_hitsByLeft_4 : decode cX5_hitsByLeft 4 = .ok (.getfield 48, 3) := by decide +kernel
theorem dX5_hitsByLeft_7 : decode cX5_hitsByLeft 7 = .ok (.iconst 0, 1) := by decide +kernel
theorem dX5_hitsByLeft_8 : decode cX5_hitsByLeft 8 = .ok (.aload_n 0, 1) := by decide +kernel
theorem dX5_hitsByLeft_9 : decode cX5_hitsByLeft 9 = .ok (.getfield 9, 3) := by decide +kernel
theorem dX5_hitsByLeft_12 : decode cX5_hitsByLeft 12 = .ok (.iconst 0, 1) := by decide +kernel
theorem dX5_hitsByLeft_13 : decode cX5_hitsByLeft 13 = .ok (.iconst 5, 1) := by decide +kernel
theorem dX5_hitsByLeft_14 : decode cX5_hitsByLeft 14 = .ok (.invokestatic 55, 3) := by decide +kernel
theorem dX5_hitsByLeft_17 : decode cX5_hitsByLeft 17 = .ok (.iconst 0, 1) := by decide +kernel
theorem dX5_hitsByLeft_18 : decode cX5_hitsByLeft 18 = .ok (.istore_n 1, 1) := by decide +kernel
theorem dX5_hitsByLeft_19 : decode cX5_hitsByLeft 19 = .ok (.iconst 0, 1) := by decide +kernel
theorem dX5_hitsByLeft_20 : decode cX5_hitsByLeft 20 = .ok (.istore_n 2, 1) := by decide +kernel
theorem dX5_hitsByLeft_21 : decode cX5_hitsByLeft 21 = .ok (.iload_n 2, 1) := by decide +kernel
theorem dX5_hitsByLeft_22 : decode cX5_hitsByLeft 22 = .ok (.aload_n 0, 1) := by decide +kernel
theorem dX5_hitsByLeft_23 : decode cX5_hitsByLeft 23 = .ok (.getfield 34, 3) := by decide +kernel
theorem dX5_hitsByLeft_26 : decode cX5_hitsByLeft 26 = .ok (.arraylength, 1) := by decide +kernel
theorem dX5_hitsByLeft_27 : decode cX5_hitsByLeft 27 = .ok (.if_icmp .ge 45, 3) := by decide +kernel
theorem dX5_hitsByLeft_30 : decode cX5_hitsByLeft 30 = .ok (.iload_n 1, 1) := by decide +kernel
theorem dX5_hitsByLeft_31 : decode cX5_hitsByLeft 31 = .ok (.aload_n 0, 1) := by decide +kernel
theorem dX5_hitsByLeft_32 : decode cX5_hitsByLeft 32 = .ok (.getfield 34, 3) := by decide +kernel
theorem dX5_hitsByLeft_35 : decode cX5_hitsByLeft 35 = .ok (.iload_n 2, 1) := by decide +kernel
theorem dX5_hitsByLeft_36 : decode cX5_hitsByLeft 36 = .ok (.iaload, 1) := by decide +kernel
theorem dX5_hitsByLeft_37 : decode cX5_hitsByLeft 37 = .ok (.aload_n 0, 1) := by decide +kernel
theorem dX5_hitsByLeft_38 : decode cX5_hitsByLeft 38 = .ok (.invokevirtual 61, 3) := by decide +kernel
theorem dX5_hitsByLeft_41 : decode cX5_hitsByLeft 41 = .ok (.if_icmp .ne 7, 3) := by decide +kernel
theorem dX5_hitsByLeft_44 : decode cX5_hitsByLeft 44 = .ok (.iconst 1, 1) := by decide +kernel
theorem dX5_hitsByLeft_45 : decode cX5_hitsByLeft 45 = .ok (.goto 4, 3) := by decide +kernel
theorem dX5_hitsByLeft_48 : decode cX5_hitsByLeft 48 = .ok (.iconst 0, 1) := by decide +kernel
theorem dX5_hitsByLeft_49 : decode cX5_hitsByLeft 49 = .ok (.iadd, 1) := by decide +kernel
theorem dX5_hitsByLeft_50 : decode cX5_hitsByLeft 50 = .ok (.istore_n 1, 1) := by decide +kernel
theorem dX5_hitsByLeft_51 : decode cX5_hitsByLeft 51 = .ok (.aload_n 0, 1) := by decide +kernel
theorem dX5_hitsByLeft_52 : decode cX5_hitsByLeft 52 = .ok (.getfield 9, 3) := by decide +kernel
theorem dX5_hitsByLeft_55 : decode cX5_hitsByLeft 55 = .ok (.aload_n 0, 1) := by decide +kernel
theorem dX5_hitsByLeft_56 : decode cX5_hitsByLeft 56 = .ok (.getfield 34, 3) := by decide +kernel
theorem dX5_hitsByLeft_59 : decode cX5_hitsByLeft 59 = .ok (.iload_n 2, 1) := by decide +kernel
theorem dX5_hitsByLeft_60 : decode cX5_hitsByLeft 60 = .ok (.iaload, 1) := by decide +kernel
theorem dX5_hitsByLeft_61 : decode cX5_hitsByLeft 61 = .ok (.dup2, 1) := by decide +kernel
theorem dX5_hitsByLeft_62 : decode cX5_hitsByLeft 62 = .ok (.iaload, 1) := by decide +kernel
theorem dX5_hitsByLeft_63 : decode cX5_hitsByLeft 63 = .ok (.iconst 1, 1) := by decide +kernel
theorem dX5_hitsByLeft_64 : decode cX5_hitsByLeft 64 = .ok (.isub, 1) := by decide +kernel
theorem dX5_hitsByLeft_65 : decode cX5_hitsByLeft 65 = .ok (.iastore, 1) := by decide +kernel
theorem dX5_hitsByLeft_66 : decode cX5_hitsByLeft 66 = .ok (.iinc 2 1, 3) := by decide +kernel
theorem dX5_hitsByLeft_69 : decode cX5_hitsByLeft 69 = .ok (.goto (-48), 3) := by decide +kernel
theorem dX5_hitsByLeft_72 : decode cX5_hitsByLeft 72 = .ok (.iload_n 1, 1) := by decide +kernel
theorem dX5_hitsByLeft_73 : decode cX5_hitsByLeft 73 = .ok (.ireturn, 1) := by decide +kernel
theorem dX5_mostLeft_0 : decode cX5_mostLeft 0 = .ok (.iconst 0, 1) := by decide +kernel
theorem dX5_mostLeft_1 : decode cX5_mostLeft 1 = .ok (.istore_n 1, 1) := by decide +kernel
theorem dX5_mostLeft_2 : decode cX5_mostLeft 2 = .ok (.iconst 1, 1) := by decide +kernel
theorem dX5_mostLeft_3 : decode cX5_mostLeft 3 = .ok (.istore_n 2, 1) := by decide +kernel
theorem dX5_mostLeft_4 : decode cX5_mostLeft 4 = .ok (.iload_n 2, 1) := by decide +kernel
theorem dX5_mostLeft_5 : decode cX5_mostLeft 5 = .ok (.iconst 5, 1) := by decide +kernel
theorem dX5_mostLeft_6 : decode cX5_mostLeft 6 = .ok (.if_icmp .ge 26, 3) := by decide +kernel
theorem dX5_mostLeft_9 : decode cX5_mostLeft 9 = .ok (.aload_n 0, 1) := by decide +kernel
theorem dX5_mostLeft_10 : decode cX5_mostLeft 10 = .ok (.getfield 9, 3) := by decide +kernel
theorem dX5_mostLeft_13 : decode cX5_mostLeft 13 = .ok (.iload_n 2, 1) := by decide +kernel
theorem dX5_mostLeft_14 : decode cX5_mostLeft 14 = .ok (.iaload, 1) := by decide +kernel
theorem dX5_mostLeft_15 : decode cX5_mostLeft 15 = .ok (.aload_n 0, 1) := by decide +kernel
theorem dX5_mostLeft_16 : decode cX5_mostLeft 16 = .ok (.getfield 9, 3) := by decide +kernel
theorem dX5_mostLeft_19 : decode cX5_mostLeft 19 = .ok (.iload_n 1, 1) := by decide +kernel
theorem dX5_mostLeft_20 : decode cX5_mostLeft 20 = .ok (.iaload, 1) := by decide +kernel
theorem dX5_mostLeft_21 : decode cX5_mostLeft 21 = .ok (.if_icmp .le 5, 3) := by decide +kernel
theorem dX5_mostLeft_24 : decode cX5_mostLeft 24 = .ok (.iload_n 2, 1) := by decide +kernel
theorem dX5_mostLeft_25 : decode cX5_mostLeft 25 = .ok (.istore_n 1, 1) := by decide +kernel
theorem dX5_mostLeft_26 : decode cX5_mostLeft 26 = .ok (.iinc 2 1, 3) := by decide +kernel
theorem dX5_mostLeft_29 : decode cX5_mostLeft 29 = .ok (.goto (-25), 3) := by decide +kernel
theorem dX5_mostLeft_32 : decode cX5_mostLeft 32 = .ok (.iload_n 1, 1) := by decide +kernel
theorem dX5_mostLeft_33 : decode cX5_mostLeft 33 = .ok (.ireturn, 1) := by decide +kernel
theorem dX5_guessesOf_0 : decode cX5_guessesOf 0 = .ok (.iconst 0, 1) := by decide +kernel
theorem dX5_guessesOf_1 : decode cX5_guessesOf 1 = .ok (.istore_n 2, 1) := by decide +kernel
theorem dX5_guessesOf_2 : decode cX5_guessesOf 2 = .ok (.iconst 0, 1) := by decide +kernel
theorem dX5_guessesOf_3 : decode cX5_guessesOf 3 = .ok (.istore_n 3, 1) := by decide +kernel
theorem dX5_guessesOf_4 : decode cX5_guessesOf 4 = .ok (.iload_n 3, 1) := by decide +kernel
theorem dX5_guessesOf_5 : decode cX5_guessesOf 5 = .ok (.aload_n 0, 1) := by decide +kernel
theorem dX5_guessesOf_6 : decode cX5_guessesOf 6 = .ok (.getfield 36, 3) := by decide +kernel
theorem dX5_guessesOf_9 : decode cX5_guessesOf 9 = .ok (.arraylength, 1) := by decide +kernel
theorem dX5_guessesOf_10 : decode cX5_guessesOf 10 = .ok (.if_icmp .ge 27, 3) := by decide +kernel
theorem dX5_guessesOf_13 : decode cX5_guessesOf 13 = .ok (.iload_n 2, 1) := by decide +kernel
theorem dX5_guessesOf_14 : decode cX5_guessesOf 14 = .ok (.aload_n 0, 1) := by decide +kernel
theorem dX5_guessesOf_15 : decode cX5_guessesOf 15 = .ok (.getfield 36, 3) := by decide +kernel
theorem dX5_guessesOf_18 : decode cX5_guessesOf 18 = .ok (.iload_n 3, 1) := by decide +kernel
theorem dX5_guessesOf_19 : decode cX5_guessesOf 19 = .ok (.iaload, 1) := by decide +kernel
theorem dX5_guessesOf_20 : decode cX5_guessesOf 20 = .ok (.iload_n 1, 1) := by decide +kernel
theorem dX5_guessesOf_21 : decode cX5_guessesOf 21 = .ok (.if_icmp .ne 7, 3) := by decide +kernel
theorem dX5_guessesOf_24 : decode cX5_guessesOf 24 = .ok (.iconst 1, 1) := by decide +kernel
theorem dX5_guessesOf_25 : decode cX5_guessesOf 25 = .ok (.goto 4, 3) := by decide +kernel
theorem dX5_guessesOf_28 : decode cX5_guessesOf 28 = .ok (.iconst 0, 1) := by decide +kernel
theorem dX5_guessesOf_29 : decode cX5_guessesOf 29 = .ok (.iadd, 1) := by decide +kernel
theorem dX5_guessesOf_30 : decode cX5_guessesOf 30 = .ok (.istore_n 2, 1) := by decide +kernel
theorem dX5_guessesOf_31 : decode cX5_guessesOf 31 = .ok (.iinc 3 1, 3) := by decide +kernel
theorem dX5_guessesOf_34 : decode cX5_guessesOf 34 = .ok (.goto (-30), 3) := by decide +kernel
theorem dX5_guessesOf_37 : decode cX5_guessesOf 37 = .ok (.iload_n 2, 1) := by decide +kernel
theorem dX5_guessesOf_38 : decode cX5_guessesOf 38 = .ok (.ireturn, 1) := by decide +kernel
theorem dX5_expectedAbove_0 : decode cX5_expectedAbove 0 = .ok (.iconst 0, 1) := by decide +kernel
theorem dX5_expectedAbove_1 : decode cX5_expectedAbove 1 = .ok (.istore_n 1, 1) := by decide +kernel
theorem dX5_expectedAbove_2 : decode cX5_expectedAbove 2 = .ok (.iconst 0, 1) := by decide +kernel
theorem dX5_expectedAbove_3 : decode cX5_expectedAbove 3 = .ok (.istore_n 2, 1) := by decide +kernel
theorem dX5_expectedAbove_4 : decode cX5_expectedAbove 4 = .ok (.iload_n 2, 1) := by decide +kernel
theorem dX5_expectedAbove_5 : decode cX5_expectedAbove 5 = .ok (.iconst 5, 1) := by decide +kernel
theorem dX5_expectedAbove_6 : decode cX5_expectedAbove 6 = .ok (.if_icmp .ge 27, 3) := by decide +kernel
theorem dX5_expectedAbove_9 : decode cX5_expectedAbove 9 = .ok (.iload_n 1, 1) := by decide +kernel
theorem dX5_expectedAbove_10 : decode cX5_expectedAbove 10 = .ok (.aload_n 0, 1) := by decide +kernel
theorem dX5_expectedAbove_11 : decode cX5_expectedAbove 11 = .ok (.getfield 19, 3) := by decide +kernel
theorem dX5_expectedAbove_14 : decode cX5_expectedAbove 14 = .ok (.getfield 48, 3) := by decide +kernel
theorem dX5_expectedAbove_17 : decode cX5_expectedAbove 17 = .ok (.iload_n 2, 1) := by decide +kernel
theorem dX5_expectedAbove_18 : decode cX5_expectedAbove 18 = .ok (.iaload, 1) := by decide +kernel
theorem dX5_expectedAbove_19 : decode cX5_expectedAbove 19 = .ok (.aload_n 0, 1) := by decide +kernel
theorem dX5_expectedAbove_20 : decode cX5_expectedAbove 20 = .ok (.iload_n 2, 1) := by decide +kernel
theorem dX5_expectedAbove_21 : decode cX5_expectedAbove 21 = .ok (.invokevirtual 65, 3) := by decide +kernel
theorem dX5_expectedAbove_24 : decode cX5_expectedAbove 24 = .ok (.imul, 1) := by decide +kernel
theorem dX5_expectedAbove_25 : decode cX5_expectedAbove 25 = .ok (.iadd, 1) := by decide +kernel
theorem dX5_expectedAbove_26 : decode cX5_expectedAbove 26 = .ok (.istore_n 1, 1) := by decide +kernel
theorem dX5_expectedAbove_27 : decode cX5_expectedAbove 27 = .ok (.iinc 2 1, 3) := by decide +kernel
theorem dX5_expectedAbove_30 : decode cX5_expectedAbove 30 = .ok (.goto (-26), 3) := by decide +kernel
theorem dX5_expectedAbove_33 : decode cX5_expectedAbove 33 = .ok (.iload_n 1, 1) := by decide +kernel
theorem dX5_expectedAbove_34 : decode cX5_expectedAbove 34 = .ok (.ireturn, 1) := by decide +kernel
theorem dX5_takeGuesses_0 : decode cX5_takeGuesses 0 = .ok (.iconst 0, 1) := by decide +kernel
theorem dX5_takeGuesses_1 : decode cX5_takeGuesses 1 = .ok (.istore_n 3, 1) := by decide +kernel
theorem dX5_takeGuesses_2 : decode cX5_takeGuesses 2 = .ok (.iconst 0, 1) := by decide +kernel
theorem dX5_takeGuesses_3 : decode cX5_takeGuesses 3 = .ok (.istore 4, 2) := by decide +kernel
theorem dX5_takeGuesses_5 : decode cX5_takeGuesses 5 = .ok (.iload 4, 2) := by decide +kernel
theorem dX5_takeGuesses_7 : decode cX5_takeGuesses 7 = .ok (.aload_n 1, 1) := by decide +kernel
theorem dX5_takeGuesses_8 : decode cX5_takeGuesses 8 = .ok (.getfield 69, 3) := by decide +kernel
theorem dX5_takeGuesses_11 : decode cX5_takeGuesses 11 = .ok (.if_icmp .ge 57, 3) := by decide +kernel
theorem dX5_takeGuesses_14 : decode cX5_takeGuesses 14 = .ok (.iload_n 2, 1) := by decide +kernel
theorem dX5_takeGuesses_15 : decode cX5_takeGuesses 15 = .ok (.iload 4, 2) := by decide +kernel
theorem dX5_takeGuesses_17 : decode cX5_takeGuesses 17 = .ok (.iadd, 1) := by decide +kernel
theorem dX5_takeGuesses_18 : decode cX5_takeGuesses 18 = .ok (.aload_n 0, 1) := by decide +kernel
theorem dX5_takeGuesses_19 : decode cX5_takeGuesses 19 = .ok (.getfield 36, 3) := by decide +kernel
theorem dX5_takeGuesses_22 : decode cX5_takeGuesses 22 = .ok (.arraylength, 1) := by decide +kernel
theorem dX5_takeGuesses_23 : decode cX5_takeGuesses 23 = .ok (.if_icmp .ge 45, 3) := by decide +kernel
theorem dX5_takeGuesses_26 : decode cX5_takeGuesses 26 = .ok (.aload_n 1, 1) := by decide +kernel
theorem dX5_takeGuesses_27 : decode cX5_takeGuesses 27 = .ok (.getfield 74, 3) := by decide +kernel
theorem dX5_takeGuesses_30 : decode cX5_takeGuesses 30 = .ok (.iload 4, 2) := by decide +kernel
theorem dX5_takeGuesses_32 : decode cX5_takeGuesses 32 = .ok (.iaload, 1) := by decide +kernel
theorem dX5_takeGuesses_33 : decode cX5_takeGuesses 33 = .ok (.iconst 5, 1) := by decide +kernel
theorem dX5_takeGuesses_34 : decode cX5_takeGuesses 34 = .ok (.invokestatic 77, 3) := by decide +kernel
theorem dX5_takeGuesses_37 : decode cX5_takeGuesses 37 = .ok (.ifCond .ne 6, 3) := by decide +kernel
theorem dX5_takeGuesses_40 : decode cX5_takeGuesses 40 = .ok (.goto 28, 3) := by decide +kernel
theorem dX5_takeGuesses_43 : decode cX5_takeGuesses 43 = .ok (.aload_n 0, 1) := by decide +kernel
theorem dX5_takeGuesses_44 : decode cX5_takeGuesses 44 = .ok (.getfield 36, 3) := by decide +kernel
theorem dX5_takeGuesses_47 : decode cX5_takeGuesses 47 = .ok (.iload_n 2, 1) := by decide +kernel
theorem dX5_takeGuesses_48 : decode cX5_takeGuesses 48 = .ok (.iload 4, 2) := by decide +kernel
theorem dX5_takeGuesses_50 : decode cX5_takeGuesses 50 = .ok (.iadd, 1) := by decide +kernel
theorem dX5_takeGuesses_51 : decode cX5_takeGuesses 51 = .ok (.aload_n 1, 1) := by decide +kernel
theorem dX5_takeGuesses_52 : decode cX5_takeGuesses 52 = .ok (.getfield 74, 3) := by decide +kernel
theorem dX5_takeGuesses_55 : decode cX5_takeGuesses 55 = .ok (.iload 4, 2) := by decide +kernel
theorem dX5_takeGuesses_57 : decode cX5_takeGuesses 57 = .ok (.iaload, 1) := by decide +kernel
theorem dX5_takeGuesses_58 : decode cX5_takeGuesses 58 = .ok (.iastore, 1) := by decide +kernel
theorem dX5_takeGuesses_59 : decode cX5_takeGuesses 59 = .ok (.iinc 3 1, 3) := by decide +kernel
theorem dX5_takeGuesses_62 : decode cX5_takeGuesses 62 = .ok (.iinc 4 1, 3) := by decide +kernel
theorem dX5_takeGuesses_65 : decode cX5_takeGuesses 65 = .ok (.goto (-60), 3) := by decide +kernel
theorem dX5_takeGuesses_68 : decode cX5_takeGuesses 68 = .ok (.iload_n 3, 1) := by decide +kernel
theorem dX5_takeGuesses_69 : decode cX5_takeGuesses 69 = .ok (.ireturn, 1) := by decide +kernel
theorem dX5_writeAnew_0 : decode cX5_writeAnew 0 = .ok (.aload_n 0, 1) := by decide +kernel
theorem dX5_writeAnew_1 : decode cX5_writeAnew 1 = .ok (.getfield 36, 3) := by decide +kernel
theorem dX5_writeAnew_4 : decode cX5_writeAnew 4 = .ok (.iload_n 1, 1) := by decide +kernel
theorem dX5_writeAnew_5 : decode cX5_writeAnew 5 = .ok (.iaload, 1) := by decide +kernel
theorem dX5_writeAnew_6 : decode cX5_writeAnew 6 = .ok (.istore_n 3, 1) := by decide +kernel
theorem dX5_writeAnew_7 : decode cX5_writeAnew 7 = .ok (.aload_n 0, 1) := by decide +kernel
theorem dX5_writeAnew_8 : decode cX5_writeAnew 8 = .ok (.dup, 1) := by decide +kernel
theorem dX5_writeAnew_9 : decode cX5_writeAnew 9 = .ok (.getfield 81, 3) := by decide +kernel
theorem dX5_writeAnew_12 : decode cX5_writeAnew 12 = .ok (.iconst 1, 1) := by decide +kernel
theorem dX5_writeAnew_13 : decode cX5_writeAnew 13 = .ok (.iadd, 1) := by decide +kernel
theorem dX5_writeAnew_14 : decode cX5_writeAnew 14 = .ok (.putfield 81, 3) := by decide +kernel
theorem dX5_writeAnew_17 : decode cX5_writeAnew 17 = .ok (.aload_n 0, 1) := by decide +kernel
theorem dX5_writeAnew_18 : decode cX5_writeAnew 18 = .ok (.dup, 1) := by decide +kernel
theorem dX5_writeAnew_19 : decode cX5_writeAnew 19 = .ok (.getfield 84, 3) := by decide +kernel
theorem dX5_writeAnew_22 : decode cX5_writeAnew 22 = .ok (.iload_n 2, 1) := by decide +kernel
theorem dX5_writeAnew_23 : decode cX5_writeAnew 23 = .ok (.aload_n 0, 1) := by decide +kernel
theorem dX5_writeAnew_24 : decode cX5_writeAnew 24 = .ok (.getfield 34, 3) := by decide +kernel
theorem dX5_writeAnew_27 : decode cX5_writeAnew 27 = .ok (.iload_n 1, 1) := by decide +kernel
theorem dX5_writeAnew_28 : decode cX5_writeAnew 28 = .ok (.iaload, 1) := by decide +kernel
theorem dX5_writeAnew_29 : decode cX5_writeAnew 29 = .ok (.if_icmp .ne 7, 3) := by decide +kernel
theorem dX5_writeAnew_32 : decode cX5_writeAnew 32 = .ok (.iconst 1, 1) := by decide +kernel
theorem dX5_writeAnew_33 : decode cX5_writeAnew 33 = .ok (.goto 4, 3) := by decide +kernel
theorem dX5_writeAnew_36 : decode cX5_writeAnew 36 = .ok (.iconst 0, 1) := by decide +kernel
theorem dX5_writeAnew_37 : decode cX5_writeAnew 37 = .ok (.iadd, 1) := by decide +kernel
theorem dX5_writeAnew_38 : decode cX5_writeAnew 38 = .ok (.putfield 84, 3) := by decide +kernel
theorem dX5_writeAnew_41 : decode cX5_writeAnew 41 = .ok (.aload_n 0, 1) := by decide +kernel
theorem dX5_writeAnew_42 : decode cX5_writeAnew 42 = .ok (.dup, 1) := by decide +kernel
theorem dX5_writeAnew_43 : decode cX5_writeAnew 43 = .ok (.getfield 84, 3) := by decide +kernel
theorem dX5_writeAnew_46 : decode cX5_writeAnew 46 = .ok (.iload_n 3, 1) := by decide +kernel
theorem dX5_writeAnew_47 : decode cX5_writeAnew 47 = .ok (.aload_n 0, 1) := by decide +kernel
theorem dX5_writeAnew_48 : decode cX5_writeAnew 48 = .ok (.getfield 34, 3) := by decide +kernel
theorem dX5_writeAnew_51 : decode cX5_writeAnew 51 = .ok (.iload_n 1, 1) := by decide +kernel
theorem dX5_writeAnew_52 : decode cX5_writeAnew 52 = .ok (.iaload, 1) := by decide +kernel
theorem dX5_writeAnew_53 : decode cX5_writeAnew 53 = .ok (.if_icmp .ne 7, 3) := by decide +kernel
theorem dX5_writeAnew_56 : decode cX5_writeAnew 56 = .ok (.iconst 1, 1) := by decide +kernel
theorem dX5_writeAnew_57 : decode cX5_writeAnew 57 = .ok (.goto 4, 3) := by decide +kernel
theorem dX5_writeAnew_60 : decode cX5_writeAnew 60 = .ok (.iconst 0, 1) := by decide +kernel
theorem dX5_writeAnew_61 : decode cX5_writeAnew 61 = .ok (.isub, 1) := by decide +kernel
theorem dX5_writeAnew_62 : decode cX5_writeAnew 62 = .ok (.putfield 84, 3) := by decide +kernel
theorem dX5_writeAnew_65 : decode cX5_writeAnew 65 = .ok (.aload_n 0, 1) := by decide +kernel
theorem dX5_writeAnew_66 : decode cX5_writeAnew 66 = .ok (.getfield 36, 3) := by decide +kernel
theorem dX5_writeAnew_69 : decode cX5_writeAnew 69 = .ok (.iload_n 1, 1) := by decide +kernel
theorem dX5_writeAnew_70 : decode cX5_writeAnew 70 = .ok (.iload_n 2, 1) := by decide +kernel
theorem dX5_writeAnew_71 : decode cX5_writeAnew 71 = .ok (.iastore, 1) := by decide +kernel
theorem dX5_writeAnew_72 : decode cX5_writeAnew 72 = .ok (.iload_n 3, 1) := by decide +kernel
theorem dX5_writeAnew_73 : decode cX5_writeAnew 73 = .ok (.ireturn, 1) := by decide +kernel
theorem dX5_cutAt_0 : decode cX5_cutAt 0 = .ok (.aload_n 0, 1) := by decide +kernel
theorem dX5_cutAt_1 : decode cX5_cutAt 1 = .ok (.getfield 34, 3) := by decide +kernel
theorem dX5_cutAt_4 : decode cX5_cutAt 4 = .ok (.arraylength, 1) := by decide +kernel
theorem dX5_cutAt_5 : decode cX5_cutAt 5 = .ok (.iload_n 1, 1) := by decide +kernel
theorem dX5_cutAt_6 : decode cX5_cutAt 6 = .ok (.isub, 1) := by decide +kernel
theorem dX5_cutAt_7 : decode cX5_cutAt 7 = .ok (.istore_n 2, 1) := by decide +kernel
theorem dX5_cutAt_8 : decode cX5_cutAt 8 = .ok (.aload_n 0, 1) := by decide +kernel
theorem dX5_cutAt_9 : decode cX5_cutAt 9 = .ok (.getfield 34, 3) := by decide +kernel
theorem dX5_cutAt_12 : decode cX5_cutAt 12 = .ok (.iconst 0, 1) := by decide +kernel
theorem dX5_cutAt_13 : decode cX5_cutAt 13 = .ok (.aload_n 0, 1) := by decide +kernel
theorem dX5_cutAt_14 : decode cX5_cutAt 14 = .ok (.getfield 39, 3) := by decide +kernel
theorem dX5_cutAt_17 : decode cX5_cutAt 17 = .ok (.iconst 0, 1) := by decide +kernel
theorem dX5_cutAt_18 : decode cX5_cutAt 18 = .ok (.aload_n 0, 1) := by decide +kernel
theorem dX5_cutAt_19 : decode cX5_cutAt 19 = .ok (.getfield 34, 3) := by decide +kernel
theorem dX5_cutAt_22 : decode cX5_cutAt 22 = .ok (.arraylength, 1) := by decide +kernel
theorem dX5_cutAt_23 : decode cX5_cutAt 23 = .ok (.invokestatic 55, 3) := by decide +kernel
theorem dX5_cutAt_26 : decode cX5_cutAt 26 = .ok (.aload_n 0, 1) := by decide +kernel
theorem dX5_cutAt_27 : decode cX5_cutAt 27 = .ok (.getfield 39, 3) := by decide +kernel
theorem dX5_cutAt_30 : decode cX5_cutAt 30 = .ok (.iload_n 1, 1) := by decide +kernel
theorem dX5_cutAt_31 : decode cX5_cutAt 31 = .ok (.aload_n 0, 1) := by decide +kernel
theorem dX5_cutAt_32 : decode cX5_cutAt 32 = .ok (.getfield 34, 3) := by decide +kernel
theorem dX5_cutAt_35 : decode cX5_cutAt 35 = .ok (.iconst 0, 1) := by decide +kernel
theorem dX5_cutAt_36 : decode cX5_cutAt 36 = .ok (.iload_n 2, 1) := by decide +kernel
theorem dX5_cutAt_37 : decode cX5_cutAt 37 = .ok (.invokestatic 55, 3) := by decide +kernel
theorem dX5_cutAt_40 : decode cX5_cutAt 40 = .ok (.aload_n 0, 1) := by decide +kernel
theorem dX5_cutAt_41 : decode cX5_cutAt 41 = .ok (.getfield 39, 3) := by decide +kernel
theorem dX5_cutAt_44 : decode cX5_cutAt 44 = .ok (.iconst 0, 1) := by decide +kernel
theorem dX5_cutAt_45 : decode cX5_cutAt 45 = .ok (.aload_n 0, 1) := by decide +kernel
theorem dX5_cutAt_46 : decode cX5_cutAt 46 = .ok (.getfield 34, 3) := by decide +kernel
theorem dX5_cutAt_49 : decode cX5_cutAt 49 = .ok (.iload_n 2, 1) := by decide +kernel
theorem dX5_cutAt_50 : decode cX5_cutAt 50 = .ok (.iload_n 1, 1) := by decide +kernel
theorem dX5_cutAt_51 : decode cX5_cutAt 51 = .ok (.invokestatic 55, 3) := by decide +kernel
theorem dX5_cutAt_54 : decode cX5_cutAt 54 = .ok (.return_, 1) := by decide +kernel
theorem dX5_hitsIfShuffled_0 : decode cX5_hitsIfShuffled 0 = .ok (.aload_n 0, 1) := by decide +kernel
theorem dX5_hitsIfShuffled_1 : decode cX5_hitsIfShuffled 1 = .ok (.getfield 34, 3) := by decide +kernel
theorem dX5_hitsIfShuffled_4 : decode cX5_hitsIfShuffled 4 = .ok (.iconst 0, 1) := by decide +kernel
theorem dX5_hitsIfShuffled_5 : decode cX5_hitsIfShuffled 5 = .ok (.aload_n 0, 1) := by decide +kernel
theorem dX5_hitsIfShuffled_6 : decode cX5_hitsIfShuffled 6 = .ok (.getfield 39, 3) := by decide +kernel
theorem dX5_hitsIfShuffled_9 : decode cX5_hitsIfShuffled 9 = .ok (.iconst 0, 1) := by decide +kernel
theorem dX5_hitsIfShuffled_10 : decode cX5_hitsIfShuffled 10 = .ok (.aload_n 0, 1) := by decide +kernel
theorem dX5_hitsIfShuffled_11 : decode cX5_hitsIfShuffled 11 = .ok (.getfield 34, 3) := by decide +kernel
theorem dX5_hitsIfShuffled_14 : decode cX5_hitsIfShuffled 14 = .ok (.arraylength, 1) := by decide +kernel
theorem dX5_hitsIfShuffled_15 : decode cX5_hitsIfShuffled 15 = .ok (.invokestatic 55, 3) := by decide +kernel
theorem dX5_hitsIfShuffled_18 : decode cX5_hitsIfShuffled 18 = .ok (.aload_n 0, 1) := by decide +kernel
theorem dX5_hitsIfShuffled_19 : decode cX5_hitsIfShuffled 19 = .ok (.getfield 39, 3) := by decide +kernel
theorem dX5_hitsIfShuffled_22 : decode cX5_hitsIfShuffled 22 = .ok (.iload_n 1, 1) := by decide +kernel
theorem dX5_hitsIfShuffled_23 : decode cX5_hitsIfShuffled 23 = .ok (.invokestatic 87, 3) := by decide +kernel
theorem dX5_hitsIfShuffled_26 : decode cX5_hitsIfShuffled 26 = .ok (.aload_n 0, 1) := by decide +kernel
theorem dX5_hitsIfShuffled_27 : decode cX5_hitsIfShuffled 27 = .ok (.aload_n 0, 1) := by decide +kernel
theorem dX5_hitsIfShuffled_28 : decode cX5_hitsIfShuffled 28 = .ok (.getfield 39, 3) := by decide +kernel
theorem dX5_hitsIfShuffled_31 : decode cX5_hitsIfShuffled 31 = .ok (.invokevirtual 51, 3) := by decide +kernel
theorem dX5_hitsIfShuffled_34 : decode cX5_hitsIfShuffled 34 = .ok (.ireturn, 1) := by decide +kernel
theorem dX5_mix_0 : decode cX5_mix 0 = .ok (.iload_n 1, 1) := by decide +kernel
theorem dX5_mix_1 : decode cX5_mix 1 = .ok (.iconst 1, 1) := by decide +kernel
theorem dX5_mix_2 : decode cX5_mix 2 = .ok (.iadd, 1) := by decide +kernel
theorem dX5_mix_3 : decode cX5_mix 3 = .ok (.i2l, 1) := by decide +kernel
theorem dX5_mix_4 : decode cX5_mix 4 = .ok (.lstore_n 2, 1) := by decide +kernel
theorem dX5_mix_5 : decode cX5_mix 5 = .ok (.aload_n 0, 1) := by decide +kernel
theorem dX5_mix_6 : decode cX5_mix 6 = .ok (.arraylength, 1) := by decide +kernel
theorem dX5_mix_7 : decode cX5_mix 7 = .ok (.iconst 1, 1) := by decide +kernel
theorem dX5_mix_8 : decode cX5_mix 8 = .ok (.isub, 1) := by decide +kernel
theorem dX5_mix_9 : decode cX5_mix 9 = .ok (.istore 4, 2) := by decide +kernel
theorem dX5_mix_11 : decode cX5_mix 11 = .ok (.iload 4, 2) := by decide +kernel
theorem dX5_mix_13 : decode cX5_mix 13 = .ok (.ifCond .le 49, 3) := by decide +kernel
theorem dX5_mix_16 : decode cX5_mix 16 = .ok (.lload_n 2, 1) := by decide +kernel
theorem dX5_mix_17 : decode cX5_mix 17 = .ok (.ldc2_w 91, 3) := by decide +kernel
theorem dX5_mix_20 : decode cX5_mix 20 = .ok (.lmul, 1) := by decide +kernel
theorem dX5_mix_21 : decode cX5_mix 21 = .ok (.ldc2_w 93, 3) := by decide +kernel
theorem dX5_mix_24 : decode cX5_mix 24 = .ok (.lrem, 1) := by decide +kernel
theorem dX5_mix_25 : decode cX5_mix 25 = .ok (.lstore_n 2, 1) := by decide +kernel
theorem dX5_mix_26 : decode cX5_mix 26 = .ok (.lload_n 2, 1) := by decide +kernel
theorem dX5_mix_27 : decode cX5_mix 27 = .ok (.iload 4, 2) := by decide +kernel
theorem dX5_mix_29 : decode cX5_mix 29 = .ok (.iconst 1, 1) := by decide +kernel
theorem dX5_mix_30 : decode cX5_mix 30 = .ok (.iadd, 1) := by decide +kernel
theorem dX5_mix_31 : decode cX5_mix 31 = .ok (.i2l, 1) := by decide +kernel
theorem dX5_mix_32 : decode cX5_mix 32 = .ok (.lrem, 1) := by decide +kernel
theorem dX5_mix_33 : decode cX5_mix 33 = .ok (.l2i, 1) := by decide +kernel
theorem dX5_mix_34 : decode cX5_mix 34 = .ok (.istore 5, 2) := by decide +kernel
theorem dX5_mix_36 : decode cX5_mix 36 = .ok (.aload_n 0, 1) := by decide +kernel
theorem dX5_mix_37 : decode cX5_mix 37 = .ok (.iload 4, 2) := by decide +kernel
theorem dX5_mix_39 : decode cX5_mix 39 = .ok (.iaload, 1) := by decide +kernel
theorem dX5_mix_40 : decode cX5_mix 40 = .ok (.istore 6, 2) := by decide +kernel
theorem dX5_mix_42 : decode cX5_mix 42 = .ok (.aload_n 0, 1) := by decide +kernel
theorem dX5_mix_43 : decode cX5_mix 43 = .ok (.iload 4, 2) := by decide +kernel
theorem dX5_mix_45 : decode cX5_mix 45 = .ok (.aload_n 0, 1) := by decide +kernel
theorem dX5_mix_46 : decode cX5_mix 46 = .ok (.iload 5, 2) := by decide +kernel
theorem dX5_mix_48 : decode cX5_mix 48 = .ok (.iaload, 1) := by decide +kernel
theorem dX5_mix_49 : decode cX5_mix 49 = .ok (.iastore, 1) := by decide +kernel
theorem dX5_mix_50 : decode cX5_mix 50 = .ok (.aload_n 0, 1) := by decide +kernel
theorem dX5_mix_51 : decode cX5_mix 51 = .ok (.iload 5, 2) := by decide +kernel
theorem dX5_mix_53 : decode cX5_mix 53 = .ok (.iload 6, 2) := by decide +kernel
theorem dX5_mix_55 : decode cX5_mix 55 = .ok (.iastore, 1) := by decide +kernel
theorem dX5_mix_56 : decode cX5_mix 56 = .ok (.iinc 4 (-1), 3) := by decide +kernel
theorem dX5_mix_59 : decode cX5_mix 59 = .ok (.goto (-48), 3) := by decide +kernel
theorem dX5_mix_62 : decode cX5_mix 62 = .ok (.return_, 1) := by decide +kernel
theorem dX5_keep_0 : decode cX5_keep 0 = .ok (.aload_n 0, 1) := by decide +kernel
theorem dX5_keep_1 : decode cX5_keep 1 = .ok (.getfield 34, 3) := by decide +kernel
theorem dX5_keep_4 : decode cX5_keep 4 = .ok (.iconst 0, 1) := by decide +kernel
theorem dX5_keep_5 : decode cX5_keep 5 = .ok (.aload_n 0, 1) := by decide +kernel
theorem dX5_keep_6 : decode cX5_keep 6 = .ok (.getfield 42, 3) := by decide +kernel
theorem dX5_keep_9 : decode cX5_keep 9 = .ok (.iconst 0, 1) := by decide +kernel
theorem dX5_keep_10 : decode cX5_keep 10 = .ok (.aload_n 0, 1) := by decide +kernel
theorem dX5_keep_11 : decode cX5_keep 11 = .ok (.getfield 34, 3) := by decide +kernel
theorem dX5_keep_14 : decode cX5_keep 14 = .ok (.arraylength, 1) := by decide +kernel
theorem dX5_keep_15 : decode cX5_keep 15 = .ok (.invokestatic 55, 3) := by decide +kernel
theorem dX5_keep_18 : decode cX5_keep 18 = .ok (.aload_n 0, 1) := by decide +kernel
theorem dX5_keep_19 : decode cX5_keep 19 = .ok (.getfield 36, 3) := by decide +kernel
theorem dX5_keep_22 : decode cX5_keep 22 = .ok (.iconst 0, 1) := by decide +kernel
theorem dX5_keep_23 : decode cX5_keep 23 = .ok (.aload_n 0, 1) := by decide +kernel
theorem dX5_keep_24 : decode cX5_keep 24 = .ok (.getfield 45, 3) := by decide +kernel
theorem dX5_keep_27 : decode cX5_keep 27 = .ok (.iconst 0, 1) := by decide +kernel
theorem dX5_keep_28 : decode cX5_keep 28 = .ok (.aload_n 0, 1) := by decide +kernel
theorem dX5_keep_29 : decode cX5_keep 29 = .ok (.getfield 36, 3) := by decide +kernel
theorem dX5_keep_32 : decode cX5_keep 32 = .ok (.arraylength, 1) := by decide +kernel
theorem dX5_keep_33 : decode cX5_keep 33 = .ok (.invokestatic 55, 3) := by decide +kernel
theorem dX5_keep_36 : decode cX5_keep 36 = .ok (.aload_n 0, 1) := by decide +kernel
theorem dX5_keep_37 : decode cX5_keep 37 = .ok (.aload_n 0, 1) := by decide +kernel
theorem dX5_keep_38 : decode cX5_keep 38 = .ok (.getfield 81, 3) := by decide +kernel
theorem dX5_keep_41 : decode cX5_keep 41 = .ok (.putfield 95, 3) := by decide +kernel
theorem dX5_keep_44 : decode cX5_keep 44 = .ok (.aload_n 0, 1) := by decide +kernel
theorem dX5_keep_45 : decode cX5_keep 45 = .ok (.aload_n 0, 1) := by decide +kernel
theorem dX5_keep_46 : decode cX5_keep 46 = .ok (.getfield 84, 3) := by decide +kernel
theorem dX5_keep_49 : decode cX5_keep 49 = .ok (.putfield 98, 3) := by decide +kernel
theorem dX5_keep_52 : decode cX5_keep 52 = .ok (.return_, 1) := by decide +kernel
theorem dX5_layBack_0 : decode cX5_layBack 0 = .ok (.aload_n 0, 1) := by decide +kernel
theorem dX5_layBack_1 : decode cX5_layBack 1 = .ok (.getfield 42, 3) := by decide +kernel
theorem dX5_layBack_4 : decode cX5_layBack 4 = .ok (.iconst 0, 1) := by decide +kernel
theorem dX5_layBack_5 : decode cX5_layBack 5 = .ok (.aload_n 0, 1) := by decide +kernel
theorem dX5_layBack_6 : decode cX5_layBack 6 = .ok (.getfield 34, 3) := by decide +kernel
theorem dX5_layBack_9 : decode cX5_layBack 9 = .ok (.iconst 0, 1) := by decide +kernel
theorem dX5_layBack_10 : decode cX5_layBack 10 = .ok (.aload_n 0, 1) := by decide +kernel
theorem dX5_layBack_11 : decode cX5_layBack 11 = .ok (.getfield 34, 3) := by decide +kernel
theorem dX5_layBack_14 : decode cX5_layBack 14 = .ok (.arraylength, 1) := by decide +kernel
theorem dX5_layBack_15 : decode cX5_layBack 15 = .ok (.invokestatic 55, 3) := by decide +kernel
theorem dX5_layBack_18 : decode cX5_layBack 18 = .ok (.aload_n 0, 1) := by decide +kernel
theorem dX5_layBack_19 : decode cX5_layBack 19 = .ok (.getfield 45, 3) := by decide +kernel
theorem dX5_layBack_22 : decode cX5_layBack 22 = .ok (.iconst 0, 1) := by decide +kernel
theorem dX5_layBack_23 : decode cX5_layBack 23 = .ok (.aload_n 0, 1) := by decide +kernel
theorem dX5_layBack_24 : decode cX5_layBack 24 = .ok (.getfield 36, 3) := by decide +kernel
theorem dX5_layBack_27 : decode cX5_layBack 27 = .ok (.iconst 0, 1) := by decide +kernel
theorem dX5_layBack_28 : decode cX5_layBack 28 = .ok (.aload_n 0, 1) := by decide +kernel
theorem dX5_layBack_29 : decode cX5_layBack 29 = .ok (.getfield 36, 3) := by decide +kernel
theorem dX5_layBack_32 : decode cX5_layBack 32 = .ok (.arraylength, 1) := by decide +kernel
theorem dX5_layBack_33 : decode cX5_layBack 33 = .ok (.invokestatic 55, 3) := by decide +kernel
theorem dX5_layBack_36 : decode cX5_layBack 36 = .ok (.aload_n 0, 1) := by decide +kernel
theorem dX5_layBack_37 : decode cX5_layBack 37 = .ok (.aload_n 0, 1) := by decide +kernel
theorem dX5_layBack_38 : decode cX5_layBack 38 = .ok (.getfield 95, 3) := by decide +kernel
theorem dX5_layBack_41 : decode cX5_layBack 41 = .ok (.putfield 81, 3) := by decide +kernel
theorem dX5_layBack_44 : decode cX5_layBack 44 = .ok (.aload_n 0, 1) := by decide +kernel
theorem dX5_layBack_45 : decode cX5_layBack 45 = .ok (.aload_n 0, 1) := by decide +kernel
theorem dX5_layBack_46 : decode cX5_layBack 46 = .ok (.getfield 98, 3) := by decide +kernel
theorem dX5_layBack_49 : decode cX5_layBack 49 = .ok (.putfield 84, 3) := by decide +kernel
theorem dX5_layBack_52 : decode cX5_layBack 52 = .ok (.return_, 1) := by decide +kernel
theorem dX6_init_0 : decode cX6_init 0 = .ok (.aload_n 0, 1) := by decide +kernel
theorem dX6_init_1 : decode cX6_init 1 = .ok (.invokespecial 1, 3) := by decide +kernel
theorem dX6_init_4 : decode cX6_init 4 = .ok (.aload_n 0, 1) := by decide +kernel
theorem dX6_init_5 : decode cX6_init 5 = .ok (.iload_n 1, 1) := by decide +kernel
theorem dX6_init_6 : decode cX6_init 6 = .ok (.putfield 7, 3) := by decide +kernel
theorem dX6_init_9 : decode cX6_init 9 = .ok (.aload_n 0, 1) := by decide +kernel
theorem dX6_init_10 : decode cX6_init 10 = .ok (.iload_n 2, 1) := by decide +kernel
theorem dX6_init_11 : decode cX6_init 11 = .ok (.putfield 13, 3) := by decide +kernel
theorem dX6_init_14 : decode cX6_init 14 = .ok (.return_, 1) := by decide +kernel
theorem dX7_init_0 : decode cX7_init 0 = .ok (.aload_n 0, 1) := by decide +kernel
theorem dX7_init_1 : decode cX7_init 1 = .ok (.invokespecial 1, 3) := by decide +kernel
theorem dX7_init_4 : decode cX7_init 4 = .ok (.aload_n 0, 1) := by decide +kernel
theorem dX7_init_5 : decode cX7_init 5 = .ok (.bipush 40, 2) := by decide +kernel
theorem dX7_init_7 : decode cX7_init 7 = .ok (.newarray .int, 2) := by decide +kernel
theorem dX7_init_9 : decode cX7_init 9 = .ok (.putfield 9, 3) := by decide +kernel
theorem dX7_init_12 : decode cX7_init 12 = .ok (.aload_n 0, 1) := by decide +kernel
theorem dX7_init_13 : decode cX7_init 13 = .ok (.iconst (-1), 1) := by decide +kernel
theorem dX7_init_14 : decode cX7_init 14 = .ok (.putfield 13, 3) := by decide +kernel
theorem dX7_init_17 : decode cX7_init 17 = .ok (.return_, 1) := by decide +kernel
theorem dX7_isMissing_0 : decode cX7_isMissing 0 = .ok (.aload_n 0, 1) := by decide +kernel
theorem dX7_isMissing_1 : decode cX7_isMissing 1 = .ok (.getfield 13, 3) := by decide +kernel
theorem dX7_isMissing_4 : decode cX7_isMissing 4 = .ok (.iconst (-1), 1) := by decide +kernel
theorem dX7_isMissing_5 : decode cX7_isMissing 5 = .ok (.if_icmp .ne 7, 3) := by decide +kernel
theorem dX7_isMissing_8 : decode cX7_isMissing 8 = .ok (.iconst 1, 1) := by decide +kernel
theorem dX7_isMissing_9 : decode cX7_isMissing 9 = .ok (.goto 4, 3) := by decide +kernel
theorem dX7_isMissing_12 : decode cX7_isMissing 12 = .ok (.iconst 0, 1) := by decide +kernel
theorem dX7_isMissing_13 : decode cX7_isMissing 13 = .ok (.ireturn, 1) := by decide +kernel
theorem dX7_become_0 : decode cX7_become 0 = .ok (.aload_n 0, 1) := by decide +kernel
theorem dX7_become_1 : decode cX7_become 1 = .ok (.iload_n 1, 1) := by decide +kernel
theorem dX7_become_2 : decode cX7_become 2 = .ok (.putfield 13, 3) := by decide +kernel
theorem dX7_become_5 : decode cX7_become 5 = .ok (.aload_n 0, 1) := by decide +kernel
theorem dX7_become_6 : decode cX7_become 6 = .ok (.iload_n 2, 1) := by decide +kernel
theorem dX7_become_7 : decode cX7_become 7 = .ok (.putfield 17, 3) := by decide +kernel
theorem dX7_become_10 : decode cX7_become 10 = .ok (.aload_n 0, 1) := by decide +kernel
theorem dX7_become_11 : decode cX7_become 11 = .ok (.getfield 9, 3) := by decide +kernel
theorem dX7_become_14 : decode cX7_become 14 = .ok (.iconst 0, 1) := by decide +kernel
theorem dX7_become_15 : decode cX7_become 15 = .ok (.invokestatic 20, 3) := by decide +kernel
theorem dX7_become_18 : decode cX7_become 18 = .ok (.return_, 1) := by decide +kernel
theorem dX7_holds_0 : decode cX7_holds 0 = .ok (.iload_n 1, 1) := by decide +kernel
theorem dX7_holds_1 : decode cX7_holds 1 = .ok (.ifCond .lt 29, 3) := by decide +kernel
theorem dX7_holds_4 : decode cX7_holds 4 = .ok (.iload_n 2, 1) := by decide +kernel
theorem dX7_holds_5 : decode cX7_holds 5 = .ok (.ifCond .lt 25, 3) := by decide +kernel
theorem dX7_holds_8 : decode cX7_holds 8 = .ok (.iload_n 2, 1) := by decide +kernel
theorem dX7_holds_9 : decode cX7_holds 9 = .ok (.aload_n 0, 1) := by decide +kernel
theorem dX7_holds_10 : decode cX7_holds 10 = .ok (.getfield 17, 3) := by decide +kernel
theorem dX7_holds_13 : decode cX7_holds 13 = .ok (.if_icmp .gt 17, 3) := by decide +kernel
theorem dX7_holds_16 : decode cX7_holds 16 = .ok (.iload_n 1, 1) := by decide +kernel
theorem dX7_holds_17 : decode cX7_holds 17 = .ok (.aload_n 0, 1) := by decide +kernel
theorem dX7_holds_18 : decode cX7_holds 18 = .ok (.getfield 17, 3) := by decide +kernel
theorem dX7_holds_21 : decode cX7_holds 21 = .ok (.iload_n 2, 1) := by decide +kernel
theorem dX7_holds_22 : decode cX7_holds 22 = .ok (.isub, 1) := by decide +kernel
theorem dX7_holds_23 : decode cX7_holds 23 = .ok (.if_icmp .gt 7, 3) := by decide +kernel
theorem dX7_holds_26 : decode cX7_holds 26 = .ok (.iconst 1, 1) := by decide +kernel
theorem dX7_holds_27 : decode cX7_holds 27 = .ok (.goto 4, 3) := by decide +kernel
theorem dX7_holds_30 : decode cX7_holds 30 = .ok (.iconst 0, 1) := by decide +kernel
theorem dX7_holds_31 : decode cX7_holds 31 = .ok (.ireturn, 1) := by decide +kernel
theorem dX7_write_0 : decode cX7_write 0 = .ok (.aload_n 0, 1) := by decide +kernel
theorem dX7_write_1 : decode cX7_write 1 = .ok (.getfield 13, 3) := by decide +kernel
theorem dX7_write_4 : decode cX7_write 4 = .ok (.lookupswitch 50 #[(0, 28), (1, 39)], 28) := by decide +kernel
theorem dX7_write_32 : decode cX7_write 32 = .ok (.aload_n 0, 1) := by decide +kernel
theorem dX7_write_33 : decode cX7_write 33 = .ok (.getfield 9, 3) := by decide +kernel
theorem dX7_write_36 : decode cX7_write 36 = .ok (.iload_n 1, 1) := by decide +kernel
theorem dX7_write_37 : decode cX7_write 37 = .ok (.iload_n 2, 1) := by decide +kernel
theorem dX7_write_38 : decode cX7_write 38 = .ok (.i2b, 1) := by decide +kernel
theorem dX7_write_39 : decode cX7_write 39 = .ok (.iastore, 1) := by decide +kernel
theorem dX7_write_40 : decode cX7_write 40 = .ok (.goto 21, 3) := by decide +kernel
theorem dX7_write_43 : decode cX7_write 43 = .ok (.aload_n 0, 1) := by decide +kernel
theorem dX7_write_44 : decode cX7_write 44 = .ok (.getfield 9, 3) := by decide +kernel
theorem dX7_write_47 : decode cX7_write 47 = .ok (.iload_n 1, 1) := by decide +kernel
theorem dX7_write_48 : decode cX7_write 48 = .ok (.iload_n 2, 1) := by decide +kernel
theorem dX7_write_49 : decode cX7_write 49 = .ok (.i2s, 1) := by decide +kernel
theorem dX7_write_50 : decode cX7_write 50 = .ok (.iastore, 1) := by decide +kernel
theorem dX7_write_51 : decode cX7_write 51 = .ok (.goto 10, 3) := by decide +kernel
theorem dX7_write_54 : decode cX7_write 54 = .ok (.aload_n 0, 1) := by decide +kernel
theorem dX7_write_55 : decode cX7_write 55 = .ok (.getfield 9, 3) := by decide +kernel
theorem dX7_write_58 : decode cX7_write 58 = .ok (.iload_n 1, 1) := by decide +kernel
theorem dX7_write_59 : decode cX7_write 59 = .ok (.iload_n 2, 1) := by decide +kernel
theorem dX7_write_60 : decode cX7_write 60 = .ok (.iastore, 1) := by decide +kernel
theorem dX7_write_61 : decode cX7_write 61 = .ok (.return_, 1) := by decide +kernel
theorem dX8_init_0 : decode cX8_init 0 = .ok (.aload_n 0, 1) := by decide +kernel
theorem dX8_init_1 : decode cX8_init 1 = .ok (.invokespecial 3, 3) := by decide +kernel
theorem dX8_init_4 : decode cX8_init 4 = .ok (.aload_n 0, 1) := by decide +kernel
theorem dX8_init_5 : decode cX8_init 5 = .ok (.sipush 160, 3) := by decide +kernel
theorem dX8_init_8 : decode cX8_init 8 = .ok (.newarray .int, 2) := by decide +kernel
theorem dX8_init_10 : decode cX8_init 10 = .ok (.putfield 9, 3) := by decide +kernel
theorem dX8_init_13 : decode cX8_init 13 = .ok (.return_, 1) := by decide +kernel
theorem dX8_add_0 : decode cX8_add 0 = .ok (.aload_n 0, 1) := by decide +kernel
theorem dX8_add_1 : decode cX8_add 1 = .ok (.getfield 15, 3) := by decide +kernel
theorem dX8_add_4 : decode cX8_add 4 = .ok (.aload_n 0, 1) := by decide +kernel
theorem dX8_add_5 : decode cX8_add 5 = .ok (.getfield 9, 3) := by decide +kernel
theorem dX8_add_8 : decode cX8_add 8 = .ok (.arraylength, 1) := by decide +kernel
theorem dX8_add_9 : decode cX8_add 9 = .ok (.if_icmp .ge 23, 3) := by decide +kernel
theorem dX8_add_12 : decode cX8_add 12 = .ok (.aload_n 0, 1) := by decide +kernel
theorem dX8_add_13 : decode cX8_add 13 = .ok (.getfield 9, 3) := by decide +kernel
theorem dX8_add_16 : decode cX8_add 16 = .ok (.aload_n 0, 1) := by decide +kernel
theorem dX8_add_17 : decode cX8_add 17 = .ok (.getfield 15, 3) := by decide +kernel
theorem dX8_add_20 : decode cX8_add 20 = .ok (.iload_n 1, 1) := by decide +kernel
theorem dX8_add_21 : decode cX8_add 21 = .ok (.iastore, 1) := by decide +kernel
theorem dX8_add_22 : decode cX8_add 22 = .ok (.aload_n 0, 1) := by decide +kernel
theorem dX8_add_23 : decode cX8_add 23 = .ok (.dup, 1) := by decide +kernel
theorem dX8_add_24 : decode cX8_add 24 = .ok (.getfield 15, 3) := by decide +kernel
theorem dX8_add_27 : decode cX8_add 27 = .ok (.iconst 1, 1) := by decide +kernel
theorem dX8_add_28 : decode cX8_add 28 = .ok (.iadd, 1) := by decide +kernel
theorem dX8_add_29 : decode cX8_add 29 = .ok (.putfield 15, 3) := by decide +kernel
theorem dX8_add_32 : decode cX8_add 32 = .ok (.return_, 1) := by decide +kernel
theorem dX8_endFrom_0 : decode cX8_endFrom 0 = .ok (.iload_n 1, 1) := by decide +kernel
theorem dX8_endFrom_1 : decode cX8_endFrom 1 = .ok (.istore_n 2, 1) := by decide +kernel
theorem dX8_endFrom_2 : decode cX8_endFrom 2 = .ok (.iload_n 2, 1) := by decide +kernel
theorem dX8_endFrom_3 : decode cX8_endFrom 3 = .ok (.aload_n 0, 1) := by decide +kernel
theorem dX8_endFrom_4 : decode cX8_endFrom 4 = .ok (.getfield 15, 3) := by decide +kernel
theorem dX8_endFrom_7 : decode cX8_endFrom 7 = .ok (.if_icmp .ge 21, 3) := by decide +kernel
theorem dX8_endFrom_10 : decode cX8_endFrom 10 = .ok (.aload_n 0, 1) := by decide +kernel
theorem dX8_endFrom_11 : decode cX8_endFrom 11 = .ok (.getfield 9, 3) := by decide +kernel
theorem dX8_endFrom_14 : decode cX8_endFrom 14 = .ok (.iload_n 2, 1) := by decide +kernel
theorem dX8_endFrom_15 : decode cX8_endFrom 15 = .ok (.iaload, 1) := by decide +kernel
theorem dX8_endFrom_16 : decode cX8_endFrom 16 = .ok (.invokestatic 19, 3) := by decide +kernel
theorem dX8_endFrom_19 : decode cX8_endFrom 19 = .ok (.ifCond .eq 9, 3) := by decide +kernel
theorem dX8_endFrom_22 : decode cX8_endFrom 22 = .ok (.iinc 2 1, 3) := by decide +kernel
theorem dX8_endFrom_25 : decode cX8_endFrom 25 = .ok (.goto (-23), 3) := by decide +kernel
theorem dX8_endFrom_28 : decode cX8_endFrom 28 = .ok (.iload_n 2, 1) := by decide +kernel
theorem dX8_endFrom_29 : decode cX8_endFrom 29 = .ok (.iload_n 1, 1) := by decide +kernel
theorem dX8_endFrom_30 : decode cX8_endFrom 30 = .ok (.if_icmp .le 5, 3) := by decide +kernel
theorem dX8_endFrom_33 : decode cX8_endFrom 33 = .ok (.iload_n 2, 1) := by decide +kernel
theorem dX8_endFrom_34 : decode cX8_endFrom 34 = .ok (.ireturn, 1) := by decide +kernel
theorem dX8_endFrom_35 : decode cX8_endFrom 35 = .ok (.iload_n 2, 1) := by decide +kernel
theorem dX8_endFrom_36 : decode cX8_endFrom 36 = .ok (.aload_n 0, 1) := by decide +kernel
theorem dX8_endFrom_37 : decode cX8_endFrom 37 = .ok (.getfield 15, 3) := by decide +kernel
theorem dX8_endFrom_40 : decode cX8_endFrom 40 = .ok (.if_icmp .ge 21, 3) := by decide +kernel
theorem dX8_endFrom_43 : decode cX8_endFrom 43 = .ok (.aload_n 0, 1) := by decide +kernel
theorem dX8_endFrom_44 : decode cX8_endFrom 44 = .ok (.getfield 9, 3) := by decide +kernel
theorem dX8_endFrom_47 : decode cX8_endFrom 47 = .ok (.iload_n 2, 1) := by decide +kernel
theorem dX8_endFrom_48 : decode cX8_endFrom 48 = .ok (.iaload, 1) := by decide +kernel
theorem dX8_endFrom_49 : decode cX8_endFrom 49 = .ok (.invokestatic 23, 3) := by decide +kernel
theorem dX8_endFrom_52 : decode cX8_endFrom 52 = .ok (.ifCond .eq 9, 3) := by decide +kernel
theorem dX8_endFrom_55 : decode cX8_endFrom 55 = .ok (.iinc 2 1, 3) := by decide +kernel
theorem dX8_endFrom_58 : decode cX8_endFrom 58 = .ok (.goto (-23), 3) := by decide +kernel
theorem dX8_endFrom_61 : decode cX8_endFrom 61 = .ok (.iload_n 2, 1) := by decide +kernel
theorem dX8_endFrom_62 : decode cX8_endFrom 62 = .ok (.iload_n 1, 1) := by decide +kernel
theorem dX8_endFrom_63 : decode cX8_endFrom 63 = .ok (.if_icmp .le 7, 3) := by decide +kernel
theorem dX8_endFrom_66 : decode cX8_endFrom 66 = .ok (.iload_n 2, 1) := by decide +kernel
theorem dX8_endFrom_67 : decode cX8_endFrom 67 = .ok (.goto 6, 3) := by decide +kernel
theorem dX8_endFrom_70 : decode cX8_endFrom 70 = .ok (.iload_n 1, 1) := by decide +kernel
theorem dX8_endFrom_71 : decode cX8_endFrom 71 = .ok (.iconst 1, 1) := by decide +kernel
theorem dX8_endFrom_72 : decode cX8_endFrom 72 = .ok (.iadd, 1) := by decide +kernel
theorem dX8_endFrom_73 : decode cX8_endFrom 73 = .ok (.ireturn, 1) := by decide +kernel
theorem dX8_numberIn_0 : decode cX8_numberIn 0 = .ok (.iconst 0, 1) := by decide +kernel
theorem dX8_numberIn_1 : decode cX8_numberIn 1 = .ok (.istore_n 3, 1) := by decide +kernel
theorem dX8_numberIn_2 : decode cX8_numberIn 2 = .ok (.iload_n 1, 1) := by decide +kernel
theorem dX8_numberIn_3 : decode cX8_numberIn 3 = .ok (.istore 4, 2) := by decide +kernel
theorem dX8_numberIn_5 : decode cX8_numberIn 5 = .ok (.iload 4, 2) := by decide +kernel
theorem dX8_numberIn_7 : decode cX8_numberIn 7 = .ok (.iload_n 2, 1) := by decide +kernel
theorem dX8_numberIn_8 : decode cX8_numberIn 8 = .ok (.if_icmp .ge 34, 3) := by decide +kernel
theorem dX8_numberIn_11 : decode cX8_numberIn 11 = .ok (.iload 4, 2) := by decide +kernel
theorem dX8_numberIn_13 : decode cX8_numberIn 13 = .ok (.aload_n 0, 1) := by decide +kernel
theorem dX8_numberIn_14 : decode cX8_numberIn 14 = .ok (.getfield 15, 3) := by decide +kernel
theorem dX8_numberIn_17 : decode cX8_numberIn 17 = .ok (.if_icmp .ge 25, 3) := by decide +kernel
theorem dX8_numberIn_20 : decode cX8_numberIn 20 = .ok (.iload_n 3, 1) := by decide +kernel
theorem dX8_numberIn_21 : decode cX8_numberIn 21 = .ok (.bipush 10, 2) := by decide +kernel
theorem dX8_numberIn_23 : decode cX8_numberIn 23 = .ok (.imul, 1) := by decide +kernel
theorem dX8_numberIn_24 : decode cX8_numberIn 24 = .ok (.aload_n 0, 1) := by decide +kernel
theorem dX8_numberIn_25 : decode cX8_numberIn 25 = .ok (.getfield 9, 3) := by decide +kernel
theorem dX8_numberIn_28 : decode cX8_numberIn 28 = .ok (.iload 4, 2) := by decide +kernel
theorem dX8_numberIn_30 : decode cX8_numberIn 30 = .ok (.iaload, 1) := by decide +kernel
theorem dX8_numberIn_31 : decode cX8_numberIn 31 = .ok (.iadd, 1) := by decide +kernel
theorem dX8_numberIn_32 : decode cX8_numberIn 32 = .ok (.bipush 48, 2) := by decide +kernel
theorem dX8_numberIn_34 : decode cX8_numberIn 34 = .ok (.isub, 1) := by decide +kernel
theorem dX8_numberIn_35 : decode cX8_numberIn 35 = .ok (.istore_n 3, 1) := by decide +kernel
theorem dX8_numberIn_36 : decode cX8_numberIn 36 = .ok (.iinc 4 1, 3) := by decide +kernel
theorem dX8_numberIn_39 : decode cX8_numberIn 39 = .ok (.goto (-34), 3) := by decide +kernel
theorem dX8_numberIn_42 : decode cX8_numberIn 42 = .ok (.iload_n 3, 1) := by decide +kernel
theorem dX8_numberIn_43 : decode cX8_numberIn 43 = .ok (.ireturn, 1) := by decide +kernel
theorem dX8_stands_0 : decode cX8_stands 0 = .ok (.aload_n 1, 1) := by decide +kernel
theorem dX8_stands_1 : decode cX8_stands 1 = .ok (.invokevirtual 26, 3) := by decide +kernel
theorem dX8_stands_4 : decode cX8_stands 4 = .ok (.iload_n 3, 1) := by decide +kernel
theorem dX8_stands_5 : decode cX8_stands 5 = .ok (.iload_n 2, 1) := by decide +kernel
theorem dX8_stands_6 : decode cX8_stands 6 = .ok (.isub, 1) := by decide +kernel
theorem dX8_stands_7 : decode cX8_stands 7 = .ok (.if_icmp .ne 11, 3) := by decide +kernel
theorem dX8_stands_10 : decode cX8_stands 10 = .ok (.iload_n 3, 1) := by decide +kernel
theorem dX8_stands_11 : decode cX8_stands 11 = .ok (.aload_n 0, 1) := by decide +kernel
theorem dX8_stands_12 : decode cX8_stands 12 = .ok (.getfield 15, 3) := by decide +kernel
theorem dX8_stands_15 : decode cX8_stands 15 = .ok (.if_icmp .le 5, 3) := by decide +kernel
theorem dX8_stands_18 : decode cX8_stands 18 = .ok (.iconst 0, 1) := by decide +kernel
theorem dX8_stands_19 : decode cX8_stands 19 = .ok (.ireturn, 1) := by decide +kernel
theorem dX8_stands_20 : decode cX8_stands 20 = .ok (.iconst 0, 1) := by decide +kernel
theorem dX8_stands_21 : decode cX8_stands 21 = .ok (.istore 4, 2) := by decide +kernel
theorem dX8_stands_23 : decode cX8_stands 23 = .ok (.iload 4, 2) := by decide +kernel
theorem dX8_stands_25 : decode cX8_stands 25 = .ok (.aload_n 1, 1) := by decide +kernel
theorem dX8_stands_26 : decode cX8_stands 26 = .ok (.invokevirtual 26, 3) := by decide +kernel
theorem dX8_stands_29 : decode cX8_stands 29 = .ok (.if_icmp .ge 29, 3) := by decide +kernel
theorem dX8_stands_32 : decode cX8_stands 32 = .ok (.aload_n 0, 1) := by decide +kernel
theorem dX8_stands_33 : decode cX8_stands 33 = .ok (.getfield 9, 3) := by decide +kernel
theorem dX8_stands_36 : decode cX8_stands 36 = .ok (.iload_n 2, 1) := by decide +kernel
theorem dX8_stands_37 : decode cX8_stands 37 = .ok (.iload 4, 2) := by decide +kernel
theorem dX8_stands_39 : decode cX8_stands 39 = .ok (.iadd, 1) := by decide +kernel
theorem dX8_stands_40 : decode cX8_stands 40 = .ok (.iaload, 1) := by decide +kernel
theorem dX8_stands_41 : decode cX8_stands 41 = .ok (.aload_n 1, 1) := by decide +kernel
theorem dX8_stands_42 : decode cX8_stands 42 = .ok (.iload 4, 2) := by decide +kernel
theorem dX8_stands_44 : decode cX8_stands 44 = .ok (.invokevirtual 32, 3) := by decide +kernel
theorem dX8_stands_47 : decode cX8_stands 47 = .ok (.if_icmp .eq 5, 3) := by decide +kernel
theorem dX8_stands_50 : decode cX8_stands 50 = .ok (.iconst 0, 1) := by decide +kernel
theorem dX8_stands_51 : decode cX8_stands 51 = .ok (.ireturn, 1) := by decide +kernel
theorem dX8_stands_52 : decode cX8_stands 52 = .ok (.iinc 4 1, 3) := by decide +kernel
theorem dX8_stands_55 : decode cX8_stands 55 = .ok (.goto (-32), 3) := by decide +kernel
theorem dX8_stands_58 : decode cX8_stands 58 = .ok (.iconst 1, 1) := by decide +kernel
theorem dX8_stands_59 : decode cX8_stands 59 = .ok (.ireturn, 1) := by decide +kernel
theorem dX8_isBlank_0 : decode cX8_isBlank 0 = .ok (.iload_n 0, 1) := by decide +kernel
theorem dX8_isBlank_1 : decode cX8_isBlank 1 = .ok (.bipush 32, 2) := by decide +kernel
theorem dX8_isBlank_3 : decode cX8_isBlank 3 = .ok (.if_icmp .eq 9, 3) := by decide +kernel
theorem dX8_isBlank_6 : decode cX8_isBlank 6 = .ok (.iload_n 0, 1) := by decide +kernel
theorem dX8_isBlank_7 : decode cX8_isBlank 7 = .ok (.bipush 10, 2) := by decide +kernel
theorem dX8_isBlank_9 : decode cX8_isBlank 9 = .ok (.if_icmp .ne 7, 3) := by decide +kernel
theorem dX8_isBlank_12 : decode cX8_isBlank 12 = .ok (.iconst 1, 1) := by decide +kernel
theorem dX8_isBlank_13 : decode cX8_isBlank 13 = .ok (.goto 4, 3) := by decide +kernel
theorem dX8_isBlank_16 : decode cX8_isBlank 16 = .ok (.iconst 0, 1) := by decide +kernel
theorem dX8_isBlank_17 : decode cX8_isBlank 17 = .ok (.ireturn, 1) := by decide +kernel
theorem dX8_isLetter_0 : decode cX8_isLetter 0 = .ok (.bipush 97, 2) := by decide +kernel
theorem dX8_isLetter_2 : decode cX8_isLetter 2 = .ok (.iload_n 0, 1) := by decide +kernel
theorem dX8_isLetter_3 : decode cX8_isLetter 3 = .ok (.if_icmp .gt 13, 3) := by decide +kernel
theorem dX8_isLetter_6 : decode cX8_isLetter 6 = .ok (.iload_n 0, 1) := by decide +kernel
theorem dX8_isLetter_7 : decode cX8_isLetter 7 = .ok (.bipush 122, 2) := by decide +kernel
theorem dX8_isLetter_9 : decode cX8_isLetter 9 = .ok (.if_icmp .gt 7, 3) := by decide +kernel
theorem dX8_isLetter_12 : decode cX8_isLetter 12 = .ok (.iconst 1, 1) := by decide +kernel
theorem dX8_isLetter_13 : decode cX8_isLetter 13 = .ok (.goto 4, 3) := by decide +kernel
theorem dX8_isLetter_16 : decode cX8_isLetter 16 = .ok (.iconst 0, 1) := by decide +kernel
theorem dX8_isLetter_17 : decode cX8_isLetter 17 = .ok (.ireturn, 1) := by decide +kernel
theorem dX8_isDigit_0 : decode cX8_isDigit 0 = .ok (.bipush 48, 2) := by decide +kernel
theorem dX8_isDigit_2 : decode cX8_isDigit 2 = .ok (.iload_n 0, 1) := by decide +kernel
theorem dX8_isDigit_3 : decode cX8_isDigit 3 = .ok (.if_icmp .gt 13, 3) := by decide +kernel
theorem dX8_isDigit_6 : decode cX8_isDigit 6 = .ok (.iload_n 0, 1) := by decide +kernel
theorem dX8_isDigit_7 : decode cX8_isDigit 7 = .ok (.bipush 57, 2) := by decide +kernel
theorem dX8_isDigit_9 : decode cX8_isDigit 9 = .ok (.if_icmp .gt 7, 3) := by decide +kernel
theorem dX8_isDigit_12 : decode cX8_isDigit 12 = .ok (.iconst 1, 1) := by decide +kernel
theorem dX8_isDigit_13 : decode cX8_isDigit 13 = .ok (.goto 4, 3) := by decide +kernel
theorem dX8_isDigit_16 : decode cX8_isDigit 16 = .ok (.iconst 0, 1) := by decide +kernel
theorem dX8_isDigit_17 : decode cX8_isDigit 17 = .ok (.ireturn, 1) := by decide +kernel
theorem dX9_init_0 : decode cX9_init 0 = .ok (.aload_n 0, 1) := by decide +kernel
theorem dX9_init_1 : decode cX9_init 1 = .ok (.invokespecial 1, 3) := by decide +kernel
theorem dX9_init_4 : decode cX9_init 4 = .ok (.aload_n 0, 1) := by decide +kernel
theorem dX9_init_5 : decode cX9_init 5 = .ok (.aload_n 1, 1) := by decide +kernel
theorem dX9_init_6 : decode cX9_init 6 = .ok (.putfield 7, 3) := by decide +kernel
theorem dX9_init_9 : decode cX9_init 9 = .ok (.aload_n 0, 1) := by decide +kernel
theorem dX9_init_10 : decode cX9_init 10 = .ok (.aload_n 2, 1) := by decide +kernel
theorem dX9_init_11 : decode cX9_init 11 = .ok (.putfield 13, 3) := by decide +kernel
theorem dX9_init_14 : decode cX9_init 14 = .ok (.aload_n 0, 1) := by decide +kernel
theorem dX9_init_15 : decode cX9_init 15 = .ok (.aload_n 1, 1) := by decide +kernel
theorem dX9_init_16 : decode cX9_init 16 = .ok (.arraylength, 1) := by decide +kernel
theorem dX9_init_17 : decode cX9_init 17 = .ok (.newarray .int, 2) := by decide +kernel
theorem dX9_init_19 : decode cX9_init 19 = .ok (.putfield 16, 3) := by decide +kernel
theorem dX9_init_22 : decode cX9_init 22 = .ok (.return_, 1) := by decide +kernel
theorem dX9_value_0 : decode cX9_value 0 = .ok (.iconst 0, 1) := by decide +kernel
theorem dX9_value_1 : decode cX9_value 1 = .ok (.istore_n 3, 1) := by decide +kernel
theorem dX9_value_2 : decode cX9_value 2 = .ok (.iload_n 1, 1) := by decide +kernel
theorem dX9_value_3 : decode cX9_value 3 = .ok (.ifCond .ne 7, 3) := by decide +kernel
theorem dX9_value_6 : decode cX9_value 6 = .ok (.iconst 0, 1) := by decide +kernel
theorem dX9_value_7 : decode cX9_value 7 = .ok (.goto 11, 3) := by decide +kernel
theorem dX9_value_10 : decode cX9_value 10 = .ok (.aload_n 0, 1) := by decide +kernel
theorem dX9_value_11 : decode cX9_value 11 = .ok (.getfield 13, 3) := by decide +kernel
theorem dX9_value_14 : decode cX9_value 14 = .ok (.iload_n 1, 1) := by decide +kernel
theorem dX9_value_15 : decode cX9_value 15 = .ok (.iconst 1, 1) := by decide +kernel
theorem dX9_value_16 : decode cX9_value 16 = .ok (.isub, 1) := by decide +kernel
theorem dX9_value_17 : decode cX9_value 17 = .ok (.iaload, 1) := by decide +kernel
theorem dX9_value_18 : decode cX9_value 18 = .ok (.istore 4, 2) := by decide +kernel
theorem dX9_value_20 : decode cX9_value 20 = .ok (.iload 4, 2) := by decide +kernel
theorem dX9_value_22 : decode cX9_value 22 = .ok (.aload_n 0, 1) := by decide +kernel
theorem dX9_value_23 : decode cX9_value 23 = .ok (.getfield 13, 3) := by decide +kernel
theorem dX9_value_26 : decode cX9_value 26 = .ok (.iload_n 1, 1) := by decide +kernel
theorem dX9_value_27 : decode cX9_value 27 = .ok (.iaload, 1) := by decide +kernel
theorem dX9_value_28 : decode cX9_value 28 = .ok (.if_icmp .ge 183, 3) := by decide +kernel
theorem dX9_value_31 : decode cX9_value 31 = .ok (.iload_n 3, 1) := by decide +kernel
theorem dX9_value_32 : decode cX9_value 32 = .ok (.aload_n 0, 1) := by decide +kernel
theorem dX9_value_33 : decode cX9_value 33 = .ok (.getfield 16, 3) := by decide +kernel
theorem dX9_value_36 : decode cX9_value 36 = .ok (.arraylength, 1) := by decide +kernel
theorem dX9_value_37 : decode cX9_value 37 = .ok (.if_icmp .ge 174, 3) := by decide +kernel
theorem dX9_value_40 : decode cX9_value 40 = .ok (.aload_n 0, 1) := by decide +kernel
theorem dX9_value_41 : decode cX9_value 41 = .ok (.getfield 7, 3) := by decide +kernel
theorem dX9_value_44 : decode cX9_value 44 = .ok (.iload 4, 2) := by decide +kernel
theorem dX9_value_46 : decode cX9_value 46 = .ok (.iaload, 1) := by decide +kernel
theorem dX9_value_47 : decode cX9_value 47 = .ok (.iconst (-1), 1) := by decide +kernel
theorem dX9_value_48 : decode cX9_value 48 = .ok (.ixor, 1) := by decide +kernel
theorem dX9_value_49 : decode cX9_value 49 = .ok (.istore 5, 2) := by decide +kernel
theorem dX9_value_51 : decode cX9_value 51 = .ok (.iload 5, 2) := by decide +kernel
theorem dX9_value_53 : decode cX9_value 53 = .ok (.ifCond .ge 22, 3) := by decide +kernel
theorem dX9_value_56 : decode cX9_value 56 = .ok (.aload_n 0, 1) := by decide +kernel
theorem dX9_value_57 : decode cX9_value 57 = .ok (.getfield 16, 3) := by decide +kernel
theorem dX9_value_60 : decode cX9_value 60 = .ok (.iload_n 3, 1) := by decide +kernel
theorem dX9_value_61 : decode cX9_value 61 = .ok (.aload_n 0, 1) := by decide +kernel
theorem dX9_value_62 : decode cX9_value 62 = .ok (.getfield 7, 3) := by decide +kernel
theorem dX9_value_65 : decode cX9_value 65 = .ok (.iload 4, 2) := by decide +kernel
theorem dX9_value_67 : decode cX9_value 67 = .ok (.iaload, 1) := by decide +kernel
theorem dX9_value_68 : decode cX9_value 68 = .ok (.iastore, 1) := by decide +kernel
theorem dX9_value_69 : decode cX9_value 69 = .ok (.iinc 3 1, 3) := by decide +kernel
theorem dX9_value_72 : decode cX9_value 72 = .ok (.goto 133, 3) := by decide +kernel
theorem dX9_value_75 : decode cX9_value 75 = .ok (.iload 5, 2) := by decide +kernel
theorem dX9_value_77 : decode cX9_value 77 = .ok (.aload_n 2, 1) := by decide +kernel
theorem dX9_value_78 : decode cX9_value 78 = .ok (.arraylength, 1) := by decide +kernel
theorem dX9_value_79 : decode cX9_value 79 = .ok (.if_icmp .ge 19, 3) := by decide +kernel
theorem dX9_value_82 : decode cX9_value 82 = .ok (.aload_n 0, 1) := by decide +kernel
theorem dX9_value_83 : decode cX9_value 83 = .ok (.getfield 16, 3) := by decide +kernel
theorem dX9_value_86 : decode cX9_value 86 = .ok (.iload_n 3, 1) := by decide +kernel
theorem dX9_value_87 : decode cX9_value 87 = .ok (.aload_n 2, 1) := by decide +kernel
theorem dX9_value_88 : decode cX9_value 88 = .ok (.iload 5, 2) := by decide +kernel
theorem dX9_value_90 : decode cX9_value 90 = .ok (.iaload, 1) := by decide +kernel
theorem dX9_value_91 : decode cX9_value 91 = .ok (.iastore, 1) := by decide +kernel
theorem dX9_value_92 : decode cX9_value 92 = .ok (.iinc 3 1, 3) := by decide +kernel
theorem dX9_value_95 : decode cX9_value 95 = .ok (.goto 110, 3) := by decide +kernel
theorem dX9_value_98 : decode cX9_value 98 = .ok (.iload 5, 2) := by decide +kernel
theorem dX9_value_100 : decode cX9_value 100 = .ok (.bipush 11, 2) := by decide +kernel
theorem dX9_value_102 : decode cX9_value 102 = .ok (.if_icmp .ne 37, 3) := by decide +kernel
theorem dX9_value_105 : decode cX9_value 105 = .ok (.iload_n 3, 1) := by decide +kernel
theorem dX9_value_106 : decode cX9_value 106 = .ok (.ifCond .le 33, 3) := by decide +kernel
theorem dX9_value_109 : decode cX9_value 109 = .ok (.aload_n 0, 1) := by decide +kernel
theorem dX9_value_110 : decode cX9_value 110 = .ok (.getfield 16, 3) := by decide +kernel
theorem dX9_value_113 : decode cX9_value 113 = .ok (.iload_n 3, 1) := by decide +kernel
theorem dX9_value_114 : decode cX9_value 114 = .ok (.iconst 1, 1) := by decide +kernel
theorem dX9_value_115 : decode cX9_value 115 = .ok (.isub, 1) := by decide +kernel
theorem dX9_value_116 : decode cX9_value 116 = .ok (.aload_n 0, 1) := by decide +kernel
theorem dX9_value_117 : decode cX9_value 117 = .ok (.getfield 16, 3) := by decide +kernel
theorem dX9_value_120 : decode cX9_value 120 = .ok (.iload_n 3, 1) := by decide +kernel
theorem dX9_value_121 : decode cX9_value 121 = .ok (.iconst 1, 1) := by decide +kernel
theorem dX9_value_122 : decode cX9_value 122 = .ok (.isub, 1) := by decide +kernel
theorem dX9_value_123 : decode cX9_value 123 = .ok (.iaload, 1) := by decide +kernel
theorem dX9_value_124 : decode cX9_value 124 = .ok (.ifCond .ne 7, 3) := by decide +kernel
theorem dX9_value_127 : decode cX9_value 127 = .ok (.iconst 1, 1) := by decide +kernel
theorem dX9_value_128 : decode cX9_value 128 = .ok (.goto 4, 3) := by decide +kernel
theorem dX9_value_131 : decode cX9_value 131 = .ok (.iconst 0, 1) := by decide +kernel
theorem dX9_value_132 : decode cX9_value 132 = .ok (.invokestatic 21, 3) := by decide +kernel
theorem dX9_value_135 : decode cX9_value 135 = .ok (.iastore, 1) := by decide +kernel
theorem dX9_value_136 : decode cX9_value 136 = .ok (.goto 69, 3) := by decide +kernel
theorem dX9_value_139 : decode cX9_value 139 = .ok (.iload 5, 2) := by decide +kernel
theorem dX9_value_141 : decode cX9_value 141 = .ok (.bipush 13, 2) := by decide +kernel
theorem dX9_value_143 : decode cX9_value 143 = .ok (.if_icmp .ne 27, 3) := by decide +kernel
theorem dX9_value_146 : decode cX9_value 146 = .ok (.iload_n 3, 1) := by decide +kernel
theorem dX9_value_147 : decode cX9_value 147 = .ok (.ifCond .le 23, 3) := by decide +kernel
theorem dX9_value_150 : decode cX9_value 150 = .ok (.aload_n 0, 1) := by decide +kernel
theorem dX9_value_151 : decode cX9_value 151 = .ok (.getfield 16, 3) := by decide +kernel
theorem dX9_value_154 : decode cX9_value 154 = .ok (.iload_n 3, 1) := by decide +kernel
theorem dX9_value_155 : decode cX9_value 155 = .ok (.iconst 1, 1) := by decide +kernel
theorem dX9_value_156 : decode cX9_value 156 = .ok (.isub, 1) := by decide +kernel
theorem dX9_value_157 : decode cX9_value 157 = .ok (.aload_n 0, 1) := by decide +kernel
theorem dX9_value_158 : decode cX9_value 158 = .ok (.getfield 16, 3) := by decide +kernel
theorem dX9_value_161 : decode cX9_value 161 = .ok (.iload_n 3, 1) := by decide +kernel
theorem dX9_value_162 : decode cX9_value 162 = .ok (.iconst 1, 1) := by decide +kernel
theorem dX9_value_163 : decode cX9_value 163 = .ok (.isub, 1) := by decide +kernel
theorem dX9_value_164 : decode cX9_value 164 = .ok (.iaload, 1) := by decide +kernel
theorem dX9_value_165 : decode cX9_value 165 = .ok (.ineg, 1) := by decide +kernel
theorem dX9_value_166 : decode cX9_value 166 = .ok (.iastore, 1) := by decide +kernel
theorem dX9_value_167 : decode cX9_value 167 = .ok (.goto 38, 3) := by decide +kernel
theorem dX9_value_170 : decode cX9_value 170 = .ok (.iload_n 3, 1) := by decide +kernel
theorem dX9_value_171 : decode cX9_value 171 = .ok (.iconst 1, 1) := by decide +kernel
theorem dX9_value_172 : decode cX9_value 172 = .ok (.if_icmp .le 33, 3) := by decide +kernel
theorem dX9_value_175 : decode cX9_value 175 = .ok (.iinc 3 (-1), 3) := by decide +kernel
theorem dX9_value_178 : decode cX9_value 178 = .ok (.aload_n 0, 1) := by decide +kernel
theorem dX9_value_179 : decode cX9_value 179 = .ok (.getfield 16, 3) := by decide +kernel
theorem dX9_value_182 : decode cX9_value 182 = .ok (.iload_n 3, 1) := by decide +kernel
theorem dX9_value_183 : decode cX9_value 183 = .ok (.iconst 1, 1) := by decide +kernel
theorem dX9_value_184 : decode cX9_value 184 = .ok (.isub, 1) := by decide +kernel
theorem dX9_value_185 : decode cX9_value 185 = .ok (.iload 5, 2) := by decide +kernel
theorem dX9_value_187 : decode cX9_value 187 = .ok (.aload_n 0, 1) := by decide +kernel
theorem dX9_value_188 : decode cX9_value 188 = .ok (.getfield 16, 3) := by decide +kernel
theorem dX9_value_191 : decode cX9_value 191 = .ok (.iload_n 3, 1) := by decide +kernel
theorem dX9_value_192 : decode cX9_value 192 = .ok (.iconst 1, 1) := by decide +kernel
theorem dX9_value_193 : decode cX9_value 193 = .ok (.isub, 1) := by decide +kernel
theorem dX9_value_194 : decode cX9_value 194 = .ok (.iaload, 1) := by decide +kernel
theorem dX9_value_195 : decode cX9_value 195 = .ok (.aload_n 0, 1) := by decide +kernel
theorem dX9_value_196 : decode cX9_value 196 = .ok (.getfield 16, 3) := by decide +kernel
theorem dX9_value_199 : decode cX9_value 199 = .ok (.iload_n 3, 1) := by decide +kernel
theorem dX9_value_200 : decode cX9_value 200 = .ok (.iaload, 1) := by decide +kernel
theorem dX9_value_201 : decode cX9_value 201 = .ok (.invokestatic 27, 3) := by decide +kernel
theorem dX9_value_204 : decode cX9_value 204 = .ok (.iastore, 1) := by decide +kernel
theorem dX9_value_205 : decode cX9_value 205 = .ok (.iinc 4 1, 3) := by decide +kernel
theorem dX9_value_208 : decode cX9_value 208 = .ok (.goto (-188), 3) := by decide +kernel
theorem dX9_value_211 : decode cX9_value 211 = .ok (.iload_n 3, 1) := by decide +kernel
theorem dX9_value_212 : decode cX9_value 212 = .ok (.ifCond .le 12, 3) := by decide +kernel
theorem dX9_value_215 : decode cX9_value 215 = .ok (.aload_n 0, 1) := by decide +kernel
theorem dX9_value_216 : decode cX9_value 216 = .ok (.getfield 16, 3) := by decide +kernel
theorem dX9_value_219 : decode cX9_value 219 = .ok (.iconst 0, 1) := by decide +kernel
theorem dX9_value_220 : decode cX9_value 220 = .ok (.iaload, 1) := by decide +kernel
theorem dX9_value_221 : decode cX9_value 221 = .ok (.goto 4, 3) := by decide +kernel
theorem dX9_value_224 : decode cX9_value 224 = .ok (.iconst 0, 1) := by decide +kernel
theorem dX9_value_225 : decode cX9_value 225 = .ok (.ireturn, 1) := by decide +kernel
theorem dX9_joined_0 : decode cX9_joined 0 = .ok (.iload_n 0, 1) := by decide +kernel
theorem dX9_joined_1 : decode cX9_joined 1 = .ok (.lookupswitch 129 #[(9, 59), (10, 76), (43, 121), (45, 125), (60, 93), (61, 107)], 59) := by decide +kernel
theorem dX9_joined_60 : decode cX9_joined 60 = .ok (.iload_n 1, 1) := by decide +kernel
theorem dX9_joined_61 : decode cX9_joined 61 = .ok (.ifCond .ne 7, 3) := by decide +kernel
theorem dX9_joined_64 : decode cX9_joined 64 = .ok (.iload_n 2, 1) := by decide +kernel
theorem dX9_joined_65 : decode cX9_joined 65 = .ok (.ifCond .eq 7, 3) := by decide +kernel
theorem dX9_joined_68 : decode cX9_joined 68 = .ok (.iconst 1, 1) := by decide +kernel
theorem dX9_joined_69 : decode cX9_joined 69 = .ok (.goto 4, 3) := by decide +kernel
theorem dX9_joined_72 : decode cX9_joined 72 = .ok (.iconst 0, 1) := by decide +kernel
theorem dX9_joined_73 : decode cX9_joined 73 = .ok (.invokestatic 21, 3) := by decide +kernel
theorem dX9_joined_76 : decode cX9_joined 76 = .ok (.ireturn, 1) := by decide +kernel
theorem dX9_joined_77 : decode cX9_joined 77 = .ok (.iload_n 1, 1) := by decide +kernel
theorem dX9_joined_78 : decode cX9_joined 78 = .ok (.ifCond .eq 11, 3) := by decide +kernel
theorem dX9_joined_81 : decode cX9_joined 81 = .ok (.iload_n 2, 1) := by decide +kernel
theorem dX9_joined_82 : decode cX9_joined 82 = .ok (.ifCond .eq 7, 3) := by decide +kernel
theorem dX9_joined_85 : decode cX9_joined 85 = .ok (.iconst 1, 1) := by decide +kernel
theorem dX9_joined_86 : decode cX9_joined 86 = .ok (.goto 4, 3) := by decide +kernel
theorem dX9_joined_89 : decode cX9_joined 89 = .ok (.iconst 0, 1) := by decide +kernel
theorem dX9_joined_90 : decode cX9_joined 90 = .ok (.invokestatic 21, 3) := by decide +kernel
theorem dX9_joined_93 : decode cX9_joined 93 = .ok (.ireturn, 1) := by decide +kernel
theorem dX9_joined_94 : decode cX9_joined 94 = .ok (.iload_n 1, 1) := by decide +kernel
theorem dX9_joined_95 : decode cX9_joined 95 = .ok (.iload_n 2, 1) := by decide +kernel
theorem dX9_joined_96 : decode cX9_joined 96 = .ok (.if_icmp .ge 7, 3) := by decide +kernel
theorem dX9_joined_99 : decode cX9_joined 99 = .ok (.iconst 1, 1) := by decide +kernel
theorem dX9_joined_100 : decode cX9_joined 100 = .ok (.goto 4, 3) := by decide +kernel
theorem dX9_joined_103 : decode cX9_joined 103 = .ok (.iconst 0, 1) := by decide +kernel
theorem dX9_joined_104 : decode cX9_joined 104 = .ok (.invokestatic 21, 3) := by decide +kernel
theorem dX9_joined_107 : decode cX9_joined 107 = .ok (.ireturn, 1) := by decide +kernel
theorem dX9_joined_108 : decode cX9_joined 108 = .ok (.iload_n 1, 1) := by decide +kernel
theorem dX9_joined_109 : decode cX9_joined 109 = .ok (.iload_n 2, 1) := by decide +kernel
theorem dX9_joined_110 : decode cX9_joined 110 = .ok (.if_icmp .ne 7, 3) := by decide +kernel
theorem dX9_joined_113 : decode cX9_joined 113 = .ok (.iconst 1, 1) := by decide +kernel
theorem dX9_joined_114 : decode cX9_joined 114 = .ok (.goto 4, 3) := by decide +kernel
theorem dX9_joined_117 : decode cX9_joined 117 = .ok (.iconst 0, 1) := by decide +kernel
theorem dX9_joined_118 : decode cX9_joined 118 = .ok (.invokestatic 21, 3) := by decide +kernel
theorem dX9_joined_121 : decode cX9_joined 121 = .ok (.ireturn, 1) := by decide +kernel
theorem dX9_joined_122 : decode cX9_joined 122 = .ok (.iload_n 1, 1) := by decide +kernel
theorem dX9_joined_123 : decode cX9_joined 123 = .ok (.iload_n 2, 1) := by decide +kernel
theorem dX9_joined_124 : decode cX9_joined 124 = .ok (.iadd, 1) := by decide +kernel
theorem dX9_joined_125 : decode cX9_joined 125 = .ok (.ireturn, 1) := by decide +kernel
theorem dX9_joined_126 : decode cX9_joined 126 = .ok (.iload_n 1, 1) := by decide +kernel
theorem dX9_joined_127 : decode cX9_joined 127 = .ok (.iload_n 2, 1) := by decide +kernel
theorem dX9_joined_128 : decode cX9_joined 128 = .ok (.isub, 1) := by decide +kernel
theorem dX9_joined_129 : decode cX9_joined 129 = .ok (.ireturn, 1) := by decide +kernel
theorem dX9_joined_130 : decode cX9_joined 130 = .ok (.iload_n 1, 1) := by decide +kernel
theorem dX9_joined_131 : decode cX9_joined 131 = .ok (.iload_n 2, 1) := by decide +kernel
theorem dX9_joined_132 : decode cX9_joined 132 = .ok (.imul, 1) := by decide +kernel
theorem dX9_joined_133 : decode cX9_joined 133 = .ok (.ireturn, 1) := by decide +kernel
theorem dX9_bit_0 : decode cX9_bit 0 = .ok (.iload_n 0, 1) := by decide +kernel
theorem dX9_bit_1 : decode cX9_bit 1 = .ok (.ifCond .eq 7, 3) := by decide +kernel
theorem dX9_bit_4 : decode cX9_bit 4 = .ok (.iconst 1, 1) := by decide +kernel
theorem dX9_bit_5 : decode cX9_bit 5 = .ok (.goto 4, 3) := by decide +kernel
theorem dX9_bit_8 : decode cX9_bit 8 = .ok (.iconst 0, 1) := by decide +kernel
theorem dX9_bit_9 : decode cX9_bit 9 = .ok (.ireturn, 1) := by decide +kernel
theorem dX10_init_0 : decode cX10_init 0 = .ok (.aload_n 0, 1) := by decide +kernel
theorem dX10_init_1 : decode cX10_init 1 = .ok (.invokespecial 3, 3) := by decide +kernel
theorem dX10_init_4 : decode cX10_init 4 = .ok (.aload_n 0, 1) := by decide +kernel
theorem dX10_init_5 : decode cX10_init 5 = .ok (.sipush 161, 3) := by decide +kernel
theorem dX10_init_8 : decode cX10_init 8 = .ok (.newarray .int, 2) := by decide +kernel
theorem dX10_init_10 : decode cX10_init 10 = .ok (.putfield 9, 3) := by decide +kernel
theorem dX10_init_13 : decode cX10_init 13 = .ok (.aload_n 0, 1) := by decide +kernel
theorem dX10_init_14 : decode cX10_init 14 = .ok (.sipush 161, 3) := by decide +kernel
theorem dX10_init_17 : decode cX10_init 17 = .ok (.newarray .int, 2) := by decide +kernel
theorem dX10_init_19 : decode cX10_init 19 = .ok (.putfield 15, 3) := by decide +kernel
theorem dX10_init_22 : decode cX10_init 22 = .ok (.aload_n 0, 1) := by decide +kernel
theorem dX10_init_23 : decode cX10_init 23 = .ok (.sipush 161, 3) := by decide +kernel
theorem dX10_init_26 : decode cX10_init 26 = .ok (.newarray .int, 2) := by decide +kernel
theorem dX10_init_28 : decode cX10_init 28 = .ok (.putfield 18, 3) := by decide +kernel
theorem dX10_init_31 : decode cX10_init 31 = .ok (.return_, 1) := by decide +kernel
theorem dX10_cutTape_0 : decode cX10_cutTape 0 = .ok (.aload_n 0, 1) := by decide +kernel
theorem dX10_cutTape_1 : decode cX10_cutTape 1 = .ok (.iconst 0, 1) := by decide +kernel
theorem dX10_cutTape_2 : decode cX10_cutTape 2 = .ok (.putfield 21, 3) := by decide +kernel
theorem dX10_cutTape_5 : decode cX10_cutTape 5 = .ok (.iconst 0, 1) := by decide +kernel
theorem dX10_cutTape_6 : decode cX10_cutTape 6 = .ok (.istore_n 2, 1) := by decide +kernel
theorem dX10_cutTape_7 : decode cX10_cutTape 7 = .ok (.iconst 0, 1) := by decide +kernel
theorem dX10_cutTape_8 : decode cX10_cutTape 8 = .ok (.istore_n 3, 1) := by decide +kernel
theorem dX10_cutTape_9 : decode cX10_cutTape 9 = .ok (.iload_n 3, 1) := by decide +kernel
theorem dX10_cutTape_10 : decode cX10_cutTape 10 = .ok (.aload_n 1, 1) := by decide +kernel
theorem dX10_cutTape_11 : decode cX10_cutTape 11 = .ok (.getfield 25, 3) := by decide +kernel
theorem dX10_cutTape_14 : decode cX10_cutTape 14 = .ok (.if_icmp .ge 64, 3) := by decide +kernel
theorem dX10_cutTape_17 : decode cX10_cutTape 17 = .ok (.aload_n 1, 1) := by decide +kernel
theorem dX10_cutTape_18 : decode cX10_cutTape 18 = .ok (.iload_n 3, 1) := by decide +kernel
theorem dX10_cutTape_19 : decode cX10_cutTape 19 = .ok (.invokevirtual 28, 3) := by decide +kernel
theorem dX10_cutTape_22 : decode cX10_cutTape 22 = .ok (.istore_n 2, 1) := by decide +kernel
theorem dX10_cutTape_23 : decode cX10_cutTape 23 = .ok (.aload_n 1, 1) := by decide +kernel
theorem dX10_cutTape_24 : decode cX10_cutTape 24 = .ok (.getfield 32, 3) := by decide +kernel
theorem dX10_cutTape_27 : decode cX10_cutTape 27 = .ok (.iload_n 3, 1) := by decide +kernel
theorem dX10_cutTape_28 : decode cX10_cutTape 28 = .ok (.iaload, 1) := by decide +kernel
theorem dX10_cutTape_29 : decode cX10_cutTape 29 = .ok (.invokestatic 35, 3) := by decide +kernel
theorem dX10_cutTape_32 : decode cX10_cutTape 32 = .ok (.ifCond .ne 35, 3) := by decide +kernel
theorem dX10_cutTape_35 : decode cX10_cutTape 35 = .ok (.aload_n 1, 1) := by decide +kernel
theorem dX10_cutTape_36 : decode cX10_cutTape 36 = .ok (.iload_n 3, 1) := by decide +kernel
theorem dX10_cutTape_37 : decode cX10_cutTape 37 = .ok (.iload_n 2, 1) := by decide +kernel
theorem dX10_cutTape_38 : decode cX10_cutTape 38 = .ok (.invokestatic 39, 3) := by decide +kernel
theorem dX10_cutTape_41 : decode cX10_cutTape 41 = .ok (.istore 4, 2) := by decide +kernel
theorem dX10_cutTape_43 : decode cX10_cutTape 43 = .ok (.aload_n 0, 1) := by decide +kernel
theorem dX10_cutTape_44 : decode cX10_cutTape 44 = .ok (.iload 4, 2) := by decide +kernel
theorem dX10_cutTape_46 : decode cX10_cutTape 46 = .ok (.iload_n 3, 1) := by decide +kernel
theorem dX10_cutTape_47 : decode cX10_cutTape 47 = .ok (.iload 4, 2) := by decide +kernel
theorem dX10_cutTape_49 : decode cX10_cutTape 49 = .ok (.bipush 12, 2) := by decide +kernel
theorem dX10_cutTape_51 : decode cX10_cutTape 51 = .ok (.if_icmp .ne 12, 3) := by decide +kernel
theorem dX10_cutTape_54 : decode cX10_cutTape 54 = .ok (.aload_n 1, 1) := by decide +kernel
theorem dX10_cutTape_55 : decode cX10_cutTape 55 = .ok (.iload_n 3, 1) := by decide +kernel
theorem dX10_cutTape_56 : decode cX10_cutTape 56 = .ok (.iload_n 2, 1) := by decide +kernel
theorem dX10_cutTape_57 : decode cX10_cutTape 57 = .ok (.invokevirtual 43, 3) := by decide +kernel
theorem dX10_cutTape_60 : decode cX10_cutTape 60 = .ok (.goto 4, 3) := by decide +kernel
theorem dX10_cutTape_63 : decode cX10_cutTape 63 = .ok (.iconst 0, 1) := by decide +kernel
theorem dX10_cutTape_64 : decode cX10_cutTape 64 = .ok (.invokevirtual 47, 3) := by decide +kernel
theorem dX10_cutTape_67 : decode cX10_cutTape 67 = .ok (.iload_n 3, 1) := by decide +kernel
theorem dX10_cutTape_68 : decode cX10_cutTape 68 = .ok (.iconst 1, 1) := by decide +kernel
theorem dX10_cutTape_69 : decode cX10_cutTape 69 = .ok (.iadd, 1) := by decide +kernel
theorem dX10_cutTape_70 : decode cX10_cutTape 70 = .ok (.iload_n 2, 1) := by decide +kernel
theorem dX10_cutTape_71 : decode cX10_cutTape 71 = .ok (.invokestatic 51, 3) := by decide +kernel
theorem dX10_cutTape_74 : decode cX10_cutTape 74 = .ok (.istore_n 3, 1) := by decide +kernel
theorem dX10_cutTape_75 : decode cX10_cutTape 75 = .ok (.goto (-66), 3) := by decide +kernel
theorem dX10_cutTape_78 : decode cX10_cutTape 78 = .ok (.aload_n 0, 1) := by decide +kernel
theorem dX10_cutTape_79 : decode cX10_cutTape 79 = .ok (.iconst (-1), 1) := by decide +kernel
theorem dX10_cutTape_80 : decode cX10_cutTape 80 = .ok (.aload_n 1, 1) := by decide +kernel
theorem dX10_cutTape_81 : decode cX10_cutTape 81 = .ok (.getfield 25, 3) := by decide +kernel
theorem dX10_cutTape_84 : decode cX10_cutTape 84 = .ok (.iconst 0, 1) := by decide +kernel
theorem dX10_cutTape_85 : decode cX10_cutTape 85 = .ok (.invokevirtual 47, 3) := by decide +kernel
theorem dX10_cutTape_88 : decode cX10_cutTape 88 = .ok (.return_, 1) := by decide +kernel
theorem dX10_add_0 : decode cX10_add 0 = .ok (.aload_n 0, 1) := by decide +kernel
theorem dX10_add_1 : decode cX10_add 1 = .ok (.getfield 21, 3) := by decide +kernel
theorem dX10_add_4 : decode cX10_add 4 = .ok (.aload_n 0, 1) := by decide +kernel
theorem dX10_add_5 : decode cX10_add 5 = .ok (.getfield 9, 3) := by decide +kernel
theorem dX10_add_8 : decode cX10_add 8 = .ok (.arraylength, 1) := by decide +kernel
theorem dX10_add_9 : decode cX10_add 9 = .ok (.if_icmp .ge 43, 3) := by decide +kernel
theorem dX10_add_12 : decode cX10_add 12 = .ok (.aload_n 0, 1) := by decide +kernel
theorem dX10_add_13 : decode cX10_add 13 = .ok (.getfield 9, 3) := by decide +kernel
theorem dX10_add_16 : decode cX10_add 16 = .ok (.aload_n 0, 1) := by decide +kernel
theorem dX10_add_17 : decode cX10_add 17 = .ok (.getfield 21, 3) := by decide +kernel
theorem dX10_add_20 : decode cX10_add 20 = .ok (.iload_n 1, 1) := by decide +kernel
theorem dX10_add_21 : decode cX10_add 21 = .ok (.iastore, 1) := by decide +kernel
theorem dX10_add_22 : decode cX10_add 22 = .ok (.aload_n 0, 1) := by decide +kernel
theorem dX10_add_23 : decode cX10_add 23 = .ok (.getfield 15, 3) := by decide +kernel
theorem dX10_add_26 : decode cX10_add 26 = .ok (.aload_n 0, 1) := by decide +kernel
theorem dX10_add_27 : decode cX10_add 27 = .ok (.getfield 21, 3) := by decide +kernel
theorem dX10_add_30 : decode cX10_add 30 = .ok (.iload_n 2, 1) := by decide +kernel
theorem dX10_add_31 : decode cX10_add 31 = .ok (.iastore, 1) := by decide +kernel
theorem dX10_add_32 : decode cX10_add 32 = .ok (.aload_n 0, 1) := by decide +kernel
theorem dX10_add_33 : decode cX10_add 33 = .ok (.getfield 18, 3) := by decide +kernel
theorem dX10_add_36 : decode cX10_add 36 = .ok (.aload_n 0, 1) := by decide +kernel
theorem dX10_add_37 : decode cX10_add 37 = .ok (.getfield 21, 3) := by decide +kernel
theorem dX10_add_40 : decode cX10_add 40 = .ok (.iload_n 3, 1) := by decide +kernel
theorem dX10_add_41 : decode cX10_add 41 = .ok (.iastore, 1) := by decide +kernel
theorem dX10_add_42 : decode cX10_add 42 = .ok (.aload_n 0, 1) := by decide +kernel
theorem dX10_add_43 : decode cX10_add 43 = .ok (.dup, 1) := by decide +kernel
theorem dX10_add_44 : decode cX10_add 44 = .ok (.getfield 21, 3) := by decide +kernel
theorem dX10_add_47 : decode cX10_add 47 = .ok (.iconst 1, 1) := by decide +kernel
theorem dX10_add_48 : decode cX10_add 48 = .ok (.iadd, 1) := by decide +kernel
theorem dX10_add_49 : decode cX10_add 49 = .ok (.putfield 21, 3) := by decide +kernel
theorem dX10_add_52 : decode cX10_add 52 = .ok (.return_, 1) := by decide +kernel
theorem dX10_kindOf_0 : decode cX10_kindOf 0 = .ok (.aload_n 0, 1) := by decide +kernel
theorem dX10_kindOf_1 : decode cX10_kindOf 1 = .ok (.getfield 32, 3) := by decide +kernel
theorem dX10_kindOf_4 : decode cX10_kindOf 4 = .ok (.iload_n 1, 1) := by decide +kernel
theorem dX10_kindOf_5 : decode cX10_kindOf 5 = .ok (.iaload, 1) := by decide +kernel
theorem dX10_kindOf_6 : decode cX10_kindOf 6 = .ok (.istore_n 3, 1) := by decide +kernel
theorem dX10_kindOf_7 : decode cX10_kindOf 7 = .ok (.iload_n 3, 1) := by decide +kernel
theorem dX10_kindOf_8 : decode cX10_kindOf 8 = .ok (.invokestatic 56, 3) := by decide +kernel
theorem dX10_kindOf_11 : decode cX10_kindOf 11 = .ok (.ifCond .eq 10, 3) := by decide +kernel
theorem dX10_kindOf_14 : decode cX10_kindOf 14 = .ok (.aload_n 0, 1) := by decide +kernel
theorem dX10_kindOf_15 : decode cX10_kindOf 15 = .ok (.iload_n 1, 1) := by decide +kernel
theorem dX10_kindOf_16 : decode cX10_kindOf 16 = .ok (.iload_n 2, 1) := by decide +kernel
theorem dX10_kindOf_17 : decode cX10_kindOf 17 = .ok (.invokestatic 59, 3) := by decide +kernel
theorem dX10_kindOf_20 : decode cX10_kindOf 20 = .ok (.ireturn, 1) := by decide +kernel
theorem dX10_kindOf_21 : decode cX10_kindOf 21 = .ok (.iload_n 3, 1) := by decide +kernel
theorem dX10_kindOf_22 : decode cX10_kindOf 22 = .ok (.invokestatic 62, 3) := by decide +kernel
theorem dX10_kindOf_25 : decode cX10_kindOf 25 = .ok (.ifCond .eq 18, 3) := by decide +kernel
theorem dX10_kindOf_28 : decode cX10_kindOf 28 = .ok (.iload_n 2, 1) := by decide +kernel
theorem dX10_kindOf_29 : decode cX10_kindOf 29 = .ok (.iload_n 1, 1) := by decide +kernel
theorem dX10_kindOf_30 : decode cX10_kindOf 30 = .ok (.isub, 1) := by decide +kernel
theorem dX10_kindOf_31 : decode cX10_kindOf 31 = .ok (.iconst 4, 1) := by decide +kernel
theorem dX10_kindOf_32 : decode cX10_kindOf 32 = .ok (.if_icmp .le 8, 3) := by decide +kernel
theorem dX10_kindOf_35 : decode cX10_kindOf 35 = .ok (.bipush (-2), 2) := by decide +kernel
theorem dX10_kindOf_37 : decode cX10_kindOf 37 = .ok (.goto 5, 3) := by decide +kernel
theorem dX10_kindOf_40 : decode cX10_kindOf 40 = .ok (.bipush 12, 2) := by decide +kernel
theorem dX10_kindOf_42 : decode cX10_kindOf 42 = .ok (.ireturn, 1) := by decide +kernel
theorem dX10_kindOf_43 : decode cX10_kindOf 43 = .ok (.iload_n 3, 1) := by decide +kernel
theorem dX10_kindOf_44 : decode cX10_kindOf 44 = .ok (.tableswitch 106 40 61 #[104, 104, 104, 104, 106, 104, 106, 106, 106, 106, 106, 106, 106, 106, 106, 106, 106, 106, 106, 104, 104, 104], 104) := by decide +kernel
theorem dX10_kindOf_148 : decode cX10_kindOf 148 = .ok (.iload_n 3, 1) := by decide +kernel
theorem dX10_kindOf_149 : decode cX10_kindOf 149 = .ok (.ireturn, 1) := by decide +kernel
theorem dX10_kindOf_150 : decode cX10_kindOf 150 = .ok (.bipush (-2), 2) := by decide +kernel
theorem dX10_kindOf_152 : decode cX10_kindOf 152 = .ok (.ireturn, 1) := by decide +kernel
theorem dX10_wordIn_0 : decode cX10_wordIn 0 = .ok (.iconst 0, 1) := by decide +kernel
theorem dX10_wordIn_1 : decode cX10_wordIn 1 = .ok (.istore_n 3, 1) := by decide +kernel
theorem dX10_wordIn_2 : decode cX10_wordIn 2 = .ok (.iload_n 3, 1) := by decide +kernel
theorem dX10_wordIn_3 : decode cX10_wordIn 3 = .ok (.bipush 12, 2) := by decide +kernel
theorem dX10_wordIn_5 : decode cX10_wordIn 5 = .ok (.if_icmp .ge 24, 3) := by decide +kernel
theorem dX10_wordIn_8 : decode cX10_wordIn 8 = .ok (.aload_n 0, 1) := by decide +kernel
theorem dX10_wordIn_9 : decode cX10_wordIn 9 = .ok (.iload_n 3, 1) := by decide +kernel
theorem dX10_wordIn_10 : decode cX10_wordIn 10 = .ok (.invokestatic 65, 3) := by decide +kernel
theorem dX10_wordIn_13 : decode cX10_wordIn 13 = .ok (.iload_n 1, 1) := by decide +kernel
theorem dX10_wordIn_14 : decode cX10_wordIn 14 = .ok (.iload_n 2, 1) := by decide +kernel
theorem dX10_wordIn_15 : decode cX10_wordIn 15 = .ok (.invokevirtual 69, 3) := by decide +kernel
theorem dX10_wordIn_18 : decode cX10_wordIn 18 = .ok (.ifCond .eq 5, 3) := by decide +kernel
theorem dX10_wordIn_21 : decode cX10_wordIn 21 = .ok (.iload_n 3, 1) := by decide +kernel
theorem dX10_wordIn_22 : decode cX10_wordIn 22 = .ok (.ireturn, 1) := by decide +kernel
theorem dX10_wordIn_23 : decode cX10_wordIn 23 = .ok (.iinc 3 1, 3) := by decide +kernel
theorem dX10_wordIn_26 : decode cX10_wordIn 26 = .ok (.goto (-24), 3) := by decide +kernel
theorem dX10_wordIn_29 : decode cX10_wordIn 29 = .ok (.bipush (-2), 2) := by decide +kernel
theorem dX10_wordIn_31 : decode cX10_wordIn 31 = .ok (.ireturn, 1) := by decide +kernel
theorem dX10_wordOf_0 : decode cX10_wordOf 0 = .ok (.iload_n 0, 1) := by decide +kernel
theorem dX10_wordOf_1 : decode cX10_wordOf 1 = .ok (.tableswitch 92 0 10 #[59, 62, 65, 68, 71, 74, 77, 80, 83, 86, 89], 59) := by decide +kernel
theorem dX10_wordOf_60 : decode cX10_wordOf 60 = .ok (.ldc 73, 2) := by decide +kernel
theorem dX10_wordOf_62 : decode cX10_wordOf 62 = .ok (.areturn, 1) := by decide +kernel
theorem dX10_wordOf_63 : decode cX10_wordOf 63 = .ok (.ldc 75, 2) := by decide +kernel
theorem dX10_wordOf_65 : decode cX10_wordOf 65 = .ok (.areturn, 1) := by decide +kernel
theorem dX10_wordOf_66 : decode cX10_wordOf 66 = .ok (.ldc 77, 2) := by decide +kernel
theorem dX10_wordOf_68 : decode cX10_wordOf 68 = .ok (.areturn, 1) := by decide +kernel
theorem dX10_wordOf_69 : decode cX10_wordOf 69 = .ok (.ldc 79, 2) := by decide +kernel
theorem dX10_wordOf_71 : decode cX10_wordOf 71 = .ok (.areturn, 1) := by decide +kernel
theorem dX10_wordOf_72 : decode cX10_wordOf 72 = .ok (.ldc 81, 2) := by decide +kernel
theorem dX10_wordOf_74 : decode cX10_wordOf 74 = .ok (.areturn, 1) := by decide +kernel
theorem dX10_wordOf_75 : decode cX10_wordOf 75 = .ok (.ldc 83, 2) := by decide +kernel
theorem dX10_wordOf_77 : decode cX10_wordOf 77 = .ok (.areturn, 1) := by decide +kernel
theorem dX10_wordOf_78 : decode cX10_wordOf 78 = .ok (.ldc 85, 2) := by decide +kernel
theorem dX10_wordOf_80 : decode cX10_wordOf 80 = .ok (.areturn, 1) := by decide +kernel
theorem dX10_wordOf_81 : decode cX10_wordOf 81 = .ok (.ldc 87, 2) := by decide +kernel
theorem dX10_wordOf_83 : decode cX10_wordOf 83 = .ok (.areturn, 1) := by decide +kernel
theorem dX10_wordOf_84 : decode cX10_wordOf 84 = .ok (.ldc 89, 2) := by decide +kernel
theorem dX10_wordOf_86 : decode cX10_wordOf 86 = .ok (.areturn, 1) := by decide +kernel
theorem dX10_wordOf_87 : decode cX10_wordOf 87 = .ok (.ldc 91, 2) := by decide +kernel
theorem dX10_wordOf_89 : decode cX10_wordOf 89 = .ok (.areturn, 1) := by decide +kernel
theorem dX10_wordOf_90 : decode cX10_wordOf 90 = .ok (.ldc 93, 2) := by decide +kernel
theorem dX10_wordOf_92 : decode cX10_wordOf 92 = .ok (.areturn, 1) := by decide +kernel
theorem dX10_wordOf_93 : decode cX10_wordOf 93 = .ok (.ldc 95, 2) := by decide +kernel
theorem dX10_wordOf_95 : decode cX10_wordOf 95 = .ok (.areturn, 1) := by decide +kernel
theorem dX11_init_0 : decode cX11_init 0 = .ok (.aload_n 0, 1) := by decide +kernel
theorem dX11_init_1 : decode cX11_init 1 = .ok (.invokespecial 1, 3) := by decide +kernel
theorem dX11_init_4 : decode cX11_init 4 = .ok (.aload_n 0, 1) := by decide +kernel
theorem dX11_init_5 : decode cX11_init 5 = .ok (.new 7, 3) := by decide +kernel
theorem dX11_init_8 : decode cX11_init 8 = .ok (.dup, 1) := by decide +kernel
theorem dX11_init_9 : decode cX11_init 9 = .ok (.invokespecial 9, 3) := by decide +kernel
theorem dX11_init_12 : decode cX11_init 12 = .ok (.putfield 10, 3) := by decide +kernel
theorem dX11_init_15 : decode cX11_init 15 = .ok (.aload_n 0, 1) := by decide +kernel
theorem dX11_init_16 : decode cX11_init 16 = .ok (.new 7, 3) := by decide +kernel
theorem dX11_init_19 : decode cX11_init 19 = .ok (.dup, 1) := by decide +kernel
theorem dX11_init_20 : decode cX11_init 20 = .ok (.invokespecial 9, 3) := by decide +kernel
theorem dX11_init_23 : decode cX11_init 23 = .ok (.putfield 16, 3) := by decide +kernel
theorem dX11_init_26 : decode cX11_init 26 = .ok (.aload_n 0, 1) := by decide +kernel
theorem dX11_init_27 : decode cX11_init 27 = .ok (.new 7, 3) := by decide +kernel
theorem dX11_init_30 : decode cX11_init 30 = .ok (.dup, 1) := by decide +kernel
theorem dX11_init_31 : decode cX11_init 31 = .ok (.invokespecial 9, 3) := by decide +kernel
theorem dX11_init_34 : decode cX11_init 34 = .ok (.putfield 19, 3) := by decide +kernel
theorem dX11_init_37 : decode cX11_init 37 = .ok (.aload_n 0, 1) := by decide +kernel
theorem dX11_init_38 : decode cX11_init 38 = .ok (.new 7, 3) := by decide +kernel
theorem dX11_init_41 : decode cX11_init 41 = .ok (.dup, 1) := by decide +kernel
theorem dX11_init_42 : decode cX11_init 42 = .ok (.invokespecial 9, 3) := by decide +kernel
theorem dX11_init_45 : decode cX11_init 45 = .ok (.putfield 22, 3) := by decide +kernel
theorem dX11_init_48 : decode cX11_init 48 = .ok (.aload_n 0, 1) := by decide +kernel
theorem dX11_init_49 : decode cX11_init 49 = .ok (.new 7, 3) := by decide +kernel
theorem dX11_init_52 : decode cX11_init 52 = .ok (.dup, 1) := by decide +kernel
theorem dX11_init_53 : decode cX11_init 53 = .ok (.invokespecial 9, 3) := by decide +kernel
theorem dX11_init_56 : decode cX11_init 56 = .ok (.putfield 25, 3) := by decide +kernel
theorem dX11_init_59 : decode cX11_init 59 = .ok (.aload_n 0, 1) := by decide +kernel
theorem dX11_init_60 : decode cX11_init 60 = .ok (.iconst 4, 1) := by decide +kernel
theorem dX11_init_61 : decode cX11_init 61 = .ok (.anewarray 28, 3) := by decide +kernel
theorem dX11_init_64 : decode cX11_init 64 = .ok (.putfield 30, 3) := by decide +kernel
theorem dX11_init_67 : decode cX11_init 67 = .ok (.aload_n 0, 1) := by decide +kernel
theorem dX11_init_68 : decode cX11_init 68 = .ok (.new 34, 3) := by decide +kernel
theorem dX11_init_71 : decode cX11_init 71 = .ok (.dup, 1) := by decide +kernel
theorem dX11_init_72 : decode cX11_init 72 = .ok (.invokespecial 36, 3) := by decide +kernel
theorem dX11_init_75 : decode cX11_init 75 = .ok (.putfield 37, 3) := by decide +kernel
theorem dX11_init_78 : decode cX11_init 78 = .ok (.aload_n 0, 1) := by decide +kernel
theorem dX11_init_79 : decode cX11_init 79 = .ok (.new 41, 3) := by decide +kernel
theorem dX11_init_82 : decode cX11_init 82 = .ok (.dup, 1) := by decide +kernel
theorem dX11_init_83 : decode cX11_init 83 = .ok (.invokespecial 43, 3) := by decide +kernel
theorem dX11_init_86 : decode cX11_init 86 = .ok (.putfield 44, 3) := by decide +kernel
theorem dX11_init_89 : decode cX11_init 89 = .ok (.aload_n 0, 1) := by decide +kernel
theorem dX11_init_90 : decode cX11_init 90 = .ok (.new 48, 3) := by decide +kernel
theorem dX11_init_93 : decode cX11_init 93 = .ok (.dup, 1) := by decide +kernel
theorem dX11_init_94 : decode cX11_init 94 = .ok (.invokespecial 50, 3) := by decide +kernel
theorem dX11_init_97 : decode cX11_init 97 = .ok (.putfield 51, 3) := by decide +kernel
theorem dX11_init_100 : decode cX11_init 100 = .ok (.aload_n 0, 1) := by decide +kernel
theorem dX11_init_101 : decode cX11_init 101 = .ok (.bipush 6, 2) := by decide +kernel
theorem dX11_init_103 : decode cX11_init 103 = .ok (.newarray .int, 2) := by decide +kernel
theorem dX11_init_105 : decode cX11_init 105 = .ok (.putfield 57, 3) := by decide +kernel
theorem dX11_init_108 : decode cX11_init 108 = .ok (.aload_n 0, 1) := by decide +kernel
theorem dX11_init_109 : decode cX11_init 109 = .ok (.iconst (-1), 1) := by decide +kernel
theorem dX11_init_110 : decode cX11_init 110 = .ok (.putfield 61, 3) := by decide +kernel
theorem dX11_init_113 : decode cX11_init 113 = .ok (.iconst 0, 1) := by decide +kernel
theorem dX11_init_114 : decode cX11_init 114 = .ok (.istore_n 1, 1) := by decide +kernel
theorem dX11_init_115 : decode cX11_init 115 = .ok (.iload_n 1, 1) := by decide +kernel
theorem dX11_init_116 : decode cX11_init 116 = .ok (.iconst 4, 1) := by decide +kernel
theorem dX11_init_117 : decode cX11_init 117 = .ok (.if_icmp .ge 22, 3) := by decide +kernel
theorem dX11_init_120 : decode cX11_init 120 = .ok (.aload_n 0, 1) := by decide +kernel
theorem dX11_init_121 : decode cX11_init 121 = .ok (.getfield 30, 3) := by decide +kernel
theorem dX11_init_124 : decode cX11_init 124 = .ok (.iload_n 1, 1) := by decide +kernel
theorem dX11_init_125 : decode cX11_init 125 = .ok (.new 28, 3) := by decide +kernel
theorem dX11_init_128 : decode cX11_init 128 = .ok (.dup, 1) := by decide +kernel
theorem dX11_init_129 : decode cX11_init 129 = .ok (.invokespecial 65, 3) := by decide +kernel
theorem dX11_init_132 : decode cX11_init 132 = .ok (.aastore, 1) := by decide +kernel
theorem dX11_init_133 : decode cX11_init 133 = .ok (.iinc 1 1, 3) := by decide +kernel
theorem dX11_init_136 : decode cX11_init 136 = .ok (.goto (-21), 3) := by decide +kernel
theorem dX11_init_139 : decode cX11_init 139 = .ok (.iconst 0, 1) := by decide +kernel
theorem dX11_init_140 : decode cX11_init 140 = .ok (.istore_n 1, 1) := by decide +kernel
theorem dX11_init_141 : decode cX11_init 141 = .ok (.iload_n 1, 1) := by decide +kernel
theorem dX11_init_142 : decode cX11_init 142 = .ok (.ldc 66, 2) := by decide +kernel
theorem dX11_init_144 : decode cX11_init 144 = .ok (.invokevirtual 68, 3) := by decide +kernel
theorem dX11_init_147 : decode cX11_init 147 = .ok (.if_icmp .ge 22, 3) := by decide +kernel
theorem dX11_init_150 : decode cX11_init 150 = .ok (.aload_n 0, 1) := by decide +kernel
theorem dX11_init_151 : decode cX11_init 151 = .ok (.getfield 37, 3) := by decide +kernel
theorem dX11_init_154 : decode cX11_init 154 = .ok (.ldc 66, 2) := by decide +kernel
theorem dX11_init_156 : decode cX11_init 156 = .ok (.iload_n 1, 1) := by decide +kernel
theorem dX11_init_157 : decode cX11_init 157 = .ok (.invokevirtual 74, 3) := by decide +kernel
theorem dX11_init_160 : decode cX11_init 160 = .ok (.invokevirtual 78, 3) := by decide +kernel
theorem dX11_init_163 : decode cX11_init 163 = .ok (.iinc 1 1, 3) := by decide +kernel
theorem dX11_init_166 : decode cX11_init 166 = .ok (.goto (-25), 3) := by decide +kernel
theorem dX11_init_169 : decode cX11_init 169 = .ok (.aload_n 0, 1) := by decide +kernel
theorem dX11_init_170 : decode cX11_init 170 = .ok (.invokevirtual 82, 3) := by decide +kernel
theorem dX11_init_173 : decode cX11_init 173 = .ok (.pop, 1) := by decide +kernel
theorem dX11_init_174 : decode cX11_init 174 = .ok (.return_, 1) := by decide +kernel
theorem dX11_pack_0 : decode cX11_pack 0 = .ok (.iload_n 1, 1) := by decide +kernel
theorem dX11_pack_1 : decode cX11_pack 1 = .ok (.iconst 0, 1) := by decide +kernel
theorem dX11_pack_2 : decode cX11_pack 2 = .ok (.ldc 85, 2) := by decide +kernel
theorem dX11_pack_4 : decode cX11_pack 4 = .ok (.invokestatic 86, 3) := by decide +kernel
theorem dX11_pack_7 : decode cX11_pack 7 = .ok (.ifCond .ne 6, 3) := by decide +kernel
theorem dX11_pack_10 : decode cX11_pack 10 = .ok (.bipush (-2), 2) := by decide +kernel
theorem dX11_pack_12 : decode cX11_pack 12 = .ok (.ireturn, 1) := by decide +kernel
theorem dX11_pack_13 : decode cX11_pack 13 = .ok (.new 90, 3) := by decide +kernel
theorem dX11_pack_16 : decode cX11_pack 16 = .ok (.dup, 1) := by decide +kernel
theorem dX11_pack_17 : decode cX11_pack 17 = .ok (.iload_n 1, 1) := by decide +kernel
theorem dX11_pack_18 : decode cX11_pack 18 = .ok (.invokespecial 92, 3) := by decide +kernel
theorem dX11_pack_21 : decode cX11_pack 21 = .ok (.astore_n 2, 1) := by decide +kernel
theorem dX11_pack_22 : decode cX11_pack 22 = .ok (.aload_n 2, 1) := by decide +kernel
theorem dX11_pack_23 : decode cX11_pack 23 = .ok (.getfield 94, 3) := by decide +kernel
theorem dX11_pack_26 : decode cX11_pack 26 = .ok (.iconst 1, 1) := by decide +kernel
theorem dX11_pack_27 : decode cX11_pack 27 = .ok (.bipush 25, 2) := by decide +kernel
theorem dX11_pack_29 : decode cX11_pack 29 = .ok (.invokestatic 86, 3) := by decide +kernel
theorem dX11_pack_32 : decode cX11_pack 32 = .ok (.ifCond .ne 6, 3) := by decide +kernel
theorem dX11_pack_35 : decode cX11_pack 35 = .ok (.bipush (-2), 2) := by decide +kernel
theorem dX11_pack_37 : decode cX11_pack 37 = .ok (.ireturn, 1) := by decide +kernel
theorem dX11_pack_38 : decode cX11_pack 38 = .ok (.aload_n 0, 1) := by decide +kernel
theorem dX11_pack_39 : decode cX11_pack 39 = .ok (.getfield 10, 3) := by decide +kernel
theorem dX11_pack_42 : decode cX11_pack 42 = .ok (.invokevirtual 97, 3) := by decide +kernel
theorem dX11_pack_45 : decode cX11_pack 45 = .ok (.iconst 4, 1) := by decide +kernel
theorem dX11_pack_46 : decode cX11_pack 46 = .ok (.if_icmp .lt 6, 3) := by decide +kernel
theorem dX11_pack_49 : decode cX11_pack 49 = .ok (.bipush (-4), 2) := by decide +kernel
theorem dX11_pack_51 : decode cX11_pack 51 = .ok (.ireturn, 1) := by decide +kernel
theorem dX11_pack_52 : decode cX11_pack 52 = .ok (.aload_n 0, 1) := by decide +kernel
theorem dX11_pack_53 : decode cX11_pack 53 = .ok (.getfield 10, 3) := by decide +kernel
theorem dX11_pack_56 : decode cX11_pack 56 = .ok (.aload_n 2, 1) := by decide +kernel
theorem dX11_pack_57 : decode cX11_pack 57 = .ok (.invokevirtual 100, 3) := by decide +kernel
theorem dX11_pack_60 : decode cX11_pack 60 = .ok (.pop, 1) := by decide +kernel
theorem dX11_pack_61 : decode cX11_pack 61 = .ok (.aload_n 0, 1) := by decide +kernel
theorem dX11_pack_62 : decode cX11_pack 62 = .ok (.getfield 10, 3) := by decide +kernel
theorem dX11_pack_65 : decode cX11_pack 65 = .ok (.invokevirtual 97, 3) := by decide +kernel
theorem dX11_pack_68 : decode cX11_pack 68 = .ok (.iconst 1, 1) := by decide +kernel
theorem dX11_pack_69 : decode cX11_pack 69 = .ok (.isub, 1) := by decide +kernel
theorem dX11_pack_70 : decode cX11_pack 70 = .ok (.ireturn, 1) := by decide +kernel
theorem dX11_run_0 : decode cX11_run 0 = .ok (.iload_n 1, 1) := by decide +kernel
theorem dX11_run_1 : decode cX11_run 1 = .ok (.aload_n 0, 1) := by decide +kernel
theorem dX11_run_2 : decode cX11_run 2 = .ok (.getfield 10, 3) := by decide +kernel
theorem dX11_run_5 : decode cX11_run 5 = .ok (.invokevirtual 97, 3) := by decide +kernel
theorem dX11_run_8 : decode cX11_run 8 = .ok (.invokestatic 103, 3) := by decide +kernel
theorem dX11_run_11 : decode cX11_run 11 = .ok (.ifCond .eq 21, 3) := by decide +kernel
theorem dX11_run_14 : decode cX11_run 14 = .ok (.iload_n 2, 1) := by decide +kernel
theorem dX11_run_15 : decode cX11_run 15 = .ok (.bipush 8, 2) := by decide +kernel
theorem dX11_run_17 : decode cX11_run 17 = .ok (.invokestatic 103, 3) := by decide +kernel
theorem dX11_run_20 : decode cX11_run 20 = .ok (.ifCond .eq 12, 3) := by decide +kernel
theorem dX11_run_23 : decode cX11_run 23 = .ok (.iload_n 3, 1) := by decide +kernel
theorem dX11_run_24 : decode cX11_run 24 = .ok (.bipush 100, 2) := by decide +kernel
theorem dX11_run_26 : decode cX11_run 26 = .ok (.invokestatic 103, 3) := by decide +kernel
theorem dX11_run_29 : decode cX11_run 29 = .ok (.ifCond .ne 6, 3) := by decide +kernel
theorem dX11_run_32 : decode cX11_run 32 = .ok (.bipush (-2), 2) := by decide +kernel
theorem dX11_run_34 : decode cX11_run 34 = .ok (.ireturn, 1) := by decide +kernel
theorem dX11_run_35 : decode cX11_run 35 = .ok (.aload_n 0, 1) := by decide +kernel
theorem dX11_run_36 : decode cX11_run 36 = .ok (.getfield 16, 3) := by decide +kernel
theorem dX11_run_39 : decode cX11_run 39 = .ok (.invokevirtual 97, 3) := by decide +kernel
theorem dX11_run_42 : decode cX11_run 42 = .ok (.bipush 16, 2) := by decide +kernel
theorem dX11_run_44 : decode cX11_run 44 = .ok (.if_icmp .lt 6, 3) := by decide +kernel
theorem dX11_run_47 : decode cX11_run 47 = .ok (.bipush (-4), 2) := by decide +kernel
theorem dX11_run_49 : decode cX11_run 49 = .ok (.ireturn, 1) := by decide +kernel
theorem dX11_run_50 : decode cX11_run 50 = .ok (.aload_n 0, 1) := by decide +kernel
theorem dX11_run_51 : decode cX11_run 51 = .ok (.getfield 16, 3) := by decide +kernel
theorem dX11_run_54 : decode cX11_run 54 = .ok (.new 107, 3) := by decide +kernel
theorem dX11_run_57 : decode cX11_run 57 = .ok (.dup, 1) := by decide +kernel
theorem dX11_run_58 : decode cX11_run 58 = .ok (.iload_n 1, 1) := by decide +kernel
theorem dX11_run_59 : decode cX11_run 59 = .ok (.aload_n 0, 1) := by decide +kernel
theorem dX11_run_60 : decode cX11_run 60 = .ok (.getfield 10, 3) := by decide +kernel
theorem dX11_run_63 : decode cX11_run 63 = .ok (.iload_n 1, 1) := by decide +kernel
theorem dX11_run_64 : decode cX11_run 64 = .ok (.invokevirtual 109, 3) := by decide +kernel
theorem dX11_run_67 : decode cX11_run 67 = .ok (.checkcast 90, 3) := by decide +kernel
theorem dX11_run_70 : decode cX11_run 70 = .ok (.iload_n 2, 1) := by decide +kernel
theorem dX11_run_71 : decode cX11_run 71 = .ok (.iload_n 3, 1) := by decide +kernel
theorem dX11_run_72 : decode cX11_run 72 = .ok (.invokespecial 113, 3) := by decide +kernel
theorem dX11_run_75 : decode cX11_run 75 = .ok (.invokevirtual 100, 3) := by decide +kernel
theorem dX11_run_78 : decode cX11_run 78 = .ok (.pop, 1) := by decide +kernel
theorem dX11_run_79 : decode cX11_run 79 = .ok (.aload_n 0, 1) := by decide +kernel
theorem dX11_run_80 : decode cX11_run 80 = .ok (.getfield 16, 3) := by decide +kernel
theorem dX11_run_83 : decode cX11_run 83 = .ok (.invokevirtual 97, 3) := by decide +kernel
theorem dX11_run_86 : decode cX11_run 86 = .ok (.iconst 1, 1) := by decide +kernel
theorem dX11_run_87 : decode cX11_run 87 = .ok (.isub, 1) := by decide +kernel
theorem dX11_run_88 : decode cX11_run 88 = .ok (.ireturn, 1) := by decide +kernel
theorem dX11_at_0 : decode cX11_at 0 = .ok (.aload_n 0, 1) := by decide +kernel
theorem dX11_at_1 : decode cX11_at 1 = .ok (.iload_n 1, 1) := by decide +kernel
theorem dX11_at_2 : decode cX11_at 2 = .ok (.iload_n 2, 1) := by decide +kernel
theorem dX11_at_3 : decode cX11_at 3 = .ok (.invokevirtual 116, 3) := by decide +kernel
theorem dX11_at_6 : decode cX11_at 6 = .ok (.ifCond .eq 11, 3) := by decide +kernel
theorem dX11_at_9 : decode cX11_at 9 = .ok (.iload_n 3, 1) := by decide +kernel
theorem dX11_at_10 : decode cX11_at 10 = .ok (.iconst 2, 1) := by decide +kernel
theorem dX11_at_11 : decode cX11_at 11 = .ok (.invokestatic 103, 3) := by decide +kernel
theorem dX11_at_14 : decode cX11_at 14 = .ok (.ifCond .ne 6, 3) := by decide +kernel
theorem dX11_at_17 : decode cX11_at 17 = .ok (.bipush (-2), 2) := by decide +kernel
theorem dX11_at_19 : decode cX11_at 19 = .ok (.ireturn, 1) := by decide +kernel
theorem dX11_at_20 : decode cX11_at 20 = .ok (.aload_n 0, 1) := by decide +kernel
theorem dX11_at_21 : decode cX11_at 21 = .ok (.getfield 16, 3) := by decide +kernel
theorem dX11_at_24 : decode cX11_at 24 = .ok (.iload_n 1, 1) := by decide +kernel
theorem dX11_at_25 : decode cX11_at 25 = .ok (.invokevirtual 109, 3) := by decide +kernel
theorem dX11_at_28 : decode cX11_at 28 = .ok (.checkcast 107, 3) := by decide +kernel
theorem dX11_at_31 : decode cX11_at 31 = .ok (.astore 4, 2) := by decide +kernel
theorem dX11_at_33 : decode cX11_at 33 = .ok (.iload_n 3, 1) := by decide +kernel
theorem dX11_at_34 : decode cX11_at 34 = .ok (.ifCond .ne 13, 3) := by decide +kernel
theorem dX11_at_37 : decode cX11_at 37 = .ok (.aload 4, 2) := by decide +kernel
theorem dX11_at_39 : decode cX11_at 39 = .ok (.getfield 119, 3) := by decide +kernel
theorem dX11_at_42 : decode cX11_at 42 = .ok (.iload_n 2, 1) := by decide +kernel
theorem dX11_at_43 : decode cX11_at 43 = .ok (.iaload, 1) := by decide +kernel
theorem dX11_at_44 : decode cX11_at 44 = .ok (.goto 10, 3) := by decide +kernel
theorem dX11_at_47 : decode cX11_at 47 = .ok (.aload 4, 2) := by decide +kernel
theorem dX11_at_49 : decode cX11_at 49 = .ok (.getfield 121, 3) := by decide +kernel
theorem dX11_at_52 : decode cX11_at 52 = .ok (.iload_n 2, 1) := by decide +kernel
theorem dX11_at_53 : decode cX11_at 53 = .ok (.iaload, 1) := by decide +kernel
theorem dX11_at_54 : decode cX11_at 54 = .ok (.ireturn, 1) := by decide +kernel
theorem dX11_guess_0 : decode cX11_guess 0 = .ok (.aload_n 0, 1) := by decide +kernel
theorem dX11_guess_1 : decode cX11_guess 1 = .ok (.iload_n 1, 1) := by decide +kernel
theorem dX11_guess_2 : decode cX11_guess 2 = .ok (.iload_n 3, 1) := by decide +kernel
theorem dX11_guess_3 : decode cX11_guess 3 = .ok (.invokevirtual 116, 3) := by decide +kernel
theorem dX11_guess_6 : decode cX11_guess 6 = .ok (.ifCond .eq 11, 3) := by decide +kernel
theorem dX11_guess_9 : decode cX11_guess 9 = .ok (.iload_n 2, 1) := by decide +kernel
theorem dX11_guess_10 : decode cX11_guess 10 = .ok (.iconst 4, 1) := by decide +kernel
theorem dX11_guess_11 : decode cX11_guess 11 = .ok (.invokestatic 103, 3) := by decide +kernel
theorem dX11_guess_14 : decode cX11_guess 14 = .ok (.ifCond .ne 6, 3) := by decide +kernel
theorem dX11_guess_17 : decode cX11_guess 17 = .ok (.bipush (-2), 2) := by decide +kernel
theorem dX11_guess_19 : decode cX11_guess 19 = .ok (.ireturn, 1) := by decide +kernel
theorem dX11_guess_20 : decode cX11_guess 20 = .ok (.aload_n 0, 1) := by decide +kernel
theorem dX11_guess_21 : decode cX11_guess 21 = .ok (.getfield 30, 3) := by decide +kernel
theorem dX11_guess_24 : decode cX11_guess 24 = .ok (.iload_n 2, 1) := by decide +kernel
theorem dX11_guess_25 : decode cX11_guess 25 = .ok (.aaload, 1) := by decide +kernel
theorem dX11_guess_26 : decode cX11_guess 26 = .ok (.invokevirtual 124, 3) := by decide +kernel
theorem dX11_guess_29 : decode cX11_guess 29 = .ok (.ifCond .eq 6, 3) := by decide +kernel
theorem dX11_guess_32 : decode cX11_guess 32 = .ok (.bipush (-11), 2) := by decide +kernel
theorem dX11_guess_34 : decode cX11_guess 34 = .ok (.ireturn, 1) := by decide +kernel
theorem dX11_guess_35 : decode cX11_guess 35 = .ok (.aload_n 0, 1) := by decide +kernel
theorem dX11_guess_36 : decode cX11_guess 36 = .ok (.getfield 16, 3) := by decide +kernel
theorem dX11_guess_39 : decode cX11_guess 39 = .ok (.iload_n 1, 1) := by decide +kernel
theorem dX11_guess_40 : decode cX11_guess 40 = .ok (.invokevirtual 109, 3) := by decide +kernel
theorem dX11_guess_43 : decode cX11_guess 43 = .ok (.checkcast 107, 3) := by decide +kernel
theorem dX11_guess_46 : decode cX11_guess 46 = .ok (.aload_n 0, 1) := by decide +kernel
theorem dX11_guess_47 : decode cX11_guess 47 = .ok (.getfield 30, 3) := by decide +kernel
theorem dX11_guess_50 : decode cX11_guess 50 = .ok (.iload_n 2, 1) := by decide +kernel
theorem dX11_guess_51 : decode cX11_guess 51 = .ok (.aaload, 1) := by decide +kernel
theorem dX11_guess_52 : decode cX11_guess 52 = .ok (.iload_n 3, 1) := by decide +kernel
theorem dX11_guess_53 : decode cX11_guess 53 = .ok (.invokevirtual 128, 3) := by decide +kernel
theorem dX11_guess_56 : decode cX11_guess 56 = .ok (.ireturn, 1) := by decide +kernel
theorem dX11_slip_0 : decode cX11_slip 0 = .ok (.aload_n 0, 1) := by decide +kernel
theorem dX11_slip_1 : decode cX11_slip 1 = .ok (.iload_n 1, 1) := by decide +kernel
theorem dX11_slip_2 : decode cX11_slip 2 = .ok (.iload_n 2, 1) := by decide +kernel
theorem dX11_slip_3 : decode cX11_slip 3 = .ok (.invokevirtual 116, 3) := by decide +kernel
theorem dX11_slip_6 : decode cX11_slip 6 = .ok (.ifCond .eq 11, 3) := by decide +kernel
theorem dX11_slip_9 : decode cX11_slip 9 = .ok (.iload_n 3, 1) := by decide +kernel
theorem dX11_slip_10 : decode cX11_slip 10 = .ok (.iconst 5, 1) := by decide +kernel
theorem dX11_slip_11 : decode cX11_slip 11 = .ok (.invokestatic 103, 3) := by decide +kernel
theorem dX11_slip_14 : decode cX11_slip 14 = .ok (.ifCond .ne 6, 3) := by decide +kernel
theorem dX11_slip_17 : decode cX11_slip 17 = .ok (.bipush (-2), 2) := by decide +kernel
theorem dX11_slip_19 : decode cX11_slip 19 = .ok (.ireturn, 1) := by decide +kernel
theorem dX11_slip_20 : decode cX11_slip 20 = .ok (.aload_n 0, 1) := by decide +kernel
theorem dX11_slip_21 : decode cX11_slip 21 = .ok (.getfield 16, 3) := by decide +kernel
theorem dX11_slip_24 : decode cX11_slip 24 = .ok (.iload_n 1, 1) := by decide +kernel
theorem dX11_slip_25 : decode cX11_slip 25 = .ok (.invokevirtual 109, 3) := by decide +kernel
theorem dX11_slip_28 : decode cX11_slip 28 = .ok (.checkcast 107, 3) := by decide +kernel
theorem dX11_slip_31 : decode cX11_slip 31 = .ok (.iload_n 2, 1) := by decide +kernel
theorem dX11_slip_32 : decode cX11_slip 32 = .ok (.iload_n 3, 1) := by decide +kernel
theorem dX11_slip_33 : decode cX11_slip 33 = .ok (.invokevirtual 132, 3) := by decide +kernel
theorem dX11_slip_36 : decode cX11_slip 36 = .ok (.ireturn, 1) := by decide +kernel
theorem dX11_cut_0 : decode cX11_cut 0 = .ok (.iload_n 1, 1) := by decide +kernel
theorem dX11_cut_1 : decode cX11_cut 1 = .ok (.aload_n 0, 1) := by decide +kernel
theorem dX11_cut_2 : decode cX11_cut 2 = .ok (.getfield 16, 3) := by decide +kernel
theorem dX11_cut_5 : decode cX11_cut 5 = .ok (.invokevirtual 97, 3) := by decide +kernel
theorem dX11_cut_8 : decode cX11_cut 8 = .ok (.invokestatic 103, 3) := by decide +kernel
theorem dX11_cut_11 : decode cX11_cut 11 = .ok (.ifCond .eq 26, 3) := by decide +kernel
theorem dX11_cut_14 : decode cX11_cut 14 = .ok (.iload_n 2, 1) := by decide +kernel
theorem dX11_cut_15 : decode cX11_cut 15 = .ok (.iconst 0, 1) := by decide +kernel
theorem dX11_cut_16 : decode cX11_cut 16 = .ok (.aload_n 0, 1) := by decide +kernel
theorem dX11_cut_17 : decode cX11_cut 17 = .ok (.getfield 16, 3) := by decide +kernel
theorem dX11_cut_20 : decode cX11_cut 20 = .ok (.iload_n 1, 1) := by decide +kernel
theorem dX11_cut_21 : decode cX11_cut 21 = .ok (.invokevirtual 109, 3) := by decide +kernel
theorem dX11_cut_24 : decode cX11_cut 24 = .ok (.checkcast 107, 3) := by decide +kernel
theorem dX11_cut_27 : decode cX11_cut 27 = .ok (.getfield 119, 3) := by decide +kernel
theorem dX11_cut_30 : decode cX11_cut 30 = .ok (.arraylength, 1) := by decide +kernel
theorem dX11_cut_31 : decode cX11_cut 31 = .ok (.invokestatic 86, 3) := by decide +kernel
theorem dX11_cut_34 : decode cX11_cut 34 = .ok (.ifCond .ne 6, 3) := by decide +kernel
theorem dX11_cut_37 : decode cX11_cut 37 = .ok (.bipush (-2), 2) := by decide +kernel
theorem dX11_cut_39 : decode cX11_cut 39 = .ok (.ireturn, 1) := by decide +kernel
theorem dX11_cut_40 : decode cX11_cut 40 = .ok (.aload_n 0, 1) := by decide +kernel
theorem dX11_cut_41 : decode cX11_cut 41 = .ok (.getfield 16, 3) := by decide +kernel
theorem dX11_cut_44 : decode cX11_cut 44 = .ok (.iload_n 1, 1) := by decide +kernel
theorem dX11_cut_45 : decode cX11_cut 45 = .ok (.invokevirtual 109, 3) := by decide +kernel
theorem dX11_cut_48 : decode cX11_cut 48 = .ok (.checkcast 107, 3) := by decide +kernel
theorem dX11_cut_51 : decode cX11_cut 51 = .ok (.iload_n 2, 1) := by decide +kernel
theorem dX11_cut_52 : decode cX11_cut 52 = .ok (.invokevirtual 136, 3) := by decide +kernel
theorem dX11_cut_55 : decode cX11_cut 55 = .ok (.iconst 1, 1) := by decide +kernel
theorem dX11_cut_56 : decode cX11_cut 56 = .ok (.ireturn, 1) := by decide +kernel
theorem dX11_shuffle_0 : decode cX11_shuffle 0 = .ok (.iload_n 1, 1) := by decide +kernel
theorem dX11_shuffle_1 : decode cX11_shuffle 1 = .ok (.aload_n 0, 1) := by decide +kernel
theorem dX11_shuffle_2 : decode cX11_shuffle 2 = .ok (.getfield 16, 3) := by decide +kernel
theorem dX11_shuffle_5 : decode cX11_shuffle 5 = .ok (.invokevirtual 97, 3) := by decide +kernel
theorem dX11_shuffle_8 : decode cX11_shuffle 8 = .ok (.invokestatic 103, 3) := by decide +kernel
theorem dX11_shuffle_11 : decode cX11_shuffle 11 = .ok (.ifCond .eq 13, 3) := by decide +kernel
theorem dX11_shuffle_14 : decode cX11_shuffle 14 = .ok (.iload_n 2, 1) := by decide +kernel
theorem dX11_shuffle_15 : decode cX11_shuffle 15 = .ok (.iconst 0, 1) := by decide +kernel
theorem dX11_shuffle_16 : decode cX11_shuffle 16 = .ok (.ldc 85, 2) := by decide +kernel
theorem dX11_shuffle_18 : decode cX11_shuffle 18 = .ok (.invokestatic 86, 3) := by decide +kernel
theorem dX11_shuffle_21 : decode cX11_shuffle 21 = .ok (.ifCond .ne 6, 3) := by decide +kernel
theorem dX11_shuffle_24 : decode cX11_shuffle 24 = .ok (.bipush (-2), 2) := by decide +kernel
theorem dX11_shuffle_26 : decode cX11_shuffle 26 = .ok (.ireturn, 1) := by decide +kernel
theorem dX11_shuffle_27 : decode cX11_shuffle 27 = .ok (.aload_n 0, 1) := by decide +kernel
theorem dX11_shuffle_28 : decode cX11_shuffle 28 = .ok (.getfield 16, 3) := by decide +kernel
theorem dX11_shuffle_31 : decode cX11_shuffle 31 = .ok (.iload_n 1, 1) := by decide +kernel
theorem dX11_shuffle_32 : decode cX11_shuffle 32 = .ok (.invokevirtual 109, 3) := by decide +kernel
theorem dX11_shuffle_35 : decode cX11_shuffle 35 = .ok (.checkcast 107, 3) := by decide +kernel
theorem dX11_shuffle_38 : decode cX11_shuffle 38 = .ok (.astore_n 3, 1) := by decide +kernel
theorem dX11_shuffle_39 : decode cX11_shuffle 39 = .ok (.aload_n 3, 1) := by decide +kernel
theorem dX11_shuffle_40 : decode cX11_shuffle 40 = .ok (.getfield 119, 3) := by decide +kernel
theorem dX11_shuffle_43 : decode cX11_shuffle 43 = .ok (.iload_n 2, 1) := by decide +kernel
theorem dX11_shuffle_44 : decode cX11_shuffle 44 = .ok (.invokestatic 139, 3) := by decide +kernel
theorem dX11_shuffle_47 : decode cX11_shuffle 47 = .ok (.aload_n 3, 1) := by decide +kernel
theorem dX11_shuffle_48 : decode cX11_shuffle 48 = .ok (.invokevirtual 143, 3) := by decide +kernel
theorem dX11_shuffle_51 : decode cX11_shuffle 51 = .ok (.ireturn, 1) := by decide +kernel
theorem dX11_told_0 : decode cX11_told 0 = .ok (.iload_n 1, 1) := by decide +kernel
theorem dX11_told_1 : decode cX11_told 1 = .ok (.aload_n 0, 1) := by decide +kernel
theorem dX11_told_2 : decode cX11_told 2 = .ok (.getfield 16, 3) := by decide +kernel
theorem dX11_told_5 : decode cX11_told 5 = .ok (.invokevirtual 97, 3) := by decide +kernel
theorem dX11_told_8 : decode cX11_told 8 = .ok (.invokestatic 103, 3) := by decide +kernel
theorem dX11_told_11 : decode cX11_told 11 = .ok (.ifCond .ne 6, 3) := by decide +kernel
theorem dX11_told_14 : decode cX11_told 14 = .ok (.ldc 146, 2) := by decide +kernel
theorem dX11_told_16 : decode cX11_told 16 = .ok (.ireturn, 1) := by decide +kernel
theorem dX11_told_17 : decode cX11_told 17 = .ok (.aload_n 0, 1) := by decide +kernel
theorem dX11_told_18 : decode cX11_told 18 = .ok (.getfield 16, 3) := by decide +kernel
theorem dX11_told_21 : decode cX11_told 21 = .ok (.iload_n 1, 1) := by decide +kernel
theorem dX11_told_22 : decode cX11_told 22 = .ok (.invokevirtual 109, 3) := by decide +kernel
theorem dX11_told_25 : decode cX11_told 25 = .ok (.checkcast 107, 3) := by decide +kernel
theorem dX11_told_28 : decode cX11_told 28 = .ok (.astore_n 3, 1) := by decide +kernel
theorem dX11_told_29 : decode cX11_told 29 = .ok (.iload_n 2, 1) := by decide +kernel
theorem dX11_told_30 : decode cX11_told 30 = .ok (.tableswitch 175 0 13 #[70, 75, 80, 85, 91, 96, 101, 106, 111, 117, 143, 148, 153, 168], 70) := by decide +kernel
theorem dX11_told_100 : decode cX11_told 100 = .ok (.aload_n 3, 1) := by decide +kernel
theorem dX11_told_101 : decode cX11_told 101 = .ok (.getfield 147, 3) := by decide +kernel
theorem dX11_told_104 : decode cX11_told 104 = .ok (.ireturn, 1) := by decide +kernel
theorem dX11_told_105 : decode cX11_told 105 = .ok (.aload_n 3, 1) := by decide +kernel
theorem dX11_told_106 : decode cX11_told 106 = .ok (.getfield 150, 3) := by decide +kernel
theorem dX11_told_109 : decode cX11_told 109 = .ok (.ireturn, 1) := by decide +kernel
theorem dX11_told_110 : decode cX11_told 110 = .ok (.aload_n 3, 1) := by decide +kernel
theorem dX11_told_111 : decode cX11_told 111 = .ok (.getfield 153, 3) := by decide +kernel
theorem dX11_told_114 : decode cX11_told 114 = .ok (.ireturn, 1) := by decide +kernel
theorem dX11_told_115 : decode cX11_told 115 = .ok (.aload_n 3, 1) := by decide +kernel
theorem dX11_told_116 : decode cX11_told 116 = .ok (.getfield 119, 3) := by decide +kernel
theorem dX11_told_119 : decode cX11_told 119 = .ok (.arraylength, 1) := by decide +kernel
theorem dX11_told_120 : decode cX11_told 120 = .ok (.ireturn, 1) := by decide +kernel
theorem dX11_told_121 : decode cX11_told 121 = .ok (.aload_n 3, 1) := by decide +kernel
theorem dX11_told_122 : decode cX11_told 122 = .ok (.invokevirtual 143, 3) := by decide +kernel
theorem dX11_told_125 : decode cX11_told 125 = .ok (.ireturn, 1) := by decide +kernel
theorem dX11_told_126 : decode cX11_told 126 = .ok (.aload_n 3, 1) := by decide +kernel
theorem dX11_told_127 : decode cX11_told 127 = .ok (.invokevirtual 156, 3) := by decide +kernel
theorem dX11_told_130 : decode cX11_told 130 = .ok (.ireturn, 1) := by decide +kernel
theorem dX11_told_131 : decode cX11_told 131 = .ok (.aload_n 3, 1) := by decide +kernel
theorem dX11_told_132 : decode cX11_told 132 = .ok (.invokevirtual 159, 3) := by decide +kernel
theorem dX11_told_135 : decode cX11_told 135 = .ok (.ireturn, 1) := by decide +kernel
theorem dX11_told_136 : decode cX11_told 136 = .ok (.aload_n 3, 1) := by decide +kernel
theorem dX11_told_137 : decode cX11_told 137 = .ok (.invokevirtual 162, 3) := by decide +kernel
theorem dX11_told_140 : decode cX11_told 140 = .ok (.ireturn, 1) := by decide +kernel
theorem dX11_told_141 : decode cX11_told 141 = .ok (.aload_n 0, 1) := by decide +kernel
theorem dX11_told_142 : decode cX11_told 142 = .ok (.aload_n 3, 1) := by decide +kernel
theorem dX11_told_143 : decode cX11_told 143 = .ok (.invokevirtual 165, 3) := by decide +kernel
theorem dX11_told_146 : decode cX11_told 146 = .ok (.ireturn, 1) := by decide +kernel
theorem dX11_told_147 : decode cX11_told 147 = .ok (.aload_n 3, 1) := by decide +kernel
theorem dX11_told_148 : decode cX11_told 148 = .ok (.invokevirtual 143, 3) := by decide +kernel
theorem dX11_told_151 : decode cX11_told 151 = .ok (.aload_n 0, 1) := by decide +kernel
theorem dX11_told_152 : decode cX11_told 152 = .ok (.aload_n 3, 1) := by decide +kernel
theorem dX11_told_153 : decode cX11_told 153 = .ok (.invokevirtual 165, 3) := by decide +kernel
theorem dX11_told_156 : decode cX11_told 156 = .ok (.aload_n 3, 1) := by decide +kernel
theorem dX11_told_157 : decode cX11_told 157 = .ok (.getfield 119, 3) := by decide +kernel
theorem dX11_told_160 : decode cX11_told 160 = .ok (.arraylength, 1) := by decide +kernel
theorem dX11_told_161 : decode cX11_told 161 = .ok (.iconst 5, 1) := by decide +kernel
theorem dX11_told_162 : decode cX11_told 162 = .ok (.idiv, 1) := by decide +kernel
theorem dX11_told_163 : decode cX11_told 163 = .ok (.iadd, 1) := by decide +kernel
theorem dX11_told_164 : decode cX11_told 164 = .ok (.if_icmp .le 7, 3) := by decide +kernel
theorem dX11_told_167 : decode cX11_told 167 = .ok (.iconst 1, 1) := by decide +kernel
theorem dX11_told_168 : decode cX11_told 168 = .ok (.goto 4, 3) := by decide +kernel
theorem dX11_told_171 : decode cX11_told 171 = .ok (.iconst 0, 1) := by decide +kernel
theorem dX11_told_172 : decode cX11_told 172 = .ok (.ireturn, 1) := by decide +kernel
theorem dX11_told_173 : decode cX11_told 173 = .ok (.aload_n 3, 1) := by decide +kernel
theorem dX11_told_174 : decode cX11_told 174 = .ok (.getfield 169, 3) := by decide +kernel
theorem dX11_told_177 : decode cX11_told 177 = .ok (.ireturn, 1) := by decide +kernel
theorem dX11_told_178 : decode cX11_told 178 = .ok (.aload_n 3, 1) := by decide +kernel
theorem dX11_told_179 : decode cX11_told 179 = .ok (.getfield 172, 3) := by decide +kernel
theorem dX11_told_182 : decode cX11_told 182 = .ok (.ireturn, 1) := by decide +kernel
theorem dX11_told_183 : decode cX11_told 183 = .ok (.aload_n 0, 1) := by decide +kernel
theorem dX11_told_184 : decode cX11_told 184 = .ok (.iload_n 1, 1) := by decide +kernel
theorem dX11_told_185 : decode cX11_told 185 = .ok (.iconst 1, 1) := by decide +kernel
theorem dX11_told_186 : decode cX11_told 186 = .ok (.invokevirtual 177, 3) := by decide +kernel
theorem dX11_told_189 : decode cX11_told 189 = .ok (.ifCond .eq 7, 3) := by decide +kernel
theorem dX11_told_192 : decode cX11_told 192 = .ok (.iconst 1, 1) := by decide +kernel
theorem dX11_told_193 : decode cX11_told 193 = .ok (.goto 4, 3) := by decide +kernel
theorem dX11_told_196 : decode cX11_told 196 = .ok (.iconst 0, 1) := by decide +kernel
theorem dX11_told_197 : decode cX11_told 197 = .ok (.ireturn, 1) := by decide +kernel
theorem dX11_told_198 : decode cX11_told 198 = .ok (.aload_n 0, 1) := by decide +kernel
theorem dX11_told_199 : decode cX11_told 199 = .ok (.iload_n 1, 1) := by decide +kernel
theorem dX11_told_200 : decode cX11_told 200 = .ok (.iconst 2, 1) := by decide +kernel
theorem dX11_told_201 : decode cX11_told 201 = .ok (.invokevirtual 177, 3) := by decide +kernel
theorem dX11_told_204 : decode cX11_told 204 = .ok (.ireturn, 1) := by decide +kernel
theorem dX11_told_205 : decode cX11_told 205 = .ok (.ldc 146, 2) := by decide +kernel
theorem dX11_told_207 : decode cX11_told 207 = .ok (.ireturn, 1) := by decide +kernel
theorem dX11_exact_0 : decode cX11_exact 0 = .ok (.iload_n 1, 1) := by decide +kernel
theorem dX11_exact_1 : decode cX11_exact 1 = .ok (.aload_n 0, 1) := by decide +kernel
theorem dX11_exact_2 : decode cX11_exact 2 = .ok (.getfield 16, 3) := by decide +kernel
theorem dX11_exact_5 : decode cX11_exact 5 = .ok (.invokevirtual 97, 3) := by decide +kernel
theorem dX11_exact_8 : decode cX11_exact 8 = .ok (.invokestatic 103, 3) := by decide +kernel
theorem dX11_exact_11 : decode cX11_exact 11 = .ok (.ifCond .eq 21, 3) := by decide +kernel
theorem dX11_exact_14 : decode cX11_exact 14 = .ok (.iload_n 2, 1) := by decide +kernel
theorem dX11_exact_15 : decode cX11_exact 15 = .ok (.iconst 0, 1) := by decide +kernel
theorem dX11_exact_16 : decode cX11_exact 16 = .ok (.bipush 25, 2) := by decide +kernel
theorem dX11_exact_18 : decode cX11_exact 18 = .ok (.invokestatic 86, 3) := by decide +kernel
theorem dX11_exact_21 : decode cX11_exact 21 = .ok (.ifCond .eq 11, 3) := by decide +kernel
theorem dX11_exact_24 : decode cX11_exact 24 = .ok (.iload_n 3, 1) := by decide +kernel
theorem dX11_exact_25 : decode cX11_exact 25 = .ok (.iconst 2, 1) := by decide +kernel
theorem dX11_exact_26 : decode cX11_exact 26 = .ok (.invokestatic 103, 3) := by decide +kernel
theorem dX11_exact_29 : decode cX11_exact 29 = .ok (.ifCond .ne 7, 3) := by decide +kernel
theorem dX11_exact_32 : decode cX11_exact 32 = .ok (.ldc2_w 180, 3) := by decide +kernel
theorem dX11_exact_35 : decode cX11_exact 35 = .ok (.lreturn, 1) := by decide +kernel
theorem dX11_exact_36 : decode cX11_exact 36 = .ok (.aload_n 0, 1) := by decide +kernel
theorem dX11_exact_37 : decode cX11_exact 37 = .ok (.getfield 51, 3) := by decide +kernel
theorem dX11_exact_40 : decode cX11_exact 40 = .ok (.aload_n 0, 1) := by decide +kernel
theorem dX11_exact_41 : decode cX11_exact 41 = .ok (.getfield 16, 3) := by decide +kernel
theorem dX11_exact_44 : decode cX11_exact 44 = .ok (.iload_n 1, 1) := by decide +kernel
theorem dX11_exact_45 : decode cX11_exact 45 = .ok (.invokevirtual 109, 3) := by decide +kernel
theorem dX11_exact_48 : decode cX11_exact 48 = .ok (.checkcast 107, 3) := by decide +kernel
theorem dX11_exact_51 : decode cX11_exact 51 = .ok (.invokevirtual 182, 3) := by decide +kernel
theorem dX11_exact_54 : decode cX11_exact 54 = .ok (.iload_n 3, 1) := by decide +kernel
theorem dX11_exact_55 : decode cX11_exact 55 = .ok (.ifCond .ne 14, 3) := by decide +kernel
theorem dX11_exact_58 : decode cX11_exact 58 = .ok (.aload_n 0, 1) := by decide +kernel
theorem dX11_exact_59 : decode cX11_exact 59 = .ok (.getfield 51, 3) := by decide +kernel
theorem dX11_exact_62 : decode cX11_exact 62 = .ok (.iload_n 2, 1) := by decide +kernel
theorem dX11_exact_63 : decode cX11_exact 63 = .ok (.invokevirtual 186, 3) := by decide +kernel
theorem dX11_exact_66 : decode cX11_exact 66 = .ok (.goto 10, 3) := by decide +kernel
theorem dX11_exact_69 : decode cX11_exact 69 = .ok (.aload_n 0, 1) := by decide +kernel
theorem dX11_exact_70 : decode cX11_exact 70 = .ok (.getfield 51, 3) := by decide +kernel
theorem dX11_exact_73 : decode cX11_exact 73 = .ok (.invokevirtual 190, 3) := by decide +kernel
theorem dX11_exact_76 : decode cX11_exact 76 = .ok (.lreturn, 1) := by decide +kernel
theorem dX11_leak_0 : decode cX11_leak 0 = .ok (.iload_n 1, 1) := by decide +kernel
theorem dX11_leak_1 : decode cX11_leak 1 = .ok (.bipush 6, 2) := by decide +kernel
theorem dX11_leak_3 : decode cX11_leak 3 = .ok (.invokestatic 103, 3) := by decide +kernel
theorem dX11_leak_6 : decode cX11_leak 6 = .ok (.ifCond .eq 21, 3) := by decide +kernel
theorem dX11_leak_9 : decode cX11_leak 9 = .ok (.iload_n 2, 1) := by decide +kernel
theorem dX11_leak_10 : decode cX11_leak 10 = .ok (.iconst 0, 1) := by decide +kernel
theorem dX11_leak_11 : decode cX11_leak 11 = .ok (.bipush 25, 2) := by decide +kernel
theorem dX11_leak_13 : decode cX11_leak 13 = .ok (.invokestatic 86, 3) := by decide +kernel
theorem dX11_leak_16 : decode cX11_leak 16 = .ok (.ifCond .eq 11, 3) := by decide +kernel
theorem dX11_leak_19 : decode cX11_leak 19 = .ok (.iload_n 3, 1) := by decide +kernel
theorem dX11_leak_20 : decode cX11_leak 20 = .ok (.iconst 5, 1) := by decide +kernel
theorem dX11_leak_21 : decode cX11_leak 21 = .ok (.invokestatic 103, 3) := by decide +kernel
theorem dX11_leak_24 : decode cX11_leak 24 = .ok (.ifCond .ne 6, 3) := by decide +kernel
theorem dX11_leak_27 : decode cX11_leak 27 = .ok (.bipush (-2), 2) := by decide +kernel
theorem dX11_leak_29 : decode cX11_leak 29 = .ok (.ireturn, 1) := by decide +kernel
theorem dX11_leak_30 : decode cX11_leak 30 = .ok (.aload_n 0, 1) := by decide +kernel
theorem dX11_leak_31 : decode cX11_leak 31 = .ok (.getfield 19, 3) := by decide +kernel
theorem dX11_leak_34 : decode cX11_leak 34 = .ok (.invokevirtual 97, 3) := by decide +kernel
theorem dX11_leak_37 : decode cX11_leak 37 = .ok (.bipush 10, 2) := by decide +kernel
theorem dX11_leak_39 : decode cX11_leak 39 = .ok (.if_icmp .lt 6, 3) := by decide +kernel
theorem dX11_leak_42 : decode cX11_leak 42 = .ok (.bipush (-4), 2) := by decide +kernel
theorem dX11_leak_44 : decode cX11_leak 44 = .ok (.ireturn, 1) := by decide +kernel
theorem dX11_leak_45 : decode cX11_leak 45 = .ok (.aload_n 0, 1) := by decide +kernel
theorem dX11_leak_46 : decode cX11_leak 46 = .ok (.getfield 19, 3) := by decide +kernel
theorem dX11_leak_49 : decode cX11_leak 49 = .ok (.new 194, 3) := by decide +kernel
theorem dX11_leak_52 : decode cX11_leak 52 = .ok (.dup, 1) := by decide +kernel
theorem dX11_leak_53 : decode cX11_leak 53 = .ok (.iload_n 1, 1) := by decide +kernel
theorem dX11_leak_54 : decode cX11_leak 54 = .ok (.iload_n 2, 1) := by decide +kernel
theorem dX11_leak_55 : decode cX11_leak 55 = .ok (.iload_n 3, 1) := by decide +kernel
theorem dX11_leak_56 : decode cX11_leak 56 = .ok (.invokespecial 196, 3) := by decide +kernel
theorem dX11_leak_59 : decode cX11_leak 59 = .ok (.invokevirtual 100, 3) := by decide +kernel
theorem dX11_leak_62 : decode cX11_leak 62 = .ok (.pop, 1) := by decide +kernel
theorem dX11_leak_63 : decode cX11_leak 63 = .ok (.aload_n 0, 1) := by decide +kernel
theorem dX11_leak_64 : decode cX11_leak 64 = .ok (.getfield 19, 3) := by decide +kernel
theorem dX11_leak_67 : decode cX11_leak 67 = .ok (.invokevirtual 97, 3) := by decide +kernel
theorem dX11_leak_70 : decode cX11_leak 70 = .ok (.iconst 1, 1) := by decide +kernel
theorem dX11_leak_71 : decode cX11_leak 71 = .ok (.isub, 1) := by decide +kernel
theorem dX11_leak_72 : decode cX11_leak 72 = .ok (.ireturn, 1) := by decide +kernel
theorem dX11_shut_0 : decode cX11_shut 0 = .ok (.iload_n 1, 1) := by decide +kernel
theorem dX11_shut_1 : decode cX11_shut 1 = .ok (.aload_n 0, 1) := by decide +kernel
theorem dX11_shut_2 : decode cX11_shut 2 = .ok (.getfield 19, 3) := by decide +kernel
theorem dX11_shut_5 : decode cX11_shut 5 = .ok (.invokevirtual 97, 3) := by decide +kernel
theorem dX11_shut_8 : decode cX11_shut 8 = .ok (.invokestatic 103, 3) := by decide +kernel
theorem dX11_shut_11 : decode cX11_shut 11 = .ok (.ifCond .eq 11, 3) := by decide +kernel
theorem dX11_shut_14 : decode cX11_shut 14 = .ok (.iload_n 2, 1) := by decide +kernel
theorem dX11_shut_15 : decode cX11_shut 15 = .ok (.iconst 2, 1) := by decide +kernel
theorem dX11_shut_16 : decode cX11_shut 16 = .ok (.invokestatic 103, 3) := by decide +kernel
theorem dX11_shut_19 : decode cX11_shut 19 = .ok (.ifCond .ne 6, 3) := by decide +kernel
theorem dX11_shut_22 : decode cX11_shut 22 = .ok (.bipush (-2), 2) := by decide +kernel
theorem dX11_shut_24 : decode cX11_shut 24 = .ok (.ireturn, 1) := by decide +kernel
theorem dX11_shut_25 : decode cX11_shut 25 = .ok (.aload_n 0, 1) := by decide +kernel
theorem dX11_shut_26 : decode cX11_shut 26 = .ok (.getfield 19, 3) := by decide +kernel
theorem dX11_shut_29 : decode cX11_shut 29 = .ok (.iload_n 1, 1) := by decide +kernel
theorem dX11_shut_30 : decode cX11_shut 30 = .ok (.invokevirtual 109, 3) := by decide +kernel
theorem dX11_shut_33 : decode cX11_shut 33 = .ok (.checkcast 194, 3) := by decide +kernel
theorem dX11_shut_36 : decode cX11_shut 36 = .ok (.astore_n 3, 1) := by decide +kernel
theorem dX11_shut_37 : decode cX11_shut 37 = .ok (.aload_n 3, 1) := by decide +kernel
theorem dX11_shut_38 : decode cX11_shut 38 = .ok (.getfield 199, 3) := by decide +kernel
theorem dX11_shut_41 : decode cX11_shut 41 = .ok (.ifCond .eq 7, 3) := by decide +kernel
theorem dX11_shut_44 : decode cX11_shut 44 = .ok (.iconst 1, 1) := by decide +kernel
theorem dX11_shut_45 : decode cX11_shut 45 = .ok (.goto 4, 3) := by decide +kernel
theorem dX11_shut_48 : decode cX11_shut 48 = .ok (.iconst 0, 1) := by decide +kernel
theorem dX11_shut_49 : decode cX11_shut 49 = .ok (.istore 4, 2) := by decide +kernel
theorem dX11_shut_51 : decode cX11_shut 51 = .ok (.aload_n 3, 1) := by decide +kernel
theorem dX11_shut_52 : decode cX11_shut 52 = .ok (.iload_n 2, 1) := by decide +kernel
theorem dX11_shut_53 : decode cX11_shut 53 = .ok (.iconst 1, 1) := by decide +kernel
theorem dX11_shut_54 : decode cX11_shut 54 = .ok (.if_icmp .ne 7, 3) := by decide +kernel
theorem dX11_shut_57 : decode cX11_shut 57 = .ok (.iconst 1, 1) := by decide +kernel
theorem dX11_shut_58 : decode cX11_shut 58 = .ok (.goto 4, 3) := by decide +kernel
theorem dX11_shut_61 : decode cX11_shut 61 = .ok (.iconst 0, 1) := by decide +kernel
theorem dX11_shut_62 : decode cX11_shut 62 = .ok (.putfield 199, 3) := by decide +kernel
theorem dX11_shut_65 : decode cX11_shut 65 = .ok (.iload 4, 2) := by decide +kernel
theorem dX11_shut_67 : decode cX11_shut 67 = .ok (.ireturn, 1) := by decide +kernel
theorem dX11_gives_0 : decode cX11_gives 0 = .ok (.iload_n 1, 1) := by decide +kernel
theorem dX11_gives_1 : decode cX11_gives 1 = .ok (.aload_n 0, 1) := by decide +kernel
theorem dX11_gives_2 : decode cX11_gives 2 = .ok (.getfield 19, 3) := by decide +kernel
theorem dX11_gives_5 : decode cX11_gives 5 = .ok (.invokevirtual 97, 3) := by decide +kernel
theorem dX11_gives_8 : decode cX11_gives 8 = .ok (.invokestatic 103, 3) := by decide +kernel
theorem dX11_gives_11 : decode cX11_gives 11 = .ok (.ifCond .eq 17, 3) := by decide +kernel
theorem dX11_gives_14 : decode cX11_gives 14 = .ok (.iload_n 2, 1) := by decide +kernel
theorem dX11_gives_15 : decode cX11_gives 15 = .ok (.aload_n 0, 1) := by decide +kernel
theorem dX11_gives_16 : decode cX11_gives 16 = .ok (.getfield 16, 3) := by decide +kernel
theorem dX11_gives_19 : decode cX11_gives 19 = .ok (.invokevirtual 97, 3) := by decide +kernel
theorem dX11_gives_22 : decode cX11_gives 22 = .ok (.invokestatic 103, 3) := by decide +kernel
theorem dX11_gives_25 : decode cX11_gives 25 = .ok (.ifCond .ne 6, 3) := by decide +kernel
theorem dX11_gives_28 : decode cX11_gives 28 = .ok (.bipush (-2), 2) := by decide +kernel
theorem dX11_gives_30 : decode cX11_gives 30 = .ok (.ireturn, 1) := by decide +kernel
theorem dX11_gives_31 : decode cX11_gives 31 = .ok (.aload_n 0, 1) := by decide +kernel
theorem dX11_gives_32 : decode cX11_gives 32 = .ok (.getfield 19, 3) := by decide +kernel
theorem dX11_gives_35 : decode cX11_gives 35 = .ok (.iload_n 1, 1) := by decide +kernel
theorem dX11_gives_36 : decode cX11_gives 36 = .ok (.invokevirtual 109, 3) := by decide +kernel
theorem dX11_gives_39 : decode cX11_gives 39 = .ok (.checkcast 194, 3) := by decide +kernel
theorem dX11_gives_42 : decode cX11_gives 42 = .ok (.aload_n 0, 1) := by decide +kernel
theorem dX11_gives_43 : decode cX11_gives 43 = .ok (.getfield 16, 3) := by decide +kernel
theorem dX11_gives_46 : decode cX11_gives 46 = .ok (.iload_n 2, 1) := by decide +kernel
theorem dX11_gives_47 : decode cX11_gives 47 = .ok (.invokevirtual 109, 3) := by decide +kernel
theorem dX11_gives_50 : decode cX11_gives 50 = .ok (.checkcast 107, 3) := by decide +kernel
theorem dX11_gives_53 : decode cX11_gives 53 = .ok (.invokevirtual 203, 3) := by decide +kernel
theorem dX11_gives_56 : decode cX11_gives 56 = .ok (.ireturn, 1) := by decide +kernel
theorem dX11_counts_0 : decode cX11_counts 0 = .ok (.iload_n 1, 1) := by decide +kernel
theorem dX11_counts_1 : decode cX11_counts 1 = .ok (.aload_n 0, 1) := by decide +kernel
theorem dX11_counts_2 : decode cX11_counts 2 = .ok (.getfield 19, 3) := by decide +kernel
theorem dX11_counts_5 : decode cX11_counts 5 = .ok (.invokevirtual 97, 3) := by decide +kernel
theorem dX11_counts_8 : decode cX11_counts 8 = .ok (.invokestatic 103, 3) := by decide +kernel
theorem dX11_counts_11 : decode cX11_counts 11 = .ok (.ifCond .ne 6, 3) := by decide +kernel
theorem dX11_counts_14 : decode cX11_counts 14 = .ok (.bipush (-2), 2) := by decide +kernel
theorem dX11_counts_16 : decode cX11_counts 16 = .ok (.ireturn, 1) := by decide +kernel
theorem dX11_counts_17 : decode cX11_counts 17 = .ok (.aload_n 0, 1) := by decide +kernel
theorem dX11_counts_18 : decode cX11_counts 18 = .ok (.getfield 19, 3) := by decide +kernel
theorem dX11_counts_21 : decode cX11_counts 21 = .ok (.iload_n 1, 1) := by decide +kernel
theorem dX11_counts_22 : decode cX11_counts 22 = .ok (.invokevirtual 109, 3) := by decide +kernel
theorem dX11_counts_25 : decode cX11_counts 25 = .ok (.checkcast 194, 3) := by decide +kernel
theorem dX11_counts_28 : decode cX11_counts 28 = .ok (.invokevirtual 206, 3) := by decide +kernel
theorem dX11_counts_31 : decode cX11_counts 31 = .ok (.ireturn, 1) := by decide +kernel
theorem dX11_screen_0 : decode cX11_screen 0 = .ok (.iload_n 1, 1) := by decide +kernel
theorem dX11_screen_1 : decode cX11_screen 1 = .ok (.iconst 1, 1) := by decide +kernel
theorem dX11_screen_2 : decode cX11_screen 2 = .ok (.bipush 50, 2) := by decide +kernel
theorem dX11_screen_4 : decode cX11_screen 4 = .ok (.invokestatic 86, 3) := by decide +kernel
theorem dX11_screen_7 : decode cX11_screen 7 = .ok (.ifCond .eq 12, 3) := by decide +kernel
theorem dX11_screen_10 : decode cX11_screen 10 = .ok (.iload_n 2, 1) := by decide +kernel
theorem dX11_screen_11 : decode cX11_screen 11 = .ok (.bipush 6, 2) := by decide +kernel
theorem dX11_screen_13 : decode cX11_screen 13 = .ok (.invokestatic 209, 3) := by decide +kernel
theorem dX11_screen_16 : decode cX11_screen 16 = .ok (.ifCond .ne 6, 3) := by decide +kernel
theorem dX11_screen_19 : decode cX11_screen 19 = .ok (.bipush (-2), 2) := by decide +kernel
theorem dX11_screen_21 : decode cX11_screen 21 = .ok (.ireturn, 1) := by decide +kernel
theorem dX11_screen_22 : decode cX11_screen 22 = .ok (.aload_n 0, 1) := by decide +kernel
theorem dX11_screen_23 : decode cX11_screen 23 = .ok (.getfield 22, 3) := by decide +kernel
theorem dX11_screen_26 : decode cX11_screen 26 = .ok (.invokevirtual 97, 3) := by decide +kernel
theorem dX11_screen_29 : decode cX11_screen 29 = .ok (.bipush 6, 2) := by decide +kernel
theorem dX11_screen_31 : decode cX11_screen 31 = .ok (.if_icmp .lt 6, 3) := by decide +kernel
theorem dX11_screen_34 : decode cX11_screen 34 = .ok (.bipush (-4), 2) := by decide +kernel
theorem dX11_screen_36 : decode cX11_screen 36 = .ok (.ireturn, 1) := by decide +kernel
theorem dX11_screen_37 : decode cX11_screen 37 = .ok (.aload_n 0, 1) := by decide +kernel
theorem dX11_screen_38 : decode cX11_screen 38 = .ok (.getfield 22, 3) := by decide +kernel
theorem dX11_screen_41 : decode cX11_screen 41 = .ok (.new 212, 3) := by decide +kernel
theorem dX11_screen_44 : decode cX11_screen 44 = .ok (.dup, 1) := by decide +kernel
theorem dX11_screen_45 : decode cX11_screen 45 = .ok (.iload_n 1, 1) := by decide +kernel
theorem dX11_screen_46 : decode cX11_screen 46 = .ok (.iload_n 2, 1) := by decide +kernel
theorem dX11_screen_47 : decode cX11_screen 47 = .ok (.invokespecial 214, 3) := by decide +kernel
theorem dX11_screen_50 : decode cX11_screen 50 = .ok (.invokevirtual 100, 3) := by decide +kernel
theorem dX11_screen_53 : decode cX11_screen 53 = .ok (.pop, 1) := by decide +kernel
theorem dX11_screen_54 : decode cX11_screen 54 = .ok (.aload_n 0, 1) := by decide +kernel
theorem dX11_screen_55 : decode cX11_screen 55 = .ok (.getfield 22, 3) := by decide +kernel
theorem dX11_screen_58 : decode cX11_screen 58 = .ok (.invokevirtual 97, 3) := by decide +kernel
theorem dX11_screen_61 : decode cX11_screen 61 = .ok (.iconst 1, 1) := by decide +kernel
theorem dX11_screen_62 : decode cX11_screen 62 = .ok (.isub, 1) := by decide +kernel
theorem dX11_screen_63 : decode cX11_screen 63 = .ok (.ireturn, 1) := by decide +kernel
theorem dX11_plan_0 : decode cX11_plan 0 = .ok (.iload_n 1, 1) := by decide +kernel
theorem dX11_plan_1 : decode cX11_plan 1 = .ok (.aload_n 0, 1) := by decide +kernel
theorem dX11_plan_2 : decode cX11_plan 2 = .ok (.getfield 19, 3) := by decide +kernel
theorem dX11_plan_5 : decode cX11_plan 5 = .ok (.invokevirtual 97, 3) := by decide +kernel
theorem dX11_plan_8 : decode cX11_plan 8 = .ok (.invokestatic 209, 3) := by decide +kernel
theorem dX11_plan_11 : decode cX11_plan 11 = .ok (.ifCond .eq 11, 3) := by decide +kernel
theorem dX11_plan_14 : decode cX11_plan 14 = .ok (.iload_n 2, 1) := by decide +kernel
theorem dX11_plan_15 : decode cX11_plan 15 = .ok (.iconst 2, 1) := by decide +kernel
theorem dX11_plan_16 : decode cX11_plan 16 = .ok (.invokestatic 103, 3) := by decide +kernel
theorem dX11_plan_19 : decode cX11_plan 19 = .ok (.ifCond .ne 6, 3) := by decide +kernel
theorem dX11_plan_22 : decode cX11_plan 22 = .ok (.bipush (-2), 2) := by decide +kernel
theorem dX11_plan_24 : decode cX11_plan 24 = .ok (.ireturn, 1) := by decide +kernel
theorem dX11_plan_25 : decode cX11_plan 25 = .ok (.aload_n 0, 1) := by decide +kernel
theorem dX11_plan_26 : decode cX11_plan 26 = .ok (.iload_n 1, 1) := by decide +kernel
theorem dX11_plan_27 : decode cX11_plan 27 = .ok (.invokevirtual 217, 3) := by decide +kernel
theorem dX11_plan_30 : decode cX11_plan 30 = .ok (.istore_n 3, 1) := by decide +kernel
theorem dX11_plan_31 : decode cX11_plan 31 = .ok (.iconst (-1), 1) := by decide +kernel
theorem dX11_plan_32 : decode cX11_plan 32 = .ok (.istore 4, 2) := by decide +kernel
theorem dX11_plan_34 : decode cX11_plan 34 = .ok (.iconst 0, 1) := by decide +kernel
theorem dX11_plan_35 : decode cX11_plan 35 = .ok (.istore 5, 2) := by decide +kernel
theorem dX11_plan_37 : decode cX11_plan 37 = .ok (.iconst 0, 1) := by decide +kernel
theorem dX11_plan_38 : decode cX11_plan 38 = .ok (.istore 6, 2) := by decide +kernel
theorem dX11_plan_40 : decode cX11_plan 40 = .ok (.iload 6, 2) := by decide +kernel
theorem dX11_plan_42 : decode cX11_plan 42 = .ok (.iconst 1, 1) := by decide +kernel
theorem dX11_plan_43 : decode cX11_plan 43 = .ok (.aload_n 0, 1) := by decide +kernel
theorem dX11_plan_44 : decode cX11_plan 44 = .ok (.getfield 22, 3) := by decide +kernel
theorem dX11_plan_47 : decode cX11_plan 47 = .ok (.invokevirtual 97, 3) := by decide +kernel
theorem dX11_plan_50 : decode cX11_plan 50 = .ok (.ishl, 1) := by decide +kernel
theorem dX11_plan_51 : decode cX11_plan 51 = .ok (.if_icmp .ge 54, 3) := by decide +kernel
theorem dX11_plan_54 : decode cX11_plan 54 = .ok (.iload_n 3, 1) := by decide +kernel
theorem dX11_plan_55 : decode cX11_plan 55 = .ok (.aload_n 0, 1) := by decide +kernel
theorem dX11_plan_56 : decode cX11_plan 56 = .ok (.iload 6, 2) := by decide +kernel
theorem dX11_plan_58 : decode cX11_plan 58 = .ok (.invokevirtual 221, 3) := by decide +kernel
theorem dX11_plan_61 : decode cX11_plan 61 = .ok (.iconst (-1), 1) := by decide +kernel
theorem dX11_plan_62 : decode cX11_plan 62 = .ok (.ixor, 1) := by decide +kernel
theorem dX11_plan_63 : decode cX11_plan 63 = .ok (.iand, 1) := by decide +kernel
theorem dX11_plan_64 : decode cX11_plan 64 = .ok (.ifCond .eq 6, 3) := by decide +kernel
theorem dX11_plan_67 : decode cX11_plan 67 = .ok (.goto 32, 3) := by decide +kernel
theorem dX11_plan_70 : decode cX11_plan 70 = .ok (.aload_n 0, 1) := by decide +kernel
theorem dX11_plan_71 : decode cX11_plan 71 = .ok (.iload 6, 2) := by decide +kernel
theorem dX11_plan_73 : decode cX11_plan 73 = .ok (.invokevirtual 224, 3) := by decide +kernel
theorem dX11_plan_76 : decode cX11_plan 76 = .ok (.istore 7, 2) := by decide +kernel
theorem dX11_plan_78 : decode cX11_plan 78 = .ok (.iload 4, 2) := by decide +kernel
theorem dX11_plan_80 : decode cX11_plan 80 = .ok (.iconst (-1), 1) := by decide +kernel
theorem dX11_plan_81 : decode cX11_plan 81 = .ok (.if_icmp .eq 10, 3) := by decide +kernel
theorem dX11_plan_84 : decode cX11_plan 84 = .ok (.iload 7, 2) := by decide +kernel
theorem dX11_plan_86 : decode cX11_plan 86 = .ok (.iload 5, 2) := by decide +kernel
theorem dX11_plan_88 : decode cX11_plan 88 = .ok (.if_icmp .ge 11, 3) := by decide +kernel
theorem dX11_plan_91 : decode cX11_plan 91 = .ok (.iload 6, 2) := by decide +kernel
theorem dX11_plan_93 : decode cX11_plan 93 = .ok (.istore 4, 2) := by decide +kernel
theorem dX11_plan_95 : decode cX11_plan 95 = .ok (.iload 7, 2) := by decide +kernel
theorem dX11_plan_97 : decode cX11_plan 97 = .ok (.istore 5, 2) := by decide +kernel
theorem dX11_plan_99 : decode cX11_plan 99 = .ok (.iinc 6 1, 3) := by decide +kernel
theorem dX11_plan_102 : decode cX11_plan 102 = .ok (.goto (-62), 3) := by decide +kernel
theorem dX11_plan_105 : decode cX11_plan 105 = .ok (.iload 4, 2) := by decide +kernel
theorem dX11_plan_107 : decode cX11_plan 107 = .ok (.iconst (-1), 1) := by decide +kernel
theorem dX11_plan_108 : decode cX11_plan 108 = .ok (.if_icmp .eq 7, 3) := by decide +kernel
theorem dX11_plan_111 : decode cX11_plan 111 = .ok (.iload_n 2, 1) := by decide +kernel
theorem dX11_plan_112 : decode cX11_plan 112 = .ok (.ifCond .ne 8, 3) := by decide +kernel
theorem dX11_plan_115 : decode cX11_plan 115 = .ok (.iload 4, 2) := by decide +kernel
theorem dX11_plan_117 : decode cX11_plan 117 = .ok (.goto 5, 3) := by decide +kernel
theorem dX11_plan_120 : decode cX11_plan 120 = .ok (.iload 5, 2) := by decide +kernel
theorem dX11_plan_122 : decode cX11_plan 122 = .ok (.ireturn, 1) := by decide +kernel
theorem dX11_weighs_0 : decode cX11_weighs 0 = .ok (.iload_n 1, 1) := by decide +kernel
theorem dX11_weighs_1 : decode cX11_weighs 1 = .ok (.aload_n 0, 1) := by decide +kernel
theorem dX11_weighs_2 : decode cX11_weighs 2 = .ok (.getfield 22, 3) := by decide +kernel
theorem dX11_weighs_5 : decode cX11_weighs 5 = .ok (.invokevirtual 97, 3) := by decide +kernel
theorem dX11_weighs_8 : decode cX11_weighs 8 = .ok (.invokestatic 209, 3) := by decide +kernel
theorem dX11_weighs_11 : decode cX11_weighs 11 = .ok (.ifCond .ne 6, 3) := by decide +kernel
theorem dX11_weighs_14 : decode cX11_weighs 14 = .ok (.bipush (-2), 2) := by decide +kernel
theorem dX11_weighs_16 : decode cX11_weighs 16 = .ok (.ireturn, 1) := by decide +kernel
theorem dX11_weighs_17 : decode cX11_weighs 17 = .ok (.aload_n 0, 1) := by decide +kernel
theorem dX11_weighs_18 : decode cX11_weighs 18 = .ok (.iload_n 1, 1) := by decide +kernel
theorem dX11_weighs_19 : decode cX11_weighs 19 = .ok (.invokevirtual 221, 3) := by decide +kernel
theorem dX11_weighs_22 : decode cX11_weighs 22 = .ok (.istore_n 2, 1) := by decide +kernel
theorem dX11_weighs_23 : decode cX11_weighs 23 = .ok (.iconst 0, 1) := by decide +kernel
theorem dX11_weighs_24 : decode cX11_weighs 24 = .ok (.istore_n 3, 1) := by decide +kernel
theorem dX11_weighs_25 : decode cX11_weighs 25 = .ok (.iconst 0, 1) := by decide +kernel
theorem dX11_weighs_26 : decode cX11_weighs 26 = .ok (.istore 4, 2) := by decide +kernel
theorem dX11_weighs_28 : decode cX11_weighs 28 = .ok (.iload 4, 2) := by decide +kernel
theorem dX11_weighs_30 : decode cX11_weighs 30 = .ok (.aload_n 0, 1) := by decide +kernel
theorem dX11_weighs_31 : decode cX11_weighs 31 = .ok (.getfield 19, 3) := by decide +kernel
theorem dX11_weighs_34 : decode cX11_weighs 34 = .ok (.invokevirtual 97, 3) := by decide +kernel
theorem dX11_weighs_37 : decode cX11_weighs 37 = .ok (.if_icmp .ge 43, 3) := by decide +kernel
theorem dX11_weighs_40 : decode cX11_weighs 40 = .ok (.aload_n 0, 1) := by decide +kernel
theorem dX11_weighs_41 : decode cX11_weighs 41 = .ok (.getfield 19, 3) := by decide +kernel
theorem dX11_weighs_44 : decode cX11_weighs 44 = .ok (.iload 4, 2) := by decide +kernel
theorem dX11_weighs_46 : decode cX11_weighs 46 = .ok (.invokevirtual 109, 3) := by decide +kernel
theorem dX11_weighs_49 : decode cX11_weighs 49 = .ok (.checkcast 194, 3) := by decide +kernel
theorem dX11_weighs_52 : decode cX11_weighs 52 = .ok (.astore 5, 2) := by decide +kernel
theorem dX11_weighs_54 : decode cX11_weighs 54 = .ok (.iload_n 2, 1) := by decide +kernel
theorem dX11_weighs_55 : decode cX11_weighs 55 = .ok (.aload 5, 2) := by decide +kernel
theorem dX11_weighs_57 : decode cX11_weighs 57 = .ok (.getfield 227, 3) := by decide +kernel
theorem dX11_weighs_60 : decode cX11_weighs 60 = .ok (.ishr, 1) := by decide +kernel
theorem dX11_weighs_61 : decode cX11_weighs 61 = .ok (.iconst 1, 1) := by decide +kernel
theorem dX11_weighs_62 : decode cX11_weighs 62 = .ok (.iand, 1) := by decide +kernel
theorem dX11_weighs_63 : decode cX11_weighs 63 = .ok (.ifCond .ne 11, 3) := by decide +kernel
theorem dX11_weighs_66 : decode cX11_weighs 66 = .ok (.iload_n 3, 1) := by decide +kernel
theorem dX11_weighs_67 : decode cX11_weighs 67 = .ok (.aload 5, 2) := by decide +kernel
theorem dX11_weighs_69 : decode cX11_weighs 69 = .ok (.invokevirtual 206, 3) := by decide +kernel
theorem dX11_weighs_72 : decode cX11_weighs 72 = .ok (.iadd, 1) := by decide +kernel
theorem dX11_weighs_73 : decode cX11_weighs 73 = .ok (.istore_n 3, 1) := by decide +kernel
theorem dX11_weighs_74 : decode cX11_weighs 74 = .ok (.iinc 4 1, 3) := by decide +kernel
theorem dX11_weighs_77 : decode cX11_weighs 77 = .ok (.goto (-49), 3) := by decide +kernel
theorem dX11_weighs_80 : decode cX11_weighs 80 = .ok (.iload_n 3, 1) := by decide +kernel
theorem dX11_weighs_81 : decode cX11_weighs 81 = .ok (.ireturn, 1) := by decide +kernel
theorem dX11_feed_0 : decode cX11_feed 0 = .ok (.iload_n 1, 1) := by decide +kernel
theorem dX11_feed_1 : decode cX11_feed 1 = .ok (.iconst 1, 1) := by decide +kernel
theorem dX11_feed_2 : decode cX11_feed 2 = .ok (.bipush 8, 2) := by decide +kernel
theorem dX11_feed_4 : decode cX11_feed 4 = .ok (.invokestatic 86, 3) := by decide +kernel
theorem dX11_feed_7 : decode cX11_feed 7 = .ok (.ifCond .ne 6, 3) := by decide +kernel
theorem dX11_feed_10 : decode cX11_feed 10 = .ok (.bipush (-2), 2) := by decide +kernel
theorem dX11_feed_12 : decode cX11_feed 12 = .ok (.ireturn, 1) := by decide +kernel
theorem dX11_feed_13 : decode cX11_feed 13 = .ok (.aload_n 0, 1) := by decide +kernel
theorem dX11_feed_14 : decode cX11_feed 14 = .ok (.getfield 37, 3) := by decide +kernel
theorem dX11_feed_17 : decode cX11_feed 17 = .ok (.getfield 230, 3) := by decide +kernel
theorem dX11_feed_20 : decode cX11_feed 20 = .ok (.iload_n 1, 1) := by decide +kernel
theorem dX11_feed_21 : decode cX11_feed 21 = .ok (.iadd, 1) := by decide +kernel
theorem dX11_feed_22 : decode cX11_feed 22 = .ok (.sipush 160, 3) := by decide +kernel
theorem dX11_feed_25 : decode cX11_feed 25 = .ok (.if_icmp .le 6, 3) := by decide +kernel
theorem dX11_feed_28 : decode cX11_feed 28 = .ok (.bipush (-4), 2) := by decide +kernel
theorem dX11_feed_30 : decode cX11_feed 30 = .ok (.ireturn, 1) := by decide +kernel
theorem dX11_feed_31 : decode cX11_feed 31 = .ok (.iconst 0, 1) := by decide +kernel
theorem dX11_feed_32 : decode cX11_feed 32 = .ok (.istore 4, 2) := by decide +kernel
theorem dX11_feed_34 : decode cX11_feed 34 = .ok (.iload 4, 2) := by decide +kernel
theorem dX11_feed_36 : decode cX11_feed 36 = .ok (.iload_n 1, 1) := by decide +kernel
theorem dX11_feed_37 : decode cX11_feed 37 = .ok (.if_icmp .ge 28, 3) := by decide +kernel
theorem dX11_feed_40 : decode cX11_feed 40 = .ok (.aload_n 0, 1) := by decide +kernel
theorem dX11_feed_41 : decode cX11_feed 41 = .ok (.getfield 37, 3) := by decide +kernel
theorem dX11_feed_44 : decode cX11_feed 44 = .ok (.lload_n 2, 1) := by decide +kernel
theorem dX11_feed_45 : decode cX11_feed 45 = .ok (.bipush 8, 2) := by decide +kernel
theorem dX11_feed_47 : decode cX11_feed 47 = .ok (.iload 4, 2) := by decide +kernel
theorem dX11_feed_49 : decode cX11_feed 49 = .ok (.imul, 1) := by decide +kernel
theorem dX11_feed_50 : decode cX11_feed 50 = .ok (.lushr, 1) := by decide +kernel
theorem dX11_feed_51 : decode cX11_feed 51 = .ok (.l2i, 1) := by decide +kernel
theorem dX11_feed_52 : decode cX11_feed 52 = .ok (.sipush 255, 3) := by decide +kernel
theorem dX11_feed_55 : decode cX11_feed 55 = .ok (.iand, 1) := by decide +kernel
theorem dX11_feed_56 : decode cX11_feed 56 = .ok (.invokevirtual 78, 3) := by decide +kernel
theorem dX11_feed_59 : decode cX11_feed 59 = .ok (.iinc 4 1, 3) := by decide +kernel
theorem dX11_feed_62 : decode cX11_feed 62 = .ok (.goto (-28), 3) := by decide +kernel
theorem dX11_feed_65 : decode cX11_feed 65 = .ok (.aload_n 0, 1) := by decide +kernel
theorem dX11_feed_66 : decode cX11_feed 66 = .ok (.getfield 37, 3) := by decide +kernel
theorem dX11_feed_69 : decode cX11_feed 69 = .ok (.getfield 230, 3) := by decide +kernel
theorem dX11_feed_72 : decode cX11_feed 72 = .ok (.ireturn, 1) := by decide +kernel
theorem dX11_text_0 : decode cX11_text 0 = .ok (.aload_n 0, 1) := by decide +kernel
theorem dX11_text_1 : decode cX11_text 1 = .ok (.getfield 25, 3) := by decide +kernel
theorem dX11_text_4 : decode cX11_text 4 = .ok (.invokevirtual 97, 3) := by decide +kernel
theorem dX11_text_7 : decode cX11_text 7 = .ok (.bipush 6, 2) := by decide +kernel
theorem dX11_text_9 : decode cX11_text 9 = .ok (.if_icmp .lt 6, 3) := by decide +kernel
theorem dX11_text_12 : decode cX11_text 12 = .ok (.bipush (-4), 2) := by decide +kernel
theorem dX11_text_14 : decode cX11_text 14 = .ok (.ireturn, 1) := by decide +kernel
theorem dX11_text_15 : decode cX11_text 15 = .ok (.aload_n 0, 1) := by decide +kernel
theorem dX11_text_16 : decode cX11_text 16 = .ok (.invokevirtual 82, 3) := by decide +kernel
theorem dX11_text_19 : decode cX11_text 19 = .ok (.istore_n 1, 1) := by decide +kernel
theorem dX11_text_20 : decode cX11_text 20 = .ok (.iload_n 1, 1) := by decide +kernel
theorem dX11_text_21 : decode cX11_text 21 = .ok (.iconst (-1), 1) := by decide +kernel
theorem dX11_text_22 : decode cX11_text 22 = .ok (.if_icmp .ne 15, 3) := by decide +kernel
theorem dX11_text_25 : decode cX11_text 25 = .ok (.aload_n 0, 1) := by decide +kernel
theorem dX11_text_26 : decode cX11_text 26 = .ok (.getfield 25, 3) := by decide +kernel
theorem dX11_text_29 : decode cX11_text 29 = .ok (.invokevirtual 97, 3) := by decide +kernel
theorem dX11_text_32 : decode cX11_text 32 = .ok (.iconst 1, 1) := by decide +kernel
theorem dX11_text_33 : decode cX11_text 33 = .ok (.isub, 1) := by decide +kernel
theorem dX11_text_34 : decode cX11_text 34 = .ok (.goto 7, 3) := by decide +kernel
theorem dX11_text_37 : decode cX11_text 37 = .ok (.bipush (-100), 2) := by decide +kernel
theorem dX11_text_39 : decode cX11_text 39 = .ok (.iload_n 1, 1) := by decide +kernel
theorem dX11_text_40 : decode cX11_text 40 = .ok (.isub, 1) := by decide +kernel
theorem dX11_text_41 : decode cX11_text 41 = .ok (.ireturn, 1) := by decide +kernel
theorem dX11_force_0 : decode cX11_force 0 = .ok (.iload_n 1, 1) := by decide +kernel
theorem dX11_force_1 : decode cX11_force 1 = .ok (.aload_n 0, 1) := by decide +kernel
theorem dX11_force_2 : decode cX11_force 2 = .ok (.getfield 25, 3) := by decide +kernel
theorem dX11_force_5 : decode cX11_force 5 = .ok (.invokevirtual 97, 3) := by decide +kernel
theorem dX11_force_8 : decode cX11_force 8 = .ok (.invokestatic 103, 3) := by decide +kernel
theorem dX11_force_11 : decode cX11_force 11 = .ok (.ifCond .ne 6, 3) := by decide +kernel
theorem dX11_force_14 : decode cX11_force 14 = .ok (.bipush (-2), 2) := by decide +kernel
theorem dX11_force_16 : decode cX11_force 16 = .ok (.ireturn, 1) := by decide +kernel
theorem dX11_force_17 : decode cX11_force 17 = .ok (.aload_n 0, 1) := by decide +kernel
theorem dX11_force_18 : decode cX11_force 18 = .ok (.getfield 232, 3) := by decide +kernel
theorem dX11_force_21 : decode cX11_force 21 = .ok (.istore_n 2, 1) := by decide +kernel
theorem dX11_force_22 : decode cX11_force 22 = .ok (.aload_n 0, 1) := by decide +kernel
theorem dX11_force_23 : decode cX11_force 23 = .ok (.iload_n 1, 1) := by decide +kernel
theorem dX11_force_24 : decode cX11_force 24 = .ok (.putfield 232, 3) := by decide +kernel
theorem dX11_force_27 : decode cX11_force 27 = .ok (.iload_n 2, 1) := by decide +kernel
theorem dX11_force_28 : decode cX11_force 28 = .ok (.ireturn, 1) := by decide +kernel
theorem dX11_series_0 : decode cX11_series 0 = .ok (.iload_n 1, 1) := by decide +kernel
theorem dX11_series_1 : decode cX11_series 1 = .ok (.bipush 8, 2) := by decide +kernel
theorem dX11_series_3 : decode cX11_series 3 = .ok (.invokestatic 103, 3) := by decide +kernel
theorem dX11_series_6 : decode cX11_series 6 = .ok (.ifCond .eq 20, 3) := by decide +kernel
theorem dX11_series_9 : decode cX11_series 9 = .ok (.iload_n 2, 1) := by decide +kernel
theorem dX11_series_10 : decode cX11_series 10 = .ok (.iconst 2, 1) := by decide +kernel
theorem dX11_series_11 : decode cX11_series 11 = .ok (.invokestatic 103, 3) := by decide +kernel
theorem dX11_series_14 : decode cX11_series 14 = .ok (.ifCond .eq 12, 3) := by decide +kernel
theorem dX11_series_17 : decode cX11_series 17 = .ok (.iload_n 3, 1) := by decide +kernel
theorem dX11_series_18 : decode cX11_series 18 = .ok (.bipush 6, 2) := by decide +kernel
theorem dX11_series_20 : decode cX11_series 20 = .ok (.invokestatic 103, 3) := by decide +kernel
theorem dX11_series_23 : decode cX11_series 23 = .ok (.ifCond .ne 7, 3) := by decide +kernel
theorem dX11_series_26 : decode cX11_series 26 = .ok (.ldc2_w 180, 3) := by decide +kernel
theorem dX11_series_29 : decode cX11_series 29 = .ok (.lreturn, 1) := by decide +kernel
theorem dX11_series_30 : decode cX11_series 30 = .ok (.iconst 0, 1) := by decide +kernel
theorem dX11_series_31 : decode cX11_series 31 = .ok (.istore 4, 2) := by decide +kernel
theorem dX11_series_33 : decode cX11_series 33 = .ok (.iconst 0, 1) := by decide +kernel
theorem dX11_series_34 : decode cX11_series 34 = .ok (.istore 5, 2) := by decide +kernel
theorem dX11_series_36 : decode cX11_series 36 = .ok (.new 235, 3) := by decide +kernel
theorem dX11_series_39 : decode cX11_series 39 = .ok (.dup, 1) := by decide +kernel
theorem dX11_series_40 : decode cX11_series 40 = .ok (.invokespecial 237, 3) := by decide +kernel
theorem dX11_series_43 : decode cX11_series 43 = .ok (.astore 6, 2) := by decide +kernel
theorem dX11_series_45 : decode cX11_series 45 = .ok (.iconst 0, 1) := by decide +kernel
theorem dX11_series_46 : decode cX11_series 46 = .ok (.istore 7, 2) := by decide +kernel
theorem dX11_series_48 : decode cX11_series 48 = .ok (.iload 7, 2) := by decide +kernel
theorem dX11_series_50 : decode cX11_series 50 = .ok (.aload_n 0, 1) := by decide +kernel
theorem dX11_series_51 : decode cX11_series 51 = .ok (.getfield 16, 3) := by decide +kernel
theorem dX11_series_54 : decode cX11_series 54 = .ok (.invokevirtual 97, 3) := by decide +kernel
theorem dX11_series_57 : decode cX11_series 57 = .ok (.if_icmp .ge 98, 3) := by decide +kernel
theorem dX11_series_60 : decode cX11_series 60 = .ok (.aload_n 0, 1) := by decide +kernel
theorem dX11_series_61 : decode cX11_series 61 = .ok (.getfield 16, 3) := by decide +kernel
theorem dX11_series_64 : decode cX11_series 64 = .ok (.iload 7, 2) := by decide +kernel
theorem dX11_series_66 : decode cX11_series 66 = .ok (.invokevirtual 109, 3) := by decide +kernel
theorem dX11_series_69 : decode cX11_series 69 = .ok (.checkcast 107, 3) := by decide +kernel
theorem dX11_series_72 : decode cX11_series 72 = .ok (.astore 8, 2) := by decide +kernel
theorem dX11_series_74 : decode cX11_series 74 = .ok (.aload 8, 2) := by decide +kernel
theorem dX11_series_76 : decode cX11_series 76 = .ok (.getfield 150, 3) := by decide +kernel
theorem dX11_series_79 : decode cX11_series 79 = .ok (.iload_n 1, 1) := by decide +kernel
theorem dX11_series_80 : decode cX11_series 80 = .ok (.if_icmp .ne 69, 3) := by decide +kernel
theorem dX11_series_83 : decode cX11_series 83 = .ok (.iload_n 2, 1) := by decide +kernel
theorem dX11_series_84 : decode cX11_series 84 = .ok (.iconst 1, 1) := by decide +kernel
theorem dX11_series_85 : decode cX11_series 85 = .ok (.if_icmp .ne 16, 3) := by decide +kernel
theorem dX11_series_88 : decode cX11_series 88 = .ok (.aload_n 0, 1) := by decide +kernel
theorem dX11_series_89 : decode cX11_series 89 = .ok (.iload 7, 2) := by decide +kernel
theorem dX11_series_91 : decode cX11_series 91 = .ok (.iconst 1, 1) := by decide +kernel
theorem dX11_series_92 : decode cX11_series 92 = .ok (.invokevirtual 177, 3) := by decide +kernel
theorem dX11_series_95 : decode cX11_series 95 = .ok (.ifCond .ne 6, 3) := by decide +kernel
theorem dX11_series_98 : decode cX11_series 98 = .ok (.goto 51, 3) := by decide +kernel
theorem dX11_series_101 : decode cX11_series 101 = .ok (.iinc 4 1, 3) := by decide +kernel
theorem dX11_series_104 : decode cX11_series 104 = .ok (.iload 5, 2) := by decide +kernel
theorem dX11_series_106 : decode cX11_series 106 = .ok (.aload 8, 2) := by decide +kernel
theorem dX11_series_108 : decode cX11_series 108 = .ok (.invokevirtual 143, 3) := by decide +kernel
theorem dX11_series_111 : decode cX11_series 111 = .ok (.iadd, 1) := by decide +kernel
theorem dX11_series_112 : decode cX11_series 112 = .ok (.istore 5, 2) := by decide +kernel
theorem dX11_series_114 : decode cX11_series 114 = .ok (.aload 6, 2) := by decide +kernel
theorem dX11_series_116 : decode cX11_series 116 = .ok (.aload 8, 2) := by decide +kernel
theorem dX11_series_118 : decode cX11_series 118 = .ok (.invokevirtual 238, 3) := by decide +kernel
theorem dX11_series_121 : decode cX11_series 121 = .ok (.i2l, 1) := by decide +kernel
theorem dX11_series_122 : decode cX11_series 122 = .ok (.aload 8, 2) := by decide +kernel
theorem dX11_series_124 : decode cX11_series 124 = .ok (.getfield 119, 3) := by decide +kernel
theorem dX11_series_127 : decode cX11_series 127 = .ok (.arraylength, 1) := by decide +kernel
theorem dX11_series_128 : decode cX11_series 128 = .ok (.i2l, 1) := by decide +kernel
theorem dX11_series_129 : decode cX11_series 129 = .ok (.invokevirtual 241, 3) := by decide +kernel
theorem dX11_series_132 : decode cX11_series 132 = .ok (.iload_n 2, 1) := by decide +kernel
theorem dX11_series_133 : decode cX11_series 133 = .ok (.ifCond .ne 16, 3) := by decide +kernel
theorem dX11_series_136 : decode cX11_series 136 = .ok (.aload_n 0, 1) := by decide +kernel
theorem dX11_series_137 : decode cX11_series 137 = .ok (.iload 7, 2) := by decide +kernel
theorem dX11_series_139 : decode cX11_series 139 = .ok (.iconst 0, 1) := by decide +kernel
theorem dX11_series_140 : decode cX11_series 140 = .ok (.invokevirtual 177, 3) := by decide +kernel
theorem dX11_series_143 : decode cX11_series 143 = .ok (.ifCond .eq 6, 3) := by decide +kernel
theorem dX11_series_146 : decode cX11_series 146 = .ok (.goto 9, 3) := by decide +kernel
theorem dX11_series_149 : decode cX11_series 149 = .ok (.iinc 7 1, 3) := by decide +kernel
theorem dX11_series_152 : decode cX11_series 152 = .ok (.goto (-104), 3) := by decide +kernel
theorem dX11_series_155 : decode cX11_series 155 = .ok (.iload_n 3, 1) := by decide +kernel
theorem dX11_series_156 : decode cX11_series 156 = .ok (.tableswitch 72 0 4 #[36, 40, 44, 50, 56], 36) := by decide +kernel
theorem dX11_series_192 : decode cX11_series 192 = .ok (.iload 4, 2) := by decide +kernel
theorem dX11_series_194 : decode cX11_series 194 = .ok (.i2l, 1) := by decide +kernel
theorem dX11_series_195 : decode cX11_series 195 = .ok (.lreturn, 1) := by decide +kernel
theorem dX11_series_196 : decode cX11_series 196 = .ok (.iload 5, 2) := by decide +kernel
theorem dX11_series_198 : decode cX11_series 198 = .ok (.i2l, 1) := by decide +kernel
theorem dX11_series_199 : decode cX11_series 199 = .ok (.lreturn, 1) := by decide +kernel
theorem dX11_series_200 : decode cX11_series 200 = .ok (.aload 6, 2) := by decide +kernel
theorem dX11_series_202 : decode cX11_series 202 = .ok (.getfield 244, 3) := by decide +kernel
theorem dX11_series_205 : decode cX11_series 205 = .ok (.lreturn, 1) := by decide +kernel
theorem dX11_series_206 : decode cX11_series 206 = .ok (.aload 6, 2) := by decide +kernel
theorem dX11_series_208 : decode cX11_series 208 = .ok (.getfield 248, 3) := by decide +kernel
theorem dX11_series_211 : decode cX11_series 211 = .ok (.lreturn, 1) := by decide +kernel
theorem dX11_series_212 : decode cX11_series 212 = .ok (.iload 5, 2) := by decide +kernel
theorem dX11_series_214 : decode cX11_series 214 = .ok (.i2l, 1) := by decide +kernel
theorem dX11_series_215 : decode cX11_series 215 = .ok (.aload 6, 2) := by decide +kernel
theorem dX11_series_217 : decode cX11_series 217 = .ok (.getfield 248, 3) := by decide +kernel
theorem dX11_series_220 : decode cX11_series 220 = .ok (.lmul, 1) := by decide +kernel
theorem dX11_series_221 : decode cX11_series 221 = .ok (.aload 6, 2) := by decide +kernel
theorem dX11_series_223 : decode cX11_series 223 = .ok (.getfield 244, 3) := by decide +kernel
theorem dX11_series_226 : decode cX11_series 226 = .ok (.lsub, 1) := by decide +kernel
theorem dX11_series_227 : decode cX11_series 227 = .ok (.lreturn, 1) := by decide +kernel
theorem dX11_series_228 : decode cX11_series 228 = .ok (.aload 6, 2) := by decide +kernel
theorem dX11_series_230 : decode cX11_series 230 = .ok (.getfield 248, 3) := by decide +kernel
theorem dX11_series_233 : decode cX11_series 233 = .ok (.lreturn, 1) := by decide +kernel
theorem dX11_best_0 : decode cX11_best 0 = .ok (.iload_n 1, 1) := by decide +kernel
theorem dX11_best_1 : decode cX11_best 1 = .ok (.iconst 0, 1) := by decide +kernel
theorem dX11_best_2 : decode cX11_best 2 = .ok (.bipush 100, 2) := by decide +kernel
theorem dX11_best_4 : decode cX11_best 4 = .ok (.invokestatic 86, 3) := by decide +kernel
theorem dX11_best_7 : decode cX11_best 7 = .ok (.ifCond .ne 6, 3) := by decide +kernel
theorem dX11_best_10 : decode cX11_best 10 = .ok (.bipush (-2), 2) := by decide +kernel
theorem dX11_best_12 : decode cX11_best 12 = .ok (.ireturn, 1) := by decide +kernel
theorem dX11_best_13 : decode cX11_best 13 = .ok (.iconst (-1), 1) := by decide +kernel
theorem dX11_best_14 : decode cX11_best 14 = .ok (.istore_n 2, 1) := by decide +kernel
theorem dX11_best_15 : decode cX11_best 15 = .ok (.iconst 0, 1) := by decide +kernel
theorem dX11_best_16 : decode cX11_best 16 = .ok (.istore_n 3, 1) := by decide +kernel
theorem dX11_best_17 : decode cX11_best 17 = .ok (.iconst 0, 1) := by decide +kernel
theorem dX11_best_18 : decode cX11_best 18 = .ok (.istore 4, 2) := by decide +kernel
theorem dX11_best_20 : decode cX11_best 20 = .ok (.iconst 0, 1) := by decide +kernel
theorem dX11_best_21 : decode cX11_best 21 = .ok (.istore 5, 2) := by decide +kernel
theorem dX11_best_23 : decode cX11_best 23 = .ok (.iload 5, 2) := by decide +kernel
theorem dX11_best_25 : decode cX11_best 25 = .ok (.bipush 8, 2) := by decide +kernel
theorem dX11_best_27 : decode cX11_best 27 = .ok (.if_icmp .ge 61, 3) := by decide +kernel
theorem dX11_best_30 : decode cX11_best 30 = .ok (.aload_n 0, 1) := by decide +kernel
theorem dX11_best_31 : decode cX11_best 31 = .ok (.iload 5, 2) := by decide +kernel
theorem dX11_best_33 : decode cX11_best 33 = .ok (.iconst 0, 1) := by decide +kernel
theorem dX11_best_34 : decode cX11_best 34 = .ok (.iload_n 1, 1) := by decide +kernel
theorem dX11_best_35 : decode cX11_best 35 = .ok (.invokevirtual 251, 3) := by decide +kernel
theorem dX11_best_38 : decode cX11_best 38 = .ok (.istore 6, 2) := by decide +kernel
theorem dX11_best_40 : decode cX11_best 40 = .ok (.aload_n 0, 1) := by decide +kernel
theorem dX11_best_41 : decode cX11_best 41 = .ok (.iload 5, 2) := by decide +kernel
theorem dX11_best_43 : decode cX11_best 43 = .ok (.iconst 0, 1) := by decide +kernel
theorem dX11_best_44 : decode cX11_best 44 = .ok (.iload_n 1, 1) := by decide +kernel
theorem dX11_best_45 : decode cX11_best 45 = .ok (.invokevirtual 255, 3) := by decide +kernel
theorem dX11_best_48 : decode cX11_best 48 = .ok (.istore 7, 2) := by decide +kernel
theorem dX11_best_50 : decode cX11_best 50 = .ok (.iload 7, 2) := by decide +kernel
theorem dX11_best_52 : decode cX11_best 52 = .ok (.ifCond .le 30, 3) := by decide +kernel
theorem dX11_best_55 : decode cX11_best 55 = .ok (.iload_n 2, 1) := by decide +kernel
theorem dX11_best_56 : decode cX11_best 56 = .ok (.iconst (-1), 1) := by decide +kernel
theorem dX11_best_57 : decode cX11_best 57 = .ok (.if_icmp .eq 15, 3) := by decide +kernel
theorem dX11_best_60 : decode cX11_best 60 = .ok (.iload 6, 2) := by decide +kernel
theorem dX11_best_62 : decode cX11_best 62 = .ok (.iload 4, 2) := by decide +kernel
theorem dX11_best_64 : decode cX11_best 64 = .ok (.imul, 1) := by decide +kernel
theorem dX11_best_65 : decode cX11_best 65 = .ok (.iload_n 3, 1) := by decide +kernel
theorem dX11_best_66 : decode cX11_best 66 = .ok (.iload 7, 2) := by decide +kernel
theorem dX11_best_68 : decode cX11_best 68 = .ok (.imul, 1) := by decide +kernel
theorem dX11_best_69 : decode cX11_best 69 = .ok (.if_icmp .le 13, 3) := by decide +kernel
theorem dX11_best_72 : decode cX11_best 72 = .ok (.iload 5, 2) := by decide +kernel
theorem dX11_best_74 : decode cX11_best 74 = .ok (.istore_n 2, 1) := by decide +kernel
theorem dX11_best_75 : decode cX11_best 75 = .ok (.iload 6, 2) := by decide +kernel
theorem dX11_best_77 : decode cX11_best 77 = .ok (.istore_n 3, 1) := by decide +kernel
theorem dX11_best_78 : decode cX11_best 78 = .ok (.iload 7, 2) := by decide +kernel
theorem dX11_best_80 : decode cX11_best 80 = .ok (.istore 4, 2) := by decide +kernel
theorem dX11_best_82 : decode cX11_best 82 = .ok (.iinc 5 1, 3) := by decide +kernel
theorem dX11_best_85 : decode cX11_best 85 = .ok (.goto (-62), 3) := by decide +kernel
theorem dX11_best_88 : decode cX11_best 88 = .ok (.iload_n 2, 1) := by decide +kernel
theorem dX11_best_89 : decode cX11_best 89 = .ok (.ireturn, 1) := by decide +kernel
theorem dX11_falls_0 : decode cX11_falls 0 = .ok (.iload_n 1, 1) := by decide +kernel
theorem dX11_falls_1 : decode cX11_falls 1 = .ok (.bipush 8, 2) := by decide +kernel
theorem dX11_falls_3 : decode cX11_falls 3 = .ok (.invokestatic 103, 3) := by decide +kernel
theorem dX11_falls_6 : decode cX11_falls 6 = .ok (.ifCond .eq 21, 3) := by decide +kernel
theorem dX11_falls_9 : decode cX11_falls 9 = .ok (.iload_n 2, 1) := by decide +kernel
theorem dX11_falls_10 : decode cX11_falls 10 = .ok (.iconst 0, 1) := by decide +kernel
theorem dX11_falls_11 : decode cX11_falls 11 = .ok (.bipush 100, 2) := by decide +kernel
theorem dX11_falls_13 : decode cX11_falls 13 = .ok (.invokestatic 86, 3) := by decide +kernel
theorem dX11_falls_16 : decode cX11_falls 16 = .ok (.ifCond .eq 11, 3) := by decide +kernel
theorem dX11_falls_19 : decode cX11_falls 19 = .ok (.iload_n 3, 1) := by decide +kernel
theorem dX11_falls_20 : decode cX11_falls 20 = .ok (.iconst 2, 1) := by decide +kernel
theorem dX11_falls_21 : decode cX11_falls 21 = .ok (.invokestatic 103, 3) := by decide +kernel
theorem dX11_falls_24 : decode cX11_falls 24 = .ok (.ifCond .ne 7, 3) := by decide +kernel
theorem dX11_falls_27 : decode cX11_falls 27 = .ok (.ldc2_w 180, 3) := by decide +kernel
theorem dX11_falls_30 : decode cX11_falls 30 = .ok (.lreturn, 1) := by decide +kernel
theorem dX11_falls_31 : decode cX11_falls 31 = .ok (.new 235, 3) := by decide +kernel
theorem dX11_falls_34 : decode cX11_falls 34 = .ok (.dup, 1) := by decide +kernel
theorem dX11_falls_35 : decode cX11_falls 35 = .ok (.invokespecial 237, 3) := by decide +kernel
theorem dX11_falls_38 : decode cX11_falls 38 = .ok (.astore 4, 2) := by decide +kernel
theorem dX11_falls_40 : decode cX11_falls 40 = .ok (.aload_n 0, 1) := by decide +kernel
theorem dX11_falls_41 : decode cX11_falls 41 = .ok (.iload_n 1, 1) := by decide +kernel
theorem dX11_falls_42 : decode cX11_falls 42 = .ok (.iconst 0, 1) := by decide +kernel
theorem dX11_falls_43 : decode cX11_falls 43 = .ok (.iload_n 2, 1) := by decide +kernel
theorem dX11_falls_44 : decode cX11_falls 44 = .ok (.invokevirtual 255, 3) := by decide +kernel
theorem dX11_falls_47 : decode cX11_falls 47 = .ok (.istore 5, 2) := by decide +kernel
theorem dX11_falls_49 : decode cX11_falls 49 = .ok (.aload_n 0, 1) := by decide +kernel
theorem dX11_falls_50 : decode cX11_falls 50 = .ok (.iload_n 1, 1) := by decide +kernel
theorem dX11_falls_51 : decode cX11_falls 51 = .ok (.iload_n 2, 1) := by decide +kernel
theorem dX11_falls_52 : decode cX11_falls 52 = .ok (.bipush 100, 2) := by decide +kernel
theorem dX11_falls_54 : decode cX11_falls 54 = .ok (.invokevirtual 255, 3) := by decide +kernel
theorem dX11_falls_57 : decode cX11_falls 57 = .ok (.istore 6, 2) := by decide +kernel
theorem dX11_falls_59 : decode cX11_falls 59 = .ok (.iload 5, 2) := by decide +kernel
theorem dX11_falls_61 : decode cX11_falls 61 = .ok (.ifCond .le 42, 3) := by decide +kernel
theorem dX11_falls_64 : decode cX11_falls 64 = .ok (.iload 6, 2) := by decide +kernel
theorem dX11_falls_66 : decode cX11_falls 66 = .ok (.ifCond .le 37, 3) := by decide +kernel
theorem dX11_falls_69 : decode cX11_falls 69 = .ok (.aload 4, 2) := by decide +kernel
theorem dX11_falls_71 : decode cX11_falls 71 = .ok (.aload_n 0, 1) := by decide +kernel
theorem dX11_falls_72 : decode cX11_falls 72 = .ok (.iload_n 1, 1) := by decide +kernel
theorem dX11_falls_73 : decode cX11_falls 73 = .ok (.iconst 0, 1) := by decide +kernel
theorem dX11_falls_74 : decode cX11_falls 74 = .ok (.iload_n 2, 1) := by decide +kernel
theorem dX11_falls_75 : decode cX11_falls 75 = .ok (.invokevirtual 251, 3) := by decide +kernel
theorem dX11_falls_78 : decode cX11_falls 78 = .ok (.i2l, 1) := by decide +kernel
theorem dX11_falls_79 : decode cX11_falls 79 = .ok (.iload 5, 2) := by decide +kernel
theorem dX11_falls_81 : decode cX11_falls 81 = .ok (.i2l, 1) := by decide +kernel
theorem dX11_falls_82 : decode cX11_falls 82 = .ok (.invokevirtual 241, 3) := by decide +kernel
theorem dX11_falls_85 : decode cX11_falls 85 = .ok (.aload 4, 2) := by decide +kernel
theorem dX11_falls_87 : decode cX11_falls 87 = .ok (.aload_n 0, 1) := by decide +kernel
theorem dX11_falls_88 : decode cX11_falls 88 = .ok (.iload_n 1, 1) := by decide +kernel
theorem dX11_falls_89 : decode cX11_falls 89 = .ok (.iload_n 2, 1) := by decide +kernel
theorem dX11_falls_90 : decode cX11_falls 90 = .ok (.bipush 100, 2) := by decide +kernel
theorem dX11_falls_92 : decode cX11_falls 92 = .ok (.invokevirtual 251, 3) := by decide +kernel
theorem dX11_falls_95 : decode cX11_falls 95 = .ok (.ineg, 1) := by decide +kernel
theorem dX11_falls_96 : decode cX11_falls 96 = .ok (.i2l, 1) := by decide +kernel
theorem dX11_falls_97 : decode cX11_falls 97 = .ok (.iload 6, 2) := by decide +kernel
theorem dX11_falls_99 : decode cX11_falls 99 = .ok (.i2l, 1) := by decide +kernel
theorem dX11_falls_100 : decode cX11_falls 100 = .ok (.invokevirtual 241, 3) := by decide +kernel
theorem dX11_falls_103 : decode cX11_falls 103 = .ok (.iload_n 3, 1) := by decide +kernel
theorem dX11_falls_104 : decode cX11_falls 104 = .ok (.ifCond .ne 11, 3) := by decide +kernel
theorem dX11_falls_107 : decode cX11_falls 107 = .ok (.aload 4, 2) := by decide +kernel
theorem dX11_falls_109 : decode cX11_falls 109 = .ok (.getfield 244, 3) := by decide +kernel
theorem dX11_falls_112 : decode cX11_falls 112 = .ok (.goto 8, 3) := by decide +kernel
theorem dX11_falls_115 : decode cX11_falls 115 = .ok (.aload 4, 2) := by decide +kernel
theorem dX11_falls_117 : decode cX11_falls 117 = .ok (.getfield 248, 3) := by decide +kernel
theorem dX11_falls_120 : decode cX11_falls 120 = .ok (.lreturn, 1) := by decide +kernel
theorem dX11_mixed_0 : decode cX11_mixed 0 = .ok (.iload_n 1, 1) := by decide +kernel
theorem dX11_mixed_1 : decode cX11_mixed 1 = .ok (.aload_n 0, 1) := by decide +kernel
theorem dX11_mixed_2 : decode cX11_mixed 2 = .ok (.getfield 16, 3) := by decide +kernel
theorem dX11_mixed_5 : decode cX11_mixed 5 = .ok (.invokevirtual 97, 3) := by decide +kernel
theorem dX11_mixed_8 : decode cX11_mixed 8 = .ok (.invokestatic 103, 3) := by decide +kernel
theorem dX11_mixed_11 : decode cX11_mixed 11 = .ok (.ifCond .eq 23, 3) := by decide +kernel
theorem dX11_mixed_14 : decode cX11_mixed 14 = .ok (.iload_n 2, 1) := by decide +kernel
theorem dX11_mixed_15 : decode cX11_mixed 15 = .ok (.iconst 0, 1) := by decide +kernel
theorem dX11_mixed_16 : decode cX11_mixed 16 = .ok (.ldc 85, 2) := by decide +kernel
theorem dX11_mixed_18 : decode cX11_mixed 18 = .ok (.invokestatic 86, 3) := by decide +kernel
theorem dX11_mixed_21 : decode cX11_mixed 21 = .ok (.ifCond .eq 13, 3) := by decide +kernel
theorem dX11_mixed_24 : decode cX11_mixed 24 = .ok (.iload_n 3, 1) := by decide +kernel
theorem dX11_mixed_25 : decode cX11_mixed 25 = .ok (.iconst 1, 1) := by decide +kernel
theorem dX11_mixed_26 : decode cX11_mixed 26 = .ok (.bipush 50, 2) := by decide +kernel
theorem dX11_mixed_28 : decode cX11_mixed 28 = .ok (.invokestatic 86, 3) := by decide +kernel
theorem dX11_mixed_31 : decode cX11_mixed 31 = .ok (.ifCond .ne 6, 3) := by decide +kernel
theorem dX11_mixed_34 : decode cX11_mixed 34 = .ok (.bipush (-2), 2) := by decide +kernel
theorem dX11_mixed_36 : decode cX11_mixed 36 = .ok (.ireturn, 1) := by decide +kernel
theorem dX11_mixed_37 : decode cX11_mixed 37 = .ok (.aload_n 0, 1) := by decide +kernel
theorem dX11_mixed_38 : decode cX11_mixed 38 = .ok (.getfield 16, 3) := by decide +kernel
theorem dX11_mixed_41 : decode cX11_mixed 41 = .ok (.iload_n 1, 1) := by decide +kernel
theorem dX11_mixed_42 : decode cX11_mixed 42 = .ok (.invokevirtual 109, 3) := by decide +kernel
theorem dX11_mixed_45 : decode cX11_mixed 45 = .ok (.checkcast 107, 3) := by decide +kernel
theorem dX11_mixed_48 : decode cX11_mixed 48 = .ok (.astore 4, 2) := by decide +kernel
theorem dX11_mixed_50 : decode cX11_mixed 50 = .ok (.aload 4, 2) := by decide +kernel
theorem dX11_mixed_52 : decode cX11_mixed 52 = .ok (.invokevirtual 143, 3) := by decide +kernel
theorem dX11_mixed_55 : decode cX11_mixed 55 = .ok (.istore 5, 2) := by decide +kernel
theorem dX11_mixed_57 : decode cX11_mixed 57 = .ok (.iconst 0, 1) := by decide +kernel
theorem dX11_mixed_58 : decode cX11_mixed 58 = .ok (.istore 6, 2) := by decide +kernel
theorem dX11_mixed_60 : decode cX11_mixed 60 = .ok (.iconst 0, 1) := by decide +kernel
theorem dX11_mixed_61 : decode cX11_mixed 61 = .ok (.istore 7, 2) := by decide +kernel
theorem dX11_mixed_63 : decode cX11_mixed 63 = .ok (.iload 7, 2) := by decide +kernel
theorem dX11_mixed_65 : decode cX11_mixed 65 = .ok (.iload_n 3, 1) := by decide +kernel
theorem dX11_mixed_66 : decode cX11_mixed 66 = .ok (.if_icmp .ge 26, 3) := by decide +kernel
theorem dX11_mixed_69 : decode cX11_mixed 69 = .ok (.aload 4, 2) := by decide +kernel
theorem dX11_mixed_71 : decode cX11_mixed 71 = .ok (.iload_n 2, 1) := by decide +kernel
theorem dX11_mixed_72 : decode cX11_mixed 72 = .ok (.iload 7, 2) := by decide +kernel
theorem dX11_mixed_74 : decode cX11_mixed 74 = .ok (.iadd, 1) := by decide +kernel
theorem dX11_mixed_75 : decode cX11_mixed 75 = .ok (.invokevirtual 258, 3) := by decide +kernel
theorem dX11_mixed_78 : decode cX11_mixed 78 = .ok (.iload 5, 2) := by decide +kernel
theorem dX11_mixed_80 : decode cX11_mixed 80 = .ok (.if_icmp .lt 6, 3) := by decide +kernel
theorem dX11_mixed_83 : decode cX11_mixed 83 = .ok (.iinc 6 1, 3) := by decide +kernel
theorem dX11_mixed_86 : decode cX11_mixed 86 = .ok (.iinc 7 1, 3) := by decide +kernel
theorem dX11_mixed_89 : decode cX11_mixed 89 = .ok (.goto (-26), 3) := by decide +kernel
theorem dX11_mixed_92 : decode cX11_mixed 92 = .ok (.iload 6, 2) := by decide +kernel
theorem dX11_mixed_94 : decode cX11_mixed 94 = .ok (.ireturn, 1) := by decide +kernel
theorem dX11_image_0 : decode cX11_image 0 = .ok (.aload_n 0, 1) := by decide +kernel
theorem dX11_image_1 : decode cX11_image 1 = .ok (.aload_n 0, 1) := by decide +kernel
theorem dX11_image_2 : decode cX11_image 2 = .ok (.getfield 16, 3) := by decide +kernel
theorem dX11_image_5 : decode cX11_image 5 = .ok (.invokevirtual 97, 3) := by decide +kernel
theorem dX11_image_8 : decode cX11_image 8 = .ok (.putfield 61, 3) := by decide +kernel
theorem dX11_image_11 : decode cX11_image 11 = .ok (.aload_n 0, 1) := by decide +kernel
theorem dX11_image_12 : decode cX11_image 12 = .ok (.aload_n 0, 1) := by decide +kernel
theorem dX11_image_13 : decode cX11_image 13 = .ok (.getfield 19, 3) := by decide +kernel
theorem dX11_image_16 : decode cX11_image 16 = .ok (.invokevirtual 97, 3) := by decide +kernel
theorem dX11_image_19 : decode cX11_image 19 = .ok (.putfield 261, 3) := by decide +kernel
theorem dX11_image_22 : decode cX11_image 22 = .ok (.aload_n 0, 1) := by decide +kernel
theorem dX11_image_23 : decode cX11_image 23 = .ok (.aload_n 0, 1) := by decide +kernel
theorem dX11_image_24 : decode cX11_image 24 = .ok (.getfield 232, 3) := by decide +kernel
theorem dX11_image_27 : decode cX11_image 27 = .ok (.putfield 264, 3) := by decide +kernel
theorem dX11_image_30 : decode cX11_image 30 = .ok (.iconst 0, 1) := by decide +kernel
theorem dX11_image_31 : decode cX11_image 31 = .ok (.istore_n 1, 1) := by decide +kernel
theorem dX11_image_32 : decode cX11_image 32 = .ok (.iload_n 1, 1) := by decide +kernel
theorem dX11_image_33 : decode cX11_image 33 = .ok (.aload_n 0, 1) := by decide +kernel
theorem dX11_image_34 : decode cX11_image 34 = .ok (.getfield 61, 3) := by decide +kernel
theorem dX11_image_37 : decode cX11_image 37 = .ok (.if_icmp .ge 23, 3) := by decide +kernel
theorem dX11_image_40 : decode cX11_image 40 = .ok (.aload_n 0, 1) := by decide +kernel
theorem dX11_image_41 : decode cX11_image 41 = .ok (.getfield 16, 3) := by decide +kernel
theorem dX11_image_44 : decode cX11_image 44 = .ok (.iload_n 1, 1) := by decide +kernel
theorem dX11_image_45 : decode cX11_image 45 = .ok (.invokevirtual 109, 3) := by decide +kernel
theorem dX11_image_48 : decode cX11_image 48 = .ok (.checkcast 107, 3) := by decide +kernel
theorem dX11_image_51 : decode cX11_image 51 = .ok (.invokevirtual 267, 3) := by decide +kernel
theorem dX11_image_54 : decode cX11_image 54 = .ok (.iinc 1 1, 3) := by decide +kernel
theorem dX11_image_57 : decode cX11_image 57 = .ok (.goto (-25), 3) := by decide +kernel
theorem dX11_image_60 : decode cX11_image 60 = .ok (.iconst 0, 1) := by decide +kernel
theorem dX11_image_61 : decode cX11_image 61 = .ok (.istore_n 1, 1) := by decide +kernel
theorem dX11_image_62 : decode cX11_image 62 = .ok (.iload_n 1, 1) := by decide +kernel
theorem dX11_image_63 : decode cX11_image 63 = .ok (.aload_n 0, 1) := by decide +kernel
theorem dX11_image_64 : decode cX11_image 64 = .ok (.getfield 261, 3) := by decide +kernel
theorem dX11_image_67 : decode cX11_image 67 = .ok (.if_icmp .ge 37, 3) := by decide +kernel
theorem dX11_image_70 : decode cX11_image 70 = .ok (.aload_n 0, 1) := by decide +kernel
theorem dX11_image_71 : decode cX11_image 71 = .ok (.getfield 19, 3) := by decide +kernel
theorem dX11_image_74 : decode cX11_image 74 = .ok (.iload_n 1, 1) := by decide +kernel
theorem dX11_image_75 : decode cX11_image 75 = .ok (.invokevirtual 109, 3) := by decide +kernel
theorem dX11_image_78 : decode cX11_image 78 = .ok (.checkcast 194, 3) := by decide +kernel
theorem dX11_image_81 : decode cX11_image 81 = .ok (.aload_n 0, 1) := by decide +kernel
theorem dX11_image_82 : decode cX11_image 82 = .ok (.getfield 19, 3) := by decide +kernel
theorem dX11_image_85 : decode cX11_image 85 = .ok (.iload_n 1, 1) := by decide +kernel
theorem dX11_image_86 : decode cX11_image 86 = .ok (.invokevirtual 109, 3) := by decide +kernel
theorem dX11_image_89 : decode cX11_image 89 = .ok (.checkcast 194, 3) := by decide +kernel
theorem dX11_image_92 : decode cX11_image 92 = .ok (.getfield 199, 3) := by decide +kernel
theorem dX11_image_95 : decode cX11_image 95 = .ok (.putfield 270, 3) := by decide +kernel
theorem dX11_image_98 : decode cX11_image 98 = .ok (.iinc 1 1, 3) := by decide +kernel
theorem dX11_image_101 : decode cX11_image 101 = .ok (.goto (-39), 3) := by decide +kernel
theorem dX11_image_104 : decode cX11_image 104 = .ok (.aload_n 0, 1) := by decide +kernel
theorem dX11_image_105 : decode cX11_image 105 = .ok (.getfield 61, 3) := by decide +kernel
theorem dX11_image_108 : decode cX11_image 108 = .ok (.ireturn, 1) := by decide +kernel
theorem dX11_back_0 : decode cX11_back 0 = .ok (.aload_n 0, 1) := by decide +kernel
theorem dX11_back_1 : decode cX11_back 1 = .ok (.getfield 61, 3) := by decide +kernel
theorem dX11_back_4 : decode cX11_back 4 = .ok (.iconst (-1), 1) := by decide +kernel
theorem dX11_back_5 : decode cX11_back 5 = .ok (.if_icmp .ne 6, 3) := by decide +kernel
theorem dX11_back_8 : decode cX11_back 8 = .ok (.bipush (-3), 2) := by decide +kernel
theorem dX11_back_10 : decode cX11_back 10 = .ok (.ireturn, 1) := by decide +kernel
theorem dX11_back_11 : decode cX11_back 11 = .ok (.aload_n 0, 1) := by decide +kernel
theorem dX11_back_12 : decode cX11_back 12 = .ok (.aload_n 0, 1) := by decide +kernel
theorem dX11_back_13 : decode cX11_back 13 = .ok (.getfield 264, 3) := by decide +kernel
theorem dX11_back_16 : decode cX11_back 16 = .ok (.putfield 232, 3) := by decide +kernel
theorem dX11_back_19 : decode cX11_back 19 = .ok (.iconst 0, 1) := by decide +kernel
theorem dX11_back_20 : decode cX11_back 20 = .ok (.istore_n 1, 1) := by decide +kernel
theorem dX11_back_21 : decode cX11_back 21 = .ok (.iload_n 1, 1) := by decide +kernel
theorem dX11_back_22 : decode cX11_back 22 = .ok (.aload_n 0, 1) := by decide +kernel
theorem dX11_back_23 : decode cX11_back 23 = .ok (.getfield 61, 3) := by decide +kernel
theorem dX11_back_26 : decode cX11_back 26 = .ok (.if_icmp .ge 34, 3) := by decide +kernel
theorem dX11_back_29 : decode cX11_back 29 = .ok (.iload_n 1, 1) := by decide +kernel
theorem dX11_back_30 : decode cX11_back 30 = .ok (.aload_n 0, 1) := by decide +kernel
theorem dX11_back_31 : decode cX11_back 31 = .ok (.getfield 16, 3) := by decide +kernel
theorem dX11_back_34 : decode cX11_back 34 = .ok (.invokevirtual 97, 3) := by decide +kernel
theorem dX11_back_37 : decode cX11_back 37 = .ok (.if_icmp .ge 23, 3) := by decide +kernel
theorem dX11_back_40 : decode cX11_back 40 = .ok (.aload_n 0, 1) := by decide +kernel
theorem dX11_back_41 : decode cX11_back 41 = .ok (.getfield 16, 3) := by decide +kernel
theorem dX11_back_44 : decode cX11_back 44 = .ok (.iload_n 1, 1) := by decide +kernel
theorem dX11_back_45 : decode cX11_back 45 = .ok (.invokevirtual 109, 3) := by decide +kernel
theorem dX11_back_48 : decode cX11_back 48 = .ok (.checkcast 107, 3) := by decide +kernel
theorem dX11_back_51 : decode cX11_back 51 = .ok (.invokevirtual 273, 3) := by decide +kernel
theorem dX11_back_54 : decode cX11_back 54 = .ok (.iinc 1 1, 3) := by decide +kernel
theorem dX11_back_57 : decode cX11_back 57 = .ok (.goto (-36), 3) := by decide +kernel
theorem dX11_back_60 : decode cX11_back 60 = .ok (.iconst 0, 1) := by decide +kernel
theorem dX11_back_61 : decode cX11_back 61 = .ok (.istore_n 1, 1) := by decide +kernel
theorem dX11_back_62 : decode cX11_back 62 = .ok (.iload_n 1, 1) := by decide +kernel
theorem dX11_back_63 : decode cX11_back 63 = .ok (.aload_n 0, 1) := by decide +kernel
theorem dX11_back_64 : decode cX11_back 64 = .ok (.getfield 261, 3) := by decide +kernel
theorem dX11_back_67 : decode cX11_back 67 = .ok (.if_icmp .ge 48, 3) := by decide +kernel
theorem dX11_back_70 : decode cX11_back 70 = .ok (.iload_n 1, 1) := by decide +kernel
theorem dX11_back_71 : decode cX11_back 71 = .ok (.aload_n 0, 1) := by decide +kernel
theorem dX11_back_72 : decode cX11_back 72 = .ok (.getfield 19, 3) := by decide +kernel
theorem dX11_back_75 : decode cX11_back 75 = .ok (.invokevirtual 97, 3) := by decide +kernel
theorem dX11_back_78 : decode cX11_back 78 = .ok (.if_icmp .ge 37, 3) := by decide +kernel
theorem dX11_back_81 : decode cX11_back 81 = .ok (.aload_n 0, 1) := by decide +kernel
theorem dX11_back_82 : decode cX11_back 82 = .ok (.getfield 19, 3) := by decide +kernel
theorem dX11_back_85 : decode cX11_back 85 = .ok (.iload_n 1, 1) := by decide +kernel
theorem dX11_back_86 : decode cX11_back 86 = .ok (.invokevirtual 109, 3) := by decide +kernel
theorem dX11_back_89 : decode cX11_back 89 = .ok (.checkcast 194, 3) := by decide +kernel
theorem dX11_back_92 : decode cX11_back 92 = .ok (.aload_n 0, 1) := by decide +kernel
theorem dX11_back_93 : decode cX11_back 93 = .ok (.getfield 19, 3) := by decide +kernel
theorem dX11_back_96 : decode cX11_back 96 = .ok (.iload_n 1, 1) := by decide +kernel
theorem dX11_back_97 : decode cX11_back 97 = .ok (.invokevirtual 109, 3) := by decide +kernel
theorem dX11_back_100 : decode cX11_back 100 = .ok (.checkcast 194, 3) := by decide +kernel
theorem dX11_back_103 : decode cX11_back 103 = .ok (.getfield 270, 3) := by decide +kernel
theorem dX11_back_106 : decode cX11_back 106 = .ok (.putfield 199, 3) := by decide +kernel
theorem dX11_back_109 : decode cX11_back 109 = .ok (.iinc 1 1, 3) := by decide +kernel
theorem dX11_back_112 : decode cX11_back 112 = .ok (.goto (-50), 3) := by decide +kernel
theorem dX11_back_115 : decode cX11_back 115 = .ok (.aload_n 0, 1) := by decide +kernel
theorem dX11_back_116 : decode cX11_back 116 = .ok (.getfield 16, 3) := by decide +kernel
theorem dX11_back_119 : decode cX11_back 119 = .ok (.invokevirtual 97, 3) := by decide +kernel
theorem dX11_back_122 : decode cX11_back 122 = .ok (.ireturn, 1) := by decide +kernel
theorem dX11_count_0 : decode cX11_count 0 = .ok (.iload_n 1, 1) := by decide +kernel
theorem dX11_count_1 : decode cX11_count 1 = .ok (.tableswitch 105 0 7 #[47, 55, 63, 71, 79, 87, 95, 100], 47) := by decide +kernel
theorem dX11_count_48 : decode cX11_count 48 = .ok (.aload_n 0, 1) := by decide +kernel
theorem dX11_count_49 : decode cX11_count 49 = .ok (.getfield 10, 3) := by decide +kernel
theorem dX11_count_52 : decode cX11_count 52 = .ok (.invokevirtual 97, 3) := by decide +kernel
theorem dX11_count_55 : decode cX11_count 55 = .ok (.ireturn, 1) := by decide +kernel
theorem dX11_count_56 : decode cX11_count 56 = .ok (.aload_n 0, 1) := by decide +kernel
theorem dX11_count_57 : decode cX11_count 57 = .ok (.getfield 16, 3) := by decide +kernel
theorem dX11_count_60 : decode cX11_count 60 = .ok (.invokevirtual 97, 3) := by decide +kernel
theorem dX11_count_63 : decode cX11_count 63 = .ok (.ireturn, 1) := by decide +kernel
theorem dX11_count_64 : decode cX11_count 64 = .ok (.aload_n 0, 1) := by decide +kernel
theorem dX11_count_65 : decode cX11_count 65 = .ok (.getfield 19, 3) := by decide +kernel
theorem dX11_count_68 : decode cX11_count 68 = .ok (.invokevirtual 97, 3) := by decide +kernel
theorem dX11_count_71 : decode cX11_count 71 = .ok (.ireturn, 1) := by decide +kernel
theorem dX11_count_72 : decode cX11_count 72 = .ok (.aload_n 0, 1) := by decide +kernel
theorem dX11_count_73 : decode cX11_count 73 = .ok (.getfield 22, 3) := by decide +kernel
theorem dX11_count_76 : decode cX11_count 76 = .ok (.invokevirtual 97, 3) := by decide +kernel
theorem dX11_count_79 : decode cX11_count 79 = .ok (.ireturn, 1) := by decide +kernel
theorem dX11_count_80 : decode cX11_count 80 = .ok (.aload_n 0, 1) := by decide +kernel
theorem dX11_count_81 : decode cX11_count 81 = .ok (.getfield 25, 3) := by decide +kernel
theorem dX11_count_84 : decode cX11_count 84 = .ok (.invokevirtual 97, 3) := by decide +kernel
theorem dX11_count_87 : decode cX11_count 87 = .ok (.ireturn, 1) := by decide +kernel
theorem dX11_count_88 : decode cX11_count 88 = .ok (.aload_n 0, 1) := by decide +kernel
theorem dX11_count_89 : decode cX11_count 89 = .ok (.getfield 37, 3) := by decide +kernel
theorem dX11_count_92 : decode cX11_count 92 = .ok (.getfield 230, 3) := by decide +kernel
theorem dX11_count_95 : decode cX11_count 95 = .ok (.ireturn, 1) := by decide +kernel
theorem dX11_count_96 : decode cX11_count 96 = .ok (.aload_n 0, 1) := by decide +kernel
theorem dX11_count_97 : decode cX11_count 97 = .ok (.getfield 232, 3) := by decide +kernel
theorem dX11_count_100 : decode cX11_count 100 = .ok (.ireturn, 1) := by decide +kernel
theorem dX11_count_101 : decode cX11_count 101 = .ok (.aload_n 0, 1) := by decide +kernel
theorem dX11_count_102 : decode cX11_count 102 = .ok (.invokevirtual 276, 3) := by decide +kernel
theorem dX11_count_105 : decode cX11_count 105 = .ok (.ireturn, 1) := by decide +kernel
theorem dX11_count_106 : decode cX11_count 106 = .ok (.bipush (-2), 2) := by decide +kernel
theorem dX11_count_108 : decode cX11_count 108 = .ok (.ireturn, 1) := by decide +kernel
theorem dX11_sheet_0 : decode cX11_sheet 0 = .ok (.iload_n 1, 1) := by decide +kernel
theorem dX11_sheet_1 : decode cX11_sheet 1 = .ok (.iconst 4, 1) := by decide +kernel
theorem dX11_sheet_2 : decode cX11_sheet 2 = .ok (.invokestatic 103, 3) := by decide +kernel
theorem dX11_sheet_5 : decode cX11_sheet 5 = .ok (.ifCond .eq 12, 3) := by decide +kernel
theorem dX11_sheet_8 : decode cX11_sheet 8 = .ok (.iload_n 2, 1) := by decide +kernel
theorem dX11_sheet_9 : decode cX11_sheet 9 = .ok (.iconst (-1), 1) := by decide +kernel
theorem dX11_sheet_10 : decode cX11_sheet 10 = .ok (.iconst 2, 1) := by decide +kernel
theorem dX11_sheet_11 : decode cX11_sheet 11 = .ok (.invokestatic 86, 3) := by decide +kernel
theorem dX11_sheet_14 : decode cX11_sheet 14 = .ok (.ifCond .ne 6, 3) := by decide +kernel
theorem dX11_sheet_17 : decode cX11_sheet 17 = .ok (.bipush (-2), 2) := by decide +kernel
theorem dX11_sheet_19 : decode cX11_sheet 19 = .ok (.ireturn, 1) := by decide +kernel
theorem dX11_sheet_20 : decode cX11_sheet 20 = .ok (.iload_n 2, 1) := by decide +kernel
theorem dX11_sheet_21 : decode cX11_sheet 21 = .ok (.iconst (-1), 1) := by decide +kernel
theorem dX11_sheet_22 : decode cX11_sheet 22 = .ok (.if_icmp .ne 7, 3) := by decide +kernel
theorem dX11_sheet_25 : decode cX11_sheet 25 = .ok (.iconst 0, 1) := by decide +kernel
theorem dX11_sheet_26 : decode cX11_sheet 26 = .ok (.goto 4, 3) := by decide +kernel
theorem dX11_sheet_29 : decode cX11_sheet 29 = .ok (.iload_n 3, 1) := by decide +kernel
theorem dX11_sheet_30 : decode cX11_sheet 30 = .ok (.istore 4, 2) := by decide +kernel
theorem dX11_sheet_32 : decode cX11_sheet 32 = .ok (.iload 4, 2) := by decide +kernel
theorem dX11_sheet_34 : decode cX11_sheet 34 = .ok (.bipush 40, 2) := by decide +kernel
theorem dX11_sheet_36 : decode cX11_sheet 36 = .ok (.if_icmp .le 6, 3) := by decide +kernel
theorem dX11_sheet_39 : decode cX11_sheet 39 = .ok (.bipush (-2), 2) := by decide +kernel
theorem dX11_sheet_41 : decode cX11_sheet 41 = .ok (.ireturn, 1) := by decide +kernel
theorem dX11_sheet_42 : decode cX11_sheet 42 = .ok (.iload 4, 2) := by decide +kernel
theorem dX11_sheet_44 : decode cX11_sheet 44 = .ok (.ifCond .ge 6, 3) := by decide +kernel
theorem dX11_sheet_47 : decode cX11_sheet 47 = .ok (.bipush (-14), 2) := by decide +kernel
theorem dX11_sheet_49 : decode cX11_sheet 49 = .ok (.ireturn, 1) := by decide +kernel
theorem dX11_sheet_50 : decode cX11_sheet 50 = .ok (.aload_n 0, 1) := by decide +kernel
theorem dX11_sheet_51 : decode cX11_sheet 51 = .ok (.getfield 30, 3) := by decide +kernel
theorem dX11_sheet_54 : decode cX11_sheet 54 = .ok (.iload_n 1, 1) := by decide +kernel
theorem dX11_sheet_55 : decode cX11_sheet 55 = .ok (.aaload, 1) := by decide +kernel
theorem dX11_sheet_56 : decode cX11_sheet 56 = .ok (.iload_n 2, 1) := by decide +kernel
theorem dX11_sheet_57 : decode cX11_sheet 57 = .ok (.iload 4, 2) := by decide +kernel
theorem dX11_sheet_59 : decode cX11_sheet 59 = .ok (.invokevirtual 279, 3) := by decide +kernel
theorem dX11_sheet_62 : decode cX11_sheet 62 = .ok (.iconst 1, 1) := by decide +kernel
theorem dX11_sheet_63 : decode cX11_sheet 63 = .ok (.ireturn, 1) := by decide +kernel
theorem dX11_cell_0 : decode cX11_cell 0 = .ok (.iload_n 1, 1) := by decide +kernel
theorem dX11_cell_1 : decode cX11_cell 1 = .ok (.iconst 4, 1) := by decide +kernel
theorem dX11_cell_2 : decode cX11_cell 2 = .ok (.invokestatic 103, 3) := by decide +kernel
theorem dX11_cell_5 : decode cX11_cell 5 = .ok (.ifCond .ne 6, 3) := by decide +kernel
theorem dX11_cell_8 : decode cX11_cell 8 = .ok (.bipush (-2), 2) := by decide +kernel
theorem dX11_cell_10 : decode cX11_cell 10 = .ok (.ireturn, 1) := by decide +kernel
theorem dX11_cell_11 : decode cX11_cell 11 = .ok (.aload_n 0, 1) := by decide +kernel
theorem dX11_cell_12 : decode cX11_cell 12 = .ok (.getfield 30, 3) := by decide +kernel
theorem dX11_cell_15 : decode cX11_cell 15 = .ok (.iload_n 1, 1) := by decide +kernel
theorem dX11_cell_16 : decode cX11_cell 16 = .ok (.aaload, 1) := by decide +kernel
theorem dX11_cell_17 : decode cX11_cell 17 = .ok (.astore 4, 2) := by decide +kernel
theorem dX11_cell_19 : decode cX11_cell 19 = .ok (.aload 4, 2) := by decide +kernel
theorem dX11_cell_21 : decode cX11_cell 21 = .ok (.invokevirtual 124, 3) := by decide +kernel
theorem dX11_cell_24 : decode cX11_cell 24 = .ok (.ifCond .eq 6, 3) := by decide +kernel
theorem dX11_cell_27 : decode cX11_cell 27 = .ok (.bipush (-11), 2) := by decide +kernel
theorem dX11_cell_29 : decode cX11_cell 29 = .ok (.ireturn, 1) := by decide +kernel
theorem dX11_cell_30 : decode cX11_cell 30 = .ok (.iload_n 2, 1) := by decide +kernel
theorem dX11_cell_31 : decode cX11_cell 31 = .ok (.aload 4, 2) := by decide +kernel
theorem dX11_cell_33 : decode cX11_cell 33 = .ok (.getfield 282, 3) := by decide +kernel
theorem dX11_cell_36 : decode cX11_cell 36 = .ok (.invokestatic 103, 3) := by decide +kernel
theorem dX11_cell_39 : decode cX11_cell 39 = .ok (.ifCond .ne 6, 3) := by decide +kernel
theorem dX11_cell_42 : decode cX11_cell 42 = .ok (.bipush (-12), 2) := by decide +kernel
theorem dX11_cell_44 : decode cX11_cell 44 = .ok (.ireturn, 1) := by decide +kernel
theorem dX11_cell_45 : decode cX11_cell 45 = .ok (.aload 4, 2) := by decide +kernel
theorem dX11_cell_47 : decode cX11_cell 47 = .ok (.iload_n 2, 1) := by decide +kernel
theorem dX11_cell_48 : decode cX11_cell 48 = .ok (.iload_n 3, 1) := by decide +kernel
theorem dX11_cell_49 : decode cX11_cell 49 = .ok (.invokevirtual 283, 3) := by decide +kernel
theorem dX11_cell_52 : decode cX11_cell 52 = .ok (.iconst 1, 1) := by decide +kernel
theorem dX11_cell_53 : decode cX11_cell 53 = .ok (.ireturn, 1) := by decide +kernel
theorem dX11_copy_0 : decode cX11_copy 0 = .ok (.iload_n 1, 1) := by decide +kernel
theorem dX11_copy_1 : decode cX11_copy 1 = .ok (.iconst 4, 1) := by decide +kernel
theorem dX11_copy_2 : decode cX11_copy 2 = .ok (.invokestatic 103, 3) := by decide +kernel
theorem dX11_copy_5 : decode cX11_copy 5 = .ok (.ifCond .eq 11, 3) := by decide +kernel
theorem dX11_copy_8 : decode cX11_copy 8 = .ok (.iload_n 3, 1) := by decide +kernel
theorem dX11_copy_9 : decode cX11_copy 9 = .ok (.iconst 4, 1) := by decide +kernel
theorem dX11_copy_10 : decode cX11_copy 10 = .ok (.invokestatic 103, 3) := by decide +kernel
theorem dX11_copy_13 : decode cX11_copy 13 = .ok (.ifCond .ne 6, 3) := by decide +kernel
theorem dX11_copy_16 : decode cX11_copy 16 = .ok (.bipush (-2), 2) := by decide +kernel
theorem dX11_copy_18 : decode cX11_copy 18 = .ok (.ireturn, 1) := by decide +kernel
theorem dX11_copy_19 : decode cX11_copy 19 = .ok (.aload_n 0, 1) := by decide +kernel
theorem dX11_copy_20 : decode cX11_copy 20 = .ok (.getfield 30, 3) := by decide +kernel
theorem dX11_copy_23 : decode cX11_copy 23 = .ok (.iload_n 1, 1) := by decide +kernel
theorem dX11_copy_24 : decode cX11_copy 24 = .ok (.aaload, 1) := by decide +kernel
theorem dX11_copy_25 : decode cX11_copy 25 = .ok (.astore 6, 2) := by decide +kernel
theorem dX11_copy_27 : decode cX11_copy 27 = .ok (.aload_n 0, 1) := by decide +kernel
theorem dX11_copy_28 : decode cX11_copy 28 = .ok (.getfield 30, 3) := by decide +kernel
theorem dX11_copy_31 : decode cX11_copy 31 = .ok (.iload_n 3, 1) := by decide +kernel
theorem dX11_copy_32 : decode cX11_copy 32 = .ok (.aaload, 1) := by decide +kernel
theorem dX11_copy_33 : decode cX11_copy 33 = .ok (.astore 7, 2) := by decide +kernel
theorem dX11_copy_35 : decode cX11_copy 35 = .ok (.aload 6, 2) := by decide +kernel
theorem dX11_copy_37 : decode cX11_copy 37 = .ok (.invokevirtual 124, 3) := by decide +kernel
theorem dX11_copy_40 : decode cX11_copy 40 = .ok (.ifCond .ne 11, 3) := by decide +kernel
theorem dX11_copy_43 : decode cX11_copy 43 = .ok (.aload 7, 2) := by decide +kernel
theorem dX11_copy_45 : decode cX11_copy 45 = .ok (.invokevirtual 124, 3) := by decide +kernel
theorem dX11_copy_48 : decode cX11_copy 48 = .ok (.ifCond .eq 6, 3) := by decide +kernel
theorem dX11_copy_51 : decode cX11_copy 51 = .ok (.bipush (-11), 2) := by decide +kernel
theorem dX11_copy_53 : decode cX11_copy 53 = .ok (.ireturn, 1) := by decide +kernel
theorem dX11_copy_54 : decode cX11_copy 54 = .ok (.aload 6, 2) := by decide +kernel
theorem dX11_copy_56 : decode cX11_copy 56 = .ok (.getfield 286, 3) := by decide +kernel
theorem dX11_copy_59 : decode cX11_copy 59 = .ok (.aload 7, 2) := by decide +kernel
theorem dX11_copy_61 : decode cX11_copy 61 = .ok (.getfield 286, 3) := by decide +kernel
theorem dX11_copy_64 : decode cX11_copy 64 = .ok (.if_icmp .eq 6, 3) := by decide +kernel
theorem dX11_copy_67 : decode cX11_copy 67 = .ok (.bipush (-13), 2) := by decide +kernel
theorem dX11_copy_69 : decode cX11_copy 69 = .ok (.ireturn, 1) := by decide +kernel
theorem dX11_copy_70 : decode cX11_copy 70 = .ok (.aload 6, 2) := by decide +kernel
theorem dX11_copy_72 : decode cX11_copy 72 = .ok (.iload_n 2, 1) := by decide +kernel
theorem dX11_copy_73 : decode cX11_copy 73 = .ok (.iload 5, 2) := by decide +kernel
theorem dX11_copy_75 : decode cX11_copy 75 = .ok (.invokevirtual 289, 3) := by decide +kernel
theorem dX11_copy_78 : decode cX11_copy 78 = .ok (.ifCond .eq 15, 3) := by decide +kernel
theorem dX11_copy_81 : decode cX11_copy 81 = .ok (.aload 7, 2) := by decide +kernel
theorem dX11_copy_83 : decode cX11_copy 83 = .ok (.iload 4, 2) := by decide +kernel
theorem dX11_copy_85 : decode cX11_copy 85 = .ok (.iload 5, 2) := by decide +kernel
theorem dX11_copy_87 : decode cX11_copy 87 = .ok (.invokevirtual 289, 3) := by decide +kernel
theorem dX11_copy_90 : decode cX11_copy 90 = .ok (.ifCond .ne 6, 3) := by decide +kernel
theorem dX11_copy_93 : decode cX11_copy 93 = .ok (.bipush (-12), 2) := by decide +kernel
theorem dX11_copy_95 : decode cX11_copy 95 = .ok (.ireturn, 1) := by decide +kernel
theorem dX11_copy_96 : decode cX11_copy 96 = .ok (.aload 6, 2) := by decide +kernel
theorem dX11_copy_98 : decode cX11_copy 98 = .ok (.getfield 292, 3) := by decide +kernel
theorem dX11_copy_101 : decode cX11_copy 101 = .ok (.iload_n 2, 1) := by decide +kernel
theorem dX11_copy_102 : decode cX11_copy 102 = .ok (.aload 7, 2) := by decide +kernel
theorem dX11_copy_104 : decode cX11_copy 104 = .ok (.getfield 292, 3) := by decide +kernel
theorem dX11_copy_107 : decode cX11_copy 107 = .ok (.iload 4, 2) := by decide +kernel
theorem dX11_copy_109 : decode cX11_copy 109 = .ok (.iload 5, 2) := by decide +kernel
theorem dX11_copy_111 : decode cX11_copy 111 = .ok (.invokestatic 295, 3) := by decide +kernel
theorem dX11_copy_114 : decode cX11_copy 114 = .ok (.iload 5, 2) := by decide +kernel
theorem dX11_copy_116 : decode cX11_copy 116 = .ok (.ireturn, 1) := by decide +kernel
theorem dX11_runs_0 : decode cX11_runs 0 = .ok (.iload_n 1, 1) := by decide +kernel
theorem dX11_runs_1 : decode cX11_runs 1 = .ok (.iconst 4, 1) := by decide +kernel
theorem dX11_runs_2 : decode cX11_runs 2 = .ok (.invokestatic 103, 3) := by decide +kernel
theorem dX11_runs_5 : decode cX11_runs 5 = .ok (.ifCond .eq 23, 3) := by decide +kernel
theorem dX11_runs_8 : decode cX11_runs 8 = .ok (.iload_n 2, 1) := by decide +kernel
theorem dX11_runs_9 : decode cX11_runs 9 = .ok (.iconst 0, 1) := by decide +kernel
theorem dX11_runs_10 : decode cX11_runs 10 = .ok (.iconst 2, 1) := by decide +kernel
theorem dX11_runs_11 : decode cX11_runs 11 = .ok (.invokestatic 86, 3) := by decide +kernel
theorem dX11_runs_14 : decode cX11_runs 14 = .ok (.ifCond .eq 14, 3) := by decide +kernel
theorem dX11_runs_17 : decode cX11_runs 17 = .ok (.iload 4, 2) := by decide +kernel
theorem dX11_runs_19 : decode cX11_runs 19 = .ok (.iconst 0, 1) := by decide +kernel
theorem dX11_runs_20 : decode cX11_runs 20 = .ok (.bipush 12, 2) := by decide +kernel
theorem dX11_runs_22 : decode cX11_runs 22 = .ok (.invokestatic 86, 3) := by decide +kernel
theorem dX11_runs_25 : decode cX11_runs 25 = .ok (.ifCond .ne 6, 3) := by decide +kernel
theorem dX11_runs_28 : decode cX11_runs 28 = .ok (.bipush (-2), 2) := by decide +kernel
theorem dX11_runs_30 : decode cX11_runs 30 = .ok (.ireturn, 1) := by decide +kernel
theorem dX11_runs_31 : decode cX11_runs 31 = .ok (.aload_n 0, 1) := by decide +kernel
theorem dX11_runs_32 : decode cX11_runs 32 = .ok (.getfield 30, 3) := by decide +kernel
theorem dX11_runs_35 : decode cX11_runs 35 = .ok (.iload_n 1, 1) := by decide +kernel
theorem dX11_runs_36 : decode cX11_runs 36 = .ok (.aaload, 1) := by decide +kernel
theorem dX11_runs_37 : decode cX11_runs 37 = .ok (.astore 5, 2) := by decide +kernel
theorem dX11_runs_39 : decode cX11_runs 39 = .ok (.aload 5, 2) := by decide +kernel
theorem dX11_runs_41 : decode cX11_runs 41 = .ok (.invokevirtual 124, 3) := by decide +kernel
theorem dX11_runs_44 : decode cX11_runs 44 = .ok (.ifCond .ne 15, 3) := by decide +kernel
theorem dX11_runs_47 : decode cX11_runs 47 = .ok (.aload 5, 2) := by decide +kernel
theorem dX11_runs_49 : decode cX11_runs 49 = .ok (.getfield 286, 3) := by decide +kernel
theorem dX11_runs_52 : decode cX11_runs 52 = .ok (.iload_n 2, 1) := by decide +kernel
theorem dX11_runs_53 : decode cX11_runs 53 = .ok (.if_icmp .eq 6, 3) := by decide +kernel
theorem dX11_runs_56 : decode cX11_runs 56 = .ok (.bipush (-13), 2) := by decide +kernel
theorem dX11_runs_58 : decode cX11_runs 58 = .ok (.ireturn, 1) := by decide +kernel
theorem dX11_runs_59 : decode cX11_runs 59 = .ok (.aload 5, 2) := by decide +kernel
theorem dX11_runs_61 : decode cX11_runs 61 = .ok (.invokevirtual 124, 3) := by decide +kernel
theorem dX11_runs_64 : decode cX11_runs 64 = .ok (.ifCond .eq 6, 3) := by decide +kernel
theorem dX11_runs_67 : decode cX11_runs 67 = .ok (.bipush (-11), 2) := by decide +kernel
theorem dX11_runs_69 : decode cX11_runs 69 = .ok (.ireturn, 1) := by decide +kernel
theorem dX11_runs_70 : decode cX11_runs 70 = .ok (.iconst 0, 1) := by decide +kernel
theorem dX11_runs_71 : decode cX11_runs 71 = .ok (.istore 6, 2) := by decide +kernel
theorem dX11_runs_73 : decode cX11_runs 73 = .ok (.iconst 0, 1) := by decide +kernel
theorem dX11_runs_74 : decode cX11_runs 74 = .ok (.istore 7, 2) := by decide +kernel
theorem dX11_runs_76 : decode cX11_runs 76 = .ok (.iload 7, 2) := by decide +kernel
theorem dX11_runs_78 : decode cX11_runs 78 = .ok (.iload 4, 2) := by decide +kernel
theorem dX11_runs_80 : decode cX11_runs 80 = .ok (.if_icmp .ge 69, 3) := by decide +kernel
theorem dX11_runs_83 : decode cX11_runs 83 = .ok (.iload_n 3, 1) := by decide +kernel
theorem dX11_runs_84 : decode cX11_runs 84 = .ok (.iconst 3, 1) := by decide +kernel
theorem dX11_runs_85 : decode cX11_runs 85 = .ok (.iload 7, 2) := by decide +kernel
theorem dX11_runs_87 : decode cX11_runs 87 = .ok (.imul, 1) := by decide +kernel
theorem dX11_runs_88 : decode cX11_runs 88 = .ok (.iadd, 1) := by decide +kernel
theorem dX11_runs_89 : decode cX11_runs 89 = .ok (.istore 8, 2) := by decide +kernel
theorem dX11_runs_91 : decode cX11_runs 91 = .ok (.aload 5, 2) := by decide +kernel
theorem dX11_runs_93 : decode cX11_runs 93 = .ok (.iload 8, 2) := by decide +kernel
theorem dX11_runs_95 : decode cX11_runs 95 = .ok (.iconst 3, 1) := by decide +kernel
theorem dX11_runs_96 : decode cX11_runs 96 = .ok (.invokevirtual 289, 3) := by decide +kernel
theorem dX11_runs_99 : decode cX11_runs 99 = .ok (.ifCond .ne 6, 3) := by decide +kernel
theorem dX11_runs_102 : decode cX11_runs 102 = .ok (.bipush (-12), 2) := by decide +kernel
theorem dX11_runs_104 : decode cX11_runs 104 = .ok (.ireturn, 1) := by decide +kernel
theorem dX11_runs_105 : decode cX11_runs 105 = .ok (.aload_n 0, 1) := by decide +kernel
theorem dX11_runs_106 : decode cX11_runs 106 = .ok (.aload 5, 2) := by decide +kernel
theorem dX11_runs_108 : decode cX11_runs 108 = .ok (.getfield 292, 3) := by decide +kernel
theorem dX11_runs_111 : decode cX11_runs 111 = .ok (.iload 8, 2) := by decide +kernel
theorem dX11_runs_113 : decode cX11_runs 113 = .ok (.iaload, 1) := by decide +kernel
theorem dX11_runs_114 : decode cX11_runs 114 = .ok (.aload 5, 2) := by decide +kernel
theorem dX11_runs_116 : decode cX11_runs 116 = .ok (.getfield 292, 3) := by decide +kernel
theorem dX11_runs_119 : decode cX11_runs 119 = .ok (.iload 8, 2) := by decide +kernel
theorem dX11_runs_121 : decode cX11_runs 121 = .ok (.iconst 1, 1) := by decide +kernel
theorem dX11_runs_122 : decode cX11_runs 122 = .ok (.iadd, 1) := by decide +kernel
theorem dX11_runs_123 : decode cX11_runs 123 = .ok (.iaload, 1) := by decide +kernel
theorem dX11_runs_124 : decode cX11_runs 124 = .ok (.aload 5, 2) := by decide +kernel
theorem dX11_runs_126 : decode cX11_runs 126 = .ok (.getfield 292, 3) := by decide +kernel
theorem dX11_runs_129 : decode cX11_runs 129 = .ok (.iload 8, 2) := by decide +kernel
theorem dX11_runs_131 : decode cX11_runs 131 = .ok (.iconst 2, 1) := by decide +kernel
theorem dX11_runs_132 : decode cX11_runs 132 = .ok (.iadd, 1) := by decide +kernel
theorem dX11_runs_133 : decode cX11_runs 133 = .ok (.iaload, 1) := by decide +kernel
theorem dX11_runs_134 : decode cX11_runs 134 = .ok (.invokevirtual 301, 3) := by decide +kernel
theorem dX11_runs_137 : decode cX11_runs 137 = .ok (.ifCond .lt 6, 3) := by decide +kernel
theorem dX11_runs_140 : decode cX11_runs 140 = .ok (.iinc 6 1, 3) := by decide +kernel
theorem dX11_runs_143 : decode cX11_runs 143 = .ok (.iinc 7 1, 3) := by decide +kernel
theorem dX11_runs_146 : decode cX11_runs 146 = .ok (.goto (-70), 3) := by decide +kernel
theorem dX11_runs_149 : decode cX11_runs 149 = .ok (.iload 6, 2) := by decide +kernel
theorem dX11_runs_151 : decode cX11_runs 151 = .ok (.ireturn, 1) := by decide +kernel
theorem dX11_taken_0 : decode cX11_taken 0 = .ok (.iload_n 2, 1) := by decide +kernel
theorem dX11_taken_1 : decode cX11_taken 1 = .ok (.bipush 6, 2) := by decide +kernel
theorem dX11_taken_3 : decode cX11_taken 3 = .ok (.invokestatic 103, 3) := by decide +kernel
theorem dX11_taken_6 : decode cX11_taken 6 = .ok (.ifCond .ne 6, 3) := by decide +kernel
theorem dX11_taken_9 : decode cX11_taken 9 = .ok (.bipush (-2), 2) := by decide +kernel
theorem dX11_taken_11 : decode cX11_taken 11 = .ok (.ireturn, 1) := by decide +kernel
theorem dX11_taken_12 : decode cX11_taken 12 = .ok (.iload_n 1, 1) := by decide +kernel
theorem dX11_taken_13 : decode cX11_taken 13 = .ok (.aload_n 0, 1) := by decide +kernel
theorem dX11_taken_14 : decode cX11_taken 14 = .ok (.getfield 19, 3) := by decide +kernel
theorem dX11_taken_17 : decode cX11_taken 17 = .ok (.invokevirtual 97, 3) := by decide +kernel
theorem dX11_taken_20 : decode cX11_taken 20 = .ok (.invokestatic 103, 3) := by decide +kernel
theorem dX11_taken_23 : decode cX11_taken 23 = .ok (.ifCond .ne 6, 3) := by decide +kernel
theorem dX11_taken_26 : decode cX11_taken 26 = .ok (.bipush (-11), 2) := by decide +kernel
theorem dX11_taken_28 : decode cX11_taken 28 = .ok (.ireturn, 1) := by decide +kernel
theorem dX11_taken_29 : decode cX11_taken 29 = .ok (.aload_n 0, 1) := by decide +kernel
theorem dX11_taken_30 : decode cX11_taken 30 = .ok (.getfield 19, 3) := by decide +kernel
theorem dX11_taken_33 : decode cX11_taken 33 = .ok (.iload_n 1, 1) := by decide +kernel
theorem dX11_taken_34 : decode cX11_taken 34 = .ok (.invokevirtual 109, 3) := by decide +kernel
theorem dX11_taken_37 : decode cX11_taken 37 = .ok (.checkcast 194, 3) := by decide +kernel
theorem dX11_taken_40 : decode cX11_taken 40 = .ok (.iload_n 2, 1) := by decide +kernel
theorem dX11_taken_41 : decode cX11_taken 41 = .ok (.invokevirtual 304, 3) := by decide +kernel
theorem dX11_taken_44 : decode cX11_taken 44 = .ok (.ifCond .eq 20, 3) := by decide +kernel
theorem dX11_taken_47 : decode cX11_taken 47 = .ok (.aload_n 0, 1) := by decide +kernel
theorem dX11_taken_48 : decode cX11_taken 48 = .ok (.getfield 19, 3) := by decide +kernel
theorem dX11_taken_51 : decode cX11_taken 51 = .ok (.iload_n 1, 1) := by decide +kernel
theorem dX11_taken_52 : decode cX11_taken 52 = .ok (.invokevirtual 109, 3) := by decide +kernel
theorem dX11_taken_55 : decode cX11_taken 55 = .ok (.checkcast 194, 3) := by decide +kernel
theorem dX11_taken_58 : decode cX11_taken 58 = .ok (.getfield 308, 3) := by decide +kernel
theorem dX11_taken_61 : decode cX11_taken 61 = .ok (.goto 5, 3) := by decide +kernel
theorem dX11_taken_64 : decode cX11_taken 64 = .ok (.bipush (-13), 2) := by decide +kernel
theorem dX11_taken_66 : decode cX11_taken 66 = .ok (.ireturn, 1) := by decide +kernel
theorem dX11_within_0 : decode cX11_within 0 = .ok (.iload_n 1, 1) := by decide +kernel
theorem dX11_within_1 : decode cX11_within 1 = .ok (.iload_n 0, 1) := by decide +kernel
theorem dX11_within_2 : decode cX11_within 2 = .ok (.if_icmp .gt 12, 3) := by decide +kernel
theorem dX11_within_5 : decode cX11_within 5 = .ok (.iload_n 0, 1) := by decide +kernel
theorem dX11_within_6 : decode cX11_within 6 = .ok (.iload_n 2, 1) := by decide +kernel
theorem dX11_within_7 : decode cX11_within 7 = .ok (.if_icmp .gt 7, 3) := by decide +kernel
theorem dX11_within_10 : decode cX11_within 10 = .ok (.iconst 1, 1) := by decide +kernel
theorem dX11_within_11 : decode cX11_within 11 = .ok (.goto 4, 3) := by decide +kernel
theorem dX11_within_14 : decode cX11_within 14 = .ok (.iconst 0, 1) := by decide +kernel
theorem dX11_within_15 : decode cX11_within 15 = .ok (.ireturn, 1) := by decide +kernel
theorem dX11_among_0 : decode cX11_among 0 = .ok (.iconst 0, 1) := by decide +kernel
theorem dX11_among_1 : decode cX11_among 1 = .ok (.iload_n 0, 1) := by decide +kernel
theorem dX11_among_2 : decode cX11_among 2 = .ok (.if_icmp .gt 12, 3) := by decide +kernel
theorem dX11_among_5 : decode cX11_among 5 = .ok (.iload_n 0, 1) := by decide +kernel
theorem dX11_among_6 : decode cX11_among 6 = .ok (.iload_n 1, 1) := by decide +kernel
theorem dX11_among_7 : decode cX11_among 7 = .ok (.if_icmp .ge 7, 3) := by decide +kernel
theorem dX11_among_10 : decode cX11_among 10 = .ok (.iconst 1, 1) := by decide +kernel
theorem dX11_among_11 : decode cX11_among 11 = .ok (.goto 4, 3) := by decide +kernel
theorem dX11_among_14 : decode cX11_among 14 = .ok (.iconst 0, 1) := by decide +kernel
theorem dX11_among_15 : decode cX11_among 15 = .ok (.ireturn, 1) := by decide +kernel
theorem dX11_isBits_0 : decode cX11_isBits 0 = .ok (.iconst 0, 1) := by decide +kernel
theorem dX11_isBits_1 : decode cX11_isBits 1 = .ok (.iload_n 0, 1) := by decide +kernel
theorem dX11_isBits_2 : decode cX11_isBits 2 = .ok (.if_icmp .gt 14, 3) := by decide +kernel
theorem dX11_isBits_5 : decode cX11_isBits 5 = .ok (.iload_n 0, 1) := by decide +kernel
theorem dX11_isBits_6 : decode cX11_isBits 6 = .ok (.iconst 1, 1) := by decide +kernel
theorem dX11_isBits_7 : decode cX11_isBits 7 = .ok (.iload_n 1, 1) := by decide +kernel
theorem dX11_isBits_8 : decode cX11_isBits 8 = .ok (.ishl, 1) := by decide +kernel
theorem dX11_isBits_9 : decode cX11_isBits 9 = .ok (.if_icmp .ge 7, 3) := by decide +kernel
theorem dX11_isBits_12 : decode cX11_isBits 12 = .ok (.iconst 1, 1) := by decide +kernel
theorem dX11_isBits_13 : decode cX11_isBits 13 = .ok (.goto 4, 3) := by decide +kernel
theorem dX11_isBits_16 : decode cX11_isBits 16 = .ok (.iconst 0, 1) := by decide +kernel
theorem dX11_isBits_17 : decode cX11_isBits 17 = .ok (.ireturn, 1) := by decide +kernel
theorem dX11_isPlace_0 : decode cX11_isPlace 0 = .ok (.iload_n 1, 1) := by decide +kernel
theorem dX11_isPlace_1 : decode cX11_isPlace 1 = .ok (.aload_n 0, 1) := by decide +kernel
theorem dX11_isPlace_2 : decode cX11_isPlace 2 = .ok (.getfield 16, 3) := by decide +kernel
theorem dX11_isPlace_5 : decode cX11_isPlace 5 = .ok (.invokevirtual 97, 3) := by decide +kernel
theorem dX11_isPlace_8 : decode cX11_isPlace 8 = .ok (.invokestatic 103, 3) := by decide +kernel
theorem dX11_isPlace_11 : decode cX11_isPlace 11 = .ok (.ifCond .eq 29, 3) := by decide +kernel
theorem dX11_isPlace_14 : decode cX11_isPlace 14 = .ok (.iload_n 2, 1) := by decide +kernel
theorem dX11_isPlace_15 : decode cX11_isPlace 15 = .ok (.aload_n 0, 1) := by decide +kernel
theorem dX11_isPlace_16 : decode cX11_isPlace 16 = .ok (.getfield 16, 3) := by decide +kernel
theorem dX11_isPlace_19 : decode cX11_isPlace 19 = .ok (.iload_n 1, 1) := by decide +kernel
theorem dX11_isPlace_20 : decode cX11_isPlace 20 = .ok (.invokevirtual 109, 3) := by decide +kernel
theorem dX11_isPlace_23 : decode cX11_isPlace 23 = .ok (.checkcast 107, 3) := by decide +kernel
theorem dX11_isPlace_26 : decode cX11_isPlace 26 = .ok (.getfield 119, 3) := by decide +kernel
theorem dX11_isPlace_29 : decode cX11_isPlace 29 = .ok (.arraylength, 1) := by decide +kernel
theorem dX11_isPlace_30 : decode cX11_isPlace 30 = .ok (.invokestatic 103, 3) := by decide +kernel
theorem dX11_isPlace_33 : decode cX11_isPlace 33 = .ok (.ifCond .eq 7, 3) := by decide +kernel
theorem dX11_isPlace_36 : decode cX11_isPlace 36 = .ok (.iconst 1, 1) := by decide +kernel
theorem dX11_isPlace_37 : decode cX11_isPlace 37 = .ok (.goto 4, 3) := by decide +kernel
theorem dX11_isPlace_40 : decode cX11_isPlace 40 = .ok (.iconst 0, 1) := by decide +kernel
theorem dX11_isPlace_41 : decode cX11_isPlace 41 = .ok (.ireturn, 1) := by decide +kernel
theorem dX11_readTape_0 : decode cX11_readTape 0 = .ok (.aload_n 0, 1) := by decide +kernel
theorem dX11_readTape_1 : decode cX11_readTape 1 = .ok (.getfield 44, 3) := by decide +kernel
theorem dX11_readTape_4 : decode cX11_readTape 4 = .ok (.aload_n 0, 1) := by decide +kernel
theorem dX11_readTape_5 : decode cX11_readTape 5 = .ok (.getfield 37, 3) := by decide +kernel
theorem dX11_readTape_8 : decode cX11_readTape 8 = .ok (.invokevirtual 311, 3) := by decide +kernel
theorem dX11_readTape_11 : decode cX11_readTape 11 = .ok (.istore_n 1, 1) := by decide +kernel
theorem dX11_readTape_12 : decode cX11_readTape 12 = .ok (.aload_n 0, 1) := by decide +kernel
theorem dX11_readTape_13 : decode cX11_readTape 13 = .ok (.getfield 37, 3) := by decide +kernel
theorem dX11_readTape_16 : decode cX11_readTape 16 = .ok (.iconst 0, 1) := by decide +kernel
theorem dX11_readTape_17 : decode cX11_readTape 17 = .ok (.putfield 230, 3) := by decide +kernel
theorem dX11_readTape_20 : decode cX11_readTape 20 = .ok (.iload_n 1, 1) := by decide +kernel
theorem dX11_readTape_21 : decode cX11_readTape 21 = .ok (.iconst (-1), 1) := by decide +kernel
theorem dX11_readTape_22 : decode cX11_readTape 22 = .ok (.if_icmp .ne 18, 3) := by decide +kernel
theorem dX11_readTape_25 : decode cX11_readTape 25 = .ok (.aload_n 0, 1) := by decide +kernel
theorem dX11_readTape_26 : decode cX11_readTape 26 = .ok (.getfield 25, 3) := by decide +kernel
theorem dX11_readTape_29 : decode cX11_readTape 29 = .ok (.aload_n 0, 1) := by decide +kernel
theorem dX11_readTape_30 : decode cX11_readTape 30 = .ok (.getfield 44, 3) := by decide +kernel
theorem dX11_readTape_33 : decode cX11_readTape 33 = .ok (.invokevirtual 315, 3) := by decide +kernel
theorem dX11_readTape_36 : decode cX11_readTape 36 = .ok (.invokevirtual 100, 3) := by decide +kernel
theorem dX11_readTape_39 : decode cX11_readTape 39 = .ok (.pop, 1) := by decide +kernel
theorem dX11_readTape_40 : decode cX11_readTape 40 = .ok (.iload_n 1, 1) := by decide +kernel
theorem dX11_readTape_41 : decode cX11_readTape 41 = .ok (.ireturn, 1) := by decide +kernel
theorem dX11_bound_0 : decode cX11_bound 0 = .ok (.iconst 0, 1) := by decide +kernel
theorem dX11_bound_1 : decode cX11_bound 1 = .ok (.istore_n 2, 1) := by decide +kernel
theorem dX11_bound_2 : decode cX11_bound 2 = .ok (.iconst 0, 1) := by decide +kernel
theorem dX11_bound_3 : decode cX11_bound 3 = .ok (.istore_n 3, 1) := by decide +kernel
theorem dX11_bound_4 : decode cX11_bound 4 = .ok (.iload_n 3, 1) := by decide +kernel
theorem dX11_bound_5 : decode cX11_bound 5 = .ok (.aload_n 0, 1) := by decide +kernel
theorem dX11_bound_6 : decode cX11_bound 6 = .ok (.getfield 19, 3) := by decide +kernel
theorem dX11_bound_9 : decode cX11_bound 9 = .ok (.invokevirtual 97, 3) := by decide +kernel
theorem dX11_bound_12 : decode cX11_bound 12 = .ok (.if_icmp .ge 27, 3) := by decide +kernel
theorem dX11_bound_15 : decode cX11_bound 15 = .ok (.iload_n 2, 1) := by decide +kernel
theorem dX11_bound_16 : decode cX11_bound 16 = .ok (.aload_n 0, 1) := by decide +kernel
theorem dX11_bound_17 : decode cX11_bound 17 = .ok (.getfield 19, 3) := by decide +kernel
theorem dX11_bound_20 : decode cX11_bound 20 = .ok (.iload_n 3, 1) := by decide +kernel
theorem dX11_bound_21 : decode cX11_bound 21 = .ok (.invokevirtual 109, 3) := by decide +kernel
theorem dX11_bound_24 : decode cX11_bound 24 = .ok (.checkcast 194, 3) := by decide +kernel
theorem dX11_bound_27 : decode cX11_bound 27 = .ok (.aload_n 1, 1) := by decide +kernel
theorem dX11_bound_28 : decode cX11_bound 28 = .ok (.invokevirtual 203, 3) := by decide +kernel
theorem dX11_bound_31 : decode cX11_bound 31 = .ok (.iadd, 1) := by decide +kernel
theorem dX11_bound_32 : decode cX11_bound 32 = .ok (.istore_n 2, 1) := by decide +kernel
theorem dX11_bound_33 : decode cX11_bound 33 = .ok (.iinc 3 1, 3) := by decide +kernel
theorem dX11_bound_36 : decode cX11_bound 36 = .ok (.goto (-32), 3) := by decide +kernel
theorem dX11_bound_39 : decode cX11_bound 39 = .ok (.iload_n 2, 1) := by decide +kernel
theorem dX11_bound_40 : decode cX11_bound 40 = .ok (.aload_n 1, 1) := by decide +kernel
theorem dX11_bound_41 : decode cX11_bound 41 = .ok (.getfield 119, 3) := by decide +kernel
theorem dX11_bound_44 : decode cX11_bound 44 = .ok (.arraylength, 1) := by decide +kernel
theorem dX11_bound_45 : decode cX11_bound 45 = .ok (.invokestatic 319, 3) := by decide +kernel
theorem dX11_bound_48 : decode cX11_bound 48 = .ok (.ireturn, 1) := by decide +kernel
theorem dX11_ruled_0 : decode cX11_ruled 0 = .ok (.aload_n 0, 1) := by decide +kernel
theorem dX11_ruled_1 : decode cX11_ruled 1 = .ok (.getfield 16, 3) := by decide +kernel
theorem dX11_ruled_4 : decode cX11_ruled 4 = .ok (.iload_n 1, 1) := by decide +kernel
theorem dX11_ruled_5 : decode cX11_ruled 5 = .ok (.invokevirtual 109, 3) := by decide +kernel
theorem dX11_ruled_8 : decode cX11_ruled 8 = .ok (.checkcast 107, 3) := by decide +kernel
theorem dX11_ruled_11 : decode cX11_ruled 11 = .ok (.astore_n 3, 1) := by decide +kernel
theorem dX11_ruled_12 : decode cX11_ruled 12 = .ok (.iload_n 2, 1) := by decide +kernel
theorem dX11_ruled_13 : decode cX11_ruled 13 = .ok (.iconst 2, 1) := by decide +kernel
theorem dX11_ruled_14 : decode cX11_ruled 14 = .ok (.if_icmp .ne 7, 3) := by decide +kernel
theorem dX11_ruled_17 : decode cX11_ruled 17 = .ok (.iconst 1, 1) := by decide +kernel
theorem dX11_ruled_18 : decode cX11_ruled 18 = .ok (.goto 4, 3) := by decide +kernel
theorem dX11_ruled_21 : decode cX11_ruled 21 = .ok (.iconst 0, 1) := by decide +kernel
theorem dX11_ruled_22 : decode cX11_ruled 22 = .ok (.istore 4, 2) := by decide +kernel
theorem dX11_ruled_24 : decode cX11_ruled 24 = .ok (.aload_n 3, 1) := by decide +kernel
theorem dX11_ruled_25 : decode cX11_ruled 25 = .ok (.invokevirtual 143, 3) := by decide +kernel
theorem dX11_ruled_28 : decode cX11_ruled 28 = .ok (.istore 5, 2) := by decide +kernel
theorem dX11_ruled_30 : decode cX11_ruled 30 = .ok (.aload_n 0, 1) := by decide +kernel
theorem dX11_ruled_31 : decode cX11_ruled 31 = .ok (.getfield 57, 3) := by decide +kernel
theorem dX11_ruled_34 : decode cX11_ruled 34 = .ok (.iconst 0, 1) := by decide +kernel
theorem dX11_ruled_35 : decode cX11_ruled 35 = .ok (.iload 5, 2) := by decide +kernel
theorem dX11_ruled_37 : decode cX11_ruled 37 = .ok (.iastore, 1) := by decide +kernel
theorem dX11_ruled_38 : decode cX11_ruled 38 = .ok (.aload_n 0, 1) := by decide +kernel
theorem dX11_ruled_39 : decode cX11_ruled 39 = .ok (.getfield 57, 3) := by decide +kernel
theorem dX11_ruled_42 : decode cX11_ruled 42 = .ok (.iconst 1, 1) := by decide +kernel
theorem dX11_ruled_43 : decode cX11_ruled 43 = .ok (.iload 4, 2) := by decide +kernel
theorem dX11_ruled_45 : decode cX11_ruled 45 = .ok (.ifCond .eq 7, 3) := by decide +kernel
theorem dX11_ruled_48 : decode cX11_ruled 48 = .ok (.iconst 0, 1) := by decide +kernel
theorem dX11_ruled_49 : decode cX11_ruled 49 = .ok (.goto 10, 3) := by decide +kernel
theorem dX11_ruled_52 : decode cX11_ruled 52 = .ok (.aload_n 0, 1) := by decide +kernel
theorem dX11_ruled_53 : decode cX11_ruled 53 = .ok (.iload_n 1, 1) := by decide +kernel
theorem dX11_ruled_54 : decode cX11_ruled 54 = .ok (.invokevirtual 324, 3) := by decide +kernel
theorem dX11_ruled_57 : decode cX11_ruled 57 = .ok (.iconst 1, 1) := by decide +kernel
theorem dX11_ruled_58 : decode cX11_ruled 58 = .ok (.isub, 1) := by decide +kernel
theorem dX11_ruled_59 : decode cX11_ruled 59 = .ok (.iastore, 1) := by decide +kernel
theorem dX11_ruled_60 : decode cX11_ruled 60 = .ok (.aload_n 0, 1) := by decide +kernel
theorem dX11_ruled_61 : decode cX11_ruled 61 = .ok (.getfield 57, 3) := by decide +kernel
theorem dX11_ruled_64 : decode cX11_ruled 64 = .ok (.iconst 2, 1) := by decide +kernel
theorem dX11_ruled_65 : decode cX11_ruled 65 = .ok (.iload 4, 2) := by decide +kernel
theorem dX11_ruled_67 : decode cX11_ruled 67 = .ok (.ifCond .eq 8, 3) := by decide +kernel
theorem dX11_ruled_70 : decode cX11_ruled 70 = .ok (.iload 5, 2) := by decide +kernel
theorem dX11_ruled_72 : decode cX11_ruled 72 = .ok (.goto 8, 3) := by decide +kernel
theorem dX11_ruled_75 : decode cX11_ruled 75 = .ok (.aload_n 0, 1) := by decide +kernel
theorem dX11_ruled_76 : decode cX11_ruled 76 = .ok (.iload_n 1, 1) := by decide +kernel
theorem dX11_ruled_77 : decode cX11_ruled 77 = .ok (.invokevirtual 327, 3) := by decide +kernel
theorem dX11_ruled_80 : decode cX11_ruled 80 = .ok (.iastore, 1) := by decide +kernel
theorem dX11_ruled_81 : decode cX11_ruled 81 = .ok (.aload_n 0, 1) := by decide +kernel
theorem dX11_ruled_82 : decode cX11_ruled 82 = .ok (.getfield 57, 3) := by decide +kernel
theorem dX11_ruled_85 : decode cX11_ruled 85 = .ok (.iconst 3, 1) := by decide +kernel
theorem dX11_ruled_86 : decode cX11_ruled 86 = .ok (.aload_n 0, 1) := by decide +kernel
theorem dX11_ruled_87 : decode cX11_ruled 87 = .ok (.aload_n 3, 1) := by decide +kernel
theorem dX11_ruled_88 : decode cX11_ruled 88 = .ok (.invokevirtual 165, 3) := by decide +kernel
theorem dX11_ruled_91 : decode cX11_ruled 91 = .ok (.iastore, 1) := by decide +kernel
theorem dX11_ruled_92 : decode cX11_ruled 92 = .ok (.aload_n 0, 1) := by decide +kernel
theorem dX11_ruled_93 : decode cX11_ruled 93 = .ok (.getfield 57, 3) := by decide +kernel
theorem dX11_ruled_96 : decode cX11_ruled 96 = .ok (.iconst 4, 1) := by decide +kernel
theorem dX11_ruled_97 : decode cX11_ruled 97 = .ok (.aload_n 3, 1) := by decide +kernel
theorem dX11_ruled_98 : decode cX11_ruled 98 = .ok (.getfield 153, 3) := by decide +kernel
theorem dX11_ruled_101 : decode cX11_ruled 101 = .ok (.iastore, 1) := by decide +kernel
theorem dX11_ruled_102 : decode cX11_ruled 102 = .ok (.aload_n 0, 1) := by decide +kernel
theorem dX11_ruled_103 : decode cX11_ruled 103 = .ok (.getfield 57, 3) := by decide +kernel
theorem dX11_ruled_106 : decode cX11_ruled 106 = .ok (.iconst 5, 1) := by decide +kernel
theorem dX11_ruled_107 : decode cX11_ruled 107 = .ok (.aload_n 3, 1) := by decide +kernel
theorem dX11_ruled_108 : decode cX11_ruled 108 = .ok (.invokevirtual 156, 3) := by decide +kernel
theorem dX11_ruled_111 : decode cX11_ruled 111 = .ok (.iastore, 1) := by decide +kernel
theorem dX11_ruled_112 : decode cX11_ruled 112 = .ok (.aload_n 0, 1) := by decide +kernel
theorem dX11_ruled_113 : decode cX11_ruled 113 = .ok (.getfield 25, 3) := by decide +kernel
theorem dX11_ruled_116 : decode cX11_ruled 116 = .ok (.aload_n 0, 1) := by decide +kernel
theorem dX11_ruled_117 : decode cX11_ruled 117 = .ok (.getfield 232, 3) := by decide +kernel
theorem dX11_ruled_120 : decode cX11_ruled 120 = .ok (.invokevirtual 109, 3) := by decide +kernel
theorem dX11_ruled_123 : decode cX11_ruled 123 = .ok (.checkcast 175, 3) := by decide +kernel
theorem dX11_ruled_126 : decode cX11_ruled 126 = .ok (.iload_n 2, 1) := by decide +kernel
theorem dX11_ruled_127 : decode cX11_ruled 127 = .ok (.aload_n 0, 1) := by decide +kernel
theorem dX11_ruled_128 : decode cX11_ruled 128 = .ok (.getfield 57, 3) := by decide +kernel
theorem dX11_ruled_131 : decode cX11_ruled 131 = .ok (.invokevirtual 330, 3) := by decide +kernel
theorem dX11_ruled_134 : decode cX11_ruled 134 = .ok (.ireturn, 1) := by decide +kernel
theorem dX11_runsTill_0 : decode cX11_runsTill 0 = .ok (.aload_n 0, 1) := by decide +kernel
theorem dX11_runsTill_1 : decode cX11_runsTill 1 = .ok (.getfield 16, 3) := by decide +kernel
theorem dX11_runsTill_4 : decode cX11_runsTill 4 = .ok (.iload_n 1, 1) := by decide +kernel
theorem dX11_runsTill_5 : decode cX11_runsTill 5 = .ok (.invokevirtual 109, 3) := by decide +kernel
theorem dX11_runsTill_8 : decode cX11_runsTill 8 = .ok (.checkcast 107, 3) := by decide +kernel
theorem dX11_runsTill_11 : decode cX11_runsTill 11 = .ok (.getfield 150, 3) := by decide +kernel
theorem dX11_runsTill_14 : decode cX11_runsTill 14 = .ok (.istore_n 2, 1) := by decide +kernel
theorem dX11_runsTill_15 : decode cX11_runsTill 15 = .ok (.iconst 0, 1) := by decide +kernel
theorem dX11_runsTill_16 : decode cX11_runsTill 16 = .ok (.istore_n 3, 1) := by decide +kernel
theorem dX11_runsTill_17 : decode cX11_runsTill 17 = .ok (.iconst 0, 1) := by decide +kernel
theorem dX11_runsTill_18 : decode cX11_runsTill 18 = .ok (.istore 4, 2) := by decide +kernel
theorem dX11_runsTill_20 : decode cX11_runsTill 20 = .ok (.iload 4, 2) := by decide +kernel
theorem dX11_runsTill_22 : decode cX11_runsTill 22 = .ok (.iload_n 1, 1) := by decide +kernel
theorem dX11_runsTill_23 : decode cX11_runsTill 23 = .ok (.if_icmp .gt 36, 3) := by decide +kernel
theorem dX11_runsTill_26 : decode cX11_runsTill 26 = .ok (.iload_n 3, 1) := by decide +kernel
theorem dX11_runsTill_27 : decode cX11_runsTill 27 = .ok (.aload_n 0, 1) := by decide +kernel
theorem dX11_runsTill_28 : decode cX11_runsTill 28 = .ok (.getfield 16, 3) := by decide +kernel
theorem dX11_runsTill_31 : decode cX11_runsTill 31 = .ok (.iload 4, 2) := by decide +kernel
theorem dX11_runsTill_33 : decode cX11_runsTill 33 = .ok (.invokevirtual 109, 3) := by decide +kernel
theorem dX11_runsTill_36 : decode cX11_runsTill 36 = .ok (.checkcast 107, 3) := by decide +kernel
theorem dX11_runsTill_39 : decode cX11_runsTill 39 = .ok (.getfield 150, 3) := by decide +kernel
theorem dX11_runsTill_42 : decode cX11_runsTill 42 = .ok (.iload_n 2, 1) := by decide +kernel
theorem dX11_runsTill_43 : decode cX11_runsTill 43 = .ok (.if_icmp .ne 7, 3) := by decide +kernel
theorem dX11_runsTill_46 : decode cX11_runsTill 46 = .ok (.iconst 1, 1) := by decide +kernel
theorem dX11_runsTill_47 : decode cX11_runsTill 47 = .ok (.goto 4, 3) := by decide +kernel
theorem dX11_runsTill_50 : decode cX11_runsTill 50 = .ok (.iconst 0, 1) := by decide +kernel
theorem dX11_runsTill_51 : decode cX11_runsTill 51 = .ok (.iadd, 1) := by decide +kernel
theorem dX11_runsTill_52 : decode cX11_runsTill 52 = .ok (.istore_n 3, 1) := by decide +kernel
theorem dX11_runsTill_53 : decode cX11_runsTill 53 = .ok (.iinc 4 1, 3) := by decide +kernel
theorem dX11_runsTill_56 : decode cX11_runsTill 56 = .ok (.goto (-36), 3) := by decide +kernel
theorem dX11_runsTill_59 : decode cX11_runsTill 59 = .ok (.iload_n 3, 1) := by decide +kernel
theorem dX11_runsTill_60 : decode cX11_runsTill 60 = .ok (.ireturn, 1) := by decide +kernel
theorem dX11_hitsTill_0 : decode cX11_hitsTill 0 = .ok (.aload_n 0, 1) := by decide +kernel
theorem dX11_hitsTill_1 : decode cX11_hitsTill 1 = .ok (.getfield 16, 3) := by decide +kernel
theorem dX11_hitsTill_4 : decode cX11_hitsTill 4 = .ok (.iload_n 1, 1) := by decide +kernel
theorem dX11_hitsTill_5 : decode cX11_hitsTill 5 = .ok (.invokevirtual 109, 3) := by decide +kernel
theorem dX11_hitsTill_8 : decode cX11_hitsTill 8 = .ok (.checkcast 107, 3) := by decide +kernel
theorem dX11_hitsTill_11 : decode cX11_hitsTill 11 = .ok (.getfield 150, 3) := by decide +kernel
theorem dX11_hitsTill_14 : decode cX11_hitsTill 14 = .ok (.istore_n 2, 1) := by decide +kernel
theorem dX11_hitsTill_15 : decode cX11_hitsTill 15 = .ok (.iconst 0, 1) := by decide +kernel
theorem dX11_hitsTill_16 : decode cX11_hitsTill 16 = .ok (.istore_n 3, 1) := by decide +kernel
theorem dX11_hitsTill_17 : decode cX11_hitsTill 17 = .ok (.iconst 0, 1) := by decide +kernel
theorem dX11_hitsTill_18 : decode cX11_hitsTill 18 = .ok (.istore 4, 2) := by decide +kernel
theorem dX11_hitsTill_20 : decode cX11_hitsTill 20 = .ok (.iload 4, 2) := by decide +kernel
theorem dX11_hitsTill_22 : decode cX11_hitsTill 22 = .ok (.iload_n 1, 1) := by decide +kernel
theorem dX11_hitsTill_23 : decode cX11_hitsTill 23 = .ok (.if_icmp .gt 50, 3) := by decide +kernel
theorem dX11_hitsTill_26 : decode cX11_hitsTill 26 = .ok (.iload_n 3, 1) := by decide +kernel
theorem dX11_hitsTill_27 : decode cX11_hitsTill 27 = .ok (.aload_n 0, 1) := by decide +kernel
theorem dX11_hitsTill_28 : decode cX11_hitsTill 28 = .ok (.getfield 16, 3) := by decide +kernel
theorem dX11_hitsTill_31 : decode cX11_hitsTill 31 = .ok (.iload 4, 2) := by decide +kernel
theorem dX11_hitsTill_33 : decode cX11_hitsTill 33 = .ok (.invokevirtual 109, 3) := by decide +kernel
theorem dX11_hitsTill_36 : decode cX11_hitsTill 36 = .ok (.checkcast 107, 3) := by decide +kernel
theorem dX11_hitsTill_39 : decode cX11_hitsTill 39 = .ok (.getfield 150, 3) := by decide +kernel
theorem dX11_hitsTill_42 : decode cX11_hitsTill 42 = .ok (.iload_n 2, 1) := by decide +kernel
theorem dX11_hitsTill_43 : decode cX11_hitsTill 43 = .ok (.if_icmp .ne 21, 3) := by decide +kernel
theorem dX11_hitsTill_46 : decode cX11_hitsTill 46 = .ok (.aload_n 0, 1) := by decide +kernel
theorem dX11_hitsTill_47 : decode cX11_hitsTill 47 = .ok (.getfield 16, 3) := by decide +kernel
theorem dX11_hitsTill_50 : decode cX11_hitsTill 50 = .ok (.iload 4, 2) := by decide +kernel
theorem dX11_hitsTill_52 : decode cX11_hitsTill 52 = .ok (.invokevirtual 109, 3) := by decide +kernel
theorem dX11_hitsTill_55 : decode cX11_hitsTill 55 = .ok (.checkcast 107, 3) := by decide +kernel
theorem dX11_hitsTill_58 : decode cX11_hitsTill 58 = .ok (.invokevirtual 143, 3) := by decide +kernel
theorem dX11_hitsTill_61 : decode cX11_hitsTill 61 = .ok (.goto 4, 3) := by decide +kernel
theorem dX11_hitsTill_64 : decode cX11_hitsTill 64 = .ok (.iconst 0, 1) := by decide +kernel
theorem dX11_hitsTill_65 : decode cX11_hitsTill 65 = .ok (.iadd, 1) := by decide +kernel
theorem dX11_hitsTill_66 : decode cX11_hitsTill 66 = .ok (.istore_n 3, 1) := by decide +kernel
theorem dX11_hitsTill_67 : decode cX11_hitsTill 67 = .ok (.iinc 4 1, 3) := by decide +kernel
theorem dX11_hitsTill_70 : decode cX11_hitsTill 70 = .ok (.goto (-50), 3) := by decide +kernel
theorem dX11_hitsTill_73 : decode cX11_hitsTill 73 = .ok (.iload_n 3, 1) := by decide +kernel
theorem dX11_hitsTill_74 : decode cX11_hitsTill 74 = .ok (.ireturn, 1) := by decide +kernel
theorem dX11_runsInDays_0 : decode cX11_runsInDays 0 = .ok (.iconst 0, 1) := by decide +kernel
theorem dX11_runsInDays_1 : decode cX11_runsInDays 1 = .ok (.istore 4, 2) := by decide +kernel
theorem dX11_runsInDays_3 : decode cX11_runsInDays 3 = .ok (.iconst 0, 1) := by decide +kernel
theorem dX11_runsInDays_4 : decode cX11_runsInDays 4 = .ok (.istore 5, 2) := by decide +kernel
theorem dX11_runsInDays_6 : decode cX11_runsInDays 6 = .ok (.iload 5, 2) := by decide +kernel
theorem dX11_runsInDays_8 : decode cX11_runsInDays 8 = .ok (.aload_n 0, 1) := by decide +kernel
theorem dX11_runsInDays_9 : decode cX11_runsInDays 9 = .ok (.getfield 16, 3) := by decide +kernel
theorem dX11_runsInDays_12 : decode cX11_runsInDays 12 = .ok (.invokevirtual 97, 3) := by decide +kernel
theorem dX11_runsInDays_15 : decode cX11_runsInDays 15 = .ok (.if_icmp .ge 40, 3) := by decide +kernel
theorem dX11_runsInDays_18 : decode cX11_runsInDays 18 = .ok (.iload 4, 2) := by decide +kernel
theorem dX11_runsInDays_20 : decode cX11_runsInDays 20 = .ok (.aload_n 0, 1) := by decide +kernel
theorem dX11_runsInDays_21 : decode cX11_runsInDays 21 = .ok (.getfield 16, 3) := by decide +kernel
theorem dX11_runsInDays_24 : decode cX11_runsInDays 24 = .ok (.iload 5, 2) := by decide +kernel
theorem dX11_runsInDays_26 : decode cX11_runsInDays 26 = .ok (.invokevirtual 109, 3) := by decide +kernel
theorem dX11_runsInDays_29 : decode cX11_runsInDays 29 = .ok (.checkcast 107, 3) := by decide +kernel
theorem dX11_runsInDays_32 : decode cX11_runsInDays 32 = .ok (.iload_n 1, 1) := by decide +kernel
theorem dX11_runsInDays_33 : decode cX11_runsInDays 33 = .ok (.iload_n 2, 1) := by decide +kernel
theorem dX11_runsInDays_34 : decode cX11_runsInDays 34 = .ok (.iload_n 3, 1) := by decide +kernel
theorem dX11_runsInDays_35 : decode cX11_runsInDays 35 = .ok (.invokevirtual 334, 3) := by decide +kernel
theorem dX11_runsInDays_38 : decode cX11_runsInDays 38 = .ok (.ifCond .eq 7, 3) := by decide +kernel
theorem dX11_runsInDays_41 : decode cX11_runsInDays 41 = .ok (.iconst 1, 1) := by decide +kernel
theorem dX11_runsInDays_42 : decode cX11_runsInDays 42 = .ok (.goto 4, 3) := by decide +kernel
theorem dX11_runsInDays_45 : decode cX11_runsInDays 45 = .ok (.iconst 0, 1) := by decide +kernel
theorem dX11_runsInDays_46 : decode cX11_runsInDays 46 = .ok (.iadd, 1) := by decide +kernel
theorem dX11_runsInDays_47 : decode cX11_runsInDays 47 = .ok (.istore 4, 2) := by decide +kernel
theorem dX11_runsInDays_49 : decode cX11_runsInDays 49 = .ok (.iinc 5 1, 3) := by decide +kernel
theorem dX11_runsInDays_52 : decode cX11_runsInDays 52 = .ok (.goto (-46), 3) := by decide +kernel
theorem dX11_runsInDays_55 : decode cX11_runsInDays 55 = .ok (.iload 4, 2) := by decide +kernel
theorem dX11_runsInDays_57 : decode cX11_runsInDays 57 = .ok (.ireturn, 1) := by decide +kernel
theorem dX11_hitsInDays_0 : decode cX11_hitsInDays 0 = .ok (.iconst 0, 1) := by decide +kernel
theorem dX11_hitsInDays_1 : decode cX11_hitsInDays 1 = .ok (.istore 4, 2) := by decide +kernel
theorem dX11_hitsInDays_3 : decode cX11_hitsInDays 3 = .ok (.iconst 0, 1) := by decide +kernel
theorem dX11_hitsInDays_4 : decode cX11_hitsInDays 4 = .ok (.istore 5, 2) := by decide +kernel
theorem dX11_hitsInDays_6 : decode cX11_hitsInDays 6 = .ok (.iload 5, 2) := by decide +kernel
theorem dX11_hitsInDays_8 : decode cX11_hitsInDays 8 = .ok (.aload_n 0, 1) := by decide +kernel
theorem dX11_hitsInDays_9 : decode cX11_hitsInDays 9 = .ok (.getfield 16, 3) := by decide +kernel
theorem dX11_hitsInDays_12 : decode cX11_hitsInDays 12 = .ok (.invokevirtual 97, 3) := by decide +kernel
theorem dX11_hitsInDays_15 : decode cX11_hitsInDays 15 = .ok (.if_icmp .ge 54, 3) := by decide +kernel
theorem dX11_hitsInDays_18 : decode cX11_hitsInDays 18 = .ok (.iload 4, 2) := by decide +kernel
theorem dX11_hitsInDays_20 : decode cX11_hitsInDays 20 = .ok (.aload_n 0, 1) := by decide +kernel
theorem dX11_hitsInDays_21 : decode cX11_hitsInDays 21 = .ok (.getfield 16, 3) := by decide +kernel
theorem dX11_hitsInDays_24 : decode cX11_hitsInDays 24 = .ok (.iload 5, 2) := by decide +kernel
theorem dX11_hitsInDays_26 : decode cX11_hitsInDays 26 = .ok (.invokevirtual 109, 3) := by decide +kernel
theorem dX11_hitsInDays_29 : decode cX11_hitsInDays 29 = .ok (.checkcast 107, 3) := by decide +kernel
theorem dX11_hitsInDays_32 : decode cX11_hitsInDays 32 = .ok (.iload_n 1, 1) := by decide +kernel
theorem dX11_hitsInDays_33 : decode cX11_hitsInDays 33 = .ok (.iload_n 2, 1) := by decide +kernel
theorem dX11_hitsInDays_34 : decode cX11_hitsInDays 34 = .ok (.iload_n 3, 1) := by decide +kernel
theorem dX11_hitsInDays_35 : decode cX11_hitsInDays 35 = .ok (.invokevirtual 334, 3) := by decide +kernel
theorem dX11_hitsInDays_38 : decode cX11_hitsInDays 38 = .ok (.ifCond .eq 21, 3) := by decide +kernel
theorem dX11_hitsInDays_41 : decode cX11_hitsInDays 41 = .ok (.aload_n 0, 1) := by decide +kernel
theorem dX11_hitsInDays_42 : decode cX11_hitsInDays 42 = .ok (.getfield 16, 3) := by decide +kernel
theorem dX11_hitsInDays_45 : decode cX11_hitsInDays 45 = .ok (.iload 5, 2) := by decide +kernel
theorem dX11_hitsInDays_47 : decode cX11_hitsInDays 47 = .ok (.invokevirtual 109, 3) := by decide +kernel
theorem dX11_hitsInDays_50 : decode cX11_hitsInDays 50 = .ok (.checkcast 107, 3) := by decide +kernel
theorem dX11_hitsInDays_53 : decode cX11_hitsInDays 53 = .ok (.invokevirtual 143, 3) := by decide +kernel
theorem dX11_hitsInDays_56 : decode cX11_hitsInDays 56 = .ok (.goto 4, 3) := by decide +kernel
theorem dX11_hitsInDays_59 : decode cX11_hitsInDays 59 = .ok (.iconst 0, 1) := by decide +kernel
theorem dX11_hitsInDays_60 : decode cX11_hitsInDays 60 = .ok (.iadd, 1) := by decide +kernel
theorem dX11_hitsInDays_61 : decode cX11_hitsInDays 61 = .ok (.istore 4, 2) := by decide +kernel
theorem dX11_hitsInDays_63 : decode cX11_hitsInDays 63 = .ok (.iinc 5 1, 3) := by decide +kernel
theorem dX11_hitsInDays_66 : decode cX11_hitsInDays 66 = .ok (.goto (-60), 3) := by decide +kernel
theorem dX11_hitsInDays_69 : decode cX11_hitsInDays 69 = .ok (.iload 4, 2) := by decide +kernel
theorem dX11_hitsInDays_71 : decode cX11_hitsInDays 71 = .ok (.ireturn, 1) := by decide +kernel
theorem dX11_hitsOfAll_0 : decode cX11_hitsOfAll 0 = .ok (.iconst 0, 1) := by decide +kernel
theorem dX11_hitsOfAll_1 : decode cX11_hitsOfAll 1 = .ok (.istore_n 1, 1) := by decide +kernel
theorem dX11_hitsOfAll_2 : decode cX11_hitsOfAll 2 = .ok (.iconst 0, 1) := by decide +kernel
theorem dX11_hitsOfAll_3 : decode cX11_hitsOfAll 3 = .ok (.istore_n 2, 1) := by decide +kernel
theorem dX11_hitsOfAll_4 : decode cX11_hitsOfAll 4 = .ok (.iload_n 2, 1) := by decide +kernel
theorem dX11_hitsOfAll_5 : decode cX11_hitsOfAll 5 = .ok (.aload_n 0, 1) := by decide +kernel
theorem dX11_hitsOfAll_6 : decode cX11_hitsOfAll 6 = .ok (.getfield 16, 3) := by decide +kernel
theorem dX11_hitsOfAll_9 : decode cX11_hitsOfAll 9 = .ok (.invokevirtual 97, 3) := by decide +kernel
theorem dX11_hitsOfAll_12 : decode cX11_hitsOfAll 12 = .ok (.if_icmp .ge 26, 3) := by decide +kernel
theorem dX11_hitsOfAll_15 : decode cX11_hitsOfAll 15 = .ok (.iload_n 1, 1) := by decide +kernel
theorem dX11_hitsOfAll_16 : decode cX11_hitsOfAll 16 = .ok (.aload_n 0, 1) := by decide +kernel
theorem dX11_hitsOfAll_17 : decode cX11_hitsOfAll 17 = .ok (.getfield 16, 3) := by decide +kernel
theorem dX11_hitsOfAll_20 : decode cX11_hitsOfAll 20 = .ok (.iload_n 2, 1) := by decide +kernel
theorem dX11_hitsOfAll_21 : decode cX11_hitsOfAll 21 = .ok (.invokevirtual 109, 3) := by decide +kernel
theorem dX11_hitsOfAll_24 : decode cX11_hitsOfAll 24 = .ok (.checkcast 107, 3) := by decide +kernel
theorem dX11_hitsOfAll_27 : decode cX11_hitsOfAll 27 = .ok (.invokevirtual 143, 3) := by decide +kernel
theorem dX11_hitsOfAll_30 : decode cX11_hitsOfAll 30 = .ok (.iadd, 1) := by decide +kernel
theorem dX11_hitsOfAll_31 : decode cX11_hitsOfAll 31 = .ok (.istore_n 1, 1) := by decide +kernel
theorem dX11_hitsOfAll_32 : decode cX11_hitsOfAll 32 = .ok (.iinc 2 1, 3) := by decide +kernel
theorem dX11_hitsOfAll_35 : decode cX11_hitsOfAll 35 = .ok (.goto (-31), 3) := by decide +kernel
theorem dX11_hitsOfAll_38 : decode cX11_hitsOfAll 38 = .ok (.iload_n 1, 1) := by decide +kernel
theorem dX11_hitsOfAll_39 : decode cX11_hitsOfAll 39 = .ok (.ireturn, 1) := by decide +kernel
theorem dX11_kindsOfLeaks_0 : decode cX11_kindsOfLeaks 0 = .ok (.iconst 0, 1) := by decide +kernel
theorem dX11_kindsOfLeaks_1 : decode cX11_kindsOfLeaks 1 = .ok (.istore_n 2, 1) := by decide +kernel
theorem dX11_kindsOfLeaks_2 : decode cX11_kindsOfLeaks 2 = .ok (.iconst 0, 1) := by decide +kernel
theorem dX11_kindsOfLeaks_3 : decode cX11_kindsOfLeaks 3 = .ok (.istore_n 3, 1) := by decide +kernel
theorem dX11_kindsOfLeaks_4 : decode cX11_kindsOfLeaks 4 = .ok (.iload_n 3, 1) := by decide +kernel
theorem dX11_kindsOfLeaks_5 : decode cX11_kindsOfLeaks 5 = .ok (.aload_n 0, 1) := by decide +kernel
theorem dX11_kindsOfLeaks_6 : decode cX11_kindsOfLeaks 6 = .ok (.getfield 19, 3) := by decide +kernel
theorem dX11_kindsOfLeaks_9 : decode cX11_kindsOfLeaks 9 = .ok (.invokevirtual 97, 3) := by decide +kernel
theorem dX11_kindsOfLeaks_12 : decode cX11_kindsOfLeaks 12 = .ok (.if_icmp .ge 37, 3) := by decide +kernel
theorem dX11_kindsOfLeaks_15 : decode cX11_kindsOfLeaks 15 = .ok (.iload_n 1, 1) := by decide +kernel
theorem dX11_kindsOfLeaks_16 : decode cX11_kindsOfLeaks 16 = .ok (.iload_n 3, 1) := by decide +kernel
theorem dX11_kindsOfLeaks_17 : decode cX11_kindsOfLeaks 17 = .ok (.ishr, 1) := by decide +kernel
theorem dX11_kindsOfLeaks_18 : decode cX11_kindsOfLeaks 18 = .ok (.iconst 1, 1) := by decide +kernel
theorem dX11_kindsOfLeaks_19 : decode cX11_kindsOfLeaks 19 = .ok (.iand, 1) := by decide +kernel
theorem dX11_kindsOfLeaks_20 : decode cX11_kindsOfLeaks 20 = .ok (.iconst 1, 1) := by decide +kernel
theorem dX11_kindsOfLeaks_21 : decode cX11_kindsOfLeaks 21 = .ok (.if_icmp .ne 22, 3) := by decide +kernel
theorem dX11_kindsOfLeaks_24 : decode cX11_kindsOfLeaks 24 = .ok (.iload_n 2, 1) := by decide +kernel
theorem dX11_kindsOfLeaks_25 : decode cX11_kindsOfLeaks 25 = .ok (.iconst 1, 1) := by decide +kernel
theorem dX11_kindsOfLeaks_26 : decode cX11_kindsOfLeaks 26 = .ok (.aload_n 0, 1) := by decide +kernel
theorem dX11_kindsOfLeaks_27 : decode cX11_kindsOfLeaks 27 = .ok (.getfield 19, 3) := by decide +kernel
theorem dX11_kindsOfLeaks_30 : decode cX11_kindsOfLeaks 30 = .ok (.iload_n 3, 1) := by decide +kernel
theorem dX11_kindsOfLeaks_31 : decode cX11_kindsOfLeaks 31 = .ok (.invokevirtual 109, 3) := by decide +kernel
theorem dX11_kindsOfLeaks_34 : decode cX11_kindsOfLeaks 34 = .ok (.checkcast 194, 3) := by decide +kernel
theorem dX11_kindsOfLeaks_37 : decode cX11_kindsOfLeaks 37 = .ok (.getfield 227, 3) := by decide +kernel
theorem dX11_kindsOfLeaks_40 : decode cX11_kindsOfLeaks 40 = .ok (.ishl, 1) := by decide +kernel
theorem dX11_kindsOfLeaks_41 : decode cX11_kindsOfLeaks 41 = .ok (.ior, 1) := by decide +kernel
theorem dX11_kindsOfLeaks_42 : decode cX11_kindsOfLeaks 42 = .ok (.istore_n 2, 1) := by decide +kernel
theorem dX11_kindsOfLeaks_43 : decode cX11_kindsOfLeaks 43 = .ok (.iinc 3 1, 3) := by decide +kernel
theorem dX11_kindsOfLeaks_46 : decode cX11_kindsOfLeaks 46 = .ok (.goto (-42), 3) := by decide +kernel
theorem dX11_kindsOfLeaks_49 : decode cX11_kindsOfLeaks 49 = .ok (.iload_n 2, 1) := by decide +kernel
theorem dX11_kindsOfLeaks_50 : decode cX11_kindsOfLeaks 50 = .ok (.ireturn, 1) := by decide +kernel
theorem dX11_kindsShutBy_0 : decode cX11_kindsShutBy 0 = .ok (.iconst 0, 1) := by decide +kernel
theorem dX11_kindsShutBy_1 : decode cX11_kindsShutBy 1 = .ok (.istore_n 2, 1) := by decide +kernel
theorem dX11_kindsShutBy_2 : decode cX11_kindsShutBy 2 = .ok (.iconst 0, 1) := by decide +kernel
theorem dX11_kindsShutBy_3 : decode cX11_kindsShutBy 3 = .ok (.istore_n 3, 1) := by decide +kernel
theorem dX11_kindsShutBy_4 : decode cX11_kindsShutBy 4 = .ok (.iload_n 3, 1) := by decide +kernel
theorem dX11_kindsShutBy_5 : decode cX11_kindsShutBy 5 = .ok (.aload_n 0, 1) := by decide +kernel
theorem dX11_kindsShutBy_6 : decode cX11_kindsShutBy 6 = .ok (.getfield 22, 3) := by decide +kernel
theorem dX11_kindsShutBy_9 : decode cX11_kindsShutBy 9 = .ok (.invokevirtual 97, 3) := by decide +kernel
theorem dX11_kindsShutBy_12 : decode cX11_kindsShutBy 12 = .ok (.if_icmp .ge 35, 3) := by decide +kernel
theorem dX11_kindsShutBy_15 : decode cX11_kindsShutBy 15 = .ok (.iload_n 1, 1) := by decide +kernel
theorem dX11_kindsShutBy_16 : decode cX11_kindsShutBy 16 = .ok (.iload_n 3, 1) := by decide +kernel
theorem dX11_kindsShutBy_17 : decode cX11_kindsShutBy 17 = .ok (.ishr, 1) := by decide +kernel
theorem dX11_kindsShutBy_18 : decode cX11_kindsShutBy 18 = .ok (.iconst 1, 1) := by decide +kernel
theorem dX11_kindsShutBy_19 : decode cX11_kindsShutBy 19 = .ok (.iand, 1) := by decide +kernel
theorem dX11_kindsShutBy_20 : decode cX11_kindsShutBy 20 = .ok (.iconst 1, 1) := by decide +kernel
theorem dX11_kindsShutBy_21 : decode cX11_kindsShutBy 21 = .ok (.if_icmp .ne 20, 3) := by decide +kernel
theorem dX11_kindsShutBy_24 : decode cX11_kindsShutBy 24 = .ok (.iload_n 2, 1) := by decide +kernel
theorem dX11_kindsShutBy_25 : decode cX11_kindsShutBy 25 = .ok (.aload_n 0, 1) := by decide +kernel
theorem dX11_kindsShutBy_26 : decode cX11_kindsShutBy 26 = .ok (.getfield 22, 3) := by decide +kernel
theorem dX11_kindsShutBy_29 : decode cX11_kindsShutBy 29 = .ok (.iload_n 3, 1) := by decide +kernel
theorem dX11_kindsShutBy_30 : decode cX11_kindsShutBy 30 = .ok (.invokevirtual 109, 3) := by decide +kernel
theorem dX11_kindsShutBy_33 : decode cX11_kindsShutBy 33 = .ok (.checkcast 212, 3) := by decide +kernel
theorem dX11_kindsShutBy_36 : decode cX11_kindsShutBy 36 = .ok (.getfield 337, 3) := by decide +kernel
theorem dX11_kindsShutBy_39 : decode cX11_kindsShutBy 39 = .ok (.ior, 1) := by decide +kernel
theorem dX11_kindsShutBy_40 : decode cX11_kindsShutBy 40 = .ok (.istore_n 2, 1) := by decide +kernel
theorem dX11_kindsShutBy_41 : decode cX11_kindsShutBy 41 = .ok (.iinc 3 1, 3) := by decide +kernel
theorem dX11_kindsShutBy_44 : decode cX11_kindsShutBy 44 = .ok (.goto (-40), 3) := by decide +kernel
theorem dX11_kindsShutBy_47 : decode cX11_kindsShutBy 47 = .ok (.iload_n 2, 1) := by decide +kernel
theorem dX11_kindsShutBy_48 : decode cX11_kindsShutBy 48 = .ok (.ireturn, 1) := by decide +kernel
theorem dX11_hoursOf_0 : decode cX11_hoursOf 0 = .ok (.iconst 0, 1) := by decide +kernel
theorem dX11_hoursOf_1 : decode cX11_hoursOf 1 = .ok (.istore_n 2, 1) := by decide +kernel
theorem dX11_hoursOf_2 : decode cX11_hoursOf 2 = .ok (.iconst 0, 1) := by decide +kernel
theorem dX11_hoursOf_3 : decode cX11_hoursOf 3 = .ok (.istore_n 3, 1) := by decide +kernel
theorem dX11_hoursOf_4 : decode cX11_hoursOf 4 = .ok (.iload_n 3, 1) := by decide +kernel
theorem dX11_hoursOf_5 : decode cX11_hoursOf 5 = .ok (.aload_n 0, 1) := by decide +kernel
theorem dX11_hoursOf_6 : decode cX11_hoursOf 6 = .ok (.getfield 22, 3) := by decide +kernel
theorem dX11_hoursOf_9 : decode cX11_hoursOf 9 = .ok (.invokevirtual 97, 3) := by decide +kernel
theorem dX11_hoursOf_12 : decode cX11_hoursOf 12 = .ok (.if_icmp .ge 35, 3) := by decide +kernel
theorem dX11_hoursOf_15 : decode cX11_hoursOf 15 = .ok (.iload_n 1, 1) := by decide +kernel
theorem dX11_hoursOf_16 : decode cX11_hoursOf 16 = .ok (.iload_n 3, 1) := by decide +kernel
theorem dX11_hoursOf_17 : decode cX11_hoursOf 17 = .ok (.ishr, 1) := by decide +kernel
theorem dX11_hoursOf_18 : decode cX11_hoursOf 18 = .ok (.iconst 1, 1) := by decide +kernel
theorem dX11_hoursOf_19 : decode cX11_hoursOf 19 = .ok (.iand, 1) := by decide +kernel
theorem dX11_hoursOf_20 : decode cX11_hoursOf 20 = .ok (.iconst 1, 1) := by decide +kernel
theorem dX11_hoursOf_21 : decode cX11_hoursOf 21 = .ok (.if_icmp .ne 20, 3) := by decide +kernel
theorem dX11_hoursOf_24 : decode cX11_hoursOf 24 = .ok (.iload_n 2, 1) := by decide +kernel
theorem dX11_hoursOf_25 : decode cX11_hoursOf 25 = .ok (.aload_n 0, 1) := by decide +kernel
theorem dX11_hoursOf_26 : decode cX11_hoursOf 26 = .ok (.getfield 22, 3) := by decide +kernel
theorem dX11_hoursOf_29 : decode cX11_hoursOf 29 = .ok (.iload_n 3, 1) := by decide +kernel
theorem dX11_hoursOf_30 : decode cX11_hoursOf 30 = .ok (.invokevirtual 109, 3) := by decide +kernel
theorem dX11_hoursOf_33 : decode cX11_hoursOf 33 = .ok (.checkcast 212, 3) := by decide +kernel
theorem dX11_hoursOf_36 : decode cX11_hoursOf 36 = .ok (.getfield 340, 3) := by decide +kernel
theorem dX11_hoursOf_39 : decode cX11_hoursOf 39 = .ok (.iadd, 1) := by decide +kernel
theorem dX11_hoursOf_40 : decode cX11_hoursOf 40 = .ok (.istore_n 2, 1) := by decide +kernel
theorem dX11_hoursOf_41 : decode cX11_hoursOf 41 = .ok (.iinc 3 1, 3) := by decide +kernel
theorem dX11_hoursOf_44 : decode cX11_hoursOf 44 = .ok (.goto (-40), 3) := by decide +kernel
theorem dX11_hoursOf_47 : decode cX11_hoursOf 47 = .ok (.iload_n 2, 1) := by decide +kernel
theorem dX11_hoursOf_48 : decode cX11_hoursOf 48 = .ok (.ireturn, 1) := by decide +kernel
theorem dJ9_abs_067f4_0 : decode cJ9_abs_067f4 0 = .ok (.lload_n 0, 1) := by decide +kernel
theorem dJ9_abs_067f4_1 : decode cJ9_abs_067f4 1 = .ok (.lconst 0, 1) := by decide +kernel
theorem dJ9_abs_067f4_2 : decode cJ9_abs_067f4 2 = .ok (.lcmp, 1) := by decide +kernel
theorem dJ9_abs_067f4_3 : decode cJ9_abs_067f4 3 = .ok (.ifCond .ge 8, 3) := by decide +kernel
theorem dJ9_abs_067f4_6 : decode cJ9_abs_067f4 6 = .ok (.lload_n 0, 1) := by decide +kernel
theorem dJ9_abs_067f4_7 : decode cJ9_abs_067f4 7 = .ok (.lneg, 1) := by decide +kernel
theorem dJ9_abs_067f4_8 : decode cJ9_abs_067f4 8 = .ok (.goto 4, 3) := by decide +kernel
theorem dJ9_abs_067f4_11 : decode cJ9_abs_067f4 11 = .ok (.lload_n 0, 1) := by decide +kernel
theorem dJ9_abs_067f4_12 : decode cJ9_abs_067f4 12 = .ok (.lreturn, 1) := by decide +kernel
theorem dJ9_max_7cf53_0 : decode cJ9_max_7cf53 0 = .ok (.iload_n 0, 1) := by decide +kernel
theorem dJ9_max_7cf53_1 : decode cJ9_max_7cf53 1 = .ok (.iload_n 1, 1) := by decide +kernel
theorem dJ9_max_7cf53_2 : decode cJ9_max_7cf53 2 = .ok (.if_icmp .lt 7, 3) := by decide +kernel
theorem dJ9_max_7cf53_5 : decode cJ9_max_7cf53 5 = .ok (.iload_n 0, 1) := by decide +kernel
theorem dJ9_max_7cf53_6 : decode cJ9_max_7cf53 6 = .ok (.goto 4, 3) := by decide +kernel
theorem dJ9_max_7cf53_9 : decode cJ9_max_7cf53 9 = .ok (.iload_n 1, 1) := by decide +kernel
theorem dJ9_max_7cf53_10 : decode cJ9_max_7cf53 10 = .ok (.ireturn, 1) := by decide +kernel
theorem dJ9_min_7cf53_0 : decode cJ9_min_7cf53 0 = .ok (.iload_n 0, 1) := by decide +kernel
theorem dJ9_min_7cf53_1 : decode cJ9_min_7cf53 1 = .ok (.iload_n 1, 1) := by decide +kernel
theorem dJ9_min_7cf53_2 : decode cJ9_min_7cf53 2 = .ok (.if_icmp .gt 7, 3) := by decide +kernel
theorem dJ9_min_7cf53_5 : decode cJ9_min_7cf53 5 = .ok (.iload_n 0, 1) := by decide +kernel
theorem dJ9_min_7cf53_6 : decode cJ9_min_7cf53 6 = .ok (.goto 4, 3) := by decide +kernel
theorem dJ9_min_7cf53_9 : decode cJ9_min_7cf53 9 = .ok (.iload_n 1, 1) := by decide +kernel
theorem dJ9_min_7cf53_10 : decode cJ9_min_7cf53 10 = .ok (.ireturn, 1) := by decide +kernel
theorem dJ0_length_8abf5_0 : decode cJ0_length_8abf5 0 = .ok (.aload_n 0, 1) := by decide +kernel
theorem dJ0_length_8abf5_1 : decode cJ0_length_8abf5 1 = .ok (.getfield 9, 3) := by decide +kernel
theorem dJ0_length_8abf5_4 : decode cJ0_length_8abf5 4 = .ok (.arraylength, 1) := by decide +kernel
theorem dJ0_length_8abf5_5 : decode cJ0_length_8abf5 5 = .ok (.aload_n 0, 1) := by decide +kernel
theorem dJ0_length_8abf5_6 : decode cJ0_length_8abf5 6 = .ok (.invokevirtual 335, 3) := by decide +kernel
theorem dJ0_length_8abf5_9 : decode cJ0_length_8abf5 9 = .ok (.ishr, 1) := by decide +kernel
theorem dJ0_length_8abf5_10 : decode cJ0_length_8abf5 10 = .ok (.ireturn, 1) := by decide +kernel
theorem dJ0_charAt_5068e_0 : decode cJ0_charAt_5068e 0 = .ok (.aload_n 0, 1) := by decide +kernel
theorem dJ0_charAt_5068e_1 : decode cJ0_charAt_5068e 1 = .ok (.invokevirtual 492, 3) := by decide +kernel
theorem dJ0_charAt_5068e_4 : decode cJ0_charAt_5068e 4 = .ok (.ifCond .eq 12, 3) := by decide +kernel
theorem dJ0_charAt_5068e_7 : decode cJ0_charAt_5068e 7 = .ok (.aload_n 0, 1) := by decide +kernel
theorem dJ0_charAt_5068e_8 : decode cJ0_charAt_5068e 8 = .ok (.getfield 9, 3) := by decide +kernel
theorem dJ0_charAt_5068e_11 : decode cJ0_charAt_5068e 11 = .ok (.iload_n 1, 1) := by decide +kernel
theorem dJ0_charAt_5068e_12 : decode cJ0_charAt_5068e 12 = .ok (.invokestatic 495, 3) := by decide +kernel
theorem dJ0_charAt_5068e_15 : decode cJ0_charAt_5068e 15 = .ok (.ireturn, 1) := by decide +kernel
theorem dJ0_charAt_5068e_16 : decode cJ0_charAt_5068e 16 = .ok (.aload_n 0, 1) := by decide +kernel
theorem dJ0_charAt_5068e_17 : decode cJ0_charAt_5068e 17 = .ok (.getfield 9, 3) := by decide +kernel
theorem dJ0_charAt_5068e_20 : decode cJ0_charAt_5068e 20 = .ok (.iload_n 1, 1) := by decide +kernel
theorem dJ0_charAt_5068e_21 : decode cJ0_charAt_5068e 21 = .ok (.invokestatic 498, 3) := by decide +kernel
theorem dJ0_charAt_5068e_24 : decode cJ0_charAt_5068e 24 = .ok (.ireturn, 1) := by decide +kernel
theorem dJ0_coder_7d493_0 : decode cJ0_coder_7d493 0 = .ok (.getstatic 38, 3) := by decide +kernel
theorem dJ0_coder_7d493_3 : decode cJ0_coder_7d493 3 = .ok (.ifCond .eq 10, 3) := by decide +kernel
theorem dJ0_coder_7d493_6 : decode cJ0_coder_7d493 6 = .ok (.aload_n 0, 1) := by decide +kernel
theorem dJ0_coder_7d493_7 : decode cJ0_coder_7d493 7 = .ok (.getfield 15, 3) := by decide +kernel
theorem dJ0_coder_7d493_10 : decode cJ0_coder_7d493 10 = .ok (.goto 4, 3) := by decide +kernel
theorem dJ0_coder_7d493_13 : decode cJ0_coder_7d493 13 = .ok (.iconst 1, 1) := by decide +kernel
theorem dJ0_coder_7d493_14 : decode cJ0_coder_7d493 14 = .ok (.ireturn, 1) := by decide +kernel
theorem dJ0_isLatin1_aae02_0 : decode cJ0_isLatin1_aae02 0 = .ok (.getstatic 38, 3) := by decide +kernel
theorem dJ0_isLatin1_aae02_3 : decode cJ0_isLatin1_aae02 3 = .ok (.ifCond .eq 14, 3) := by decide +kernel
theorem dJ0_isLatin1_aae02_6 : decode cJ0_isLatin1_aae02 6 = .ok (.aload_n 0, 1) := by decide +kernel
theorem dJ0_isLatin1_aae02_7 : decode cJ0_isLatin1_aae02 7 = .ok (.getfield 15, 3) := by decide +kernel
theorem dJ0_isLatin1_aae02_10 : decode cJ0_isLatin1_aae02 10 = .ok (.ifCond .ne 7, 3) := by decide +kernel
theorem dJ0_isLatin1_aae02_13 : decode cJ0_isLatin1_aae02 13 = .ok (.iconst 1, 1) := by decide +kernel
theorem dJ0_isLatin1_aae02_14 : decode cJ0_isLatin1_aae02 14 = .ok (.goto 4, 3) := by decide +kernel
theorem dJ0_isLatin1_aae02_17 : decode cJ0_isLatin1_aae02 17 = .ok (.iconst 0, 1) := by decide +kernel
theorem dJ0_isLatin1_aae02_18 : decode cJ0_isLatin1_aae02 18 = .ok (.ireturn, 1) := by decide +kernel
theorem dJ0_checkIndex_df160_0 : decode cJ0_checkIndex_df160 0 = .ok (.iload_n 0, 1) := by decide +kernel
theorem dJ0_checkIndex_df160_1 : decode cJ0_checkIndex_df160 1 = .ok (.iload_n 1, 1) := by decide +kernel
theorem dJ0_checkIndex_df160_2 : decode cJ0_checkIndex_df160 2 = .ok (.getstatic 1053, 3) := by decide +kernel
theorem dJ0_checkIndex_df160_5 : decode cJ0_checkIndex_df160 5 = .ok (.invokestatic 1059, 3) := by decide +kernel
theorem dJ0_checkIndex_df160_8 : decode cJ0_checkIndex_df160 8 = .ok (.pop, 1) := by decide +kernel
theorem dJ0_checkIndex_df160_9 : decode cJ0_checkIndex_df160 9 = .ok (.return_, 1) := by decide +kernel
theorem dJ1_charAt_3b067_0 : decode cJ1_charAt_3b067 0 = .ok (.iload_n 1, 1) := by decide +kernel
theorem dJ1_charAt_3b067_1 : decode cJ1_charAt_3b067 1 = .ok (.aload_n 0, 1) := by decide +kernel
theorem dJ1_charAt_3b067_2 : decode cJ1_charAt_3b067 2 = .ok (.arraylength, 1) := by decide +kernel
theorem dJ1_charAt_3b067_3 : decode cJ1_charAt_3b067 3 = .ok (.invokestatic 9, 3) := by decide +kernel
theorem dJ1_charAt_3b067_6 : decode cJ1_charAt_3b067 6 = .ok (.aload_n 0, 1) := by decide +kernel
theorem dJ1_charAt_3b067_7 : decode cJ1_charAt_3b067 7 = .ok (.iload_n 1, 1) := by decide +kernel
theorem dJ1_charAt_3b067_8 : decode cJ1_charAt_3b067 8 = .ok (.baload, 1) := by decide +kernel
theorem dJ1_charAt_3b067_9 : decode cJ1_charAt_3b067 9 = .ok (.sipush 255, 3) := by decide +kernel
theorem dJ1_charAt_3b067_12 : decode cJ1_charAt_3b067 12 = .ok (.iand, 1) := by decide +kernel
theorem dJ1_charAt_3b067_13 : decode cJ1_charAt_3b067 13 = .ok (.i2c, 1) := by decide +kernel
theorem dJ1_charAt_3b067_14 : decode cJ1_charAt_3b067 14 = .ok (.ireturn, 1) := by decide +kernel
theorem dJ2_getChar_3b067_0 : decode cJ2_getChar_3b067 0 = .ok (.getstatic 44, 3) := by decide +kernel
theorem dJ2_getChar_3b067_3 : decode cJ2_getChar_3b067 3 = .ok (.ifCond .ne 25, 3) := by decide +kernel
theorem dJ2_getChar_3b067_6 : decode cJ2_getChar_3b067 6 = .ok (.iload_n 1, 1) := by decide +kernel
theorem dJ2_getChar_3b067_7 : decode cJ2_getChar_3b067 7 = .ok (.ifCond .lt 11, 3) := by decide +kernel
theorem dJ2_getChar_3b067_10 : decode cJ2_getChar_3b067 10 = .ok (.iload_n 1, 1) := by decide +kernel
theorem dJ2_getChar_3b067_11 : decode cJ2_getChar_3b067 11 = .ok (.aload_n 0, 1) := by decide +kernel
theorem dJ2_getChar_3b067_12 : decode cJ2_getChar_3b067 12 = .ok (.invokestatic 48, 3) := by decide +kernel
theorem dJ2_getChar_3b067_15 : decode cJ2_getChar_3b067 15 = .ok (.if_icmp .lt 13, 3) := by decide +kernel
theorem dJ2_getChar_3b067_18 : decode cJ2_getChar_3b067 18 = .ok (.new 52, 3) := by decide +kernel
theorem dJ2_getChar_3b067_21 : decode cJ2_getChar_3b067 21 = .ok (.dup, 1) := by decide +kernel
theorem dJ2_getChar_3b067_22 : decode cJ2_getChar_3b067 22 = .ok (.ldc 54, 2) := by decide +kernel
theorem dJ2_getChar_3b067_24 : decode cJ2_getChar_3b067 24 = .ok (.invokespecial 56, 3) := by decide +kernel
theorem dJ2_getChar_3b067_27 : decode cJ2_getChar_3b067 27 = .ok (.athrow, 1) := by decide +kernel
theorem dJ2_getChar_3b067_28 : decode cJ2_getChar_3b067 28 = .ok (.iload_n 1, 1) := by decide +kernel
theorem dJ2_getChar_3b067_29 : decode cJ2_getChar_3b067 29 = .ok (.iconst 1, 1) := by decide +kernel
theorem dJ2_getChar_3b067_30 : decode cJ2_getChar_3b067 30 = .ok (.ishl, 1) := by decide +kernel
theorem dJ2_getChar_3b067_31 : decode cJ2_getChar_3b067 31 = .ok (.istore_n 1, 1) := by decide +kernel
theorem dJ2_getChar_3b067_32 : decode cJ2_getChar_3b067 32 = .ok (.aload_n 0, 1) := by decide +kernel
theorem dJ2_getChar_3b067_33 : decode cJ2_getChar_3b067 33 = .ok (.iload_n 1, 1) := by decide +kernel
theorem dJ2_getChar_3b067_34 : decode cJ2_getChar_3b067 34 = .ok (.iinc 1 1, 3) := by decide +kernel
theorem dJ2_getChar_3b067_37 : decode cJ2_getChar_3b067 37 = .ok (.baload, 1) := by decide +kernel
theorem dJ2_getChar_3b067_38 : decode cJ2_getChar_3b067 38 = .ok (.sipush 255, 3) := by decide +kernel
theorem dJ2_getChar_3b067_41 : decode cJ2_getChar_3b067 41 = .ok (.iand, 1) := by decide +kernel
theorem dJ2_getChar_3b067_42 : decode cJ2_getChar_3b067 42 = .ok (.getstatic 59, 3) := by decide +kernel
theorem dJ2_getChar_3b067_45 : decode cJ2_getChar_3b067 45 = .ok (.ishl, 1) := by decide +kernel
theorem dJ2_getChar_3b067_46 : decode cJ2_getChar_3b067 46 = .ok (.aload_n 0, 1) := by decide +kernel
theorem dJ2_getChar_3b067_47 : decode cJ2_getChar_3b067 47 = .ok (.iload_n 1, 1) := by decide +kernel
theorem dJ2_getChar_3b067_48 : decode cJ2_getChar_3b067 48 = .ok (.baload, 1) := by decide +kernel
theorem dJ2_getChar_3b067_49 : decode cJ2_getChar_3b067 49 = .ok (.sipush 255, 3) := by decide +kernel
theorem dJ2_getChar_3b067_52 : decode cJ2_getChar_3b067 52 = .ok (.iand, 1) := by decide +kernel
theorem dJ2_getChar_3b067_53 : decode cJ2_getChar_3b067 53 = .ok (.getstatic 63, 3) := by decide +kernel
theorem dJ2_getChar_3b067_56 : decode cJ2_getChar_3b067 56 = .ok (.ishl, 1) := by decide +kernel
theorem dJ2_getChar_3b067_57 : decode cJ2_getChar_3b067 57 = .ok (.ior, 1) := by decide +kernel
theorem dJ2_getChar_3b067_58 : decode cJ2_getChar_3b067 58 = .ok (.i2c, 1) := by decide +kernel
theorem dJ2_getChar_3b067_59 : decode cJ2_getChar_3b067 59 = .ok (.ireturn, 1) := by decide +kernel
theorem dJ2_length_9d52b_0 : decode cJ2_length_9d52b 0 = .ok (.aload_n 0, 1) := by decide +kernel
theorem dJ2_length_9d52b_1 : decode cJ2_length_9d52b 1 = .ok (.arraylength, 1) := by decide +kernel
theorem dJ2_length_9d52b_2 : decode cJ2_length_9d52b 2 = .ok (.iconst 1, 1) := by decide +kernel
theorem dJ2_length_9d52b_3 : decode cJ2_length_9d52b 3 = .ok (.ishr, 1) := by decide +kernel
theorem dJ2_length_9d52b_4 : decode cJ2_length_9d52b 4 = .ok (.ireturn, 1) := by decide +kernel
theorem dJ2_charAt_3b067_0 : decode cJ2_charAt_3b067 0 = .ok (.iload_n 1, 1) := by decide +kernel
theorem dJ2_charAt_3b067_1 : decode cJ2_charAt_3b067 1 = .ok (.aload_n 0, 1) := by decide +kernel
theorem dJ2_charAt_3b067_2 : decode cJ2_charAt_3b067 2 = .ok (.invokestatic 67, 3) := by decide +kernel
theorem dJ2_charAt_3b067_5 : decode cJ2_charAt_3b067 5 = .ok (.aload_n 0, 1) := by decide +kernel
theorem dJ2_charAt_3b067_6 : decode cJ2_charAt_3b067 6 = .ok (.iload_n 1, 1) := by decide +kernel
theorem dJ2_charAt_3b067_7 : decode cJ2_charAt_3b067 7 = .ok (.invokestatic 71, 3) := by decide +kernel
theorem dJ2_charAt_3b067_10 : decode cJ2_charAt_3b067 10 = .ok (.ireturn, 1) := by decide +kernel
theorem dJ2_checkIndex_2214a_0 : decode cJ2_checkIndex_2214a 0 = .ok (.iload_n 0, 1) := by decide +kernel
theorem dJ2_checkIndex_2214a_1 : decode cJ2_checkIndex_2214a 1 = .ok (.aload_n 1, 1) := by decide +kernel
theorem dJ2_checkIndex_2214a_2 : decode cJ2_checkIndex_2214a 2 = .ok (.invokestatic 48, 3) := by decide +kernel
theorem dJ2_checkIndex_2214a_5 : decode cJ2_checkIndex_2214a 5 = .ok (.invokestatic 414, 3) := by decide +kernel
theorem dJ2_checkIndex_2214a_8 : decode cJ2_checkIndex_2214a 8 = .ok (.return_, 1) := by decide +kernel
theorem dJxa1e45_init_da8c8_0 : decode cJxa1e45_init_da8c8 0 = .ok (.aload_n 0, 1) := by decide +kernel
theorem dJxa1e45_init_da8c8_1 : decode cJxa1e45_init_da8c8 1 = .ok (.invokespecial 1, 3) := by decide +kernel
theorem dJxa1e45_init_da8c8_4 : decode cJxa1e45_init_da8c8 4 = .ok (.return_, 1) := by decide +kernel
theorem dJxc12de_init_da8c8_0 : decode cJxc12de_init_da8c8 0 = .ok (.aload_n 0, 1) := by decide +kernel
theorem dJxc12de_init_da8c8_1 : decode cJxc12de_init_da8c8 1 = .ok (.invokespecial 1, 3) := by decide +kernel
theorem dJxc12de_init_da8c8_4 : decode cJxc12de_init_da8c8 4 = .ok (.aload_n 0, 1) := by decide +kernel
theorem dJxc12de_init_da8c8_5 : decode cJxc12de_init_da8c8 5 = .ok (.iconst 0, 1) := by decide +kernel
theorem dJxc12de_init_da8c8_6 : decode cJxc12de_init_da8c8 6 = .ok (.putfield 7, 3) := by decide +kernel
theorem dJxc12de_init_da8c8_9 : decode cJxc12de_init_da8c8 9 = .ok (.return_, 1) := by decide +kernel
theorem dJx4a65c_init_da8c8_0 : decode cJx4a65c_init_da8c8 0 = .ok (.aload_n 0, 1) := by decide +kernel
theorem dJx4a65c_init_da8c8_1 : decode cJx4a65c_init_da8c8 1 = .ok (.invokespecial 1, 3) := by decide +kernel
theorem dJx4a65c_init_da8c8_4 : decode cJx4a65c_init_da8c8 4 = .ok (.aload_n 0, 1) := by decide +kernel
theorem dJx4a65c_init_da8c8_5 : decode cJx4a65c_init_da8c8 5 = .ok (.getstatic 39, 3) := by decide +kernel
theorem dJx4a65c_init_da8c8_8 : decode cJx4a65c_init_da8c8 8 = .ok (.putfield 9, 3) := by decide +kernel
theorem dJx4a65c_init_da8c8_11 : decode cJx4a65c_init_da8c8 11 = .ok (.return_, 1) := by decide +kernel
theorem dJx4a65c_grow_92f84_0 : decode cJx4a65c_grow_92f84 0 = .ok (.aload_n 0, 1) := by decide +kernel
theorem dJx4a65c_grow_92f84_1 : decode cJx4a65c_grow_92f84 1 = .ok (.getfield 9, 3) := by decide +kernel
theorem dJx4a65c_grow_92f84_4 : decode cJx4a65c_grow_92f84 4 = .ok (.arraylength, 1) := by decide +kernel
theorem dJx4a65c_grow_92f84_5 : decode cJx4a65c_grow_92f84 5 = .ok (.istore_n 2, 1) := by decide +kernel
theorem dJx4a65c_grow_92f84_6 : decode cJx4a65c_grow_92f84 6 = .ok (.iload_n 2, 1) := by decide +kernel
theorem dJx4a65c_grow_92f84_7 : decode cJx4a65c_grow_92f84 7 = .ok (.ifCond .gt 13, 3) := by decide +kernel
theorem dJx4a65c_grow_92f84_10 : decode cJx4a65c_grow_92f84 10 = .ok (.aload_n 0, 1) := by decide +kernel
theorem dJx4a65c_grow_92f84_11 : decode cJx4a65c_grow_92f84 11 = .ok (.getfield 9, 3) := by decide +kernel
theorem dJx4a65c_grow_92f84_14 : decode cJx4a65c_grow_92f84 14 = .ok (.getstatic 39, 3) := by decide +kernel
theorem dJx4a65c_grow_92f84_17 : decode cJx4a65c_grow_92f84 17 = .ok (.if_acmp .eq 28, 3) := by decide +kernel
theorem dJx4a65c_grow_92f84_20 : decode cJx4a65c_grow_92f84 20 = .ok (.iload_n 2, 1) := by decide +kernel
theorem dJx4a65c_grow_92f84_21 : decode cJx4a65c_grow_92f84 21 = .ok (.iload_n 1, 1) := by decide +kernel
theorem dJx4a65c_grow_92f84_22 : decode cJx4a65c_grow_92f84 22 = .ok (.iload_n 2, 1) := by decide +kernel
theorem dJx4a65c_grow_92f84_23 : decode cJx4a65c_grow_92f84 23 = .ok (.isub, 1) := by decide +kernel
theorem dJx4a65c_grow_92f84_24 : decode cJx4a65c_grow_92f84 24 = .ok (.iload_n 2, 1) := by decide +kernel
theorem dJx4a65c_grow_92f84_25 : decode cJx4a65c_grow_92f84 25 = .ok (.iconst 1, 1) := by decide +kernel
theorem dJx4a65c_grow_92f84_26 : decode cJx4a65c_grow_92f84 26 = .ok (.ishr, 1) := by decide +kernel
theorem dJx4a65c_grow_92f84_27 : decode cJx4a65c_grow_92f84 27 = .ok (.invokestatic 73, 3) := by decide +kernel
theorem dJx4a65c_grow_92f84_30 : decode cJx4a65c_grow_92f84 30 = .ok (.istore_n 3, 1) := by decide +kernel
theorem dJx4a65c_grow_92f84_31 : decode cJx4a65c_grow_92f84 31 = .ok (.aload_n 0, 1) := by decide +kernel
theorem dJx4a65c_grow_92f84_32 : decode cJx4a65c_grow_92f84 32 = .ok (.aload_n 0, 1) := by decide +kernel
theorem dJx4a65c_grow_92f84_33 : decode cJx4a65c_grow_92f84 33 = .ok (.getfield 9, 3) := by decide +kernel
theorem dJx4a65c_grow_92f84_36 : decode cJx4a65c_grow_92f84 36 = .ok (.iload_n 3, 1) := by decide +kernel
theorem dJx4a65c_grow_92f84_37 : decode cJx4a65c_grow_92f84 37 = .ok (.invokestatic 66, 3) := by decide +kernel
theorem dJx4a65c_grow_92f84_40 : decode cJx4a65c_grow_92f84 40 = .ok (.dup_x1, 1) := by decide +kernel
theorem dJx4a65c_grow_92f84_41 : decode cJx4a65c_grow_92f84 41 = .ok (.putfield 9, 3) := by decide +kernel
theorem dJx4a65c_grow_92f84_44 : decode cJx4a65c_grow_92f84 44 = .ok (.areturn, 1) := by decide +kernel
theorem dJx4a65c_grow_92f84_45 : decode cJx4a65c_grow_92f84 45 = .ok (.aload_n 0, 1) := by decide +kernel
theorem dJx4a65c_grow_92f84_46 : decode cJx4a65c_grow_92f84 46 = .ok (.bipush 10, 2) := by decide +kernel
theorem dJx4a65c_grow_92f84_48 : decode cJx4a65c_grow_92f84 48 = .ok (.iload_n 1, 1) := by decide +kernel
theorem dJx4a65c_grow_92f84_49 : decode cJx4a65c_grow_92f84 49 = .ok (.invokestatic 79, 3) := by decide +kernel
theorem dJx4a65c_grow_92f84_52 : decode cJx4a65c_grow_92f84 52 = .ok (.anewarray 7, 3) := by decide +kernel
theorem dJx4a65c_grow_92f84_55 : decode cJx4a65c_grow_92f84 55 = .ok (.dup_x1, 1) := by decide +kernel
theorem dJx4a65c_grow_92f84_56 : decode cJx4a65c_grow_92f84 56 = .ok (.putfield 9, 3) := by decide +kernel
theorem dJx4a65c_grow_92f84_59 : decode cJx4a65c_grow_92f84 59 = .ok (.areturn, 1) := by decide +kernel
theorem dJx4a65c_grow_d5877_0 : decode cJx4a65c_grow_d5877 0 = .ok (.aload_n 0, 1) := by decide +kernel
theorem dJx4a65c_grow_d5877_1 : decode cJx4a65c_grow_d5877 1 = .ok (.aload_n 0, 1) := by decide +kernel
theorem dJx4a65c_grow_d5877_2 : decode cJx4a65c_grow_d5877 2 = .ok (.getfield 48, 3) := by decide +kernel
theorem dJx4a65c_grow_d5877_5 : decode cJx4a65c_grow_d5877 5 = .ok (.iconst 1, 1) := by decide +kernel
theorem dJx4a65c_grow_d5877_6 : decode cJx4a65c_grow_d5877 6 = .ok (.iadd, 1) := by decide +kernel
theorem dJx4a65c_grow_d5877_7 : decode cJx4a65c_grow_d5877 7 = .ok (.invokevirtual 69, 3) := by decide +kernel
theorem dJx4a65c_grow_d5877_10 : decode cJx4a65c_grow_d5877 10 = .ok (.areturn, 1) := by decide +kernel
theorem dJx4a65c_size_8abf5_0 : decode cJx4a65c_size_8abf5 0 = .ok (.aload_n 0, 1) := by decide +kernel
theorem dJx4a65c_size_8abf5_1 : decode cJx4a65c_size_8abf5 1 = .ok (.getfield 48, 3) := by decide +kernel
theorem dJx4a65c_size_8abf5_4 : decode cJx4a65c_size_8abf5 4 = .ok (.ireturn, 1) := by decide +kernel
theorem dJx4a65c_elementData_915e3_0 : decode cJx4a65c_elementData_915e3 0 = .ok (.aload_n 0, 1) := by decide +kernel
theorem dJx4a65c_elementData_915e3_1 : decode cJx4a65c_elementData_915e3 1 = .ok (.getfield 9, 3) := by decide +kernel
theorem dJx4a65c_elementData_915e3_4 : decode cJx4a65c_elementData_915e3 4 = .ok (.iload_n 1, 1) := by decide +kernel
theorem dJx4a65c_elementData_915e3_5 : decode cJx4a65c_elementData_915e3 5 = .ok (.aaload, 1) := by decide +kernel
theorem dJx4a65c_elementData_915e3_6 : decode cJx4a65c_elementData_915e3 6 = .ok (.areturn, 1) := by decide +kernel
theorem dJx4a65c_get_915e3_0 : decode cJx4a65c_get_915e3 0 = .ok (.iload_n 1, 1) := by decide +kernel
theorem dJx4a65c_get_915e3_1 : decode cJx4a65c_get_915e3 1 = .ok (.aload_n 0, 1) := by decide +kernel
theorem dJx4a65c_get_915e3_2 : decode cJx4a65c_get_915e3 2 = .ok (.getfield 48, 3) := by decide +kernel
theorem dJx4a65c_get_915e3_5 : decode cJx4a65c_get_915e3 5 = .ok (.invokestatic 118, 3) := by decide +kernel
theorem dJx4a65c_get_915e3_8 : decode cJx4a65c_get_915e3 8 = .ok (.pop, 1) := by decide +kernel
theorem dJx4a65c_get_915e3_9 : decode cJx4a65c_get_915e3 9 = .ok (.aload_n 0, 1) := by decide +kernel
theorem dJx4a65c_get_915e3_10 : decode cJx4a65c_get_915e3 10 = .ok (.iload_n 1, 1) := by decide +kernel
theorem dJx4a65c_get_915e3_11 : decode cJx4a65c_get_915e3 11 = .ok (.invokevirtual 123, 3) := by decide +kernel
theorem dJx4a65c_get_915e3_14 : decode cJx4a65c_get_915e3 14 = .ok (.areturn, 1) := by decide +kernel
theorem dJx4a65c_add_72be8_0 : decode cJx4a65c_add_72be8 0 = .ok (.iload_n 3, 1) := by decide +kernel
theorem dJx4a65c_add_72be8_1 : decode cJx4a65c_add_72be8 1 = .ok (.aload_n 2, 1) := by decide +kernel
theorem dJx4a65c_add_72be8_2 : decode cJx4a65c_add_72be8 2 = .ok (.arraylength, 1) := by decide +kernel
theorem dJx4a65c_add_72be8_3 : decode cJx4a65c_add_72be8 3 = .ok (.if_icmp .ne 8, 3) := by decide +kernel
theorem dJx4a65c_add_72be8_6 : decode cJx4a65c_add_72be8 6 = .ok (.aload_n 0, 1) := by decide +kernel
theorem dJx4a65c_add_72be8_7 : decode cJx4a65c_add_72be8 7 = .ok (.invokevirtual 129, 3) := by decide +kernel
theorem dJx4a65c_add_72be8_10 : decode cJx4a65c_add_72be8 10 = .ok (.astore_n 2, 1) := by decide +kernel
theorem dJx4a65c_add_72be8_11 : decode cJx4a65c_add_72be8 11 = .ok (.aload_n 2, 1) := by decide +kernel
theorem dJx4a65c_add_72be8_12 : decode cJx4a65c_add_72be8 12 = .ok (.iload_n 3, 1) := by decide +kernel
theorem dJx4a65c_add_72be8_13 : decode cJx4a65c_add_72be8 13 = .ok (.aload_n 1, 1) := by decide +kernel
theorem dJx4a65c_add_72be8_14 : decode cJx4a65c_add_72be8 14 = .ok (.aastore, 1) := by decide +kernel
theorem dJx4a65c_add_72be8_15 : decode cJx4a65c_add_72be8 15 = .ok (.aload_n 0, 1) := by decide +kernel
theorem dJx4a65c_add_72be8_16 : decode cJx4a65c_add_72be8 16 = .ok (.iload_n 3, 1) := by decide +kernel
theorem dJx4a65c_add_72be8_17 : decode cJx4a65c_add_72be8 17 = .ok (.iconst 1, 1) := by decide +kernel
theorem dJx4a65c_add_72be8_18 : decode cJx4a65c_add_72be8 18 = .ok (.iadd, 1) := by decide +kernel
theorem dJx4a65c_add_72be8_19 : decode cJx4a65c_add_72be8 19 = .ok (.putfield 48, 3) := by decide +kernel
theorem dJx4a65c_add_72be8_22 : decode cJx4a65c_add_72be8 22 = .ok (.return_, 1) := by decide +kernel
theorem dJx4a65c_add_9ea2d_0 : decode cJx4a65c_add_9ea2d 0 = .ok (.aload_n 0, 1) := by decide +kernel
theorem dJx4a65c_add_9ea2d_1 : decode cJx4a65c_add_9ea2d 1 = .ok (.dup, 1) := by decide +kernel
theorem dJx4a65c_add_9ea2d_2 : decode cJx4a65c_add_9ea2d 2 = .ok (.getfield 63, 3) := by decide +kernel
theorem dJx4a65c_add_9ea2d_5 : decode cJx4a65c_add_9ea2d 5 = .ok (.iconst 1, 1) := by decide +kernel
theorem dJx4a65c_add_9ea2d_6 : decode cJx4a65c_add_9ea2d 6 = .ok (.iadd, 1) := by decide +kernel
theorem dJx4a65c_add_9ea2d_7 : decode cJx4a65c_add_9ea2d 7 = .ok (.putfield 63, 3) := by decide +kernel
theorem dJx4a65c_add_9ea2d_10 : decode cJx4a65c_add_9ea2d 10 = .ok (.aload_n 0, 1) := by decide +kernel
theorem dJx4a65c_add_9ea2d_11 : decode cJx4a65c_add_9ea2d 11 = .ok (.aload_n 1, 1) := by decide +kernel
theorem dJx4a65c_add_9ea2d_12 : decode cJx4a65c_add_9ea2d 12 = .ok (.aload_n 0, 1) := by decide +kernel
theorem dJx4a65c_add_9ea2d_13 : decode cJx4a65c_add_9ea2d 13 = .ok (.getfield 9, 3) := by decide +kernel
theorem dJx4a65c_add_9ea2d_16 : decode cJx4a65c_add_9ea2d 16 = .ok (.aload_n 0, 1) := by decide +kernel
theorem dJx4a65c_add_9ea2d_17 : decode cJx4a65c_add_9ea2d 17 = .ok (.getfield 48, 3) := by decide +kernel
theorem dJx4a65c_add_9ea2d_20 : decode cJx4a65c_add_9ea2d 20 = .ok (.invokevirtual 131, 3) := by decide +kernel
theorem dJx4a65c_add_9ea2d_23 : decode cJx4a65c_add_9ea2d 23 = .ok (.iconst 1, 1) := by decide +kernel
theorem dJx4a65c_add_9ea2d_24 : decode cJx4a65c_add_9ea2d 24 = .ok (.ireturn, 1) := by decide +kernel
theorem dJ7_fill_d0a16_0 : decode cJ7_fill_d0a16 0 = .ok (.iconst 0, 1) := by decide +kernel
theorem dJ7_fill_d0a16_1 : decode cJ7_fill_d0a16 1 = .ok (.istore_n 3, 1) := by decide +kernel
theorem dJ7_fill_d0a16_2 : decode cJ7_fill_d0a16 2 = .ok (.aload_n 0, 1) := by decide +kernel
theorem dJ7_fill_d0a16_3 : decode cJ7_fill_d0a16 3 = .ok (.arraylength, 1) := by decide +kernel
theorem dJ7_fill_d0a16_4 : decode cJ7_fill_d0a16 4 = .ok (.istore 4, 2) := by decide +kernel
theorem dJ7_fill_d0a16_6 : decode cJ7_fill_d0a16 6 = .ok (.iload_n 3, 1) := by decide +kernel
theorem dJ7_fill_d0a16_7 : decode cJ7_fill_d0a16 7 = .ok (.iload 4, 2) := by decide +kernel
theorem dJ7_fill_d0a16_9 : decode cJ7_fill_d0a16 9 = .ok (.if_icmp .ge 13, 3) := by decide +kernel
theorem dJ7_fill_d0a16_12 : decode cJ7_fill_d0a16 12 = .ok (.aload_n 0, 1) := by decide +kernel
theorem dJ7_fill_d0a16_13 : decode cJ7_fill_d0a16 13 = .ok (.iload_n 3, 1) := by decide +kernel
theorem dJ7_fill_d0a16_14 : decode cJ7_fill_d0a16 14 = .ok (.lload_n 1, 1) := by decide +kernel
theorem dJ7_fill_d0a16_15 : decode cJ7_fill_d0a16 15 = .ok (.lastore, 1) := by decide +kernel
theorem dJ7_fill_d0a16_16 : decode cJ7_fill_d0a16 16 = .ok (.iinc 3 1, 3) := by decide +kernel
theorem dJ7_fill_d0a16_19 : decode cJ7_fill_d0a16 19 = .ok (.goto (-13), 3) := by decide +kernel
theorem dJ7_fill_d0a16_22 : decode cJ7_fill_d0a16 22 = .ok (.return_, 1) := by decide +kernel
theorem dJ7_fill_53178_0 : decode cJ7_fill_53178 0 = .ok (.iconst 0, 1) := by decide +kernel
theorem dJ7_fill_53178_1 : decode cJ7_fill_53178 1 = .ok (.istore_n 2, 1) := by decide +kernel
theorem dJ7_fill_53178_2 : decode cJ7_fill_53178 2 = .ok (.aload_n 0, 1) := by decide +kernel
theorem dJ7_fill_53178_3 : decode cJ7_fill_53178 3 = .ok (.arraylength, 1) := by decide +kernel
theorem dJ7_fill_53178_4 : decode cJ7_fill_53178 4 = .ok (.istore_n 3, 1) := by decide +kernel
theorem dJ7_fill_53178_5 : decode cJ7_fill_53178 5 = .ok (.iload_n 2, 1) := by decide +kernel
theorem dJ7_fill_53178_6 : decode cJ7_fill_53178 6 = .ok (.iload_n 3, 1) := by decide +kernel
theorem dJ7_fill_53178_7 : decode cJ7_fill_53178 7 = .ok (.if_icmp .ge 13, 3) := by decide +kernel
theorem dJ7_fill_53178_10 : decode cJ7_fill_53178 10 = .ok (.aload_n 0, 1) := by decide +kernel
theorem dJ7_fill_53178_11 : decode cJ7_fill_53178 11 = .ok (.iload_n 2, 1) := by decide +kernel
theorem dJ7_fill_53178_12 : decode cJ7_fill_53178 12 = .ok (.iload_n 1, 1) := by decide +kernel
theorem dJ7_fill_53178_13 : decode cJ7_fill_53178 13 = .ok (.iastore, 1) := by decide +kernel
theorem dJ7_fill_53178_14 : decode cJ7_fill_53178 14 = .ok (.iinc 2 1, 3) := by decide +kernel
theorem dJ7_fill_53178_17 : decode cJ7_fill_53178 17 = .ok (.goto (-12), 3) := by decide +kernel
theorem dJ7_fill_53178_20 : decode cJ7_fill_53178 20 = .ok (.return_, 1) := by decide +kernel
theorem dJ7_copyOf_1904c_0 : decode cJ7_copyOf_1904c 0 = .ok (.aload_n 0, 1) := by decide +kernel
theorem dJ7_copyOf_1904c_1 : decode cJ7_copyOf_1904c 1 = .ok (.iload_n 1, 1) := by decide +kernel
theorem dJ7_copyOf_1904c_2 : decode cJ7_copyOf_1904c 2 = .ok (.aload_n 0, 1) := by decide +kernel
theorem dJ7_copyOf_1904c_3 : decode cJ7_copyOf_1904c 3 = .ok (.invokevirtual 86, 3) := by decide +kernel
theorem dJ7_copyOf_1904c_6 : decode cJ7_copyOf_1904c 6 = .ok (.invokestatic 300, 3) := by decide +kernel
theorem dJ7_copyOf_1904c_9 : decode cJ7_copyOf_1904c 9 = .ok (.areturn, 1) := by decide +kernel
theorem dJ7_copyOf_6403c_0 : decode cJ7_copyOf_6403c 0 = .ok (.aload_n 2, 1) := by decide +kernel
theorem dJ7_copyOf_6403c_1 : decode cJ7_copyOf_6403c 1 = .ok (.ldc 110, 2) := by decide +kernel
theorem dJ7_copyOf_6403c_3 : decode cJ7_copyOf_6403c 3 = .ok (.if_acmp .ne 10, 3) := by decide +kernel
theorem dJ7_copyOf_6403c_6 : decode cJ7_copyOf_6403c 6 = .ok (.iload_n 1, 1) := by decide +kernel
theorem dJ7_copyOf_6403c_7 : decode cJ7_copyOf_6403c 7 = .ok (.anewarray 2, 3) := by decide +kernel
theorem dJ7_copyOf_6403c_10 : decode cJ7_copyOf_6403c 10 = .ok (.goto 14, 3) := by decide +kernel
theorem dJ7_copyOf_6403c_13 : decode cJ7_copyOf_6403c 13 = .ok (.aload_n 2, 1) := by decide +kernel
theorem dJ7_copyOf_6403c_14 : decode cJ7_copyOf_6403c 14 = .ok (.invokevirtual 90, 3) := by decide +kernel
theorem dJ7_copyOf_6403c_17 : decode cJ7_copyOf_6403c 17 = .ok (.iload_n 1, 1) := by decide +kernel
theorem dJ7_copyOf_6403c_18 : decode cJ7_copyOf_6403c 18 = .ok (.invokestatic 95, 3) := by decide +kernel
theorem dJ7_copyOf_6403c_21 : decode cJ7_copyOf_6403c 21 = .ok (.checkcast 110, 3) := by decide +kernel
theorem dJ7_copyOf_6403c_24 : decode cJ7_copyOf_6403c 24 = .ok (.astore_n 3, 1) := by decide +kernel
theorem dJ7_copyOf_6403c_25 : decode cJ7_copyOf_6403c 25 = .ok (.aload_n 0, 1) := by decide +kernel
theorem dJ7_copyOf_6403c_26 : decode cJ7_copyOf_6403c 26 = .ok (.iconst 0, 1) := by decide +kernel
theorem dJ7_copyOf_6403c_27 : decode cJ7_copyOf_6403c 27 = .ok (.aload_n 3, 1) := by decide +kernel
theorem dJ7_copyOf_6403c_28 : decode cJ7_copyOf_6403c 28 = .ok (.iconst 0, 1) := by decide +kernel
theorem dJ7_copyOf_6403c_29 : decode cJ7_copyOf_6403c 29 = .ok (.aload_n 0, 1) := by decide +kernel
theorem dJ7_copyOf_6403c_30 : decode cJ7_copyOf_6403c 30 = .ok (.arraylength, 1) := by decide +kernel
theorem dJ7_copyOf_6403c_31 : decode cJ7_copyOf_6403c 31 = .ok (.iload_n 1, 1) := by decide +kernel
theorem dJ7_copyOf_6403c_32 : decode cJ7_copyOf_6403c 32 = .ok (.invokestatic 304, 3) := by decide +kernel
theorem dJ7_copyOf_6403c_35 : decode cJ7_copyOf_6403c 35 = .ok (.invokestatic 150, 3) := by decide +kernel
theorem dJ7_copyOf_6403c_38 : decode cJ7_copyOf_6403c 38 = .ok (.aload_n 3, 1) := by decide +kernel
theorem dJ7_copyOf_6403c_39 : decode cJ7_copyOf_6403c 39 = .ok (.areturn, 1) := by decide +kernel
theorem dJ7_copyOf_59c91_0 : decode cJ7_copyOf_59c91 0 = .ok (.iload_n 1, 1) := by decide +kernel
theorem dJ7_copyOf_59c91_1 : decode cJ7_copyOf_59c91 1 = .ok (.aload_n 0, 1) := by decide +kernel
theorem dJ7_copyOf_59c91_2 : decode cJ7_copyOf_59c91 2 = .ok (.arraylength, 1) := by decide +kernel
theorem dJ7_copyOf_59c91_3 : decode cJ7_copyOf_59c91 3 = .ok (.if_icmp .ne 11, 3) := by decide +kernel
theorem dJ7_copyOf_59c91_6 : decode cJ7_copyOf_59c91 6 = .ok (.aload_n 0, 1) := by decide +kernel
theorem dJ7_copyOf_59c91_7 : decode cJ7_copyOf_59c91 7 = .ok (.invokevirtual 316, 3) := by decide +kernel
theorem dJ7_copyOf_59c91_10 : decode cJ7_copyOf_59c91 10 = .ok (.checkcast 317, 3) := by decide +kernel
theorem dJ7_copyOf_59c91_13 : decode cJ7_copyOf_59c91 13 = .ok (.areturn, 1) := by decide +kernel
theorem dJ7_copyOf_59c91_14 : decode cJ7_copyOf_59c91 14 = .ok (.iload_n 1, 1) := by decide +kernel
theorem dJ7_copyOf_59c91_15 : decode cJ7_copyOf_59c91 15 = .ok (.newarray .int, 2) := by decide +kernel
theorem dJ7_copyOf_59c91_17 : decode cJ7_copyOf_59c91 17 = .ok (.astore_n 2, 1) := by decide +kernel
theorem dJ7_copyOf_59c91_18 : decode cJ7_copyOf_59c91 18 = .ok (.aload_n 0, 1) := by decide +kernel
theorem dJ7_copyOf_59c91_19 : decode cJ7_copyOf_59c91 19 = .ok (.iconst 0, 1) := by decide +kernel
theorem dJ7_copyOf_59c91_20 : decode cJ7_copyOf_59c91 20 = .ok (.aload_n 2, 1) := by decide +kernel
theorem dJ7_copyOf_59c91_21 : decode cJ7_copyOf_59c91 21 = .ok (.iconst 0, 1) := by decide +kernel
theorem dJ7_copyOf_59c91_22 : decode cJ7_copyOf_59c91 22 = .ok (.aload_n 0, 1) := by decide +kernel
theorem dJ7_copyOf_59c91_23 : decode cJ7_copyOf_59c91 23 = .ok (.arraylength, 1) := by decide +kernel
theorem dJ7_copyOf_59c91_24 : decode cJ7_copyOf_59c91 24 = .ok (.iload_n 1, 1) := by decide +kernel
theorem dJ7_copyOf_59c91_25 : decode cJ7_copyOf_59c91 25 = .ok (.invokestatic 304, 3) := by decide +kernel
theorem dJ7_copyOf_59c91_28 : decode cJ7_copyOf_59c91 28 = .ok (.invokestatic 150, 3) := by decide +kernel
theorem dJ7_copyOf_59c91_31 : decode cJ7_copyOf_59c91 31 = .ok (.aload_n 2, 1) := by decide +kernel
theorem dJ7_copyOf_59c91_32 : decode cJ7_copyOf_59c91 32 = .ok (.areturn, 1) := by decide +kernel
theorem dJ15_checkIndex_7cf53_0 : decode cJ15_checkIndex_7cf53 0 = .ok (.iload_n 0, 1) := by decide +kernel
theorem dJ15_checkIndex_7cf53_1 : decode cJ15_checkIndex_7cf53 1 = .ok (.iload_n 1, 1) := by decide +kernel
theorem dJ15_checkIndex_7cf53_2 : decode cJ15_checkIndex_7cf53 2 = .ok (.aconst_null, 1) := by decide +kernel
theorem dJ15_checkIndex_7cf53_3 : decode cJ15_checkIndex_7cf53 3 = .ok (.invokestatic 105, 3) := by decide +kernel
theorem dJ15_checkIndex_7cf53_6 : decode cJ15_checkIndex_7cf53 6 = .ok (.ireturn, 1) := by decide +kernel
theorem dJ8_newLength_cabcc_0 : decode cJ8_newLength_cabcc 0 = .ok (.iload_n 0, 1) := by decide +kernel
theorem dJ8_newLength_cabcc_1 : decode cJ8_newLength_cabcc 1 = .ok (.iload_n 1, 1) := by decide +kernel
theorem dJ8_newLength_cabcc_2 : decode cJ8_newLength_cabcc 2 = .ok (.iload_n 2, 1) := by decide +kernel
theorem dJ8_newLength_cabcc_3 : decode cJ8_newLength_cabcc 3 = .ok (.invokestatic 194, 3) := by decide +kernel
theorem dJ8_newLength_cabcc_6 : decode cJ8_newLength_cabcc 6 = .ok (.iadd, 1) := by decide +kernel
theorem dJ8_newLength_cabcc_7 : decode cJ8_newLength_cabcc 7 = .ok (.istore_n 3, 1) := by decide +kernel
theorem dJ8_newLength_cabcc_8 : decode cJ8_newLength_cabcc 8 = .ok (.iconst 0, 1) := by decide +kernel
theorem dJ8_newLength_cabcc_9 : decode cJ8_newLength_cabcc 9 = .ok (.iload_n 3, 1) := by decide +kernel
theorem dJ8_newLength_cabcc_10 : decode cJ8_newLength_cabcc 10 = .ok (.if_icmp .ge 11, 3) := by decide +kernel
theorem dJ8_newLength_cabcc_13 : decode cJ8_newLength_cabcc 13 = .ok (.iload_n 3, 1) := by decide +kernel
theorem dJ8_newLength_cabcc_14 : decode cJ8_newLength_cabcc 14 = .ok (.ldc 200, 2) := by decide +kernel
theorem dJ8_newLength_cabcc_16 : decode cJ8_newLength_cabcc 16 = .ok (.if_icmp .gt 5, 3) := by decide +kernel
theorem dJ8_newLength_cabcc_19 : decode cJ8_newLength_cabcc 19 = .ok (.iload_n 3, 1) := by decide +kernel
theorem dJ8_newLength_cabcc_20 : decode cJ8_newLength_cabcc 20 = .ok (.ireturn, 1) := by decide +kernel
theorem dJ8_newLength_cabcc_21 : decode cJ8_newLength_cabcc 21 = .ok (.iload_n 0, 1) := by decide +kernel
theorem dJ8_newLength_cabcc_22 : decode cJ8_newLength_cabcc 22 = .ok (.iload_n 1, 1) := by decide +kernel
theorem dJ8_newLength_cabcc_23 : decode cJ8_newLength_cabcc 23 = .ok (.invokestatic 201, 3) := by decide +kernel
theorem dJ8_newLength_cabcc_26 : decode cJ8_newLength_cabcc 26 = .ok (.ireturn, 1) := by decide +kernel
theorem dJ8_hugeLength_7cf53_0 : decode cJ8_hugeLength_7cf53 0 = .ok (.iload_n 0, 1) := by decide +kernel
theorem dJ8_hugeLength_7cf53_1 : decode cJ8_hugeLength_7cf53 1 = .ok (.iload_n 1, 1) := by decide +kernel
theorem dJ8_hugeLength_7cf53_2 : decode cJ8_hugeLength_7cf53 2 = .ok (.iadd, 1) := by decide +kernel
theorem dJ8_hugeLength_7cf53_3 : decode cJ8_hugeLength_7cf53 3 = .ok (.istore_n 2, 1) := by decide +kernel
theorem dJ8_hugeLength_7cf53_4 : decode cJ8_hugeLength_7cf53 4 = .ok (.iload_n 2, 1) := by decide +kernel
theorem dJ8_hugeLength_7cf53_5 : decode cJ8_hugeLength_7cf53 5 = .ok (.ifCond .ge 44, 3) := by decide +kernel
theorem dJ8_hugeLength_7cf53_8 : decode cJ8_hugeLength_7cf53 8 = .ok (.new 204, 3) := by decide +kernel
theorem dJ8_hugeLength_7cf53_11 : decode cJ8_hugeLength_7cf53 11 = .ok (.dup, 1) := by decide +kernel
theorem dJ8_hugeLength_7cf53_12 : decode cJ8_hugeLength_7cf53 12 = .ok (.new 89, 3) := by decide +kernel
theorem dJ8_hugeLength_7cf53_15 : decode cJ8_hugeLength_7cf53 15 = .ok (.dup, 1) := by decide +kernel
theorem dJ8_hugeLength_7cf53_16 : decode cJ8_hugeLength_7cf53 16 = .ok (.invokespecial 91, 3) := by decide +kernel
theorem dJ8_hugeLength_7cf53_19 : decode cJ8_hugeLength_7cf53 19 = .ok (.ldc 206, 2) := by decide +kernel
theorem dJ8_hugeLength_7cf53_21 : decode cJ8_hugeLength_7cf53 21 = .ok (.invokevirtual 94, 3) := by decide +kernel
theorem dJ8_hugeLength_7cf53_24 : decode cJ8_hugeLength_7cf53 24 = .ok (.iload_n 0, 1) := by decide +kernel
theorem dJ8_hugeLength_7cf53_25 : decode cJ8_hugeLength_7cf53 25 = .ok (.invokevirtual 98, 3) := by decide +kernel
theorem dJ8_hugeLength_7cf53_28 : decode cJ8_hugeLength_7cf53 28 = .ok (.ldc 208, 2) := by decide +kernel
theorem dJ8_hugeLength_7cf53_30 : decode cJ8_hugeLength_7cf53 30 = .ok (.invokevirtual 94, 3) := by decide +kernel
theorem dJ8_hugeLength_7cf53_33 : decode cJ8_hugeLength_7cf53 33 = .ok (.iload_n 1, 1) := by decide +kernel
theorem dJ8_hugeLength_7cf53_34 : decode cJ8_hugeLength_7cf53 34 = .ok (.invokevirtual 98, 3) := by decide +kernel
theorem dJ8_hugeLength_7cf53_37 : decode cJ8_hugeLength_7cf53 37 = .ok (.ldc 210, 2) := by decide +kernel
theorem dJ8_hugeLength_7cf53_39 : decode cJ8_hugeLength_7cf53 39 = .ok (.invokevirtual 94, 3) := by decide +kernel
theorem dJ8_hugeLength_7cf53_42 : decode cJ8_hugeLength_7cf53 42 = .ok (.invokevirtual 101, 3) := by decide +kernel
theorem dJ8_hugeLength_7cf53_45 : decode cJ8_hugeLength_7cf53 45 = .ok (.invokespecial 212, 3) := by decide +kernel
theorem dJ8_hugeLength_7cf53_48 : decode cJ8_hugeLength_7cf53 48 = .ok (.athrow, 1) := by decide +kernel
theorem dJ8_hugeLength_7cf53_49 : decode cJ8_hugeLength_7cf53 49 = .ok (.iload_n 2, 1) := by decide +kernel
theorem dJ8_hugeLength_7cf53_50 : decode cJ8_hugeLength_7cf53 50 = .ok (.ldc 200, 2) := by decide +kernel
theorem dJ8_hugeLength_7cf53_52 : decode cJ8_hugeLength_7cf53 52 = .ok (.if_icmp .gt 6, 3) := by decide +kernel
theorem dJ8_hugeLength_7cf53_55 : decode cJ8_hugeLength_7cf53 55 = .ok (.ldc 200, 2) := by decide +kernel
theorem dJ8_hugeLength_7cf53_57 : decode cJ8_hugeLength_7cf53 57 = .ok (.ireturn, 1) := by decide +kernel
theorem dJ8_hugeLength_7cf53_58 : decode cJ8_hugeLength_7cf53 58 = .ok (.iload_n 2, 1) := by decide +kernel
theorem dJ8_hugeLength_7cf53_59 : decode cJ8_hugeLength_7cf53 59 = .ok (.ireturn, 1) := by decide +kernel
theorem dJ3_checkIndex_8e157_0 : decode cJ3_checkIndex_8e157 0 = .ok (.iload_n 0, 1) := by decide +kernel
theorem dJ3_checkIndex_8e157_1 : decode cJ3_checkIndex_8e157 1 = .ok (.ifCond .lt 8, 3) := by decide +kernel
theorem dJ3_checkIndex_8e157_4 : decode cJ3_checkIndex_8e157 4 = .ok (.iload_n 0, 1) := by decide +kernel
theorem dJ3_checkIndex_8e157_5 : decode cJ3_checkIndex_8e157 5 = .ok (.iload_n 1, 1) := by decide +kernel
theorem dJ3_checkIndex_8e157_6 : decode cJ3_checkIndex_8e157 6 = .ok (.if_icmp .lt 10, 3) := by decide +kernel
theorem dJ3_checkIndex_8e157_9 : decode cJ3_checkIndex_8e157 9 = .ok (.aload_n 2, 1) := by decide +kernel
theorem dJ3_checkIndex_8e157_10 : decode cJ3_checkIndex_8e157 10 = .ok (.iload_n 0, 1) := by decide +kernel
theorem dJ3_checkIndex_8e157_11 : decode cJ3_checkIndex_8e157 11 = .ok (.iload_n 1, 1) := by decide +kernel
theorem dJ3_checkIndex_8e157_12 : decode cJ3_checkIndex_8e157 12 = .ok (.invokestatic 95, 3) := by decide +kernel
theorem dJ3_checkIndex_8e157_15 : decode cJ3_checkIndex_8e157 15 = .ok (.athrow, 1) := by decide +kernel
theorem dJ3_checkIndex_8e157_16 : decode cJ3_checkIndex_8e157 16 = .ok (.iload_n 0, 1) := by decide +kernel
theorem dJ3_checkIndex_8e157_17 : decode cJ3_checkIndex_8e157 17 = .ok (.ireturn, 1) := by decide +kernel
