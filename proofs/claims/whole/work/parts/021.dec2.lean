theorem dX4_byteAt_0 : decode cX4_byteAt 0 = .ok (.iload_n 1, 1) := by decide +kernel
theorem dX4_byteAt_1 : decode cX4_byteAt 1 = .ok (.ifCond .lt 25, 3) := by decide +kernel
theorem dX4_byteAt_4 : decode cX4_byteAt 4 = .ok (.iload_n 1, 1) := by decide +kernel
theorem dX4_byteAt_5 : decode cX4_byteAt 5 = .ok (.aload_n 0, 1) := by decide +kernel
theorem dX4_byteAt_6 : decode cX4_byteAt 6 = .ok (.getfield 13, 3) := by decide +kernel
theorem dX4_byteAt_9 : decode cX4_byteAt 9 = .ok (.arraylength, 1) := by decide +kernel
theorem dX4_byteAt_10 : decode cX4_byteAt 10 = .ok (.if_icmp .ge 16, 3) := by decide +kernel
theorem dX4_byteAt_13 : decode cX4_byteAt 13 = .ok (.aload_n 0, 1) := by decide +kernel
theorem dX4_byteAt_14 : decode cX4_byteAt 14 = .ok (.getfield 13, 3) := by decide +kernel
theorem dX4_byteAt_17 : decode cX4_byteAt 17 = .ok (.iload_n 1, 1) := by decide +kernel
theorem dX4_byteAt_18 : decode cX4_byteAt 18 = .ok (.baload, 1) := by decide +kernel
theorem dX4_byteAt_19 : decode cX4_byteAt 19 = .ok (.sipush 255, 3) := by decide +kernel
theorem dX4_byteAt_22 : decode cX4_byteAt 22 = .ok (.iand, 1) := by decide +kernel
theorem dX4_byteAt_23 : decode cX4_byteAt 23 = .ok (.goto 4, 3) := by decide +kernel
theorem dX4_byteAt_26 : decode cX4_byteAt 26 = .ok (.iconst 0, 1) := by decide +kernel
theorem dX4_byteAt_27 : decode cX4_byteAt 27 = .ok (.ireturn, 1) := by decide +kernel
theorem dX4_hasBlocks_0 : decode cX4_hasBlocks 0 = .ok (.aload_n 0, 1) := by decide +kernel
theorem dX4_hasBlocks_1 : decode cX4_hasBlocks 1 = .ok (.getfield 37, 3) := by decide +kernel
theorem dX4_hasBlocks_4 : decode cX4_hasBlocks 4 = .ok (.ifCond .le 7, 3) := by decide +kernel
theorem dX4_hasBlocks_7 : decode cX4_hasBlocks 7 = .ok (.iconst 1, 1) := by decide +kernel
theorem dX4_hasBlocks_8 : decode cX4_hasBlocks 8 = .ok (.goto 4, 3) := by decide +kernel
theorem dX4_hasBlocks_11 : decode cX4_hasBlocks 11 = .ok (.iconst 0, 1) := by decide +kernel
theorem dX4_hasBlocks_12 : decode cX4_hasBlocks 12 = .ok (.ireturn, 1) := by decide +kernel
theorem dX4_keepsVoid_0 : decode cX4_keepsVoid 0 = .ok (.aload_n 0, 1) := by decide +kernel
theorem dX4_keepsVoid_1 : decode cX4_keepsVoid 1 = .ok (.getfield 25, 3) := by decide +kernel
theorem dX4_keepsVoid_4 : decode cX4_keepsVoid 4 = .ok (.ifCond .le 16, 3) := by decide +kernel
theorem dX4_keepsVoid_7 : decode cX4_keepsVoid 7 = .ok (.aload_n 0, 1) := by decide +kernel
theorem dX4_keepsVoid_8 : decode cX4_keepsVoid 8 = .ok (.getfield 29, 3) := by decide +kernel
theorem dX4_keepsVoid_11 : decode cX4_keepsVoid 11 = .ok (.iconst 1, 1) := by decide +kernel
theorem dX4_keepsVoid_12 : decode cX4_keepsVoid 12 = .ok (.iand, 1) := by decide +kernel
theorem dX4_keepsVoid_13 : decode cX4_keepsVoid 13 = .ok (.ifCond .ne 7, 3) := by decide +kernel
theorem dX4_keepsVoid_16 : decode cX4_keepsVoid 16 = .ok (.iconst 1, 1) := by decide +kernel
theorem dX4_keepsVoid_17 : decode cX4_keepsVoid 17 = .ok (.goto 4, 3) := by decide +kernel
theorem dX4_keepsVoid_20 : decode cX4_keepsVoid 20 = .ok (.iconst 0, 1) := by decide +kernel
theorem dX4_keepsVoid_21 : decode cX4_keepsVoid 21 = .ok (.ireturn, 1) := by decide +kernel
theorem dX4_isReversible_0 : decode cX4_isReversible 0 = .ok (.aload_n 0, 1) := by decide +kernel
theorem dX4_isReversible_1 : decode cX4_isReversible 1 = .ok (.getfield 49, 3) := by decide +kernel
theorem dX4_isReversible_4 : decode cX4_isReversible 4 = .ok (.ifCond .ge 7, 3) := by decide +kernel
theorem dX4_isReversible_7 : decode cX4_isReversible 7 = .ok (.iconst 1, 1) := by decide +kernel
theorem dX4_isReversible_8 : decode cX4_isReversible 8 = .ok (.goto 4, 3) := by decide +kernel
theorem dX4_isReversible_11 : decode cX4_isReversible 11 = .ok (.iconst 0, 1) := by decide +kernel
theorem dX4_isReversible_12 : decode cX4_isReversible 12 = .ok (.ireturn, 1) := by decide +kernel
theorem dX4_weightOf_0 : decode cX4_weightOf 0 = .ok (.iload_n 1, 1) := by decide +kernel
theorem dX4_weightOf_1 : decode cX4_weightOf 1 = .ok (.ifCond .lt 23, 3) := by decide +kernel
theorem dX4_weightOf_4 : decode cX4_weightOf 4 = .ok (.iload_n 1, 1) := by decide +kernel
theorem dX4_weightOf_5 : decode cX4_weightOf 5 = .ok (.aload_n 0, 1) := by decide +kernel
theorem dX4_weightOf_6 : decode cX4_weightOf 6 = .ok (.getfield 64, 3) := by decide +kernel
theorem dX4_weightOf_9 : decode cX4_weightOf 9 = .ok (.if_icmp .ge 15, 3) := by decide +kernel
theorem dX4_weightOf_12 : decode cX4_weightOf 12 = .ok (.iload_n 2, 1) := by decide +kernel
theorem dX4_weightOf_13 : decode cX4_weightOf 13 = .ok (.ifCond .lt 11, 3) := by decide +kernel
theorem dX4_weightOf_16 : decode cX4_weightOf 16 = .ok (.iload_n 2, 1) := by decide +kernel
theorem dX4_weightOf_17 : decode cX4_weightOf 17 = .ok (.aload_n 0, 1) := by decide +kernel
theorem dX4_weightOf_18 : decode cX4_weightOf 18 = .ok (.getfield 37, 3) := by decide +kernel
theorem dX4_weightOf_21 : decode cX4_weightOf 21 = .ok (.if_icmp .lt 5, 3) := by decide +kernel
theorem dX4_weightOf_24 : decode cX4_weightOf 24 = .ok (.iconst 0, 1) := by decide +kernel
theorem dX4_weightOf_25 : decode cX4_weightOf 25 = .ok (.ireturn, 1) := by decide +kernel
theorem dX4_weightOf_26 : decode cX4_weightOf 26 = .ok (.iload_n 1, 1) := by decide +kernel
theorem dX4_weightOf_27 : decode cX4_weightOf 27 = .ok (.aload_n 0, 1) := by decide +kernel
theorem dX4_weightOf_28 : decode cX4_weightOf 28 = .ok (.getfield 37, 3) := by decide +kernel
theorem dX4_weightOf_31 : decode cX4_weightOf 31 = .ok (.imul, 1) := by decide +kernel
theorem dX4_weightOf_32 : decode cX4_weightOf 32 = .ok (.iload_n 2, 1) := by decide +kernel
theorem dX4_weightOf_33 : decode cX4_weightOf 33 = .ok (.iadd, 1) := by decide +kernel
theorem dX4_weightOf_34 : decode cX4_weightOf 34 = .ok (.istore_n 3, 1) := by decide +kernel
theorem dX4_weightOf_35 : decode cX4_weightOf 35 = .ok (.iload_n 3, 1) := by decide +kernel
theorem dX4_weightOf_36 : decode cX4_weightOf 36 = .ok (.aload_n 0, 1) := by decide +kernel
theorem dX4_weightOf_37 : decode cX4_weightOf 37 = .ok (.getfield 55, 3) := by decide +kernel
theorem dX4_weightOf_40 : decode cX4_weightOf 40 = .ok (.arraylength, 1) := by decide +kernel
theorem dX4_weightOf_41 : decode cX4_weightOf 41 = .ok (.if_icmp .ge 12, 3) := by decide +kernel
theorem dX4_weightOf_44 : decode cX4_weightOf 44 = .ok (.aload_n 0, 1) := by decide +kernel
theorem dX4_weightOf_45 : decode cX4_weightOf 45 = .ok (.getfield 55, 3) := by decide +kernel
theorem dX4_weightOf_48 : decode cX4_weightOf 48 = .ok (.iload_n 3, 1) := by decide +kernel
theorem dX4_weightOf_49 : decode cX4_weightOf 49 = .ok (.iaload, 1) := by decide +kernel
theorem dX4_weightOf_50 : decode cX4_weightOf 50 = .ok (.goto 4, 3) := by decide +kernel
theorem dX4_weightOf_53 : decode cX4_weightOf 53 = .ok (.iconst 0, 1) := by decide +kernel
theorem dX4_weightOf_54 : decode cX4_weightOf 54 = .ok (.ireturn, 1) := by decide +kernel
theorem dX5_init_0 : decode cX5_init 0 = .ok (.aload_n 0, 1) := by decide +kernel
theorem dX5_init_1 : decode cX5_init 1 = .ok (.invokespecial 1, 3) := by decide +kernel
theorem dX5_init_4 : decode cX5_init 4 = .ok (.return_, 1) := by decide +kernel
theorem dX5_faultOf_0 : decode cX5_faultOf 0 = .ok (.aload_n 0, 1) := by decide +kernel
theorem dX5_faultOf_1 : decode cX5_faultOf 1 = .ok (.iconst 0, 1) := by decide +kernel
theorem dX5_faultOf_2 : decode cX5_faultOf 2 = .ok (.putfield 7, 3) := by decide +kernel
theorem dX5_faultOf_5 : decode cX5_faultOf 5 = .ok (.aload_n 0, 1) := by decide +kernel
theorem dX5_faultOf_6 : decode cX5_faultOf 6 = .ok (.iconst 0, 1) := by decide +kernel
theorem dX5_faultOf_7 : decode cX5_faultOf 7 = .ok (.putfield 13, 3) := by decide +kernel
theorem dX5_faultOf_10 : decode cX5_faultOf 10 = .ok (.aload_n 0, 1) := by decide +kernel
theorem dX5_faultOf_11 : decode cX5_faultOf 11 = .ok (.iconst 0, 1) := by decide +kernel
theorem dX5_faultOf_12 : decode cX5_faultOf 12 = .ok (.putfield 16, 3) := by decide +kernel
theorem dX5_faultOf_15 : decode cX5_faultOf 15 = .ok (.aload_n 0, 1) := by decide +kernel
theorem dX5_faultOf_16 : decode cX5_faultOf 16 = .ok (.iconst 0, 1) := by decide +kernel
theorem dX5_faultOf_17 : decode cX5_faultOf 17 = .ok (.putfield 19, 3) := by decide +kernel
theorem dX5_faultOf_20 : decode cX5_faultOf 20 = .ok (.aload_n 0, 1) := by decide +kernel
theorem dX5_faultOf_21 : decode cX5_faultOf 21 = .ok (.iconst 0, 1) := by decide +kernel
theorem dX5_faultOf_22 : decode cX5_faultOf 22 = .ok (.putfield 22, 3) := by decide +kernel
theorem dX5_faultOf_25 : decode cX5_faultOf 25 = .ok (.aload_n 1, 1) := by decide +kernel
theorem dX5_faultOf_26 : decode cX5_faultOf 26 = .ok (.iconst 0, 1) := by decide +kernel
theorem dX5_faultOf_27 : decode cX5_faultOf 27 = .ok (.invokevirtual 25, 3) := by decide +kernel
theorem dX5_faultOf_30 : decode cX5_faultOf 30 = .ok (.bipush 66, 2) := by decide +kernel
theorem dX5_faultOf_32 : decode cX5_faultOf 32 = .ok (.if_icmp .ne 11, 3) := by decide +kernel
theorem dX5_faultOf_35 : decode cX5_faultOf 35 = .ok (.aload_n 0, 1) := by decide +kernel
theorem dX5_faultOf_36 : decode cX5_faultOf 36 = .ok (.aload_n 1, 1) := by decide +kernel
theorem dX5_faultOf_37 : decode cX5_faultOf 37 = .ok (.invokevirtual 31, 3) := by decide +kernel
theorem dX5_faultOf_40 : decode cX5_faultOf 40 = .ok (.goto 8, 3) := by decide +kernel
theorem dX5_faultOf_43 : decode cX5_faultOf 43 = .ok (.aload_n 0, 1) := by decide +kernel
theorem dX5_faultOf_44 : decode cX5_faultOf 44 = .ok (.aload_n 1, 1) := by decide +kernel
theorem dX5_faultOf_45 : decode cX5_faultOf 45 = .ok (.invokevirtual 35, 3) := by decide +kernel
theorem dX5_faultOf_48 : decode cX5_faultOf 48 = .ok (.istore_n 2, 1) := by decide +kernel
theorem dX5_faultOf_49 : decode cX5_faultOf 49 = .ok (.iload_n 2, 1) := by decide +kernel
theorem dX5_faultOf_50 : decode cX5_faultOf 50 = .ok (.ifCond .eq 18, 3) := by decide +kernel
theorem dX5_faultOf_53 : decode cX5_faultOf 53 = .ok (.aload_n 0, 1) := by decide +kernel
theorem dX5_faultOf_54 : decode cX5_faultOf 54 = .ok (.getfield 22, 3) := by decide +kernel
theorem dX5_faultOf_57 : decode cX5_faultOf 57 = .ok (.aload_n 1, 1) := by decide +kernel
theorem dX5_faultOf_58 : decode cX5_faultOf 58 = .ok (.invokevirtual 38, 3) := by decide +kernel
theorem dX5_faultOf_61 : decode cX5_faultOf 61 = .ok (.if_icmp .ne 7, 3) := by decide +kernel
theorem dX5_faultOf_64 : decode cX5_faultOf 64 = .ok (.iconst (-1), 1) := by decide +kernel
theorem dX5_faultOf_65 : decode cX5_faultOf 65 = .ok (.goto 7, 3) := by decide +kernel
theorem dX5_faultOf_68 : decode cX5_faultOf 68 = .ok (.aload_n 0, 1) := by decide +kernel
theorem dX5_faultOf_69 : decode cX5_faultOf 69 = .ok (.getfield 22, 3) := by decide +kernel
theorem dX5_faultOf_72 : decode cX5_faultOf 72 = .ok (.ireturn, 1) := by decide +kernel
theorem dX5_take_0 : decode cX5_take 0 = .ok (.aload_n 1, 1) := by decide +kernel
theorem dX5_take_1 : decode cX5_take 1 = .ok (.aload_n 0, 1) := by decide +kernel
theorem dX5_take_2 : decode cX5_take 2 = .ok (.getfield 22, 3) := by decide +kernel
theorem dX5_take_5 : decode cX5_take 5 = .ok (.invokevirtual 25, 3) := by decide +kernel
theorem dX5_take_8 : decode cX5_take 8 = .ok (.iload_n 2, 1) := by decide +kernel
theorem dX5_take_9 : decode cX5_take 9 = .ok (.if_icmp .eq 5, 3) := by decide +kernel
theorem dX5_take_12 : decode cX5_take 12 = .ok (.iconst 0, 1) := by decide +kernel
theorem dX5_take_13 : decode cX5_take 13 = .ok (.ireturn, 1) := by decide +kernel
theorem dX5_take_14 : decode cX5_take 14 = .ok (.aload_n 0, 1) := by decide +kernel
theorem dX5_take_15 : decode cX5_take 15 = .ok (.dup, 1) := by decide +kernel
theorem dX5_take_16 : decode cX5_take 16 = .ok (.getfield 22, 3) := by decide +kernel
theorem dX5_take_19 : decode cX5_take 19 = .ok (.iconst 1, 1) := by decide +kernel
theorem dX5_take_20 : decode cX5_take 20 = .ok (.iadd, 1) := by decide +kernel
theorem dX5_take_21 : decode cX5_take 21 = .ok (.putfield 22, 3) := by decide +kernel
theorem dX5_take_24 : decode cX5_take 24 = .ok (.iconst 1, 1) := by decide +kernel
theorem dX5_take_25 : decode cX5_take 25 = .ok (.ireturn, 1) := by decide +kernel
theorem dX5_takeCounts_0 : decode cX5_takeCounts 0 = .ok (.aload_n 0, 1) := by decide +kernel
theorem dX5_takeCounts_1 : decode cX5_takeCounts 1 = .ok (.aload_n 1, 1) := by decide +kernel
theorem dX5_takeCounts_2 : decode cX5_takeCounts 2 = .ok (.bipush 66, 2) := by decide +kernel
theorem dX5_takeCounts_4 : decode cX5_takeCounts 4 = .ok (.invokevirtual 42, 3) := by decide +kernel
theorem dX5_takeCounts_7 : decode cX5_takeCounts 7 = .ok (.ifCond .ne 5, 3) := by decide +kernel
theorem dX5_takeCounts_10 : decode cX5_takeCounts 10 = .ok (.iconst 0, 1) := by decide +kernel
theorem dX5_takeCounts_11 : decode cX5_takeCounts 11 = .ok (.ireturn, 1) := by decide +kernel
theorem dX5_takeCounts_12 : decode cX5_takeCounts 12 = .ok (.aload_n 0, 1) := by decide +kernel
theorem dX5_takeCounts_13 : decode cX5_takeCounts 13 = .ok (.aload_n 0, 1) := by decide +kernel
theorem dX5_takeCounts_14 : decode cX5_takeCounts 14 = .ok (.aload_n 1, 1) := by decide +kernel
theorem dX5_takeCounts_15 : decode cX5_takeCounts 15 = .ok (.invokevirtual 46, 3) := by decide +kernel
theorem dX5_takeCounts_18 : decode cX5_takeCounts 18 = .ok (.putfield 13, 3) := by decide +kernel
theorem dX5_takeCounts_21 : decode cX5_takeCounts 21 = .ok (.aload_n 0, 1) := by decide +kernel
theorem dX5_takeCounts_22 : decode cX5_takeCounts 22 = .ok (.aload_n 1, 1) := by decide +kernel
theorem dX5_takeCounts_23 : decode cX5_takeCounts 23 = .ok (.bipush 47, 2) := by decide +kernel
theorem dX5_takeCounts_25 : decode cX5_takeCounts 25 = .ok (.invokevirtual 42, 3) := by decide +kernel
theorem dX5_takeCounts_28 : decode cX5_takeCounts 28 = .ok (.ifCond .eq 13, 3) := by decide +kernel
theorem dX5_takeCounts_31 : decode cX5_takeCounts 31 = .ok (.aload_n 0, 1) := by decide +kernel
theorem dX5_takeCounts_32 : decode cX5_takeCounts 32 = .ok (.aload_n 1, 1) := by decide +kernel
theorem dX5_takeCounts_33 : decode cX5_takeCounts 33 = .ok (.bipush 83, 2) := by decide +kernel
theorem dX5_takeCounts_35 : decode cX5_takeCounts 35 = .ok (.invokevirtual 42, 3) := by decide +kernel
theorem dX5_takeCounts_38 : decode cX5_takeCounts 38 = .ok (.ifCond .ne 5, 3) := by decide +kernel
theorem dX5_takeCounts_41 : decode cX5_takeCounts 41 = .ok (.iconst 0, 1) := by decide +kernel
theorem dX5_takeCounts_42 : decode cX5_takeCounts 42 = .ok (.ireturn, 1) := by decide +kernel
theorem dX5_takeCounts_43 : decode cX5_takeCounts 43 = .ok (.aload_n 0, 1) := by decide +kernel
theorem dX5_takeCounts_44 : decode cX5_takeCounts 44 = .ok (.aload_n 0, 1) := by decide +kernel
theorem dX5_takeCounts_45 : decode cX5_takeCounts 45 = .ok (.aload_n 1, 1) := by decide +kernel
theorem dX5_takeCounts_46 : decode cX5_takeCounts 46 = .ok (.invokevirtual 46, 3) := by decide +kernel
theorem dX5_takeCounts_49 : decode cX5_takeCounts 49 = .ok (.putfield 16, 3) := by decide +kernel
theorem dX5_takeCounts_52 : decode cX5_takeCounts 52 = .ok (.aload_n 0, 1) := by decide +kernel
theorem dX5_takeCounts_53 : decode cX5_takeCounts 53 = .ok (.aload_n 1, 1) := by decide +kernel
theorem dX5_takeCounts_54 : decode cX5_takeCounts 54 = .ok (.bipush 47, 2) := by decide +kernel
theorem dX5_takeCounts_56 : decode cX5_takeCounts 56 = .ok (.invokevirtual 42, 3) := by decide +kernel
theorem dX5_takeCounts_59 : decode cX5_takeCounts 59 = .ok (.ifCond .ne 5, 3) := by decide +kernel
theorem dX5_takeCounts_62 : decode cX5_takeCounts 62 = .ok (.iconst 0, 1) := by decide +kernel
theorem dX5_takeCounts_63 : decode cX5_takeCounts 63 = .ok (.ireturn, 1) := by decide +kernel
theorem dX5_takeCounts_64 : decode cX5_takeCounts 64 = .ok (.aload_n 0, 1) := by decide +kernel
theorem dX5_takeCounts_65 : decode cX5_takeCounts 65 = .ok (.aload_n 1, 1) := by decide +kernel
theorem dX5_takeCounts_66 : decode cX5_takeCounts 66 = .ok (.aload_n 0, 1) := by decide +kernel
theorem dX5_takeCounts_67 : decode cX5_takeCounts 67 = .ok (.getfield 22, 3) := by decide +kernel
theorem dX5_takeCounts_70 : decode cX5_takeCounts 70 = .ok (.invokevirtual 25, 3) := by decide +kernel
theorem dX5_takeCounts_73 : decode cX5_takeCounts 73 = .ok (.invokestatic 50, 3) := by decide +kernel
theorem dX5_takeCounts_76 : decode cX5_takeCounts 76 = .ok (.putfield 7, 3) := by decide +kernel
theorem dX5_takeCounts_79 : decode cX5_takeCounts 79 = .ok (.aload_n 0, 1) := by decide +kernel
theorem dX5_takeCounts_80 : decode cX5_takeCounts 80 = .ok (.getfield 7, 3) := by decide +kernel
theorem dX5_takeCounts_83 : decode cX5_takeCounts 83 = .ok (.ifCond .eq 22, 3) := by decide +kernel
theorem dX5_takeCounts_86 : decode cX5_takeCounts 86 = .ok (.aload_n 0, 1) := by decide +kernel
theorem dX5_takeCounts_87 : decode cX5_takeCounts 87 = .ok (.getfield 13, 3) := by decide +kernel
theorem dX5_takeCounts_90 : decode cX5_takeCounts 90 = .ok (.aload_n 0, 1) := by decide +kernel
theorem dX5_takeCounts_91 : decode cX5_takeCounts 91 = .ok (.getfield 16, 3) := by decide +kernel
theorem dX5_takeCounts_94 : decode cX5_takeCounts 94 = .ok (.ior, 1) := by decide +kernel
theorem dX5_takeCounts_95 : decode cX5_takeCounts 95 = .ok (.aload_n 0, 1) := by decide +kernel
theorem dX5_takeCounts_96 : decode cX5_takeCounts 96 = .ok (.getfield 7, 3) := by decide +kernel
theorem dX5_takeCounts_99 : decode cX5_takeCounts 99 = .ok (.iconst 1, 1) := by decide +kernel
theorem dX5_takeCounts_100 : decode cX5_takeCounts 100 = .ok (.iadd, 1) := by decide +kernel
theorem dX5_takeCounts_101 : decode cX5_takeCounts 101 = .ok (.ishr, 1) := by decide +kernel
theorem dX5_takeCounts_102 : decode cX5_takeCounts 102 = .ok (.ifCond .eq 5, 3) := by decide +kernel
theorem dX5_takeCounts_105 : decode cX5_takeCounts 105 = .ok (.iconst 0, 1) := by decide +kernel
theorem dX5_takeCounts_106 : decode cX5_takeCounts 106 = .ok (.ireturn, 1) := by decide +kernel
theorem dX5_takeCounts_107 : decode cX5_takeCounts 107 = .ok (.aload_n 0, 1) := by decide +kernel
theorem dX5_takeCounts_108 : decode cX5_takeCounts 108 = .ok (.dup, 1) := by decide +kernel
theorem dX5_takeCounts_109 : decode cX5_takeCounts 109 = .ok (.getfield 22, 3) := by decide +kernel
theorem dX5_takeCounts_112 : decode cX5_takeCounts 112 = .ok (.iconst 1, 1) := by decide +kernel
theorem dX5_takeCounts_113 : decode cX5_takeCounts 113 = .ok (.iadd, 1) := by decide +kernel
theorem dX5_takeCounts_114 : decode cX5_takeCounts 114 = .ok (.putfield 22, 3) := by decide +kernel
theorem dX5_takeCounts_117 : decode cX5_takeCounts 117 = .ok (.iconst 1, 1) := by decide +kernel
theorem dX5_takeCounts_118 : decode cX5_takeCounts 118 = .ok (.ireturn, 1) := by decide +kernel
theorem dX5_takeSet_0 : decode cX5_takeSet 0 = .ok (.iconst 0, 1) := by decide +kernel
theorem dX5_takeSet_1 : decode cX5_takeSet 1 = .ok (.istore_n 2, 1) := by decide +kernel
theorem dX5_takeSet_2 : decode cX5_takeSet 2 = .ok (.iconst 0, 1) := by decide +kernel
theorem dX5_takeSet_3 : decode cX5_takeSet 3 = .ok (.istore_n 3, 1) := by decide +kernel
theorem dX5_takeSet_4 : decode cX5_takeSet 4 = .ok (.iload_n 3, 1) := by decide +kernel
theorem dX5_takeSet_5 : decode cX5_takeSet 5 = .ok (.bipush 8, 2) := by decide +kernel
theorem dX5_takeSet_7 : decode cX5_takeSet 7 = .ok (.if_icmp .gt 56, 3) := by decide +kernel
theorem dX5_takeSet_10 : decode cX5_takeSet 10 = .ok (.aload_n 1, 1) := by decide +kernel
theorem dX5_takeSet_11 : decode cX5_takeSet 11 = .ok (.aload_n 0, 1) := by decide +kernel
theorem dX5_takeSet_12 : decode cX5_takeSet 12 = .ok (.getfield 22, 3) := by decide +kernel
theorem dX5_takeSet_15 : decode cX5_takeSet 15 = .ok (.invokevirtual 25, 3) := by decide +kernel
theorem dX5_takeSet_18 : decode cX5_takeSet 18 = .ok (.bipush 48, 2) := by decide +kernel
theorem dX5_takeSet_20 : decode cX5_takeSet 20 = .ok (.isub, 1) := by decide +kernel
theorem dX5_takeSet_21 : decode cX5_takeSet 21 = .ok (.istore 4, 2) := by decide +kernel
theorem dX5_takeSet_23 : decode cX5_takeSet 23 = .ok (.iload 4, 2) := by decide +kernel
theorem dX5_takeSet_25 : decode cX5_takeSet 25 = .ok (.iload_n 3, 1) := by decide +kernel
theorem dX5_takeSet_26 : decode cX5_takeSet 26 = .ok (.if_icmp .lt 10, 3) := by decide +kernel
theorem dX5_takeSet_29 : decode cX5_takeSet 29 = .ok (.iload 4, 2) := by decide +kernel
theorem dX5_takeSet_31 : decode cX5_takeSet 31 = .ok (.bipush 8, 2) := by decide +kernel
theorem dX5_takeSet_33 : decode cX5_takeSet 33 = .ok (.if_icmp .le 5, 3) := by decide +kernel
theorem dX5_takeSet_36 : decode cX5_takeSet 36 = .ok (.iload_n 2, 1) := by decide +kernel
theorem dX5_takeSet_37 : decode cX5_takeSet 37 = .ok (.ireturn, 1) := by decide +kernel
theorem dX5_takeSet_38 : decode cX5_takeSet 38 = .ok (.iload_n 2, 1) := by decide +kernel
theorem dX5_takeSet_39 : decode cX5_takeSet 39 = .ok (.iconst 1, 1) := by decide +kernel
theorem dX5_takeSet_40 : decode cX5_takeSet 40 = .ok (.iload 4, 2) := by decide +kernel
theorem dX5_takeSet_42 : decode cX5_takeSet 42 = .ok (.ishl, 1) := by decide +kernel
theorem dX5_takeSet_43 : decode cX5_takeSet 43 = .ok (.ior, 1) := by decide +kernel
theorem dX5_takeSet_44 : decode cX5_takeSet 44 = .ok (.istore_n 2, 1) := by decide +kernel
theorem dX5_takeSet_45 : decode cX5_takeSet 45 = .ok (.iload 4, 2) := by decide +kernel
theorem dX5_takeSet_47 : decode cX5_takeSet 47 = .ok (.iconst 1, 1) := by decide +kernel
theorem dX5_takeSet_48 : decode cX5_takeSet 48 = .ok (.iadd, 1) := by decide +kernel
theorem dX5_takeSet_49 : decode cX5_takeSet 49 = .ok (.istore_n 3, 1) := by decide +kernel
theorem dX5_takeSet_50 : decode cX5_takeSet 50 = .ok (.aload_n 0, 1) := by decide +kernel
theorem dX5_takeSet_51 : decode cX5_takeSet 51 = .ok (.dup, 1) := by decide +kernel
theorem dX5_takeSet_52 : decode cX5_takeSet 52 = .ok (.getfield 22, 3) := by decide +kernel
theorem dX5_takeSet_55 : decode cX5_takeSet 55 = .ok (.iconst 1, 1) := by decide +kernel
theorem dX5_takeSet_56 : decode cX5_takeSet 56 = .ok (.iadd, 1) := by decide +kernel
theorem dX5_takeSet_57 : decode cX5_takeSet 57 = .ok (.putfield 22, 3) := by decide +kernel
theorem dX5_takeSet_60 : decode cX5_takeSet 60 = .ok (.goto (-56), 3) := by decide +kernel
theorem dX5_takeSet_63 : decode cX5_takeSet 63 = .ok (.iload_n 2, 1) := by decide +kernel
theorem dX5_takeSet_64 : decode cX5_takeSet 64 = .ok (.ireturn, 1) := by decide +kernel
theorem dX5_neighboursOf_0 : decode cX5_neighboursOf 0 = .ok (.iload_n 0, 1) := by decide +kernel
theorem dX5_neighboursOf_1 : decode cX5_neighboursOf 1 = .ok (.lookupswitch 43 #[(77, 35), (86, 38), (88, 40)], 35) := by decide +kernel
theorem dX5_neighboursOf_36 : decode cX5_neighboursOf 36 = .ok (.bipush 8, 2) := by decide +kernel
theorem dX5_neighboursOf_38 : decode cX5_neighboursOf 38 = .ok (.ireturn, 1) := by decide +kernel
theorem dX5_neighboursOf_39 : decode cX5_neighboursOf 39 = .ok (.iconst 4, 1) := by decide +kernel
theorem dX5_neighboursOf_40 : decode cX5_neighboursOf 40 = .ok (.ireturn, 1) := by decide +kernel
theorem dX5_neighboursOf_41 : decode cX5_neighboursOf 41 = .ok (.bipush 6, 2) := by decide +kernel
theorem dX5_neighboursOf_43 : decode cX5_neighboursOf 43 = .ok (.ireturn, 1) := by decide +kernel
theorem dX5_neighboursOf_44 : decode cX5_neighboursOf 44 = .ok (.iconst 0, 1) := by decide +kernel
theorem dX5_neighboursOf_45 : decode cX5_neighboursOf 45 = .ok (.ireturn, 1) := by decide +kernel
theorem dX5_takeBlocks_0 : decode cX5_takeBlocks 0 = .ok (.aload_n 0, 1) := by decide +kernel
theorem dX5_takeBlocks_1 : decode cX5_takeBlocks 1 = .ok (.aload_n 1, 1) := by decide +kernel
theorem dX5_takeBlocks_2 : decode cX5_takeBlocks 2 = .ok (.bipush 75, 2) := by decide +kernel
theorem dX5_takeBlocks_4 : decode cX5_takeBlocks 4 = .ok (.invokevirtual 42, 3) := by decide +kernel
theorem dX5_takeBlocks_7 : decode cX5_takeBlocks 7 = .ok (.ifCond .ne 5, 3) := by decide +kernel
theorem dX5_takeBlocks_10 : decode cX5_takeBlocks 10 = .ok (.iconst 0, 1) := by decide +kernel
theorem dX5_takeBlocks_11 : decode cX5_takeBlocks 11 = .ok (.ireturn, 1) := by decide +kernel
theorem dX5_takeBlocks_12 : decode cX5_takeBlocks 12 = .ok (.aload_n 1, 1) := by decide +kernel
theorem dX5_takeBlocks_13 : decode cX5_takeBlocks 13 = .ok (.aload_n 0, 1) := by decide +kernel
theorem dX5_takeBlocks_14 : decode cX5_takeBlocks 14 = .ok (.getfield 22, 3) := by decide +kernel
theorem dX5_takeBlocks_17 : decode cX5_takeBlocks 17 = .ok (.invokevirtual 25, 3) := by decide +kernel
theorem dX5_takeBlocks_20 : decode cX5_takeBlocks 20 = .ok (.bipush 48, 2) := by decide +kernel
theorem dX5_takeBlocks_22 : decode cX5_takeBlocks 22 = .ok (.isub, 1) := by decide +kernel
theorem dX5_takeBlocks_23 : decode cX5_takeBlocks 23 = .ok (.istore_n 2, 1) := by decide +kernel
theorem dX5_takeBlocks_24 : decode cX5_takeBlocks 24 = .ok (.iload_n 2, 1) := by decide +kernel
theorem dX5_takeBlocks_25 : decode cX5_takeBlocks 25 = .ok (.iconst 2, 1) := by decide +kernel
theorem dX5_takeBlocks_26 : decode cX5_takeBlocks 26 = .ok (.if_icmp .lt 8, 3) := by decide +kernel
theorem dX5_takeBlocks_29 : decode cX5_takeBlocks 29 = .ok (.iload_n 2, 1) := by decide +kernel
theorem dX5_takeBlocks_30 : decode cX5_takeBlocks 30 = .ok (.iconst 4, 1) := by decide +kernel
theorem dX5_takeBlocks_31 : decode cX5_takeBlocks 31 = .ok (.if_icmp .le 5, 3) := by decide +kernel
theorem dX5_takeBlocks_34 : decode cX5_takeBlocks 34 = .ok (.iconst 0, 1) := by decide +kernel
theorem dX5_takeBlocks_35 : decode cX5_takeBlocks 35 = .ok (.ireturn, 1) := by decide +kernel
theorem dX5_takeBlocks_36 : decode cX5_takeBlocks 36 = .ok (.aload_n 0, 1) := by decide +kernel
theorem dX5_takeBlocks_37 : decode cX5_takeBlocks 37 = .ok (.iload_n 2, 1) := by decide +kernel
theorem dX5_takeBlocks_38 : decode cX5_takeBlocks 38 = .ok (.putfield 19, 3) := by decide +kernel
theorem dX5_takeBlocks_41 : decode cX5_takeBlocks 41 = .ok (.aload_n 0, 1) := by decide +kernel
theorem dX5_takeBlocks_42 : decode cX5_takeBlocks 42 = .ok (.dup, 1) := by decide +kernel
theorem dX5_takeBlocks_43 : decode cX5_takeBlocks 43 = .ok (.getfield 22, 3) := by decide +kernel
theorem dX5_takeBlocks_46 : decode cX5_takeBlocks 46 = .ok (.iconst 1, 1) := by decide +kernel
theorem dX5_takeBlocks_47 : decode cX5_takeBlocks 47 = .ok (.iadd, 1) := by decide +kernel
theorem dX5_takeBlocks_48 : decode cX5_takeBlocks 48 = .ok (.putfield 22, 3) := by decide +kernel
theorem dX5_takeBlocks_51 : decode cX5_takeBlocks 51 = .ok (.iconst 4, 1) := by decide +kernel
theorem dX5_takeBlocks_52 : decode cX5_takeBlocks 52 = .ok (.aload_n 0, 1) := by decide +kernel
theorem dX5_takeBlocks_53 : decode cX5_takeBlocks 53 = .ok (.getfield 19, 3) := by decide +kernel
theorem dX5_takeBlocks_56 : decode cX5_takeBlocks 56 = .ok (.imul, 1) := by decide +kernel
theorem dX5_takeBlocks_57 : decode cX5_takeBlocks 57 = .ok (.aload_n 0, 1) := by decide +kernel
theorem dX5_takeBlocks_58 : decode cX5_takeBlocks 58 = .ok (.getfield 19, 3) := by decide +kernel
theorem dX5_takeBlocks_61 : decode cX5_takeBlocks 61 = .ok (.imul, 1) := by decide +kernel
theorem dX5_takeBlocks_62 : decode cX5_takeBlocks 62 = .ok (.aload_n 0, 1) := by decide +kernel
theorem dX5_takeBlocks_63 : decode cX5_takeBlocks 63 = .ok (.getfield 19, 3) := by decide +kernel
theorem dX5_takeBlocks_66 : decode cX5_takeBlocks 66 = .ok (.imul, 1) := by decide +kernel
theorem dX5_takeBlocks_67 : decode cX5_takeBlocks 67 = .ok (.aload_n 0, 1) := by decide +kernel
theorem dX5_takeBlocks_68 : decode cX5_takeBlocks 68 = .ok (.getfield 19, 3) := by decide +kernel
theorem dX5_takeBlocks_71 : decode cX5_takeBlocks 71 = .ok (.imul, 1) := by decide +kernel
theorem dX5_takeBlocks_72 : decode cX5_takeBlocks 72 = .ok (.istore_n 3, 1) := by decide +kernel
theorem dX5_takeBlocks_73 : decode cX5_takeBlocks 73 = .ok (.iconst 0, 1) := by decide +kernel
theorem dX5_takeBlocks_74 : decode cX5_takeBlocks 74 = .ok (.istore 4, 2) := by decide +kernel
theorem dX5_takeBlocks_76 : decode cX5_takeBlocks 76 = .ok (.iload 4, 2) := by decide +kernel
theorem dX5_takeBlocks_78 : decode cX5_takeBlocks 78 = .ok (.iload_n 3, 1) := by decide +kernel
theorem dX5_takeBlocks_79 : decode cX5_takeBlocks 79 = .ok (.if_icmp .ge 48, 3) := by decide +kernel
theorem dX5_takeBlocks_82 : decode cX5_takeBlocks 82 = .ok (.aload_n 1, 1) := by decide +kernel
theorem dX5_takeBlocks_83 : decode cX5_takeBlocks 83 = .ok (.aload_n 0, 1) := by decide +kernel
theorem dX5_takeBlocks_84 : decode cX5_takeBlocks 84 = .ok (.getfield 22, 3) := by decide +kernel
theorem dX5_takeBlocks_87 : decode cX5_takeBlocks 87 = .ok (.invokevirtual 25, 3) := by decide +kernel
theorem dX5_takeBlocks_90 : decode cX5_takeBlocks 90 = .ok (.bipush 48, 2) := by decide +kernel
theorem dX5_takeBlocks_92 : decode cX5_takeBlocks 92 = .ok (.isub, 1) := by decide +kernel
theorem dX5_takeBlocks_93 : decode cX5_takeBlocks 93 = .ok (.istore 5, 2) := by decide +kernel
theorem dX5_takeBlocks_95 : decode cX5_takeBlocks 95 = .ok (.iload 5, 2) := by decide +kernel
theorem dX5_takeBlocks_97 : decode cX5_takeBlocks 97 = .ok (.ifCond .lt 12, 3) := by decide +kernel
theorem dX5_takeBlocks_100 : decode cX5_takeBlocks 100 = .ok (.iload 5, 2) := by decide +kernel
theorem dX5_takeBlocks_102 : decode cX5_takeBlocks 102 = .ok (.aload_n 0, 1) := by decide +kernel
theorem dX5_takeBlocks_103 : decode cX5_takeBlocks 103 = .ok (.getfield 19, 3) := by decide +kernel
theorem dX5_takeBlocks_106 : decode cX5_takeBlocks 106 = .ok (.if_icmp .lt 5, 3) := by decide +kernel
theorem dX5_takeBlocks_109 : decode cX5_takeBlocks 109 = .ok (.iconst 0, 1) := by decide +kernel
theorem dX5_takeBlocks_110 : decode cX5_takeBlocks 110 = .ok (.ireturn, 1) := by decide +kernel
theorem dX5_takeBlocks_111 : decode cX5_takeBlocks 111 = .ok (.aload_n 0, 1) := by decide +kernel
theorem dX5_takeBlocks_112 : decode cX5_takeBlocks 112 = .ok (.dup, 1) := by decide +kernel
theorem dX5_takeBlocks_113 : decode cX5_takeBlocks 113 = .ok (.getfield 22, 3) := by decide +kernel
theorem dX5_takeBlocks_116 : decode cX5_takeBlocks 116 = .ok (.iconst 1, 1) := by decide +kernel
theorem dX5_takeBlocks_117 : decode cX5_takeBlocks 117 = .ok (.iadd, 1) := by decide +kernel
theorem dX5_takeBlocks_118 : decode cX5_takeBlocks 118 = .ok (.putfield 22, 3) := by decide +kernel
theorem dX5_takeBlocks_121 : decode cX5_takeBlocks 121 = .ok (.iinc 4 1, 3) := by decide +kernel
theorem dX5_takeBlocks_124 : decode cX5_takeBlocks 124 = .ok (.goto (-48), 3) := by decide +kernel
theorem dX5_takeBlocks_127 : decode cX5_takeBlocks 127 = .ok (.iconst 1, 1) := by decide +kernel
theorem dX5_takeBlocks_128 : decode cX5_takeBlocks 128 = .ok (.ireturn, 1) := by decide +kernel
theorem dX6_init_0 : decode cX6_init 0 = .ok (.aload_n 0, 1) := by decide +kernel
theorem dX6_init_1 : decode cX6_init 1 = .ok (.invokespecial 1, 3) := by decide +kernel
theorem dX6_init_4 : decode cX6_init 4 = .ok (.return_, 1) := by decide +kernel
theorem dX6_faultOf_0 : decode cX6_faultOf 0 = .ok (.aload_n 0, 1) := by decide +kernel
theorem dX6_faultOf_1 : decode cX6_faultOf 1 = .ok (.invokevirtual 7, 3) := by decide +kernel
theorem dX6_faultOf_4 : decode cX6_faultOf 4 = .ok (.aload_n 0, 1) := by decide +kernel
theorem dX6_faultOf_5 : decode cX6_faultOf 5 = .ok (.aload_n 1, 1) := by decide +kernel
theorem dX6_faultOf_6 : decode cX6_faultOf 6 = .ok (.invokevirtual 12, 3) := by decide +kernel
theorem dX6_faultOf_9 : decode cX6_faultOf 9 = .ok (.istore_n 2, 1) := by decide +kernel
theorem dX6_faultOf_10 : decode cX6_faultOf 10 = .ok (.iconst 0, 1) := by decide +kernel
theorem dX6_faultOf_11 : decode cX6_faultOf 11 = .ok (.istore_n 3, 1) := by decide +kernel
theorem dX6_faultOf_12 : decode cX6_faultOf 12 = .ok (.iload_n 3, 1) := by decide +kernel
theorem dX6_faultOf_13 : decode cX6_faultOf 13 = .ok (.sipush 2000, 3) := by decide +kernel
theorem dX6_faultOf_16 : decode cX6_faultOf 16 = .ok (.if_icmp .ge 22, 3) := by decide +kernel
theorem dX6_faultOf_19 : decode cX6_faultOf 19 = .ok (.iload_n 2, 1) := by decide +kernel
theorem dX6_faultOf_20 : decode cX6_faultOf 20 = .ok (.invokestatic 18, 3) := by decide +kernel
theorem dX6_faultOf_23 : decode cX6_faultOf 23 = .ok (.ifCond .eq 15, 3) := by decide +kernel
theorem dX6_faultOf_26 : decode cX6_faultOf 26 = .ok (.aload_n 0, 1) := by decide +kernel
theorem dX6_faultOf_27 : decode cX6_faultOf 27 = .ok (.aload_n 1, 1) := by decide +kernel
theorem dX6_faultOf_28 : decode cX6_faultOf 28 = .ok (.invokevirtual 12, 3) := by decide +kernel
theorem dX6_faultOf_31 : decode cX6_faultOf 31 = .ok (.istore_n 2, 1) := by decide +kernel
theorem dX6_faultOf_32 : decode cX6_faultOf 32 = .ok (.iinc 3 1, 3) := by decide +kernel
theorem dX6_faultOf_35 : decode cX6_faultOf 35 = .ok (.goto (-23), 3) := by decide +kernel
theorem dX6_faultOf_38 : decode cX6_faultOf 38 = .ok (.iload_n 2, 1) := by decide +kernel
theorem dX6_faultOf_39 : decode cX6_faultOf 39 = .ok (.bipush 33, 2) := by decide +kernel
theorem dX6_faultOf_41 : decode cX6_faultOf 41 = .ok (.if_icmp .ne 31, 3) := by decide +kernel
theorem dX6_faultOf_44 : decode cX6_faultOf 44 = .ok (.aload_n 0, 1) := by decide +kernel
theorem dX6_faultOf_45 : decode cX6_faultOf 45 = .ok (.aload_n 1, 1) := by decide +kernel
theorem dX6_faultOf_46 : decode cX6_faultOf 46 = .ok (.invokevirtual 22, 3) := by decide +kernel
theorem dX6_faultOf_49 : decode cX6_faultOf 49 = .ok (.aload_n 0, 1) := by decide +kernel
theorem dX6_faultOf_50 : decode cX6_faultOf 50 = .ok (.aload_n 0, 1) := by decide +kernel
theorem dX6_faultOf_51 : decode cX6_faultOf 51 = .ok (.getfield 26, 3) := by decide +kernel
theorem dX6_faultOf_54 : decode cX6_faultOf 54 = .ok (.aload_n 1, 1) := by decide +kernel
theorem dX6_faultOf_55 : decode cX6_faultOf 55 = .ok (.invokevirtual 30, 3) := by decide +kernel
theorem dX6_faultOf_58 : decode cX6_faultOf 58 = .ok (.if_icmp .ge 10, 3) := by decide +kernel
theorem dX6_faultOf_61 : decode cX6_faultOf 61 = .ok (.aload_n 0, 1) := by decide +kernel
theorem dX6_faultOf_62 : decode cX6_faultOf 62 = .ok (.getfield 26, 3) := by decide +kernel
theorem dX6_faultOf_65 : decode cX6_faultOf 65 = .ok (.goto 4, 3) := by decide +kernel
theorem dX6_faultOf_68 : decode cX6_faultOf 68 = .ok (.iconst (-1), 1) := by decide +kernel
theorem dX6_faultOf_69 : decode cX6_faultOf 69 = .ok (.putfield 34, 3) := by decide +kernel
theorem dX6_faultOf_72 : decode cX6_faultOf 72 = .ok (.aload_n 0, 1) := by decide +kernel
theorem dX6_faultOf_73 : decode cX6_faultOf 73 = .ok (.getfield 34, 3) := by decide +kernel
theorem dX6_faultOf_76 : decode cX6_faultOf 76 = .ok (.ireturn, 1) := by decide +kernel
theorem dX6_restart_0 : decode cX6_restart 0 = .ok (.aload_n 0, 1) := by decide +kernel
theorem dX6_restart_1 : decode cX6_restart 1 = .ok (.iconst 0, 1) := by decide +kernel
theorem dX6_restart_2 : decode cX6_restart 2 = .ok (.putfield 26, 3) := by decide +kernel
theorem dX6_restart_5 : decode cX6_restart 5 = .ok (.aload_n 0, 1) := by decide +kernel
theorem dX6_restart_6 : decode cX6_restart 6 = .ok (.iconst (-1), 1) := by decide +kernel
theorem dX6_restart_7 : decode cX6_restart 7 = .ok (.putfield 34, 3) := by decide +kernel
theorem dX6_restart_10 : decode cX6_restart 10 = .ok (.return_, 1) := by decide +kernel
theorem dX6_goesOn_0 : decode cX6_goesOn 0 = .ok (.iload_n 0, 1) := by decide +kernel
theorem dX6_goesOn_1 : decode cX6_goesOn 1 = .ok (.ifCond .le 13, 3) := by decide +kernel
theorem dX6_goesOn_4 : decode cX6_goesOn 4 = .ok (.iload_n 0, 1) := by decide +kernel
theorem dX6_goesOn_5 : decode cX6_goesOn 5 = .ok (.bipush 33, 2) := by decide +kernel
theorem dX6_goesOn_7 : decode cX6_goesOn 7 = .ok (.if_icmp .eq 7, 3) := by decide +kernel
theorem dX6_goesOn_10 : decode cX6_goesOn 10 = .ok (.iconst 1, 1) := by decide +kernel
theorem dX6_goesOn_11 : decode cX6_goesOn 11 = .ok (.goto 4, 3) := by decide +kernel
theorem dX6_goesOn_14 : decode cX6_goesOn 14 = .ok (.iconst 0, 1) := by decide +kernel
theorem dX6_goesOn_15 : decode cX6_goesOn 15 = .ok (.ireturn, 1) := by decide +kernel
theorem dX6_isBlank_0 : decode cX6_isBlank 0 = .ok (.iload_n 0, 1) := by decide +kernel
theorem dX6_isBlank_1 : decode cX6_isBlank 1 = .ok (.bipush 10, 2) := by decide +kernel
theorem dX6_isBlank_3 : decode cX6_isBlank 3 = .ok (.if_icmp .eq 9, 3) := by decide +kernel
theorem dX6_isBlank_6 : decode cX6_isBlank 6 = .ok (.iload_n 0, 1) := by decide +kernel
theorem dX6_isBlank_7 : decode cX6_isBlank 7 = .ok (.bipush 32, 2) := by decide +kernel
theorem dX6_isBlank_9 : decode cX6_isBlank 9 = .ok (.if_icmp .ne 7, 3) := by decide +kernel
theorem dX6_isBlank_12 : decode cX6_isBlank 12 = .ok (.iconst 1, 1) := by decide +kernel
theorem dX6_isBlank_13 : decode cX6_isBlank 13 = .ok (.goto 4, 3) := by decide +kernel
theorem dX6_isBlank_16 : decode cX6_isBlank 16 = .ok (.iconst 0, 1) := by decide +kernel
theorem dX6_isBlank_17 : decode cX6_isBlank 17 = .ok (.ireturn, 1) := by decide +kernel
theorem dX6_skipBlanks_0 : decode cX6_skipBlanks 0 = .ok (.aload_n 0, 1) := by decide +kernel
theorem dX6_skipBlanks_1 : decode cX6_skipBlanks 1 = .ok (.getfield 26, 3) := by decide +kernel
theorem dX6_skipBlanks_4 : decode cX6_skipBlanks 4 = .ok (.aload_n 1, 1) := by decide +kernel
theorem dX6_skipBlanks_5 : decode cX6_skipBlanks 5 = .ok (.invokevirtual 30, 3) := by decide +kernel
theorem dX6_skipBlanks_8 : decode cX6_skipBlanks 8 = .ok (.if_icmp .ge 30, 3) := by decide +kernel
theorem dX6_skipBlanks_11 : decode cX6_skipBlanks 11 = .ok (.aload_n 1, 1) := by decide +kernel
theorem dX6_skipBlanks_12 : decode cX6_skipBlanks 12 = .ok (.aload_n 0, 1) := by decide +kernel
theorem dX6_skipBlanks_13 : decode cX6_skipBlanks 13 = .ok (.getfield 26, 3) := by decide +kernel
theorem dX6_skipBlanks_16 : decode cX6_skipBlanks 16 = .ok (.invokevirtual 37, 3) := by decide +kernel
theorem dX6_skipBlanks_19 : decode cX6_skipBlanks 19 = .ok (.invokestatic 41, 3) := by decide +kernel
theorem dX6_skipBlanks_22 : decode cX6_skipBlanks 22 = .ok (.ifCond .eq 16, 3) := by decide +kernel
theorem dX6_skipBlanks_25 : decode cX6_skipBlanks 25 = .ok (.aload_n 0, 1) := by decide +kernel
theorem dX6_skipBlanks_26 : decode cX6_skipBlanks 26 = .ok (.dup, 1) := by decide +kernel
theorem dX6_skipBlanks_27 : decode cX6_skipBlanks 27 = .ok (.getfield 26, 3) := by decide +kernel
theorem dX6_skipBlanks_30 : decode cX6_skipBlanks 30 = .ok (.iconst 1, 1) := by decide +kernel
theorem dX6_skipBlanks_31 : decode cX6_skipBlanks 31 = .ok (.iadd, 1) := by decide +kernel
theorem dX6_skipBlanks_32 : decode cX6_skipBlanks 32 = .ok (.putfield 26, 3) := by decide +kernel
theorem dX6_skipBlanks_35 : decode cX6_skipBlanks 35 = .ok (.goto (-35), 3) := by decide +kernel
theorem dX6_skipBlanks_38 : decode cX6_skipBlanks 38 = .ok (.return_, 1) := by decide +kernel
theorem dX6_nextLetter_0 : decode cX6_nextLetter 0 = .ok (.aload_n 0, 1) := by decide +kernel
theorem dX6_nextLetter_1 : decode cX6_nextLetter 1 = .ok (.aload_n 1, 1) := by decide +kernel
theorem dX6_nextLetter_2 : decode cX6_nextLetter 2 = .ok (.invokevirtual 22, 3) := by decide +kernel
theorem dX6_nextLetter_5 : decode cX6_nextLetter 5 = .ok (.aload_n 0, 1) := by decide +kernel
theorem dX6_nextLetter_6 : decode cX6_nextLetter 6 = .ok (.getfield 26, 3) := by decide +kernel
theorem dX6_nextLetter_9 : decode cX6_nextLetter 9 = .ok (.istore_n 2, 1) := by decide +kernel
theorem dX6_nextLetter_10 : decode cX6_nextLetter 10 = .ok (.aload_n 0, 1) := by decide +kernel
theorem dX6_nextLetter_11 : decode cX6_nextLetter 11 = .ok (.aload_n 1, 1) := by decide +kernel
theorem dX6_nextLetter_12 : decode cX6_nextLetter 12 = .ok (.invokevirtual 44, 3) := by decide +kernel
theorem dX6_nextLetter_15 : decode cX6_nextLetter 15 = .ok (.aload_n 0, 1) := by decide +kernel
theorem dX6_nextLetter_16 : decode cX6_nextLetter 16 = .ok (.getfield 34, 3) := by decide +kernel
theorem dX6_nextLetter_19 : decode cX6_nextLetter 19 = .ok (.ifCond .lt 5, 3) := by decide +kernel
theorem dX6_nextLetter_22 : decode cX6_nextLetter 22 = .ok (.iconst 0, 1) := by decide +kernel
theorem dX6_nextLetter_23 : decode cX6_nextLetter 23 = .ok (.ireturn, 1) := by decide +kernel
theorem dX6_nextLetter_24 : decode cX6_nextLetter 24 = .ok (.aload_n 0, 1) := by decide +kernel
theorem dX6_nextLetter_25 : decode cX6_nextLetter 25 = .ok (.getfield 26, 3) := by decide +kernel
theorem dX6_nextLetter_28 : decode cX6_nextLetter 28 = .ok (.iload_n 2, 1) := by decide +kernel
theorem dX6_nextLetter_29 : decode cX6_nextLetter 29 = .ok (.if_icmp .le 7, 3) := by decide +kernel
theorem dX6_nextLetter_32 : decode cX6_nextLetter 32 = .ok (.iconst 1, 1) := by decide +kernel
theorem dX6_nextLetter_33 : decode cX6_nextLetter 33 = .ok (.goto 4, 3) := by decide +kernel
theorem dX6_nextLetter_36 : decode cX6_nextLetter 36 = .ok (.iconst 0, 1) := by decide +kernel
theorem dX6_nextLetter_37 : decode cX6_nextLetter 37 = .ok (.istore_n 3, 1) := by decide +kernel
theorem dX6_nextLetter_38 : decode cX6_nextLetter 38 = .ok (.aload_n 1, 1) := by decide +kernel
theorem dX6_nextLetter_39 : decode cX6_nextLetter 39 = .ok (.aload_n 0, 1) := by decide +kernel
theorem dX6_nextLetter_40 : decode cX6_nextLetter 40 = .ok (.getfield 26, 3) := by decide +kernel
theorem dX6_nextLetter_43 : decode cX6_nextLetter 43 = .ok (.invokevirtual 37, 3) := by decide +kernel
theorem dX6_nextLetter_46 : decode cX6_nextLetter 46 = .ok (.istore 4, 2) := by decide +kernel
theorem dX6_nextLetter_48 : decode cX6_nextLetter 48 = .ok (.iload 4, 2) := by decide +kernel
theorem dX6_nextLetter_50 : decode cX6_nextLetter 50 = .ok (.bipush 98, 2) := by decide +kernel
theorem dX6_nextLetter_52 : decode cX6_nextLetter 52 = .ok (.if_icmp .eq 28, 3) := by decide +kernel
theorem dX6_nextLetter_55 : decode cX6_nextLetter 55 = .ok (.iload 4, 2) := by decide +kernel
theorem dX6_nextLetter_57 : decode cX6_nextLetter 57 = .ok (.bipush 111, 2) := by decide +kernel
theorem dX6_nextLetter_59 : decode cX6_nextLetter 59 = .ok (.if_icmp .eq 21, 3) := by decide +kernel
theorem dX6_nextLetter_62 : decode cX6_nextLetter 62 = .ok (.iload 4, 2) := by decide +kernel
theorem dX6_nextLetter_64 : decode cX6_nextLetter 64 = .ok (.bipush 36, 2) := by decide +kernel
theorem dX6_nextLetter_66 : decode cX6_nextLetter 66 = .ok (.if_icmp .eq 14, 3) := by decide +kernel
theorem dX6_nextLetter_69 : decode cX6_nextLetter 69 = .ok (.iload 4, 2) := by decide +kernel
theorem dX6_nextLetter_71 : decode cX6_nextLetter 71 = .ok (.bipush 33, 2) := by decide +kernel
theorem dX6_nextLetter_73 : decode cX6_nextLetter 73 = .ok (.if_icmp .ne 36, 3) := by decide +kernel
theorem dX6_nextLetter_76 : decode cX6_nextLetter 76 = .ok (.iload_n 3, 1) := by decide +kernel
theorem dX6_nextLetter_77 : decode cX6_nextLetter 77 = .ok (.ifCond .ne 32, 3) := by decide +kernel
theorem dX6_nextLetter_80 : decode cX6_nextLetter 80 = .ok (.aload_n 0, 1) := by decide +kernel
theorem dX6_nextLetter_81 : decode cX6_nextLetter 81 = .ok (.iload_n 3, 1) := by decide +kernel
theorem dX6_nextLetter_82 : decode cX6_nextLetter 82 = .ok (.ifCond .eq 10, 3) := by decide +kernel
theorem dX6_nextLetter_85 : decode cX6_nextLetter 85 = .ok (.aload_n 0, 1) := by decide +kernel
theorem dX6_nextLetter_86 : decode cX6_nextLetter 86 = .ok (.getfield 47, 3) := by decide +kernel
theorem dX6_nextLetter_89 : decode cX6_nextLetter 89 = .ok (.goto 4, 3) := by decide +kernel
theorem dX6_nextLetter_92 : decode cX6_nextLetter 92 = .ok (.iconst 1, 1) := by decide +kernel
theorem dX6_nextLetter_93 : decode cX6_nextLetter 93 = .ok (.putfield 47, 3) := by decide +kernel
theorem dX6_nextLetter_96 : decode cX6_nextLetter 96 = .ok (.aload_n 0, 1) := by decide +kernel
theorem dX6_nextLetter_97 : decode cX6_nextLetter 97 = .ok (.dup, 1) := by decide +kernel
theorem dX6_nextLetter_98 : decode cX6_nextLetter 98 = .ok (.getfield 26, 3) := by decide +kernel
theorem dX6_nextLetter_101 : decode cX6_nextLetter 101 = .ok (.iconst 1, 1) := by decide +kernel
theorem dX6_nextLetter_102 : decode cX6_nextLetter 102 = .ok (.iadd, 1) := by decide +kernel
theorem dX6_nextLetter_103 : decode cX6_nextLetter 103 = .ok (.putfield 26, 3) := by decide +kernel
theorem dX6_nextLetter_106 : decode cX6_nextLetter 106 = .ok (.iload 4, 2) := by decide +kernel
theorem dX6_nextLetter_108 : decode cX6_nextLetter 108 = .ok (.ireturn, 1) := by decide +kernel
theorem dX6_nextLetter_109 : decode cX6_nextLetter 109 = .ok (.aload_n 0, 1) := by decide +kernel
theorem dX6_nextLetter_110 : decode cX6_nextLetter 110 = .ok (.aload_n 0, 1) := by decide +kernel
theorem dX6_nextLetter_111 : decode cX6_nextLetter 111 = .ok (.getfield 26, 3) := by decide +kernel
theorem dX6_nextLetter_114 : decode cX6_nextLetter 114 = .ok (.putfield 34, 3) := by decide +kernel
theorem dX6_nextLetter_117 : decode cX6_nextLetter 117 = .ok (.iconst 0, 1) := by decide +kernel
theorem dX6_nextLetter_118 : decode cX6_nextLetter 118 = .ok (.ireturn, 1) := by decide +kernel
theorem dX6_takeCount_0 : decode cX6_takeCount 0 = .ok (.aload_n 0, 1) := by decide +kernel
theorem dX6_takeCount_1 : decode cX6_takeCount 1 = .ok (.getfield 26, 3) := by decide +kernel
theorem dX6_takeCount_4 : decode cX6_takeCount 4 = .ok (.istore_n 2, 1) := by decide +kernel
theorem dX6_takeCount_5 : decode cX6_takeCount 5 = .ok (.aload_n 0, 1) := by decide +kernel
theorem dX6_takeCount_6 : decode cX6_takeCount 6 = .ok (.iconst 0, 1) := by decide +kernel
theorem dX6_takeCount_7 : decode cX6_takeCount 7 = .ok (.putfield 47, 3) := by decide +kernel
theorem dX6_takeCount_10 : decode cX6_takeCount 10 = .ok (.aload_n 0, 1) := by decide +kernel
theorem dX6_takeCount_11 : decode cX6_takeCount 11 = .ok (.getfield 26, 3) := by decide +kernel
theorem dX6_takeCount_14 : decode cX6_takeCount 14 = .ok (.aload_n 1, 1) := by decide +kernel
theorem dX6_takeCount_15 : decode cX6_takeCount 15 = .ok (.invokevirtual 30, 3) := by decide +kernel
theorem dX6_takeCount_18 : decode cX6_takeCount 18 = .ok (.if_icmp .ge 80, 3) := by decide +kernel
theorem dX6_takeCount_21 : decode cX6_takeCount 21 = .ok (.aload_n 1, 1) := by decide +kernel
theorem dX6_takeCount_22 : decode cX6_takeCount 22 = .ok (.aload_n 0, 1) := by decide +kernel
theorem dX6_takeCount_23 : decode cX6_takeCount 23 = .ok (.getfield 26, 3) := by decide +kernel
theorem dX6_takeCount_26 : decode cX6_takeCount 26 = .ok (.invokevirtual 37, 3) := by decide +kernel
theorem dX6_takeCount_29 : decode cX6_takeCount 29 = .ok (.bipush 48, 2) := by decide +kernel
theorem dX6_takeCount_31 : decode cX6_takeCount 31 = .ok (.isub, 1) := by decide +kernel
theorem dX6_takeCount_32 : decode cX6_takeCount 32 = .ok (.istore_n 3, 1) := by decide +kernel
theorem dX6_takeCount_33 : decode cX6_takeCount 33 = .ok (.iload_n 3, 1) := by decide +kernel
theorem dX6_takeCount_34 : decode cX6_takeCount 34 = .ok (.ifCond .lt 64, 3) := by decide +kernel
theorem dX6_takeCount_37 : decode cX6_takeCount 37 = .ok (.iload_n 3, 1) := by decide +kernel
theorem dX6_takeCount_38 : decode cX6_takeCount 38 = .ok (.bipush 9, 2) := by decide +kernel
theorem dX6_takeCount_40 : decode cX6_takeCount 40 = .ok (.if_icmp .le 6, 3) := by decide +kernel
theorem dX6_takeCount_43 : decode cX6_takeCount 43 = .ok (.goto 55, 3) := by decide +kernel
theorem dX6_takeCount_46 : decode cX6_takeCount 46 = .ok (.aload_n 0, 1) := by decide +kernel
theorem dX6_takeCount_47 : decode cX6_takeCount 47 = .ok (.aload_n 0, 1) := by decide +kernel
theorem dX6_takeCount_48 : decode cX6_takeCount 48 = .ok (.getfield 47, 3) := by decide +kernel
theorem dX6_takeCount_51 : decode cX6_takeCount 51 = .ok (.bipush 10, 2) := by decide +kernel
theorem dX6_takeCount_53 : decode cX6_takeCount 53 = .ok (.imul, 1) := by decide +kernel
theorem dX6_takeCount_54 : decode cX6_takeCount 54 = .ok (.iload_n 3, 1) := by decide +kernel
theorem dX6_takeCount_55 : decode cX6_takeCount 55 = .ok (.iadd, 1) := by decide +kernel
theorem dX6_takeCount_56 : decode cX6_takeCount 56 = .ok (.putfield 47, 3) := by decide +kernel
theorem dX6_takeCount_59 : decode cX6_takeCount 59 = .ok (.aload_n 0, 1) := by decide +kernel
theorem dX6_takeCount_60 : decode cX6_takeCount 60 = .ok (.getfield 47, 3) := by decide +kernel
theorem dX6_takeCount_63 : decode cX6_takeCount 63 = .ok (.ifCond .eq 13, 3) := by decide +kernel
theorem dX6_takeCount_66 : decode cX6_takeCount 66 = .ok (.aload_n 0, 1) := by decide +kernel
theorem dX6_takeCount_67 : decode cX6_takeCount 67 = .ok (.getfield 47, 3) := by decide +kernel
theorem dX6_takeCount_70 : decode cX6_takeCount 70 = .ok (.sipush 999, 3) := by decide +kernel
theorem dX6_takeCount_73 : decode cX6_takeCount 73 = .ok (.if_icmp .le 12, 3) := by decide +kernel
theorem dX6_takeCount_76 : decode cX6_takeCount 76 = .ok (.aload_n 0, 1) := by decide +kernel
theorem dX6_takeCount_77 : decode cX6_takeCount 77 = .ok (.aload_n 0, 1) := by decide +kernel
theorem dX6_takeCount_78 : decode cX6_takeCount 78 = .ok (.getfield 26, 3) := by decide +kernel
theorem dX6_takeCount_81 : decode cX6_takeCount 81 = .ok (.putfield 34, 3) := by decide +kernel
theorem dX6_takeCount_84 : decode cX6_takeCount 84 = .ok (.return_, 1) := by decide +kernel
theorem dX6_takeCount_85 : decode cX6_takeCount 85 = .ok (.aload_n 0, 1) := by decide +kernel
theorem dX6_takeCount_86 : decode cX6_takeCount 86 = .ok (.dup, 1) := by decide +kernel
theorem dX6_takeCount_87 : decode cX6_takeCount 87 = .ok (.getfield 26, 3) := by decide +kernel
theorem dX6_takeCount_90 : decode cX6_takeCount 90 = .ok (.iconst 1, 1) := by decide +kernel
theorem dX6_takeCount_91 : decode cX6_takeCount 91 = .ok (.iadd, 1) := by decide +kernel
theorem dX6_takeCount_92 : decode cX6_takeCount 92 = .ok (.putfield 26, 3) := by decide +kernel
theorem dX6_takeCount_95 : decode cX6_takeCount 95 = .ok (.goto (-85), 3) := by decide +kernel
theorem dX6_takeCount_98 : decode cX6_takeCount 98 = .ok (.aload_n 0, 1) := by decide +kernel
theorem dX6_takeCount_99 : decode cX6_takeCount 99 = .ok (.getfield 26, 3) := by decide +kernel
theorem dX6_takeCount_102 : decode cX6_takeCount 102 = .ok (.iload_n 2, 1) := by decide +kernel
theorem dX6_takeCount_103 : decode cX6_takeCount 103 = .ok (.if_icmp .le 21, 3) := by decide +kernel
theorem dX6_takeCount_106 : decode cX6_takeCount 106 = .ok (.aload_n 0, 1) := by decide +kernel
theorem dX6_takeCount_107 : decode cX6_takeCount 107 = .ok (.getfield 47, 3) := by decide +kernel
theorem dX6_takeCount_110 : decode cX6_takeCount 110 = .ok (.iconst 2, 1) := by decide +kernel
theorem dX6_takeCount_111 : decode cX6_takeCount 111 = .ok (.if_icmp .ge 13, 3) := by decide +kernel
theorem dX6_takeCount_114 : decode cX6_takeCount 114 = .ok (.aload_n 0, 1) := by decide +kernel
theorem dX6_takeCount_115 : decode cX6_takeCount 115 = .ok (.aload_n 0, 1) := by decide +kernel
theorem dX6_takeCount_116 : decode cX6_takeCount 116 = .ok (.getfield 26, 3) := by decide +kernel
theorem dX6_takeCount_119 : decode cX6_takeCount 119 = .ok (.iconst 1, 1) := by decide +kernel
theorem dX6_takeCount_120 : decode cX6_takeCount 120 = .ok (.isub, 1) := by decide +kernel
theorem dX6_takeCount_121 : decode cX6_takeCount 121 = .ok (.putfield 34, 3) := by decide +kernel
theorem dX6_takeCount_124 : decode cX6_takeCount 124 = .ok (.return_, 1) := by decide +kernel
theorem dX6_fits_0 : decode cX6_fits 0 = .ok (.aload_n 0, 1) := by decide +kernel
theorem dX6_fits_1 : decode cX6_fits 1 = .ok (.invokevirtual 7, 3) := by decide +kernel
theorem dX6_fits_4 : decode cX6_fits 4 = .ok (.aload_n 0, 1) := by decide +kernel
theorem dX6_fits_5 : decode cX6_fits 5 = .ok (.iload_n 2, 1) := by decide +kernel
theorem dX6_fits_6 : decode cX6_fits 6 = .ok (.putfield 50, 3) := by decide +kernel
theorem dX6_fits_9 : decode cX6_fits 9 = .ok (.aload_n 0, 1) := by decide +kernel
theorem dX6_fits_10 : decode cX6_fits 10 = .ok (.iload_n 3, 1) := by decide +kernel
theorem dX6_fits_11 : decode cX6_fits 11 = .ok (.putfield 53, 3) := by decide +kernel
theorem dX6_fits_14 : decode cX6_fits 14 = .ok (.aload_n 0, 1) := by decide +kernel
theorem dX6_fits_15 : decode cX6_fits 15 = .ok (.aload_n 1, 1) := by decide +kernel
theorem dX6_fits_16 : decode cX6_fits 16 = .ok (.invokevirtual 12, 3) := by decide +kernel
theorem dX6_fits_19 : decode cX6_fits 19 = .ok (.istore 4, 2) := by decide +kernel
theorem dX6_fits_21 : decode cX6_fits 21 = .ok (.iconst 0, 1) := by decide +kernel
theorem dX6_fits_22 : decode cX6_fits 22 = .ok (.istore 5, 2) := by decide +kernel
theorem dX6_fits_24 : decode cX6_fits 24 = .ok (.iload 5, 2) := by decide +kernel
theorem dX6_fits_26 : decode cX6_fits 26 = .ok (.sipush 2000, 3) := by decide +kernel
theorem dX6_fits_29 : decode cX6_fits 29 = .ok (.if_icmp .ge 60, 3) := by decide +kernel
theorem dX6_fits_32 : decode cX6_fits 32 = .ok (.iload 4, 2) := by decide +kernel
theorem dX6_fits_34 : decode cX6_fits 34 = .ok (.invokestatic 18, 3) := by decide +kernel
theorem dX6_fits_37 : decode cX6_fits 37 = .ok (.ifCond .eq 52, 3) := by decide +kernel
theorem dX6_fits_40 : decode cX6_fits 40 = .ok (.aload_n 0, 1) := by decide +kernel
theorem dX6_fits_41 : decode cX6_fits 41 = .ok (.iload 4, 2) := by decide +kernel
theorem dX6_fits_43 : decode cX6_fits 43 = .ok (.iload_n 2, 1) := by decide +kernel
theorem dX6_fits_44 : decode cX6_fits 44 = .ok (.invokevirtual 56, 3) := by decide +kernel
theorem dX6_fits_47 : decode cX6_fits 47 = .ok (.iload 4, 2) := by decide +kernel
theorem dX6_fits_49 : decode cX6_fits 49 = .ok (.bipush 36, 2) := by decide +kernel
theorem dX6_fits_51 : decode cX6_fits 51 = .ok (.if_icmp .eq 25, 3) := by decide +kernel
theorem dX6_fits_54 : decode cX6_fits 54 = .ok (.aload_n 0, 1) := by decide +kernel
theorem dX6_fits_55 : decode cX6_fits 55 = .ok (.getfield 53, 3) := by decide +kernel
theorem dX6_fits_58 : decode cX6_fits 58 = .ok (.sipush 256, 3) := by decide +kernel
theorem dX6_fits_61 : decode cX6_fits 61 = .ok (.if_icmp .ge 13, 3) := by decide +kernel
theorem dX6_fits_64 : decode cX6_fits 64 = .ok (.aload_n 0, 1) := by decide +kernel
theorem dX6_fits_65 : decode cX6_fits 65 = .ok (.getfield 50, 3) := by decide +kernel
theorem dX6_fits_68 : decode cX6_fits 68 = .ok (.sipush 256, 3) := by decide +kernel
theorem dX6_fits_71 : decode cX6_fits 71 = .ok (.if_icmp .le 5, 3) := by decide +kernel
theorem dX6_fits_74 : decode cX6_fits 74 = .ok (.iconst 0, 1) := by decide +kernel
theorem dX6_fits_75 : decode cX6_fits 75 = .ok (.ireturn, 1) := by decide +kernel
theorem dX6_fits_76 : decode cX6_fits 76 = .ok (.aload_n 0, 1) := by decide +kernel
theorem dX6_fits_77 : decode cX6_fits 77 = .ok (.aload_n 1, 1) := by decide +kernel
theorem dX6_fits_78 : decode cX6_fits 78 = .ok (.invokevirtual 12, 3) := by decide +kernel
theorem dX6_fits_81 : decode cX6_fits 81 = .ok (.istore 4, 2) := by decide +kernel
theorem dX6_fits_83 : decode cX6_fits 83 = .ok (.iinc 5 1, 3) := by decide +kernel
theorem dX6_fits_86 : decode cX6_fits 86 = .ok (.goto (-62), 3) := by decide +kernel
theorem dX6_fits_89 : decode cX6_fits 89 = .ok (.iconst 1, 1) := by decide +kernel
theorem dX6_fits_90 : decode cX6_fits 90 = .ok (.ireturn, 1) := by decide +kernel
theorem dX6_paint_0 : decode cX6_paint 0 = .ok (.aload_n 0, 1) := by decide +kernel
theorem dX6_paint_1 : decode cX6_paint 1 = .ok (.invokevirtual 7, 3) := by decide +kernel
theorem dX6_paint_4 : decode cX6_paint 4 = .ok (.aload_n 0, 1) := by decide +kernel
theorem dX6_paint_5 : decode cX6_paint 5 = .ok (.iload_n 3, 1) := by decide +kernel
theorem dX6_paint_6 : decode cX6_paint 6 = .ok (.putfield 50, 3) := by decide +kernel
theorem dX6_paint_9 : decode cX6_paint 9 = .ok (.aload_n 0, 1) := by decide +kernel
theorem dX6_paint_10 : decode cX6_paint 10 = .ok (.iload 4, 2) := by decide +kernel
theorem dX6_paint_12 : decode cX6_paint 12 = .ok (.putfield 53, 3) := by decide +kernel
theorem dX6_paint_15 : decode cX6_paint 15 = .ok (.iconst 0, 1) := by decide +kernel
theorem dX6_paint_16 : decode cX6_paint 16 = .ok (.istore 5, 2) := by decide +kernel
theorem dX6_paint_18 : decode cX6_paint 18 = .ok (.aload_n 0, 1) := by decide +kernel
theorem dX6_paint_19 : decode cX6_paint 19 = .ok (.aload_n 1, 1) := by decide +kernel
theorem dX6_paint_20 : decode cX6_paint 20 = .ok (.invokevirtual 12, 3) := by decide +kernel
theorem dX6_paint_23 : decode cX6_paint 23 = .ok (.istore 6, 2) := by decide +kernel
theorem dX6_paint_25 : decode cX6_paint 25 = .ok (.iconst 0, 1) := by decide +kernel
theorem dX6_paint_26 : decode cX6_paint 26 = .ok (.istore 7, 2) := by decide +kernel
theorem dX6_paint_28 : decode cX6_paint 28 = .ok (.iload 7, 2) := by decide +kernel
theorem dX6_paint_30 : decode cX6_paint 30 = .ok (.sipush 2000, 3) := by decide +kernel
theorem dX6_paint_33 : decode cX6_paint 33 = .ok (.if_icmp .ge 60, 3) := by decide +kernel
theorem dX6_paint_36 : decode cX6_paint 36 = .ok (.iload 6, 2) := by decide +kernel
theorem dX6_paint_38 : decode cX6_paint 38 = .ok (.invokestatic 18, 3) := by decide +kernel
theorem dX6_paint_41 : decode cX6_paint 41 = .ok (.ifCond .eq 52, 3) := by decide +kernel
theorem dX6_paint_44 : decode cX6_paint 44 = .ok (.iload 6, 2) := by decide +kernel
theorem dX6_paint_46 : decode cX6_paint 46 = .ok (.bipush 36, 2) := by decide +kernel
theorem dX6_paint_48 : decode cX6_paint 48 = .ok (.if_icmp .eq 25, 3) := by decide +kernel
theorem dX6_paint_51 : decode cX6_paint 51 = .ok (.iload 5, 2) := by decide +kernel
theorem dX6_paint_53 : decode cX6_paint 53 = .ok (.aload_n 0, 1) := by decide +kernel
theorem dX6_paint_54 : decode cX6_paint 54 = .ok (.aload_n 2, 1) := by decide +kernel
theorem dX6_paint_55 : decode cX6_paint 55 = .ok (.iload 6, 2) := by decide +kernel
theorem dX6_paint_57 : decode cX6_paint 57 = .ok (.bipush 111, 2) := by decide +kernel
theorem dX6_paint_59 : decode cX6_paint 59 = .ok (.if_icmp .ne 7, 3) := by decide +kernel
theorem dX6_paint_62 : decode cX6_paint 62 = .ok (.iconst 1, 1) := by decide +kernel
theorem dX6_paint_63 : decode cX6_paint 63 = .ok (.goto 4, 3) := by decide +kernel
theorem dX6_paint_66 : decode cX6_paint 66 = .ok (.iconst 0, 1) := by decide +kernel
theorem dX6_paint_67 : decode cX6_paint 67 = .ok (.invokevirtual 62, 3) := by decide +kernel
theorem dX6_paint_70 : decode cX6_paint 70 = .ok (.iadd, 1) := by decide +kernel
theorem dX6_paint_71 : decode cX6_paint 71 = .ok (.istore 5, 2) := by decide +kernel
theorem dX6_paint_73 : decode cX6_paint 73 = .ok (.aload_n 0, 1) := by decide +kernel
theorem dX6_paint_74 : decode cX6_paint 74 = .ok (.iload 6, 2) := by decide +kernel
theorem dX6_paint_76 : decode cX6_paint 76 = .ok (.iload_n 3, 1) := by decide +kernel
theorem dX6_paint_77 : decode cX6_paint 77 = .ok (.invokevirtual 56, 3) := by decide +kernel
theorem dX6_paint_80 : decode cX6_paint 80 = .ok (.aload_n 0, 1) := by decide +kernel
theorem dX6_paint_81 : decode cX6_paint 81 = .ok (.aload_n 1, 1) := by decide +kernel
theorem dX6_paint_82 : decode cX6_paint 82 = .ok (.invokevirtual 12, 3) := by decide +kernel
theorem dX6_paint_85 : decode cX6_paint 85 = .ok (.istore 6, 2) := by decide +kernel
theorem dX6_paint_87 : decode cX6_paint 87 = .ok (.iinc 7 1, 3) := by decide +kernel
theorem dX6_paint_90 : decode cX6_paint 90 = .ok (.goto (-62), 3) := by decide +kernel
theorem dX6_paint_93 : decode cX6_paint 93 = .ok (.aload_n 2, 1) := by decide +kernel
theorem dX6_paint_94 : decode cX6_paint 94 = .ok (.iconst 0, 1) := by decide +kernel
theorem dX6_paint_95 : decode cX6_paint 95 = .ok (.sipush 255, 3) := by decide +kernel
theorem dX6_paint_98 : decode cX6_paint 98 = .ok (.invokevirtual 66, 3) := by decide +kernel
theorem dX6_paint_101 : decode cX6_paint 101 = .ok (.iload 5, 2) := by decide +kernel
theorem dX6_paint_103 : decode cX6_paint 103 = .ok (.ireturn, 1) := by decide +kernel
theorem dX6_paintRun_0 : decode cX6_paintRun 0 = .ok (.iconst 0, 1) := by decide +kernel
theorem dX6_paintRun_1 : decode cX6_paintRun 1 = .ok (.istore_n 3, 1) := by decide +kernel
theorem dX6_paintRun_2 : decode cX6_paintRun 2 = .ok (.iload_n 3, 1) := by decide +kernel
theorem dX6_paintRun_3 : decode cX6_paintRun 3 = .ok (.aload_n 0, 1) := by decide +kernel
theorem dX6_paintRun_4 : decode cX6_paintRun 4 = .ok (.getfield 47, 3) := by decide +kernel
theorem dX6_paintRun_7 : decode cX6_paintRun 7 = .ok (.if_icmp .ge 24, 3) := by decide +kernel
theorem dX6_paintRun_10 : decode cX6_paintRun 10 = .ok (.aload_n 1, 1) := by decide +kernel
theorem dX6_paintRun_11 : decode cX6_paintRun 11 = .ok (.aload_n 0, 1) := by decide +kernel
theorem dX6_paintRun_12 : decode cX6_paintRun 12 = .ok (.getfield 50, 3) := by decide +kernel
theorem dX6_paintRun_15 : decode cX6_paintRun 15 = .ok (.iload_n 3, 1) := by decide +kernel
theorem dX6_paintRun_16 : decode cX6_paintRun 16 = .ok (.iadd, 1) := by decide +kernel
theorem dX6_paintRun_17 : decode cX6_paintRun 17 = .ok (.aload_n 0, 1) := by decide +kernel
theorem dX6_paintRun_18 : decode cX6_paintRun 18 = .ok (.getfield 53, 3) := by decide +kernel
theorem dX6_paintRun_21 : decode cX6_paintRun 21 = .ok (.iload_n 2, 1) := by decide +kernel
theorem dX6_paintRun_22 : decode cX6_paintRun 22 = .ok (.invokevirtual 69, 3) := by decide +kernel
theorem dX6_paintRun_25 : decode cX6_paintRun 25 = .ok (.iinc 3 1, 3) := by decide +kernel
theorem dX6_paintRun_28 : decode cX6_paintRun 28 = .ok (.goto (-26), 3) := by decide +kernel
theorem dX6_paintRun_31 : decode cX6_paintRun 31 = .ok (.iload_n 2, 1) := by decide +kernel
theorem dX6_paintRun_32 : decode cX6_paintRun 32 = .ok (.aload_n 0, 1) := by decide +kernel
theorem dX6_paintRun_33 : decode cX6_paintRun 33 = .ok (.getfield 47, 3) := by decide +kernel
theorem dX6_paintRun_36 : decode cX6_paintRun 36 = .ok (.imul, 1) := by decide +kernel
theorem dX6_paintRun_37 : decode cX6_paintRun 37 = .ok (.ireturn, 1) := by decide +kernel
theorem dX6_moveBehind_0 : decode cX6_moveBehind 0 = .ok (.iload_n 1, 1) := by decide +kernel
theorem dX6_moveBehind_1 : decode cX6_moveBehind 1 = .ok (.bipush 36, 2) := by decide +kernel
theorem dX6_moveBehind_3 : decode cX6_moveBehind 3 = .ok (.if_icmp .ne 24, 3) := by decide +kernel
theorem dX6_moveBehind_6 : decode cX6_moveBehind 6 = .ok (.aload_n 0, 1) := by decide +kernel
theorem dX6_moveBehind_7 : decode cX6_moveBehind 7 = .ok (.dup, 1) := by decide +kernel
theorem dX6_moveBehind_8 : decode cX6_moveBehind 8 = .ok (.getfield 53, 3) := by decide +kernel
theorem dX6_moveBehind_11 : decode cX6_moveBehind 11 = .ok (.aload_n 0, 1) := by decide +kernel
theorem dX6_moveBehind_12 : decode cX6_moveBehind 12 = .ok (.getfield 47, 3) := by decide +kernel
theorem dX6_moveBehind_15 : decode cX6_moveBehind 15 = .ok (.iadd, 1) := by decide +kernel
theorem dX6_moveBehind_16 : decode cX6_moveBehind 16 = .ok (.putfield 53, 3) := by decide +kernel
theorem dX6_moveBehind_19 : decode cX6_moveBehind 19 = .ok (.aload_n 0, 1) := by decide +kernel
theorem dX6_moveBehind_20 : decode cX6_moveBehind 20 = .ok (.iload_n 2, 1) := by decide +kernel
theorem dX6_moveBehind_21 : decode cX6_moveBehind 21 = .ok (.putfield 50, 3) := by decide +kernel
theorem dX6_moveBehind_24 : decode cX6_moveBehind 24 = .ok (.goto 16, 3) := by decide +kernel
theorem dX6_moveBehind_27 : decode cX6_moveBehind 27 = .ok (.aload_n 0, 1) := by decide +kernel
theorem dX6_moveBehind_28 : decode cX6_moveBehind 28 = .ok (.dup, 1) := by decide +kernel
theorem dX6_moveBehind_29 : decode cX6_moveBehind 29 = .ok (.getfield 50, 3) := by decide +kernel
theorem dX6_moveBehind_32 : decode cX6_moveBehind 32 = .ok (.aload_n 0, 1) := by decide +kernel
theorem dX6_moveBehind_33 : decode cX6_moveBehind 33 = .ok (.getfield 47, 3) := by decide +kernel
theorem dX6_moveBehind_36 : decode cX6_moveBehind 36 = .ok (.iadd, 1) := by decide +kernel
theorem dX6_moveBehind_37 : decode cX6_moveBehind 37 = .ok (.putfield 50, 3) := by decide +kernel
theorem dX6_moveBehind_40 : decode cX6_moveBehind 40 = .ok (.return_, 1) := by decide +kernel
theorem dX7_init_0 : decode cX7_init 0 = .ok (.aload_n 0, 1) := by decide +kernel
theorem dX7_init_1 : decode cX7_init 1 = .ok (.invokespecial 3, 3) := by decide +kernel
theorem dX7_init_4 : decode cX7_init 4 = .ok (.aload_n 0, 1) := by decide +kernel
theorem dX7_init_5 : decode cX7_init 5 = .ok (.bipush 64, 2) := by decide +kernel
theorem dX7_init_7 : decode cX7_init 7 = .ok (.newarray .int, 2) := by decide +kernel
theorem dX7_init_9 : decode cX7_init 9 = .ok (.putfield 11, 3) := by decide +kernel
theorem dX7_init_12 : decode cX7_init 12 = .ok (.aload_n 0, 1) := by decide +kernel
theorem dX7_init_13 : decode cX7_init 13 = .ok (.bipush 64, 2) := by decide +kernel
theorem dX7_init_15 : decode cX7_init 15 = .ok (.newarray .int, 2) := by decide +kernel
theorem dX7_init_17 : decode cX7_init 17 = .ok (.putfield 15, 3) := by decide +kernel
theorem dX7_init_20 : decode cX7_init 20 = .ok (.aload_n 0, 1) := by decide +kernel
theorem dX7_init_21 : decode cX7_init 21 = .ok (.bipush 64, 2) := by decide +kernel
theorem dX7_init_23 : decode cX7_init 23 = .ok (.newarray .int, 2) := by decide +kernel
theorem dX7_init_25 : decode cX7_init 25 = .ok (.putfield 18, 3) := by decide +kernel
theorem dX7_init_28 : decode cX7_init 28 = .ok (.aload_n 0, 1) := by decide +kernel
theorem dX7_init_29 : decode cX7_init 29 = .ok (.bipush 64, 2) := by decide +kernel
theorem dX7_init_31 : decode cX7_init 31 = .ok (.newarray .int, 2) := by decide +kernel
theorem dX7_init_33 : decode cX7_init 33 = .ok (.putfield 21, 3) := by decide +kernel
theorem dX7_init_36 : decode cX7_init 36 = .ok (.aload_n 0, 1) := by decide +kernel
theorem dX7_init_37 : decode cX7_init 37 = .ok (.bipush 17, 2) := by decide +kernel
theorem dX7_init_39 : decode cX7_init 39 = .ok (.newarray .int, 2) := by decide +kernel
theorem dX7_init_41 : decode cX7_init 41 = .ok (.putfield 24, 3) := by decide +kernel
theorem dX7_init_44 : decode cX7_init 44 = .ok (.aload_n 0, 1) := by decide +kernel
theorem dX7_init_45 : decode cX7_init 45 = .ok (.sipush 4096, 3) := by decide +kernel
theorem dX7_init_48 : decode cX7_init 48 = .ok (.newarray .int, 2) := by decide +kernel
theorem dX7_init_50 : decode cX7_init 50 = .ok (.putfield 27, 3) := by decide +kernel
theorem dX7_init_53 : decode cX7_init 53 = .ok (.aload_n 0, 1) := by decide +kernel
theorem dX7_init_54 : decode cX7_init 54 = .ok (.sipush 1024, 3) := by decide +kernel
theorem dX7_init_57 : decode cX7_init 57 = .ok (.newarray .long, 2) := by decide +kernel
theorem dX7_init_59 : decode cX7_init 59 = .ok (.putfield 30, 3) := by decide +kernel
theorem dX7_init_62 : decode cX7_init 62 = .ok (.return_, 1) := by decide +kernel
theorem dX7_findStill_0 : decode cX7_findStill 0 = .ok (.aload_n 0, 1) := by decide +kernel
theorem dX7_findStill_1 : decode cX7_findStill 1 = .ok (.aload_n 1, 1) := by decide +kernel
theorem dX7_findStill_2 : decode cX7_findStill 2 = .ok (.iload_n 2, 1) := by decide +kernel
theorem dX7_findStill_3 : decode cX7_findStill 3 = .ok (.iload_n 3, 1) := by decide +kernel
theorem dX7_findStill_4 : decode cX7_findStill 4 = .ok (.iconst 2, 1) := by decide +kernel
theorem dX7_findStill_5 : decode cX7_findStill 5 = .ok (.invokevirtual 34, 3) := by decide +kernel
theorem dX7_findStill_8 : decode cX7_findStill 8 = .ok (.aload_n 0, 1) := by decide +kernel
theorem dX7_findStill_9 : decode cX7_findStill 9 = .ok (.invokevirtual 38, 3) := by decide +kernel
theorem dX7_findStill_12 : decode cX7_findStill 12 = .ok (.aload_n 0, 1) := by decide +kernel
theorem dX7_findStill_13 : decode cX7_findStill 13 = .ok (.ldc 41, 2) := by decide +kernel
theorem dX7_findStill_15 : decode cX7_findStill 15 = .ok (.invokevirtual 42, 3) := by decide +kernel
theorem dX7_findStill_18 : decode cX7_findStill 18 = .ok (.aload_n 0, 1) := by decide +kernel
theorem dX7_findStill_19 : decode cX7_findStill 19 = .ok (.getfield 46, 3) := by decide +kernel
theorem dX7_findStill_22 : decode cX7_findStill 22 = .ok (.ireturn, 1) := by decide +kernel
theorem dX7_findAncestors_0 : decode cX7_findAncestors 0 = .ok (.aload_n 0, 1) := by decide +kernel
theorem dX7_findAncestors_1 : decode cX7_findAncestors 1 = .ok (.aload_n 1, 1) := by decide +kernel
theorem dX7_findAncestors_2 : decode cX7_findAncestors 2 = .ok (.iload_n 2, 1) := by decide +kernel
theorem dX7_findAncestors_3 : decode cX7_findAncestors 3 = .ok (.iconst 2, 1) := by decide +kernel
theorem dX7_findAncestors_4 : decode cX7_findAncestors 4 = .ok (.iadd, 1) := by decide +kernel
theorem dX7_findAncestors_5 : decode cX7_findAncestors 5 = .ok (.iload_n 3, 1) := by decide +kernel
theorem dX7_findAncestors_6 : decode cX7_findAncestors 6 = .ok (.iconst 2, 1) := by decide +kernel
theorem dX7_findAncestors_7 : decode cX7_findAncestors 7 = .ok (.iadd, 1) := by decide +kernel
theorem dX7_findAncestors_8 : decode cX7_findAncestors 8 = .ok (.iconst 0, 1) := by decide +kernel
theorem dX7_findAncestors_9 : decode cX7_findAncestors 9 = .ok (.invokevirtual 34, 3) := by decide +kernel
theorem dX7_findAncestors_12 : decode cX7_findAncestors 12 = .ok (.iload 4, 2) := by decide +kernel
theorem dX7_findAncestors_14 : decode cX7_findAncestors 14 = .ok (.istore 6, 2) := by decide +kernel
theorem dX7_findAncestors_16 : decode cX7_findAncestors 16 = .ok (.iconst 0, 1) := by decide +kernel
theorem dX7_findAncestors_17 : decode cX7_findAncestors 17 = .ok (.istore 7, 2) := by decide +kernel
theorem dX7_findAncestors_19 : decode cX7_findAncestors 19 = .ok (.iload 7, 2) := by decide +kernel
theorem dX7_findAncestors_21 : decode cX7_findAncestors 21 = .ok (.iload_n 2, 1) := by decide +kernel
theorem dX7_findAncestors_22 : decode cX7_findAncestors 22 = .ok (.if_icmp .ge 65, 3) := by decide +kernel
theorem dX7_findAncestors_25 : decode cX7_findAncestors 25 = .ok (.iconst 0, 1) := by decide +kernel
theorem dX7_findAncestors_26 : decode cX7_findAncestors 26 = .ok (.istore 8, 2) := by decide +kernel
theorem dX7_findAncestors_28 : decode cX7_findAncestors 28 = .ok (.iload 8, 2) := by decide +kernel
theorem dX7_findAncestors_30 : decode cX7_findAncestors 30 = .ok (.iload_n 3, 1) := by decide +kernel
theorem dX7_findAncestors_31 : decode cX7_findAncestors 31 = .ok (.if_icmp .ge 50, 3) := by decide +kernel
theorem dX7_findAncestors_34 : decode cX7_findAncestors 34 = .ok (.iload 7, 2) := by decide +kernel
theorem dX7_findAncestors_36 : decode cX7_findAncestors 36 = .ok (.iconst 2, 1) := by decide +kernel
theorem dX7_findAncestors_37 : decode cX7_findAncestors 37 = .ok (.iadd, 1) := by decide +kernel
theorem dX7_findAncestors_38 : decode cX7_findAncestors 38 = .ok (.iload_n 3, 1) := by decide +kernel
theorem dX7_findAncestors_39 : decode cX7_findAncestors 39 = .ok (.iconst 4, 1) := by decide +kernel
theorem dX7_findAncestors_40 : decode cX7_findAncestors 40 = .ok (.iadd, 1) := by decide +kernel
theorem dX7_findAncestors_41 : decode cX7_findAncestors 41 = .ok (.imul, 1) := by decide +kernel
theorem dX7_findAncestors_42 : decode cX7_findAncestors 42 = .ok (.iload 8, 2) := by decide +kernel
theorem dX7_findAncestors_44 : decode cX7_findAncestors 44 = .ok (.iadd, 1) := by decide +kernel
theorem dX7_findAncestors_45 : decode cX7_findAncestors 45 = .ok (.iconst 2, 1) := by decide +kernel
theorem dX7_findAncestors_46 : decode cX7_findAncestors 46 = .ok (.iadd, 1) := by decide +kernel
theorem dX7_findAncestors_47 : decode cX7_findAncestors 47 = .ok (.istore 9, 2) := by decide +kernel
theorem dX7_findAncestors_49 : decode cX7_findAncestors 49 = .ok (.iload 9, 2) := by decide +kernel
theorem dX7_findAncestors_51 : decode cX7_findAncestors 51 = .ok (.aload_n 0, 1) := by decide +kernel
theorem dX7_findAncestors_52 : decode cX7_findAncestors 52 = .ok (.getfield 50, 3) := by decide +kernel
theorem dX7_findAncestors_55 : decode cX7_findAncestors 55 = .ok (.if_icmp .ge 14, 3) := by decide +kernel
theorem dX7_findAncestors_58 : decode cX7_findAncestors 58 = .ok (.aload_n 0, 1) := by decide +kernel
theorem dX7_findAncestors_59 : decode cX7_findAncestors 59 = .ok (.getfield 18, 3) := by decide +kernel
theorem dX7_findAncestors_62 : decode cX7_findAncestors 62 = .ok (.iload 9, 2) := by decide +kernel
theorem dX7_findAncestors_64 : decode cX7_findAncestors 64 = .ok (.iload 6, 2) := by decide +kernel
theorem dX7_findAncestors_66 : decode cX7_findAncestors 66 = .ok (.iconst 1, 1) := by decide +kernel
theorem dX7_findAncestors_67 : decode cX7_findAncestors 67 = .ok (.iand, 1) := by decide +kernel
theorem dX7_findAncestors_68 : decode cX7_findAncestors 68 = .ok (.iastore, 1) := by decide +kernel
theorem dX7_findAncestors_69 : decode cX7_findAncestors 69 = .ok (.iload 6, 2) := by decide +kernel
theorem dX7_findAncestors_71 : decode cX7_findAncestors 71 = .ok (.iconst 1, 1) := by decide +kernel
theorem dX7_findAncestors_72 : decode cX7_findAncestors 72 = .ok (.ishr, 1) := by decide +kernel
theorem dX7_findAncestors_73 : decode cX7_findAncestors 73 = .ok (.istore 6, 2) := by decide +kernel
theorem dX7_findAncestors_75 : decode cX7_findAncestors 75 = .ok (.iinc 8 1, 3) := by decide +kernel
theorem dX7_findAncestors_78 : decode cX7_findAncestors 78 = .ok (.goto (-50), 3) := by decide +kernel
theorem dX7_findAncestors_81 : decode cX7_findAncestors 81 = .ok (.iinc 7 1, 3) := by decide +kernel
theorem dX7_findAncestors_84 : decode cX7_findAncestors 84 = .ok (.goto (-65), 3) := by decide +kernel
theorem dX7_findAncestors_87 : decode cX7_findAncestors 87 = .ok (.aload_n 0, 1) := by decide +kernel
theorem dX7_findAncestors_88 : decode cX7_findAncestors 88 = .ok (.invokevirtual 38, 3) := by decide +kernel
theorem dX7_findAncestors_91 : decode cX7_findAncestors 91 = .ok (.aload_n 0, 1) := by decide +kernel
theorem dX7_findAncestors_92 : decode cX7_findAncestors 92 = .ok (.iload 5, 2) := by decide +kernel
theorem dX7_findAncestors_94 : decode cX7_findAncestors 94 = .ok (.invokevirtual 42, 3) := by decide +kernel
theorem dX7_findAncestors_97 : decode cX7_findAncestors 97 = .ok (.aload_n 0, 1) := by decide +kernel
theorem dX7_findAncestors_98 : decode cX7_findAncestors 98 = .ok (.getfield 46, 3) := by decide +kernel
theorem dX7_findAncestors_101 : decode cX7_findAncestors 101 = .ok (.ireturn, 1) := by decide +kernel
theorem dX7_findGarden_0 : decode cX7_findGarden 0 = .ok (.iload_n 2, 1) := by decide +kernel
theorem dX7_findGarden_1 : decode cX7_findGarden 1 = .ok (.iload_n 3, 1) := by decide +kernel
theorem dX7_findGarden_2 : decode cX7_findGarden 2 = .ok (.imul, 1) := by decide +kernel
theorem dX7_findGarden_3 : decode cX7_findGarden 3 = .ok (.istore 4, 2) := by decide +kernel
theorem dX7_findGarden_5 : decode cX7_findGarden 5 = .ok (.iconst 0, 1) := by decide +kernel
theorem dX7_findGarden_6 : decode cX7_findGarden 6 = .ok (.istore 5, 2) := by decide +kernel
theorem dX7_findGarden_8 : decode cX7_findGarden 8 = .ok (.iload 5, 2) := by decide +kernel
theorem dX7_findGarden_10 : decode cX7_findGarden 10 = .ok (.iload 4, 2) := by decide +kernel
theorem dX7_findGarden_12 : decode cX7_findGarden 12 = .ok (.if_icmp .gt 58, 3) := by decide +kernel
theorem dX7_findGarden_15 : decode cX7_findGarden 15 = .ok (.iconst 0, 1) := by decide +kernel
theorem dX7_findGarden_16 : decode cX7_findGarden 16 = .ok (.istore 6, 2) := by decide +kernel
theorem dX7_findGarden_18 : decode cX7_findGarden 18 = .ok (.iload 6, 2) := by decide +kernel
theorem dX7_findGarden_20 : decode cX7_findGarden 20 = .ok (.iconst 1, 1) := by decide +kernel
theorem dX7_findGarden_21 : decode cX7_findGarden 21 = .ok (.iload 4, 2) := by decide +kernel
theorem dX7_findGarden_23 : decode cX7_findGarden 23 = .ok (.ishl, 1) := by decide +kernel
theorem dX7_findGarden_24 : decode cX7_findGarden 24 = .ok (.if_icmp .ge 40, 3) := by decide +kernel
theorem dX7_findGarden_27 : decode cX7_findGarden 27 = .ok (.iload 6, 2) := by decide +kernel
theorem dX7_findGarden_29 : decode cX7_findGarden 29 = .ok (.invokestatic 53, 3) := by decide +kernel
theorem dX7_findGarden_32 : decode cX7_findGarden 32 = .ok (.iload 5, 2) := by decide +kernel
theorem dX7_findGarden_34 : decode cX7_findGarden 34 = .ok (.if_icmp .ne 24, 3) := by decide +kernel
theorem dX7_findGarden_37 : decode cX7_findGarden 37 = .ok (.aload_n 0, 1) := by decide +kernel
theorem dX7_findGarden_38 : decode cX7_findGarden 38 = .ok (.aload_n 1, 1) := by decide +kernel
theorem dX7_findGarden_39 : decode cX7_findGarden 39 = .ok (.iload_n 2, 1) := by decide +kernel
theorem dX7_findGarden_40 : decode cX7_findGarden 40 = .ok (.iload_n 3, 1) := by decide +kernel
theorem dX7_findGarden_41 : decode cX7_findGarden 41 = .ok (.iload 6, 2) := by decide +kernel
theorem dX7_findGarden_43 : decode cX7_findGarden 43 = .ok (.iconst 1, 1) := by decide +kernel
theorem dX7_findGarden_44 : decode cX7_findGarden 44 = .ok (.invokevirtual 59, 3) := by decide +kernel
theorem dX7_findGarden_47 : decode cX7_findGarden 47 = .ok (.ifCond .ne 11, 3) := by decide +kernel
theorem dX7_findGarden_50 : decode cX7_findGarden 50 = .ok (.aload_n 0, 1) := by decide +kernel
theorem dX7_findGarden_51 : decode cX7_findGarden 51 = .ok (.iload 6, 2) := by decide +kernel
theorem dX7_findGarden_53 : decode cX7_findGarden 53 = .ok (.invokevirtual 63, 3) := by decide +kernel
theorem dX7_findGarden_56 : decode cX7_findGarden 56 = .ok (.iconst 1, 1) := by decide +kernel
theorem dX7_findGarden_57 : decode cX7_findGarden 57 = .ok (.ireturn, 1) := by decide +kernel
theorem dX7_findGarden_58 : decode cX7_findGarden 58 = .ok (.iinc 6 1, 3) := by decide +kernel
theorem dX7_findGarden_61 : decode cX7_findGarden 61 = .ok (.goto (-43), 3) := by decide +kernel
theorem dX7_findGarden_64 : decode cX7_findGarden 64 = .ok (.iinc 5 1, 3) := by decide +kernel
theorem dX7_findGarden_67 : decode cX7_findGarden 67 = .ok (.goto (-59), 3) := by decide +kernel
theorem dX7_findGarden_70 : decode cX7_findGarden 70 = .ok (.aload_n 0, 1) := by decide +kernel
theorem dX7_findGarden_71 : decode cX7_findGarden 71 = .ok (.invokevirtual 66, 3) := by decide +kernel
theorem dX7_findGarden_74 : decode cX7_findGarden 74 = .ok (.iconst 0, 1) := by decide +kernel
theorem dX7_findGarden_75 : decode cX7_findGarden 75 = .ok (.ireturn, 1) := by decide +kernel
theorem dX7_findOscillators_0 : decode cX7_findOscillators 0 = .ok (.aload_n 0, 1) := by decide +kernel
theorem dX7_findOscillators_1 : decode cX7_findOscillators 1 = .ok (.aload_n 1, 1) := by decide +kernel
theorem dX7_findOscillators_2 : decode cX7_findOscillators 2 = .ok (.iload_n 2, 1) := by decide +kernel
theorem dX7_findOscillators_3 : decode cX7_findOscillators 3 = .ok (.iload_n 3, 1) := by decide +kernel
theorem dX7_findOscillators_4 : decode cX7_findOscillators 4 = .ok (.iconst 3, 1) := by decide +kernel
theorem dX7_findOscillators_5 : decode cX7_findOscillators 5 = .ok (.invokevirtual 34, 3) := by decide +kernel
theorem dX7_findOscillators_8 : decode cX7_findOscillators 8 = .ok (.aload_n 0, 1) := by decide +kernel
theorem dX7_findOscillators_9 : decode cX7_findOscillators 9 = .ok (.invokevirtual 38, 3) := by decide +kernel
theorem dX7_findOscillators_12 : decode cX7_findOscillators 12 = .ok (.aload_n 0, 1) := by decide +kernel
theorem dX7_findOscillators_13 : decode cX7_findOscillators 13 = .ok (.ldc 41, 2) := by decide +kernel
theorem dX7_findOscillators_15 : decode cX7_findOscillators 15 = .ok (.invokevirtual 42, 3) := by decide +kernel
theorem dX7_findOscillators_18 : decode cX7_findOscillators 18 = .ok (.iconst 1, 1) := by decide +kernel
theorem dX7_findOscillators_19 : decode cX7_findOscillators 19 = .ok (.aload_n 0, 1) := by decide +kernel
theorem dX7_findOscillators_20 : decode cX7_findOscillators 20 = .ok (.getfield 69, 3) := by decide +kernel
theorem dX7_findOscillators_23 : decode cX7_findOscillators 23 = .ok (.ishl, 1) := by decide +kernel
theorem dX7_findOscillators_24 : decode cX7_findOscillators 24 = .ok (.aload_n 0, 1) := by decide +kernel
theorem dX7_findOscillators_25 : decode cX7_findOscillators 25 = .ok (.getfield 27, 3) := by decide +kernel
theorem dX7_findOscillators_28 : decode cX7_findOscillators 28 = .ok (.arraylength, 1) := by decide +kernel
theorem dX7_findOscillators_29 : decode cX7_findOscillators 29 = .ok (.invokestatic 72, 3) := by decide +kernel
theorem dX7_findOscillators_32 : decode cX7_findOscillators 32 = .ok (.istore 5, 2) := by decide +kernel
theorem dX7_findOscillators_34 : decode cX7_findOscillators 34 = .ok (.iconst 0, 1) := by decide +kernel
theorem dX7_findOscillators_35 : decode cX7_findOscillators 35 = .ok (.istore 6, 2) := by decide +kernel
theorem dX7_findOscillators_37 : decode cX7_findOscillators 37 = .ok (.iload 6, 2) := by decide +kernel
theorem dX7_findOscillators_39 : decode cX7_findOscillators 39 = .ok (.iload 5, 2) := by decide +kernel
theorem dX7_findOscillators_41 : decode cX7_findOscillators 41 = .ok (.if_icmp .ge 35, 3) := by decide +kernel
theorem dX7_findOscillators_44 : decode cX7_findOscillators 44 = .ok (.aload_n 0, 1) := by decide +kernel
theorem dX7_findOscillators_45 : decode cX7_findOscillators 45 = .ok (.getfield 27, 3) := by decide +kernel
theorem dX7_findOscillators_48 : decode cX7_findOscillators 48 = .ok (.iload 6, 2) := by decide +kernel
theorem dX7_findOscillators_50 : decode cX7_findOscillators 50 = .ok (.aload_n 0, 1) := by decide +kernel
theorem dX7_findOscillators_51 : decode cX7_findOscillators 51 = .ok (.iload 6, 2) := by decide +kernel
theorem dX7_findOscillators_53 : decode cX7_findOscillators 53 = .ok (.invokevirtual 78, 3) := by decide +kernel
theorem dX7_findOscillators_56 : decode cX7_findOscillators 56 = .ok (.ifCond .eq 12, 3) := by decide +kernel
theorem dX7_findOscillators_59 : decode cX7_findOscillators 59 = .ok (.aload_n 0, 1) := by decide +kernel
theorem dX7_findOscillators_60 : decode cX7_findOscillators 60 = .ok (.iload 6, 2) := by decide +kernel
theorem dX7_findOscillators_62 : decode cX7_findOscillators 62 = .ok (.invokevirtual 82, 3) := by decide +kernel
theorem dX7_findOscillators_65 : decode cX7_findOscillators 65 = .ok (.goto 4, 3) := by decide +kernel
theorem dX7_findOscillators_68 : decode cX7_findOscillators 68 = .ok (.iconst (-1), 1) := by decide +kernel
theorem dX7_findOscillators_69 : decode cX7_findOscillators 69 = .ok (.iastore, 1) := by decide +kernel
theorem dX7_findOscillators_70 : decode cX7_findOscillators 70 = .ok (.iinc 6 1, 3) := by decide +kernel
theorem dX7_findOscillators_73 : decode cX7_findOscillators 73 = .ok (.goto (-36), 3) := by decide +kernel
theorem dX7_findOscillators_76 : decode cX7_findOscillators 76 = .ok (.aload_n 0, 1) := by decide +kernel
theorem dX7_findOscillators_77 : decode cX7_findOscillators 77 = .ok (.invokevirtual 66, 3) := by decide +kernel
theorem dX7_findOscillators_80 : decode cX7_findOscillators 80 = .ok (.iconst 0, 1) := by decide +kernel
theorem dX7_findOscillators_81 : decode cX7_findOscillators 81 = .ok (.istore 6, 2) := by decide +kernel
theorem dX7_findOscillators_83 : decode cX7_findOscillators 83 = .ok (.iload 6, 2) := by decide +kernel
theorem dX7_findOscillators_85 : decode cX7_findOscillators 85 = .ok (.iload 5, 2) := by decide +kernel
theorem dX7_findOscillators_87 : decode cX7_findOscillators 87 = .ok (.if_icmp .ge 26, 3) := by decide +kernel
theorem dX7_findOscillators_90 : decode cX7_findOscillators 90 = .ok (.aload_n 0, 1) := by decide +kernel
theorem dX7_findOscillators_91 : decode cX7_findOscillators 91 = .ok (.iload 6, 2) := by decide +kernel
theorem dX7_findOscillators_93 : decode cX7_findOscillators 93 = .ok (.iload 4, 2) := by decide +kernel
theorem dX7_findOscillators_95 : decode cX7_findOscillators 95 = .ok (.invokevirtual 85, 3) := by decide +kernel
theorem dX7_findOscillators_98 : decode cX7_findOscillators 98 = .ok (.ifCond .eq 9, 3) := by decide +kernel
theorem dX7_findOscillators_101 : decode cX7_findOscillators 101 = .ok (.aload_n 0, 1) := by decide +kernel
theorem dX7_findOscillators_102 : decode cX7_findOscillators 102 = .ok (.iload 6, 2) := by decide +kernel
theorem dX7_findOscillators_104 : decode cX7_findOscillators 104 = .ok (.invokevirtual 63, 3) := by decide +kernel
theorem dX7_findOscillators_107 : decode cX7_findOscillators 107 = .ok (.iinc 6 1, 3) := by decide +kernel
theorem dX7_findOscillators_110 : decode cX7_findOscillators 110 = .ok (.goto (-27), 3) := by decide +kernel
theorem dX7_findOscillators_113 : decode cX7_findOscillators 113 = .ok (.aload_n 0, 1) := by decide +kernel
theorem dX7_findOscillators_114 : decode cX7_findOscillators 114 = .ok (.getfield 46, 3) := by decide +kernel
theorem dX7_findOscillators_117 : decode cX7_findOscillators 117 = .ok (.ireturn, 1) := by decide +kernel
theorem dX7_returnsAfter_0 : decode cX7_returnsAfter 0 = .ok (.iload_n 1, 1) := by decide +kernel
theorem dX7_returnsAfter_1 : decode cX7_returnsAfter 1 = .ok (.istore_n 3, 1) := by decide +kernel
theorem dX7_returnsAfter_2 : decode cX7_returnsAfter 2 = .ok (.iconst 1, 1) := by decide +kernel
theorem dX7_returnsAfter_3 : decode cX7_returnsAfter 3 = .ok (.istore 4, 2) := by decide +kernel
theorem dX7_returnsAfter_5 : decode cX7_returnsAfter 5 = .ok (.iload 4, 2) := by decide +kernel
theorem dX7_returnsAfter_7 : decode cX7_returnsAfter 7 = .ok (.iload_n 2, 1) := by decide +kernel
theorem dX7_returnsAfter_8 : decode cX7_returnsAfter 8 = .ok (.if_icmp .gt 56, 3) := by decide +kernel
theorem dX7_returnsAfter_11 : decode cX7_returnsAfter 11 = .ok (.iload_n 3, 1) := by decide +kernel
theorem dX7_returnsAfter_12 : decode cX7_returnsAfter 12 = .ok (.ifCond .lt 21, 3) := by decide +kernel
theorem dX7_returnsAfter_15 : decode cX7_returnsAfter 15 = .ok (.iload_n 3, 1) := by decide +kernel
theorem dX7_returnsAfter_16 : decode cX7_returnsAfter 16 = .ok (.aload_n 0, 1) := by decide +kernel
theorem dX7_returnsAfter_17 : decode cX7_returnsAfter 17 = .ok (.getfield 27, 3) := by decide +kernel
theorem dX7_returnsAfter_20 : decode cX7_returnsAfter 20 = .ok (.arraylength, 1) := by decide +kernel
theorem dX7_returnsAfter_21 : decode cX7_returnsAfter 21 = .ok (.if_icmp .ge 12, 3) := by decide +kernel
theorem dX7_returnsAfter_24 : decode cX7_returnsAfter 24 = .ok (.aload_n 0, 1) := by decide +kernel
theorem dX7_returnsAfter_25 : decode cX7_returnsAfter 25 = .ok (.getfield 27, 3) := by decide +kernel
theorem dX7_returnsAfter_28 : decode cX7_returnsAfter 28 = .ok (.iload_n 3, 1) := by decide +kernel
theorem dX7_returnsAfter_29 : decode cX7_returnsAfter 29 = .ok (.iaload, 1) := by decide +kernel
theorem dX7_returnsAfter_30 : decode cX7_returnsAfter 30 = .ok (.goto 4, 3) := by decide +kernel
theorem dX7_returnsAfter_33 : decode cX7_returnsAfter 33 = .ok (.iconst (-1), 1) := by decide +kernel
theorem dX7_returnsAfter_34 : decode cX7_returnsAfter 34 = .ok (.istore_n 3, 1) := by decide +kernel
theorem dX7_returnsAfter_35 : decode cX7_returnsAfter 35 = .ok (.iload_n 3, 1) := by decide +kernel
theorem dX7_returnsAfter_36 : decode cX7_returnsAfter 36 = .ok (.ifCond .ge 5, 3) := by decide +kernel
theorem dX7_returnsAfter_39 : decode cX7_returnsAfter 39 = .ok (.iconst 0, 1) := by decide +kernel
theorem dX7_returnsAfter_40 : decode cX7_returnsAfter 40 = .ok (.ireturn, 1) := by decide +kernel
theorem dX7_returnsAfter_41 : decode cX7_returnsAfter 41 = .ok (.iload_n 3, 1) := by decide +kernel
theorem dX7_returnsAfter_42 : decode cX7_returnsAfter 42 = .ok (.iload_n 1, 1) := by decide +kernel
theorem dX7_returnsAfter_43 : decode cX7_returnsAfter 43 = .ok (.if_icmp .ne 15, 3) := by decide +kernel
theorem dX7_returnsAfter_46 : decode cX7_returnsAfter 46 = .ok (.iload 4, 2) := by decide +kernel
theorem dX7_returnsAfter_48 : decode cX7_returnsAfter 48 = .ok (.iload_n 2, 1) := by decide +kernel
theorem dX7_returnsAfter_49 : decode cX7_returnsAfter 49 = .ok (.if_icmp .ne 7, 3) := by decide +kernel
theorem dX7_returnsAfter_52 : decode cX7_returnsAfter 52 = .ok (.iconst 1, 1) := by decide +kernel
theorem dX7_returnsAfter_53 : decode cX7_returnsAfter 53 = .ok (.goto 4, 3) := by decide +kernel
theorem dX7_returnsAfter_56 : decode cX7_returnsAfter 56 = .ok (.iconst 0, 1) := by decide +kernel
theorem dX7_returnsAfter_57 : decode cX7_returnsAfter 57 = .ok (.ireturn, 1) := by decide +kernel
theorem dX7_returnsAfter_58 : decode cX7_returnsAfter 58 = .ok (.iinc 4 1, 3) := by decide +kernel
theorem dX7_returnsAfter_61 : decode cX7_returnsAfter 61 = .ok (.goto (-56), 3) := by decide +kernel
theorem dX7_returnsAfter_64 : decode cX7_returnsAfter 64 = .ok (.iconst 0, 1) := by decide +kernel
theorem dX7_returnsAfter_65 : decode cX7_returnsAfter 65 = .ok (.ireturn, 1) := by decide +kernel
theorem dX7_layOut_0 : decode cX7_layOut 0 = .ok (.aload_n 0, 1) := by decide +kernel
theorem dX7_layOut_1 : decode cX7_layOut 1 = .ok (.aload_n 1, 1) := by decide +kernel
theorem dX7_layOut_2 : decode cX7_layOut 2 = .ok (.getfield 89, 3) := by decide +kernel
theorem dX7_layOut_5 : decode cX7_layOut 5 = .ok (.putfield 94, 3) := by decide +kernel
theorem dX7_layOut_8 : decode cX7_layOut 8 = .ok (.aload_n 0, 1) := by decide +kernel
theorem dX7_layOut_9 : decode cX7_layOut 9 = .ok (.aload_n 1, 1) := by decide +kernel
theorem dX7_layOut_10 : decode cX7_layOut 10 = .ok (.getfield 95, 3) := by decide +kernel
theorem dX7_layOut_13 : decode cX7_layOut 13 = .ok (.putfield 98, 3) := by decide +kernel
theorem dX7_layOut_16 : decode cX7_layOut 16 = .ok (.aload_n 0, 1) := by decide +kernel
theorem dX7_layOut_17 : decode cX7_layOut 17 = .ok (.iload_n 2, 1) := by decide +kernel
theorem dX7_layOut_18 : decode cX7_layOut 18 = .ok (.iload_n 3, 1) := by decide +kernel
theorem dX7_layOut_19 : decode cX7_layOut 19 = .ok (.imul, 1) := by decide +kernel
theorem dX7_layOut_20 : decode cX7_layOut 20 = .ok (.bipush 16, 2) := by decide +kernel
theorem dX7_layOut_22 : decode cX7_layOut 22 = .ok (.invokestatic 72, 3) := by decide +kernel
theorem dX7_layOut_25 : decode cX7_layOut 25 = .ok (.putfield 69, 3) := by decide +kernel
theorem dX7_layOut_28 : decode cX7_layOut 28 = .ok (.aload_n 0, 1) := by decide +kernel
theorem dX7_layOut_29 : decode cX7_layOut 29 = .ok (.iconst 0, 1) := by decide +kernel
theorem dX7_layOut_30 : decode cX7_layOut 30 = .ok (.putfield 50, 3) := by decide +kernel
theorem dX7_layOut_33 : decode cX7_layOut 33 = .ok (.iconst (-1), 1) := by decide +kernel
theorem dX7_layOut_34 : decode cX7_layOut 34 = .ok (.istore 5, 2) := by decide +kernel
theorem dX7_layOut_36 : decode cX7_layOut 36 = .ok (.iload 5, 2) := by decide +kernel
theorem dX7_layOut_38 : decode cX7_layOut 38 = .ok (.iload_n 2, 1) := by decide +kernel
theorem dX7_layOut_39 : decode cX7_layOut 39 = .ok (.if_icmp .gt 157, 3) := by decide +kernel
theorem dX7_layOut_42 : decode cX7_layOut 42 = .ok (.iconst (-1), 1) := by decide +kernel
theorem dX7_layOut_43 : decode cX7_layOut 43 = .ok (.istore 6, 2) := by decide +kernel
theorem dX7_layOut_45 : decode cX7_layOut 45 = .ok (.iload 6, 2) := by decide +kernel
theorem dX7_layOut_47 : decode cX7_layOut 47 = .ok (.iload_n 3, 1) := by decide +kernel
theorem dX7_layOut_48 : decode cX7_layOut 48 = .ok (.if_icmp .gt 142, 3) := by decide +kernel
theorem dX7_layOut_51 : decode cX7_layOut 51 = .ok (.aload_n 0, 1) := by decide +kernel
theorem dX7_layOut_52 : decode cX7_layOut 52 = .ok (.getfield 50, 3) := by decide +kernel
theorem dX7_layOut_55 : decode cX7_layOut 55 = .ok (.bipush 64, 2) := by decide +kernel
theorem dX7_layOut_57 : decode cX7_layOut 57 = .ok (.if_icmp .ge 133, 3) := by decide +kernel
theorem dX7_layOut_60 : decode cX7_layOut 60 = .ok (.aload_n 0, 1) := by decide +kernel
theorem dX7_layOut_61 : decode cX7_layOut 61 = .ok (.getfield 11, 3) := by decide +kernel
theorem dX7_layOut_64 : decode cX7_layOut 64 = .ok (.aload_n 0, 1) := by decide +kernel
theorem dX7_layOut_65 : decode cX7_layOut 65 = .ok (.getfield 50, 3) := by decide +kernel
theorem dX7_layOut_68 : decode cX7_layOut 68 = .ok (.iload 5, 2) := by decide +kernel
theorem dX7_layOut_70 : decode cX7_layOut 70 = .ok (.iload 6, 2) := by decide +kernel
theorem dX7_layOut_72 : decode cX7_layOut 72 = .ok (.iload_n 2, 1) := by decide +kernel
theorem dX7_layOut_73 : decode cX7_layOut 73 = .ok (.iload_n 3, 1) := by decide +kernel
theorem dX7_layOut_74 : decode cX7_layOut 74 = .ok (.invokestatic 99, 3) := by decide +kernel
theorem dX7_layOut_77 : decode cX7_layOut 77 = .ok (.iastore, 1) := by decide +kernel
theorem dX7_layOut_78 : decode cX7_layOut 78 = .ok (.iconst 0, 1) := by decide +kernel
theorem dX7_layOut_79 : decode cX7_layOut 79 = .ok (.istore 7, 2) := by decide +kernel
theorem dX7_layOut_81 : decode cX7_layOut 81 = .ok (.iconst 0, 1) := by decide +kernel
theorem dX7_layOut_82 : decode cX7_layOut 82 = .ok (.istore 8, 2) := by decide +kernel
theorem dX7_layOut_84 : decode cX7_layOut 84 = .ok (.iload 8, 2) := by decide +kernel
theorem dX7_layOut_86 : decode cX7_layOut 86 = .ok (.aload_n 1, 1) := by decide +kernel
theorem dX7_layOut_87 : decode cX7_layOut 87 = .ok (.getfield 103, 3) := by decide +kernel
theorem dX7_layOut_90 : decode cX7_layOut 90 = .ok (.if_icmp .ge 46, 3) := by decide +kernel
theorem dX7_layOut_93 : decode cX7_layOut 93 = .ok (.iload 8, 2) := by decide +kernel
theorem dX7_layOut_95 : decode cX7_layOut 95 = .ok (.getstatic 106, 3) := by decide +kernel
theorem dX7_layOut_98 : decode cX7_layOut 98 = .ok (.arraylength, 1) := by decide +kernel
theorem dX7_layOut_99 : decode cX7_layOut 99 = .ok (.if_icmp .ge 37, 3) := by decide +kernel
theorem dX7_layOut_102 : decode cX7_layOut 102 = .ok (.iload 7, 2) := by decide +kernel
theorem dX7_layOut_104 : decode cX7_layOut 104 = .ok (.iload 5, 2) := by decide +kernel
theorem dX7_layOut_106 : decode cX7_layOut 106 = .ok (.getstatic 109, 3) := by decide +kernel
theorem dX7_layOut_109 : decode cX7_layOut 109 = .ok (.iload 8, 2) := by decide +kernel
theorem dX7_layOut_111 : decode cX7_layOut 111 = .ok (.iaload, 1) := by decide +kernel
theorem dX7_layOut_112 : decode cX7_layOut 112 = .ok (.iadd, 1) := by decide +kernel
theorem dX7_layOut_113 : decode cX7_layOut 113 = .ok (.iload 6, 2) := by decide +kernel
theorem dX7_layOut_115 : decode cX7_layOut 115 = .ok (.getstatic 106, 3) := by decide +kernel
theorem dX7_layOut_118 : decode cX7_layOut 118 = .ok (.iload 8, 2) := by decide +kernel
theorem dX7_layOut_120 : decode cX7_layOut 120 = .ok (.iaload, 1) := by decide +kernel
theorem dX7_layOut_121 : decode cX7_layOut 121 = .ok (.iadd, 1) := by decide +kernel
theorem dX7_layOut_122 : decode cX7_layOut 122 = .ok (.iload_n 2, 1) := by decide +kernel
theorem dX7_layOut_123 : decode cX7_layOut 123 = .ok (.iload_n 3, 1) := by decide +kernel
theorem dX7_layOut_124 : decode cX7_layOut 124 = .ok (.invokestatic 99, 3) := by decide +kernel
theorem dX7_layOut_127 : decode cX7_layOut 127 = .ok (.ior, 1) := by decide +kernel
theorem dX7_layOut_128 : decode cX7_layOut 128 = .ok (.istore 7, 2) := by decide +kernel
theorem dX7_layOut_130 : decode cX7_layOut 130 = .ok (.iinc 8 1, 3) := by decide +kernel
theorem dX7_layOut_133 : decode cX7_layOut 133 = .ok (.goto (-49), 3) := by decide +kernel
theorem dX7_layOut_136 : decode cX7_layOut 136 = .ok (.aload_n 0, 1) := by decide +kernel
theorem dX7_layOut_137 : decode cX7_layOut 137 = .ok (.getfield 15, 3) := by decide +kernel
theorem dX7_layOut_140 : decode cX7_layOut 140 = .ok (.aload_n 0, 1) := by decide +kernel
theorem dX7_layOut_141 : decode cX7_layOut 141 = .ok (.getfield 50, 3) := by decide +kernel
theorem dX7_layOut_144 : decode cX7_layOut 144 = .ok (.iload 7, 2) := by decide +kernel
theorem dX7_layOut_146 : decode cX7_layOut 146 = .ok (.iastore, 1) := by decide +kernel
theorem dX7_layOut_147 : decode cX7_layOut 147 = .ok (.aload_n 0, 1) := by decide +kernel
theorem dX7_layOut_148 : decode cX7_layOut 148 = .ok (.getfield 18, 3) := by decide +kernel
theorem dX7_layOut_151 : decode cX7_layOut 151 = .ok (.aload_n 0, 1) := by decide +kernel
theorem dX7_layOut_152 : decode cX7_layOut 152 = .ok (.getfield 50, 3) := by decide +kernel
theorem dX7_layOut_155 : decode cX7_layOut 155 = .ok (.aload_n 0, 1) := by decide +kernel
theorem dX7_layOut_156 : decode cX7_layOut 156 = .ok (.getfield 11, 3) := by decide +kernel
theorem dX7_layOut_159 : decode cX7_layOut 159 = .ok (.aload_n 0, 1) := by decide +kernel
theorem dX7_layOut_160 : decode cX7_layOut 160 = .ok (.getfield 50, 3) := by decide +kernel
theorem dX7_layOut_163 : decode cX7_layOut 163 = .ok (.iaload, 1) := by decide +kernel
theorem dX7_layOut_164 : decode cX7_layOut 164 = .ok (.ifCond .eq 8, 3) := by decide +kernel
theorem dX7_layOut_167 : decode cX7_layOut 167 = .ok (.iload 4, 2) := by decide +kernel
theorem dX7_layOut_169 : decode cX7_layOut 169 = .ok (.goto 4, 3) := by decide +kernel
theorem dX7_layOut_172 : decode cX7_layOut 172 = .ok (.iconst 0, 1) := by decide +kernel
theorem dX7_layOut_173 : decode cX7_layOut 173 = .ok (.iastore, 1) := by decide +kernel
theorem dX7_layOut_174 : decode cX7_layOut 174 = .ok (.aload_n 0, 1) := by decide +kernel
theorem dX7_layOut_175 : decode cX7_layOut 175 = .ok (.dup, 1) := by decide +kernel
theorem dX7_layOut_176 : decode cX7_layOut 176 = .ok (.getfield 50, 3) := by decide +kernel
theorem dX7_layOut_179 : decode cX7_layOut 179 = .ok (.iconst 1, 1) := by decide +kernel
theorem dX7_layOut_180 : decode cX7_layOut 180 = .ok (.iadd, 1) := by decide +kernel
theorem dX7_layOut_181 : decode cX7_layOut 181 = .ok (.putfield 50, 3) := by decide +kernel
theorem dX7_layOut_184 : decode cX7_layOut 184 = .ok (.iinc 6 1, 3) := by decide +kernel
theorem dX7_layOut_187 : decode cX7_layOut 187 = .ok (.goto (-142), 3) := by decide +kernel
theorem dX7_layOut_190 : decode cX7_layOut 190 = .ok (.iinc 5 1, 3) := by decide +kernel
theorem dX7_layOut_193 : decode cX7_layOut 193 = .ok (.goto (-157), 3) := by decide +kernel
theorem dX7_layOut_196 : decode cX7_layOut 196 = .ok (.return_, 1) := by decide +kernel
theorem dX7_bitOf_0 : decode cX7_bitOf 0 = .ok (.iload_n 0, 1) := by decide +kernel
theorem dX7_bitOf_1 : decode cX7_bitOf 1 = .ok (.ifCond .lt 27, 3) := by decide +kernel
theorem dX7_bitOf_4 : decode cX7_bitOf 4 = .ok (.iload_n 0, 1) := by decide +kernel
theorem dX7_bitOf_5 : decode cX7_bitOf 5 = .ok (.iload_n 2, 1) := by decide +kernel
theorem dX7_bitOf_6 : decode cX7_bitOf 6 = .ok (.if_icmp .ge 22, 3) := by decide +kernel
theorem dX7_bitOf_9 : decode cX7_bitOf 9 = .ok (.iload_n 1, 1) := by decide +kernel
theorem dX7_bitOf_10 : decode cX7_bitOf 10 = .ok (.ifCond .lt 18, 3) := by decide +kernel
theorem dX7_bitOf_13 : decode cX7_bitOf 13 = .ok (.iload_n 1, 1) := by decide +kernel
theorem dX7_bitOf_14 : decode cX7_bitOf 14 = .ok (.iload_n 3, 1) := by decide +kernel
theorem dX7_bitOf_15 : decode cX7_bitOf 15 = .ok (.if_icmp .ge 13, 3) := by decide +kernel
theorem dX7_bitOf_18 : decode cX7_bitOf 18 = .ok (.iconst 1, 1) := by decide +kernel
theorem dX7_bitOf_19 : decode cX7_bitOf 19 = .ok (.iload_n 0, 1) := by decide +kernel
theorem dX7_bitOf_20 : decode cX7_bitOf 20 = .ok (.iload_n 3, 1) := by decide +kernel
theorem dX7_bitOf_21 : decode cX7_bitOf 21 = .ok (.imul, 1) := by decide +kernel
theorem dX7_bitOf_22 : decode cX7_bitOf 22 = .ok (.iload_n 1, 1) := by decide +kernel
theorem dX7_bitOf_23 : decode cX7_bitOf 23 = .ok (.iadd, 1) := by decide +kernel
theorem dX7_bitOf_24 : decode cX7_bitOf 24 = .ok (.ishl, 1) := by decide +kernel
theorem dX7_bitOf_25 : decode cX7_bitOf 25 = .ok (.goto 4, 3) := by decide +kernel
theorem dX7_bitOf_28 : decode cX7_bitOf 28 = .ok (.iconst 0, 1) := by decide +kernel
theorem dX7_bitOf_29 : decode cX7_bitOf 29 = .ok (.ireturn, 1) := by decide +kernel
theorem dX7_sortCells_0 : decode cX7_sortCells 0 = .ok (.iconst 0, 1) := by decide +kernel
theorem dX7_sortCells_1 : decode cX7_sortCells 1 = .ok (.istore_n 1, 1) := by decide +kernel
theorem dX7_sortCells_2 : decode cX7_sortCells 2 = .ok (.iconst 0, 1) := by decide +kernel
theorem dX7_sortCells_3 : decode cX7_sortCells 3 = .ok (.istore_n 2, 1) := by decide +kernel
theorem dX7_sortCells_4 : decode cX7_sortCells 4 = .ok (.iload_n 2, 1) := by decide +kernel
theorem dX7_sortCells_5 : decode cX7_sortCells 5 = .ok (.aload_n 0, 1) := by decide +kernel
theorem dX7_sortCells_6 : decode cX7_sortCells 6 = .ok (.getfield 69, 3) := by decide +kernel
theorem dX7_sortCells_9 : decode cX7_sortCells 9 = .ok (.if_icmp .ge 85, 3) := by decide +kernel
theorem dX7_sortCells_12 : decode cX7_sortCells 12 = .ok (.aload_n 0, 1) := by decide +kernel
theorem dX7_sortCells_13 : decode cX7_sortCells 13 = .ok (.getfield 24, 3) := by decide +kernel
theorem dX7_sortCells_16 : decode cX7_sortCells 16 = .ok (.iload_n 2, 1) := by decide +kernel
theorem dX7_sortCells_17 : decode cX7_sortCells 17 = .ok (.iload_n 1, 1) := by decide +kernel
theorem dX7_sortCells_18 : decode cX7_sortCells 18 = .ok (.iastore, 1) := by decide +kernel
theorem dX7_sortCells_19 : decode cX7_sortCells 19 = .ok (.iconst 0, 1) := by decide +kernel
theorem dX7_sortCells_20 : decode cX7_sortCells 20 = .ok (.istore_n 3, 1) := by decide +kernel
theorem dX7_sortCells_21 : decode cX7_sortCells 21 = .ok (.iload_n 3, 1) := by decide +kernel
theorem dX7_sortCells_22 : decode cX7_sortCells 22 = .ok (.aload_n 0, 1) := by decide +kernel
theorem dX7_sortCells_23 : decode cX7_sortCells 23 = .ok (.getfield 50, 3) := by decide +kernel
theorem dX7_sortCells_26 : decode cX7_sortCells 26 = .ok (.if_icmp .ge 62, 3) := by decide +kernel
theorem dX7_sortCells_29 : decode cX7_sortCells 29 = .ok (.aload_n 0, 1) := by decide +kernel
theorem dX7_sortCells_30 : decode cX7_sortCells 30 = .ok (.getfield 11, 3) := by decide +kernel
theorem dX7_sortCells_33 : decode cX7_sortCells 33 = .ok (.iload_n 3, 1) := by decide +kernel
theorem dX7_sortCells_34 : decode cX7_sortCells 34 = .ok (.iaload, 1) := by decide +kernel
theorem dX7_sortCells_35 : decode cX7_sortCells 35 = .ok (.aload_n 0, 1) := by decide +kernel
theorem dX7_sortCells_36 : decode cX7_sortCells 36 = .ok (.getfield 15, 3) := by decide +kernel
theorem dX7_sortCells_39 : decode cX7_sortCells 39 = .ok (.iload_n 3, 1) := by decide +kernel
theorem dX7_sortCells_40 : decode cX7_sortCells 40 = .ok (.iaload, 1) := by decide +kernel
theorem dX7_sortCells_41 : decode cX7_sortCells 41 = .ok (.ior, 1) := by decide +kernel
theorem dX7_sortCells_42 : decode cX7_sortCells 42 = .ok (.istore 4, 2) := by decide +kernel
theorem dX7_sortCells_44 : decode cX7_sortCells 44 = .ok (.aload_n 0, 1) := by decide +kernel
theorem dX7_sortCells_45 : decode cX7_sortCells 45 = .ok (.getfield 18, 3) := by decide +kernel
theorem dX7_sortCells_48 : decode cX7_sortCells 48 = .ok (.iload_n 3, 1) := by decide +kernel
theorem dX7_sortCells_49 : decode cX7_sortCells 49 = .ok (.iaload, 1) := by decide +kernel
theorem dX7_sortCells_50 : decode cX7_sortCells 50 = .ok (.iconst 3, 1) := by decide +kernel
theorem dX7_sortCells_51 : decode cX7_sortCells 51 = .ok (.if_icmp .eq 31, 3) := by decide +kernel
theorem dX7_sortCells_54 : decode cX7_sortCells 54 = .ok (.iload 4, 2) := by decide +kernel
theorem dX7_sortCells_56 : decode cX7_sortCells 56 = .ok (.iload 4, 2) := by decide +kernel
theorem dX7_sortCells_58 : decode cX7_sortCells 58 = .ok (.ineg, 1) := by decide +kernel
theorem dX7_sortCells_59 : decode cX7_sortCells 59 = .ok (.iand, 1) := by decide +kernel
theorem dX7_sortCells_60 : decode cX7_sortCells 60 = .ok (.iconst 1, 1) := by decide +kernel
theorem dX7_sortCells_61 : decode cX7_sortCells 61 = .ok (.iload_n 2, 1) := by decide +kernel
theorem dX7_sortCells_62 : decode cX7_sortCells 62 = .ok (.ishl, 1) := by decide +kernel
theorem dX7_sortCells_63 : decode cX7_sortCells 63 = .ok (.if_icmp .ne 19, 3) := by decide +kernel
theorem dX7_sortCells_66 : decode cX7_sortCells 66 = .ok (.iload_n 1, 1) := by decide +kernel
theorem dX7_sortCells_67 : decode cX7_sortCells 67 = .ok (.bipush 64, 2) := by decide +kernel
theorem dX7_sortCells_69 : decode cX7_sortCells 69 = .ok (.if_icmp .ge 13, 3) := by decide +kernel
theorem dX7_sortCells_72 : decode cX7_sortCells 72 = .ok (.aload_n 0, 1) := by decide +kernel
theorem dX7_sortCells_73 : decode cX7_sortCells 73 = .ok (.getfield 21, 3) := by decide +kernel
theorem dX7_sortCells_76 : decode cX7_sortCells 76 = .ok (.iload_n 1, 1) := by decide +kernel
theorem dX7_sortCells_77 : decode cX7_sortCells 77 = .ok (.iload_n 3, 1) := by decide +kernel
theorem dX7_sortCells_78 : decode cX7_sortCells 78 = .ok (.iastore, 1) := by decide +kernel
theorem dX7_sortCells_79 : decode cX7_sortCells 79 = .ok (.iinc 1 1, 3) := by decide +kernel
theorem dX7_sortCells_82 : decode cX7_sortCells 82 = .ok (.iinc 3 1, 3) := by decide +kernel
theorem dX7_sortCells_85 : decode cX7_sortCells 85 = .ok (.goto (-64), 3) := by decide +kernel
theorem dX7_sortCells_88 : decode cX7_sortCells 88 = .ok (.iinc 2 1, 3) := by decide +kernel
theorem dX7_sortCells_91 : decode cX7_sortCells 91 = .ok (.goto (-87), 3) := by decide +kernel
theorem dX7_sortCells_94 : decode cX7_sortCells 94 = .ok (.aload_n 0, 1) := by decide +kernel
theorem dX7_sortCells_95 : decode cX7_sortCells 95 = .ok (.getfield 24, 3) := by decide +kernel
theorem dX7_sortCells_98 : decode cX7_sortCells 98 = .ok (.aload_n 0, 1) := by decide +kernel
theorem dX7_sortCells_99 : decode cX7_sortCells 99 = .ok (.getfield 69, 3) := by decide +kernel
theorem dX7_sortCells_102 : decode cX7_sortCells 102 = .ok (.iload_n 1, 1) := by decide +kernel
theorem dX7_sortCells_103 : decode cX7_sortCells 103 = .ok (.iastore, 1) := by decide +kernel
theorem dX7_sortCells_104 : decode cX7_sortCells 104 = .ok (.return_, 1) := by decide +kernel
theorem dX7_explore_0 : decode cX7_explore 0 = .ok (.aload_n 0, 1) := by decide +kernel
theorem dX7_explore_1 : decode cX7_explore 1 = .ok (.invokevirtual 66, 3) := by decide +kernel
theorem dX7_explore_4 : decode cX7_explore 4 = .ok (.iconst 1, 1) := by decide +kernel
theorem dX7_explore_5 : decode cX7_explore 5 = .ok (.aload_n 0, 1) := by decide +kernel
theorem dX7_explore_6 : decode cX7_explore 6 = .ok (.getfield 69, 3) := by decide +kernel
theorem dX7_explore_9 : decode cX7_explore 9 = .ok (.ishl, 1) := by decide +kernel
theorem dX7_explore_10 : decode cX7_explore 10 = .ok (.istore_n 2, 1) := by decide +kernel
theorem dX7_explore_11 : decode cX7_explore 11 = .ok (.iconst 0, 1) := by decide +kernel
theorem dX7_explore_12 : decode cX7_explore 12 = .ok (.istore_n 3, 1) := by decide +kernel
theorem dX7_explore_13 : decode cX7_explore 13 = .ok (.aload_n 0, 1) := by decide +kernel
theorem dX7_explore_14 : decode cX7_explore 14 = .ok (.getfield 69, 3) := by decide +kernel
theorem dX7_explore_17 : decode cX7_explore 17 = .ok (.iconst 1, 1) := by decide +kernel
theorem dX7_explore_18 : decode cX7_explore 18 = .ok (.isub, 1) := by decide +kernel
theorem dX7_explore_19 : decode cX7_explore 19 = .ok (.istore 4, 2) := by decide +kernel
theorem dX7_explore_21 : decode cX7_explore 21 = .ok (.iload_n 3, 1) := by decide +kernel
theorem dX7_explore_22 : decode cX7_explore 22 = .ok (.iload_n 2, 1) := by decide +kernel
theorem dX7_explore_23 : decode cX7_explore 23 = .ok (.if_icmp .ge 96, 3) := by decide +kernel
theorem dX7_explore_26 : decode cX7_explore 26 = .ok (.aload_n 0, 1) := by decide +kernel
theorem dX7_explore_27 : decode cX7_explore 27 = .ok (.getfield 46, 3) := by decide +kernel
theorem dX7_explore_30 : decode cX7_explore 30 = .ok (.iload_n 1, 1) := by decide +kernel
theorem dX7_explore_31 : decode cX7_explore 31 = .ok (.if_icmp .ge 88, 3) := by decide +kernel
theorem dX7_explore_34 : decode cX7_explore 34 = .ok (.iload 4, 2) := by decide +kernel
theorem dX7_explore_36 : decode cX7_explore 36 = .ok (.istore 5, 2) := by decide +kernel
theorem dX7_explore_38 : decode cX7_explore 38 = .ok (.iload 5, 2) := by decide +kernel
theorem dX7_explore_40 : decode cX7_explore 40 = .ok (.ifCond .lt 19, 3) := by decide +kernel
theorem dX7_explore_43 : decode cX7_explore 43 = .ok (.aload_n 0, 1) := by decide +kernel
theorem dX7_explore_44 : decode cX7_explore 44 = .ok (.iload 5, 2) := by decide +kernel
theorem dX7_explore_46 : decode cX7_explore 46 = .ok (.iload_n 3, 1) := by decide +kernel
theorem dX7_explore_47 : decode cX7_explore 47 = .ok (.invokevirtual 112, 3) := by decide +kernel
theorem dX7_explore_50 : decode cX7_explore 50 = .ok (.ifCond .eq 9, 3) := by decide +kernel
theorem dX7_explore_53 : decode cX7_explore 53 = .ok (.iinc 5 (-1), 3) := by decide +kernel
theorem dX7_explore_56 : decode cX7_explore 56 = .ok (.goto (-18), 3) := by decide +kernel
theorem dX7_explore_59 : decode cX7_explore 59 = .ok (.iload 5, 2) := by decide +kernel
theorem dX7_explore_61 : decode cX7_explore 61 = .ok (.ifCond .ge 11, 3) := by decide +kernel
theorem dX7_explore_64 : decode cX7_explore 64 = .ok (.aload_n 0, 1) := by decide +kernel
theorem dX7_explore_65 : decode cX7_explore 65 = .ok (.iload_n 3, 1) := by decide +kernel
theorem dX7_explore_66 : decode cX7_explore 66 = .ok (.invokevirtual 63, 3) := by decide +kernel
theorem dX7_explore_69 : decode cX7_explore 69 = .ok (.iconst 0, 1) := by decide +kernel
theorem dX7_explore_70 : decode cX7_explore 70 = .ok (.istore 5, 2) := by decide +kernel
theorem dX7_explore_72 : decode cX7_explore 72 = .ok (.iload_n 3, 1) := by decide +kernel
theorem dX7_explore_73 : decode cX7_explore 73 = .ok (.iload 5, 2) := by decide +kernel
theorem dX7_explore_75 : decode cX7_explore 75 = .ok (.ishr, 1) := by decide +kernel
theorem dX7_explore_76 : decode cX7_explore 76 = .ok (.iconst 1, 1) := by decide +kernel
theorem dX7_explore_77 : decode cX7_explore 77 = .ok (.iadd, 1) := by decide +kernel
theorem dX7_explore_78 : decode cX7_explore 78 = .ok (.iload 5, 2) := by decide +kernel
theorem dX7_explore_80 : decode cX7_explore 80 = .ok (.ishl, 1) := by decide +kernel
theorem dX7_explore_81 : decode cX7_explore 81 = .ok (.istore 6, 2) := by decide +kernel
theorem dX7_explore_83 : decode cX7_explore 83 = .ok (.iload 5, 2) := by decide +kernel
theorem dX7_explore_85 : decode cX7_explore 85 = .ok (.istore 4, 2) := by decide +kernel
theorem dX7_explore_87 : decode cX7_explore 87 = .ok (.iload 4, 2) := by decide +kernel
theorem dX7_explore_89 : decode cX7_explore 89 = .ok (.aload_n 0, 1) := by decide +kernel
theorem dX7_explore_90 : decode cX7_explore 90 = .ok (.getfield 69, 3) := by decide +kernel
theorem dX7_explore_93 : decode cX7_explore 93 = .ok (.iconst 1, 1) := by decide +kernel
theorem dX7_explore_94 : decode cX7_explore 94 = .ok (.isub, 1) := by decide +kernel
theorem dX7_explore_95 : decode cX7_explore 95 = .ok (.if_icmp .ge 18, 3) := by decide +kernel
theorem dX7_explore_98 : decode cX7_explore 98 = .ok (.iload_n 3, 1) := by decide +kernel
theorem dX7_explore_99 : decode cX7_explore 99 = .ok (.iload 4, 2) := by decide +kernel
theorem dX7_explore_101 : decode cX7_explore 101 = .ok (.ishr, 1) := by decide +kernel
theorem dX7_explore_102 : decode cX7_explore 102 = .ok (.iconst 1, 1) := by decide +kernel
theorem dX7_explore_103 : decode cX7_explore 103 = .ok (.iand, 1) := by decide +kernel
theorem dX7_explore_104 : decode cX7_explore 104 = .ok (.ifCond .eq 9, 3) := by decide +kernel
theorem dX7_explore_107 : decode cX7_explore 107 = .ok (.iinc 4 1, 3) := by decide +kernel
theorem dX7_explore_110 : decode cX7_explore 110 = .ok (.goto (-23), 3) := by decide +kernel
theorem dX7_explore_113 : decode cX7_explore 113 = .ok (.iload 6, 2) := by decide +kernel
theorem dX7_explore_115 : decode cX7_explore 115 = .ok (.istore_n 3, 1) := by decide +kernel
theorem dX7_explore_116 : decode cX7_explore 116 = .ok (.goto (-95), 3) := by decide +kernel
theorem dX7_explore_119 : decode cX7_explore 119 = .ok (.return_, 1) := by decide +kernel
theorem dX7_agrees_0 : decode cX7_agrees 0 = .ok (.iload_n 1, 1) := by decide +kernel
theorem dX7_agrees_1 : decode cX7_agrees 1 = .ok (.ifCond .lt 9, 3) := by decide +kernel
theorem dX7_agrees_4 : decode cX7_agrees 4 = .ok (.iload_n 1, 1) := by decide +kernel
theorem dX7_agrees_5 : decode cX7_agrees 5 = .ok (.bipush 16, 2) := by decide +kernel
theorem dX7_agrees_7 : decode cX7_agrees 7 = .ok (.if_icmp .lt 5, 3) := by decide +kernel
theorem dX7_agrees_10 : decode cX7_agrees 10 = .ok (.iconst 0, 1) := by decide +kernel
theorem dX7_agrees_11 : decode cX7_agrees 11 = .ok (.ireturn, 1) := by decide +kernel
theorem dX7_agrees_12 : decode cX7_agrees 12 = .ok (.aload_n 0, 1) := by decide +kernel
theorem dX7_agrees_13 : decode cX7_agrees 13 = .ok (.getfield 24, 3) := by decide +kernel
theorem dX7_agrees_16 : decode cX7_agrees 16 = .ok (.iload_n 1, 1) := by decide +kernel
theorem dX7_agrees_17 : decode cX7_agrees 17 = .ok (.iaload, 1) := by decide +kernel
theorem dX7_agrees_18 : decode cX7_agrees 18 = .ok (.istore_n 3, 1) := by decide +kernel
theorem dX7_agrees_19 : decode cX7_agrees 19 = .ok (.iload_n 3, 1) := by decide +kernel
theorem dX7_agrees_20 : decode cX7_agrees 20 = .ok (.aload_n 0, 1) := by decide +kernel
theorem dX7_agrees_21 : decode cX7_agrees 21 = .ok (.getfield 24, 3) := by decide +kernel
theorem dX7_agrees_24 : decode cX7_agrees 24 = .ok (.iload_n 1, 1) := by decide +kernel
theorem dX7_agrees_25 : decode cX7_agrees 25 = .ok (.iconst 1, 1) := by decide +kernel
theorem dX7_agrees_26 : decode cX7_agrees 26 = .ok (.iadd, 1) := by decide +kernel
theorem dX7_agrees_27 : decode cX7_agrees 27 = .ok (.iaload, 1) := by decide +kernel
theorem dX7_agrees_28 : decode cX7_agrees 28 = .ok (.if_icmp .ge 77, 3) := by decide +kernel
theorem dX7_agrees_31 : decode cX7_agrees 31 = .ok (.iload_n 3, 1) := by decide +kernel
theorem dX7_agrees_32 : decode cX7_agrees 32 = .ok (.bipush 64, 2) := by decide +kernel
theorem dX7_agrees_34 : decode cX7_agrees 34 = .ok (.if_icmp .ge 71, 3) := by decide +kernel
theorem dX7_agrees_37 : decode cX7_agrees 37 = .ok (.aload_n 0, 1) := by decide +kernel
theorem dX7_agrees_38 : decode cX7_agrees 38 = .ok (.getfield 21, 3) := by decide +kernel
theorem dX7_agrees_41 : decode cX7_agrees 41 = .ok (.iload_n 3, 1) := by decide +kernel
theorem dX7_agrees_42 : decode cX7_agrees 42 = .ok (.iaload, 1) := by decide +kernel
theorem dX7_agrees_43 : decode cX7_agrees 43 = .ok (.istore 4, 2) := by decide +kernel
theorem dX7_agrees_45 : decode cX7_agrees 45 = .ok (.iload_n 2, 1) := by decide +kernel
theorem dX7_agrees_46 : decode cX7_agrees 46 = .ok (.aload_n 0, 1) := by decide +kernel
theorem dX7_agrees_47 : decode cX7_agrees 47 = .ok (.getfield 11, 3) := by decide +kernel
theorem dX7_agrees_50 : decode cX7_agrees 50 = .ok (.iload 4, 2) := by decide +kernel
theorem dX7_agrees_52 : decode cX7_agrees 52 = .ok (.iaload, 1) := by decide +kernel
theorem dX7_agrees_53 : decode cX7_agrees 53 = .ok (.iand, 1) := by decide +kernel
theorem dX7_agrees_54 : decode cX7_agrees 54 = .ok (.ifCond .eq 7, 3) := by decide +kernel
theorem dX7_agrees_57 : decode cX7_agrees 57 = .ok (.iconst 1, 1) := by decide +kernel
theorem dX7_agrees_58 : decode cX7_agrees 58 = .ok (.goto 4, 3) := by decide +kernel
theorem dX7_agrees_61 : decode cX7_agrees 61 = .ok (.iconst 0, 1) := by decide +kernel
theorem dX7_agrees_62 : decode cX7_agrees 62 = .ok (.istore 5, 2) := by decide +kernel
theorem dX7_agrees_64 : decode cX7_agrees 64 = .ok (.aload_n 0, 1) := by decide +kernel
theorem dX7_agrees_65 : decode cX7_agrees 65 = .ok (.iload 4, 2) := by decide +kernel
theorem dX7_agrees_67 : decode cX7_agrees 67 = .ok (.iload_n 2, 1) := by decide +kernel
theorem dX7_agrees_68 : decode cX7_agrees 68 = .ok (.invokevirtual 115, 3) := by decide +kernel
theorem dX7_agrees_71 : decode cX7_agrees 71 = .ok (.aload_n 0, 1) := by decide +kernel
theorem dX7_agrees_72 : decode cX7_agrees 72 = .ok (.getfield 18, 3) := by decide +kernel
theorem dX7_agrees_75 : decode cX7_agrees 75 = .ok (.iload 4, 2) := by decide +kernel
theorem dX7_agrees_77 : decode cX7_agrees 77 = .ok (.iaload, 1) := by decide +kernel
theorem dX7_agrees_78 : decode cX7_agrees 78 = .ok (.iconst 2, 1) := by decide +kernel
theorem dX7_agrees_79 : decode cX7_agrees 79 = .ok (.if_icmp .ne 8, 3) := by decide +kernel
theorem dX7_agrees_82 : decode cX7_agrees 82 = .ok (.iload 5, 2) := by decide +kernel
theorem dX7_agrees_84 : decode cX7_agrees 84 = .ok (.goto 10, 3) := by decide +kernel
theorem dX7_agrees_87 : decode cX7_agrees 87 = .ok (.aload_n 0, 1) := by decide +kernel
theorem dX7_agrees_88 : decode cX7_agrees 88 = .ok (.getfield 18, 3) := by decide +kernel
theorem dX7_agrees_91 : decode cX7_agrees 91 = .ok (.iload 4, 2) := by decide +kernel
theorem dX7_agrees_93 : decode cX7_agrees 93 = .ok (.iaload, 1) := by decide +kernel
theorem dX7_agrees_94 : decode cX7_agrees 94 = .ok (.if_icmp .eq 5, 3) := by decide +kernel
theorem dX7_agrees_97 : decode cX7_agrees 97 = .ok (.iconst 0, 1) := by decide +kernel
theorem dX7_agrees_98 : decode cX7_agrees 98 = .ok (.ireturn, 1) := by decide +kernel
theorem dX7_agrees_99 : decode cX7_agrees 99 = .ok (.iinc 3 1, 3) := by decide +kernel
theorem dX7_agrees_102 : decode cX7_agrees 102 = .ok (.goto (-83), 3) := by decide +kernel
theorem dX7_agrees_105 : decode cX7_agrees 105 = .ok (.iconst 1, 1) := by decide +kernel
theorem dX7_agrees_106 : decode cX7_agrees 106 = .ok (.ireturn, 1) := by decide +kernel
theorem dX7_nextOf_0 : decode cX7_nextOf 0 = .ok (.iload_n 1, 1) := by decide +kernel
theorem dX7_nextOf_1 : decode cX7_nextOf 1 = .ok (.ifCond .lt 9, 3) := by decide +kernel
theorem dX7_nextOf_4 : decode cX7_nextOf 4 = .ok (.iload_n 1, 1) := by decide +kernel
theorem dX7_nextOf_5 : decode cX7_nextOf 5 = .ok (.bipush 64, 2) := by decide +kernel
theorem dX7_nextOf_7 : decode cX7_nextOf 7 = .ok (.if_icmp .lt 5, 3) := by decide +kernel
theorem dX7_nextOf_10 : decode cX7_nextOf 10 = .ok (.iconst 0, 1) := by decide +kernel
theorem dX7_nextOf_11 : decode cX7_nextOf 11 = .ok (.ireturn, 1) := by decide +kernel
theorem dX7_nextOf_12 : decode cX7_nextOf 12 = .ok (.iload_n 2, 1) := by decide +kernel
theorem dX7_nextOf_13 : decode cX7_nextOf 13 = .ok (.aload_n 0, 1) := by decide +kernel
theorem dX7_nextOf_14 : decode cX7_nextOf 14 = .ok (.getfield 11, 3) := by decide +kernel
theorem dX7_nextOf_17 : decode cX7_nextOf 17 = .ok (.iload_n 1, 1) := by decide +kernel
theorem dX7_nextOf_18 : decode cX7_nextOf 18 = .ok (.iaload, 1) := by decide +kernel
theorem dX7_nextOf_19 : decode cX7_nextOf 19 = .ok (.iand, 1) := by decide +kernel
theorem dX7_nextOf_20 : decode cX7_nextOf 20 = .ok (.ifCond .eq 10, 3) := by decide +kernel
theorem dX7_nextOf_23 : decode cX7_nextOf 23 = .ok (.aload_n 0, 1) := by decide +kernel
theorem dX7_nextOf_24 : decode cX7_nextOf 24 = .ok (.getfield 98, 3) := by decide +kernel
theorem dX7_nextOf_27 : decode cX7_nextOf 27 = .ok (.goto 7, 3) := by decide +kernel
theorem dX7_nextOf_30 : decode cX7_nextOf 30 = .ok (.aload_n 0, 1) := by decide +kernel
theorem dX7_nextOf_31 : decode cX7_nextOf 31 = .ok (.getfield 94, 3) := by decide +kernel
theorem dX7_nextOf_34 : decode cX7_nextOf 34 = .ok (.istore_n 3, 1) := by decide +kernel
theorem dX7_nextOf_35 : decode cX7_nextOf 35 = .ok (.iload_n 3, 1) := by decide +kernel
theorem dX7_nextOf_36 : decode cX7_nextOf 36 = .ok (.iload_n 2, 1) := by decide +kernel
theorem dX7_nextOf_37 : decode cX7_nextOf 37 = .ok (.aload_n 0, 1) := by decide +kernel
theorem dX7_nextOf_38 : decode cX7_nextOf 38 = .ok (.getfield 15, 3) := by decide +kernel
theorem dX7_nextOf_41 : decode cX7_nextOf 41 = .ok (.iload_n 1, 1) := by decide +kernel
theorem dX7_nextOf_42 : decode cX7_nextOf 42 = .ok (.iaload, 1) := by decide +kernel
theorem dX7_nextOf_43 : decode cX7_nextOf 43 = .ok (.iand, 1) := by decide +kernel
theorem dX7_nextOf_44 : decode cX7_nextOf 44 = .ok (.invokestatic 53, 3) := by decide +kernel
theorem dX7_nextOf_47 : decode cX7_nextOf 47 = .ok (.ishr, 1) := by decide +kernel
theorem dX7_nextOf_48 : decode cX7_nextOf 48 = .ok (.iconst 1, 1) := by decide +kernel
theorem dX7_nextOf_49 : decode cX7_nextOf 49 = .ok (.iand, 1) := by decide +kernel
theorem dX7_nextOf_50 : decode cX7_nextOf 50 = .ok (.ireturn, 1) := by decide +kernel
theorem dX7_nextWithin_0 : decode cX7_nextWithin 0 = .ok (.iconst 0, 1) := by decide +kernel
theorem dX7_nextWithin_1 : decode cX7_nextWithin 1 = .ok (.istore_n 2, 1) := by decide +kernel
theorem dX7_nextWithin_2 : decode cX7_nextWithin 2 = .ok (.iconst 0, 1) := by decide +kernel
theorem dX7_nextWithin_3 : decode cX7_nextWithin 3 = .ok (.istore_n 3, 1) := by decide +kernel
theorem dX7_nextWithin_4 : decode cX7_nextWithin 4 = .ok (.iload_n 3, 1) := by decide +kernel
theorem dX7_nextWithin_5 : decode cX7_nextWithin 5 = .ok (.aload_n 0, 1) := by decide +kernel
theorem dX7_nextWithin_6 : decode cX7_nextWithin 6 = .ok (.getfield 50, 3) := by decide +kernel
theorem dX7_nextWithin_9 : decode cX7_nextWithin 9 = .ok (.if_icmp .ge 25, 3) := by decide +kernel
theorem dX7_nextWithin_12 : decode cX7_nextWithin 12 = .ok (.iload_n 2, 1) := by decide +kernel
theorem dX7_nextWithin_13 : decode cX7_nextWithin 13 = .ok (.aload_n 0, 1) := by decide +kernel
theorem dX7_nextWithin_14 : decode cX7_nextWithin 14 = .ok (.iload_n 3, 1) := by decide +kernel
theorem dX7_nextWithin_15 : decode cX7_nextWithin 15 = .ok (.iload_n 1, 1) := by decide +kernel
theorem dX7_nextWithin_16 : decode cX7_nextWithin 16 = .ok (.invokevirtual 115, 3) := by decide +kernel
theorem dX7_nextWithin_19 : decode cX7_nextWithin 19 = .ok (.aload_n 0, 1) := by decide +kernel
theorem dX7_nextWithin_20 : decode cX7_nextWithin 20 = .ok (.getfield 11, 3) := by decide +kernel
theorem dX7_nextWithin_23 : decode cX7_nextWithin 23 = .ok (.iload_n 3, 1) := by decide +kernel
theorem dX7_nextWithin_24 : decode cX7_nextWithin 24 = .ok (.iaload, 1) := by decide +kernel
theorem dX7_nextWithin_25 : decode cX7_nextWithin 25 = .ok (.imul, 1) := by decide +kernel
theorem dX7_nextWithin_26 : decode cX7_nextWithin 26 = .ok (.ior, 1) := by decide +kernel
theorem dX7_nextWithin_27 : decode cX7_nextWithin 27 = .ok (.istore_n 2, 1) := by decide +kernel
theorem dX7_nextWithin_28 : decode cX7_nextWithin 28 = .ok (.iinc 3 1, 3) := by decide +kernel
theorem dX7_nextWithin_31 : decode cX7_nextWithin 31 = .ok (.goto (-27), 3) := by decide +kernel
theorem dX7_nextWithin_34 : decode cX7_nextWithin 34 = .ok (.iload_n 2, 1) := by decide +kernel
theorem dX7_nextWithin_35 : decode cX7_nextWithin 35 = .ok (.ireturn, 1) := by decide +kernel
theorem dX7_forget_0 : decode cX7_forget 0 = .ok (.aload_n 0, 1) := by decide +kernel
theorem dX7_forget_1 : decode cX7_forget 1 = .ok (.getfield 30, 3) := by decide +kernel
theorem dX7_forget_4 : decode cX7_forget 4 = .ok (.lconst 0, 1) := by decide +kernel
theorem dX7_forget_5 : decode cX7_forget 5 = .ok (.invokestatic 118, 3) := by decide +kernel
theorem dX7_forget_8 : decode cX7_forget 8 = .ok (.aload_n 0, 1) := by decide +kernel
theorem dX7_forget_9 : decode cX7_forget 9 = .ok (.iconst 0, 1) := by decide +kernel
theorem dX7_forget_10 : decode cX7_forget 10 = .ok (.putfield 46, 3) := by decide +kernel
theorem dX7_forget_13 : decode cX7_forget 13 = .ok (.return_, 1) := by decide +kernel
theorem dX7_hit_0 : decode cX7_hit 0 = .ok (.iload_n 1, 1) := by decide +kernel
theorem dX7_hit_1 : decode cX7_hit 1 = .ok (.ifCond .lt 37, 3) := by decide +kernel
theorem dX7_hit_4 : decode cX7_hit 4 = .ok (.iload_n 1, 1) := by decide +kernel
theorem dX7_hit_5 : decode cX7_hit 5 = .ok (.ldc 41, 2) := by decide +kernel
theorem dX7_hit_7 : decode cX7_hit 7 = .ok (.if_icmp .ge 31, 3) := by decide +kernel
theorem dX7_hit_10 : decode cX7_hit 10 = .ok (.aload_n 0, 1) := by decide +kernel
theorem dX7_hit_11 : decode cX7_hit 11 = .ok (.getfield 30, 3) := by decide +kernel
theorem dX7_hit_14 : decode cX7_hit 14 = .ok (.iload_n 1, 1) := by decide +kernel
theorem dX7_hit_15 : decode cX7_hit 15 = .ok (.bipush 6, 2) := by decide +kernel
theorem dX7_hit_17 : decode cX7_hit 17 = .ok (.ishr, 1) := by decide +kernel
theorem dX7_hit_18 : decode cX7_hit 18 = .ok (.dup2, 1) := by decide +kernel
theorem dX7_hit_19 : decode cX7_hit 19 = .ok (.laload, 1) := by decide +kernel
theorem dX7_hit_20 : decode cX7_hit 20 = .ok (.lconst 1, 1) := by decide +kernel
theorem dX7_hit_21 : decode cX7_hit 21 = .ok (.iload_n 1, 1) := by decide +kernel
theorem dX7_hit_22 : decode cX7_hit 22 = .ok (.bipush 63, 2) := by decide +kernel
theorem dX7_hit_24 : decode cX7_hit 24 = .ok (.iand, 1) := by decide +kernel
theorem dX7_hit_25 : decode cX7_hit 25 = .ok (.lshl, 1) := by decide +kernel
theorem dX7_hit_26 : decode cX7_hit 26 = .ok (.lor, 1) := by decide +kernel
theorem dX7_hit_27 : decode cX7_hit 27 = .ok (.lastore, 1) := by decide +kernel
theorem dX7_hit_28 : decode cX7_hit 28 = .ok (.aload_n 0, 1) := by decide +kernel
theorem dX7_hit_29 : decode cX7_hit 29 = .ok (.dup, 1) := by decide +kernel
theorem dX7_hit_30 : decode cX7_hit 30 = .ok (.getfield 46, 3) := by decide +kernel
theorem dX7_hit_33 : decode cX7_hit 33 = .ok (.iconst 1, 1) := by decide +kernel
theorem dX7_hit_34 : decode cX7_hit 34 = .ok (.iadd, 1) := by decide +kernel
theorem dX7_hit_35 : decode cX7_hit 35 = .ok (.putfield 46, 3) := by decide +kernel
theorem dX7_hit_38 : decode cX7_hit 38 = .ok (.return_, 1) := by decide +kernel
theorem dX7_isHit_0 : decode cX7_isHit 0 = .ok (.iload_n 1, 1) := by decide +kernel
theorem dX7_isHit_1 : decode cX7_isHit 1 = .ok (.ifCond .lt 34, 3) := by decide +kernel
theorem dX7_isHit_4 : decode cX7_isHit 4 = .ok (.iload_n 1, 1) := by decide +kernel
theorem dX7_isHit_5 : decode cX7_isHit 5 = .ok (.ldc 41, 2) := by decide +kernel
theorem dX7_isHit_7 : decode cX7_isHit 7 = .ok (.if_icmp .ge 28, 3) := by decide +kernel
theorem dX7_isHit_10 : decode cX7_isHit 10 = .ok (.aload_n 0, 1) := by decide +kernel
theorem dX7_isHit_11 : decode cX7_isHit 11 = .ok (.getfield 30, 3) := by decide +kernel
theorem dX7_isHit_14 : decode cX7_isHit 14 = .ok (.iload_n 1, 1) := by decide +kernel
theorem dX7_isHit_15 : decode cX7_isHit 15 = .ok (.bipush 6, 2) := by decide +kernel
theorem dX7_isHit_17 : decode cX7_isHit 17 = .ok (.ishr, 1) := by decide +kernel
theorem dX7_isHit_18 : decode cX7_isHit 18 = .ok (.laload, 1) := by decide +kernel
theorem dX7_isHit_19 : decode cX7_isHit 19 = .ok (.iload_n 1, 1) := by decide +kernel
theorem dX7_isHit_20 : decode cX7_isHit 20 = .ok (.bipush 63, 2) := by decide +kernel
theorem dX7_isHit_22 : decode cX7_isHit 22 = .ok (.iand, 1) := by decide +kernel
theorem dX7_isHit_23 : decode cX7_isHit 23 = .ok (.lushr, 1) := by decide +kernel
theorem dX7_isHit_24 : decode cX7_isHit 24 = .ok (.lconst 1, 1) := by decide +kernel
theorem dX7_isHit_25 : decode cX7_isHit 25 = .ok (.land, 1) := by decide +kernel
theorem dX7_isHit_26 : decode cX7_isHit 26 = .ok (.lconst 0, 1) := by decide +kernel
theorem dX7_isHit_27 : decode cX7_isHit 27 = .ok (.lcmp, 1) := by decide +kernel
theorem dX7_isHit_28 : decode cX7_isHit 28 = .ok (.ifCond .eq 7, 3) := by decide +kernel
theorem dX7_isHit_31 : decode cX7_isHit 31 = .ok (.iconst 1, 1) := by decide +kernel
theorem dX7_isHit_32 : decode cX7_isHit 32 = .ok (.goto 4, 3) := by decide +kernel
theorem dX7_isHit_35 : decode cX7_isHit 35 = .ok (.iconst 0, 1) := by decide +kernel
theorem dX7_isHit_36 : decode cX7_isHit 36 = .ok (.ireturn, 1) := by decide +kernel
theorem dX7_hitAt_0 : decode cX7_hitAt 0 = .ok (.iload_n 1, 1) := by decide +kernel
theorem dX7_hitAt_1 : decode cX7_hitAt 1 = .ok (.istore_n 2, 1) := by decide +kernel
theorem dX7_hitAt_2 : decode cX7_hitAt 2 = .ok (.iconst 0, 1) := by decide +kernel
theorem dX7_hitAt_3 : decode cX7_hitAt 3 = .ok (.istore_n 3, 1) := by decide +kernel
theorem dX7_hitAt_4 : decode cX7_hitAt 4 = .ok (.iload_n 3, 1) := by decide +kernel
theorem dX7_hitAt_5 : decode cX7_hitAt 5 = .ok (.aload_n 0, 1) := by decide +kernel
theorem dX7_hitAt_6 : decode cX7_hitAt 6 = .ok (.getfield 30, 3) := by decide +kernel
theorem dX7_hitAt_9 : decode cX7_hitAt 9 = .ok (.arraylength, 1) := by decide +kernel
theorem dX7_hitAt_10 : decode cX7_hitAt 10 = .ok (.if_icmp .ge 81, 3) := by decide +kernel
theorem dX7_hitAt_13 : decode cX7_hitAt 13 = .ok (.aload_n 0, 1) := by decide +kernel
theorem dX7_hitAt_14 : decode cX7_hitAt 14 = .ok (.getfield 30, 3) := by decide +kernel
theorem dX7_hitAt_17 : decode cX7_hitAt 17 = .ok (.iload_n 3, 1) := by decide +kernel
theorem dX7_hitAt_18 : decode cX7_hitAt 18 = .ok (.laload, 1) := by decide +kernel
theorem dX7_hitAt_19 : decode cX7_hitAt 19 = .ok (.invokestatic 124, 3) := by decide +kernel
theorem dX7_hitAt_22 : decode cX7_hitAt 22 = .ok (.istore 4, 2) := by decide +kernel
theorem dX7_hitAt_24 : decode cX7_hitAt 24 = .ok (.iload_n 2, 1) := by decide +kernel
theorem dX7_hitAt_25 : decode cX7_hitAt 25 = .ok (.iload 4, 2) := by decide +kernel
theorem dX7_hitAt_27 : decode cX7_hitAt 27 = .ok (.if_icmp .lt 11, 3) := by decide +kernel
theorem dX7_hitAt_30 : decode cX7_hitAt 30 = .ok (.iload_n 2, 1) := by decide +kernel
theorem dX7_hitAt_31 : decode cX7_hitAt 31 = .ok (.iload 4, 2) := by decide +kernel
theorem dX7_hitAt_33 : decode cX7_hitAt 33 = .ok (.isub, 1) := by decide +kernel
theorem dX7_hitAt_34 : decode cX7_hitAt 34 = .ok (.istore_n 2, 1) := by decide +kernel
theorem dX7_hitAt_35 : decode cX7_hitAt 35 = .ok (.goto 50, 3) := by decide +kernel
theorem dX7_hitAt_38 : decode cX7_hitAt 38 = .ok (.iconst 0, 1) := by decide +kernel
theorem dX7_hitAt_39 : decode cX7_hitAt 39 = .ok (.istore 5, 2) := by decide +kernel
theorem dX7_hitAt_41 : decode cX7_hitAt 41 = .ok (.iload 5, 2) := by decide +kernel
theorem dX7_hitAt_43 : decode cX7_hitAt 43 = .ok (.bipush 64, 2) := by decide +kernel
theorem dX7_hitAt_45 : decode cX7_hitAt 45 = .ok (.if_icmp .ge 40, 3) := by decide +kernel
theorem dX7_hitAt_48 : decode cX7_hitAt 48 = .ok (.aload_n 0, 1) := by decide +kernel
theorem dX7_hitAt_49 : decode cX7_hitAt 49 = .ok (.getfield 30, 3) := by decide +kernel
theorem dX7_hitAt_52 : decode cX7_hitAt 52 = .ok (.iload_n 3, 1) := by decide +kernel
theorem dX7_hitAt_53 : decode cX7_hitAt 53 = .ok (.laload, 1) := by decide +kernel
theorem dX7_hitAt_54 : decode cX7_hitAt 54 = .ok (.iload 5, 2) := by decide +kernel
theorem dX7_hitAt_56 : decode cX7_hitAt 56 = .ok (.lushr, 1) := by decide +kernel
theorem dX7_hitAt_57 : decode cX7_hitAt 57 = .ok (.lconst 1, 1) := by decide +kernel
theorem dX7_hitAt_58 : decode cX7_hitAt 58 = .ok (.land, 1) := by decide +kernel
theorem dX7_hitAt_59 : decode cX7_hitAt 59 = .ok (.lconst 0, 1) := by decide +kernel
theorem dX7_hitAt_60 : decode cX7_hitAt 60 = .ok (.lcmp, 1) := by decide +kernel
theorem dX7_hitAt_61 : decode cX7_hitAt 61 = .ok (.ifCond .eq 18, 3) := by decide +kernel
theorem dX7_hitAt_64 : decode cX7_hitAt 64 = .ok (.iload_n 2, 1) := by decide +kernel
theorem dX7_hitAt_65 : decode cX7_hitAt 65 = .ok (.ifCond .ne 11, 3) := by decide +kernel
theorem dX7_hitAt_68 : decode cX7_hitAt 68 = .ok (.iload_n 3, 1) := by decide +kernel
theorem dX7_hitAt_69 : decode cX7_hitAt 69 = .ok (.bipush 64, 2) := by decide +kernel
theorem dX7_hitAt_71 : decode cX7_hitAt 71 = .ok (.imul, 1) := by decide +kernel
theorem dX7_hitAt_72 : decode cX7_hitAt 72 = .ok (.iload 5, 2) := by decide +kernel
theorem dX7_hitAt_74 : decode cX7_hitAt 74 = .ok (.iadd, 1) := by decide +kernel
theorem dX7_hitAt_75 : decode cX7_hitAt 75 = .ok (.ireturn, 1) := by decide +kernel
theorem dX7_hitAt_76 : decode cX7_hitAt 76 = .ok (.iinc 2 (-1), 3) := by decide +kernel
theorem dX7_hitAt_79 : decode cX7_hitAt 79 = .ok (.iinc 5 1, 3) := by decide +kernel
theorem dX7_hitAt_82 : decode cX7_hitAt 82 = .ok (.goto (-41), 3) := by decide +kernel
theorem dX7_hitAt_85 : decode cX7_hitAt 85 = .ok (.iinc 3 1, 3) := by decide +kernel
theorem dX7_hitAt_88 : decode cX7_hitAt 88 = .ok (.goto (-84), 3) := by decide +kernel
theorem dX7_hitAt_91 : decode cX7_hitAt 91 = .ok (.iconst (-1), 1) := by decide +kernel
theorem dX7_hitAt_92 : decode cX7_hitAt 92 = .ok (.ireturn, 1) := by decide +kernel
theorem dX8_init_0 : decode cX8_init 0 = .ok (.aload_n 0, 1) := by decide +kernel
theorem dX8_init_1 : decode cX8_init 1 = .ok (.invokespecial 1, 3) := by decide +kernel
theorem dX8_init_4 : decode cX8_init 4 = .ok (.aload_n 0, 1) := by decide +kernel
theorem dX8_init_5 : decode cX8_init 5 = .ok (.sipush 4096, 3) := by decide +kernel
theorem dX8_init_8 : decode cX8_init 8 = .ok (.newarray .int, 2) := by decide +kernel
theorem dX8_init_10 : decode cX8_init 10 = .ok (.putfield 9, 3) := by decide +kernel
theorem dX8_init_13 : decode cX8_init 13 = .ok (.aload_n 0, 1) := by decide +kernel
theorem dX8_init_14 : decode cX8_init 14 = .ok (.sipush 8192, 3) := by decide +kernel
theorem dX8_init_17 : decode cX8_init 17 = .ok (.newarray .long, 2) := by decide +kernel
theorem dX8_init_19 : decode cX8_init 19 = .ok (.putfield 13, 3) := by decide +kernel
theorem dX8_init_22 : decode cX8_init 22 = .ok (.aload_n 0, 1) := by decide +kernel
theorem dX8_init_23 : decode cX8_init 23 = .ok (.sipush 8192, 3) := by decide +kernel
theorem dX8_init_26 : decode cX8_init 26 = .ok (.newarray .int, 2) := by decide +kernel
theorem dX8_init_28 : decode cX8_init 28 = .ok (.putfield 17, 3) := by decide +kernel
theorem dX8_init_31 : decode cX8_init 31 = .ok (.return_, 1) := by decide +kernel
theorem dX8_different_0 : decode cX8_different 0 = .ok (.aload_n 1, 1) := by decide +kernel
theorem dX8_different_1 : decode cX8_different 1 = .ok (.getfield 20, 3) := by decide +kernel
theorem dX8_different_4 : decode cX8_different 4 = .ok (.ifCond .ne 6, 3) := by decide +kernel
theorem dX8_different_7 : decode cX8_different 7 = .ok (.bipush 8, 2) := by decide +kernel
theorem dX8_different_9 : decode cX8_different 9 = .ok (.ireturn, 1) := by decide +kernel
theorem dX8_different_10 : decode cX8_different 10 = .ok (.aload_n 1, 1) := by decide +kernel
theorem dX8_different_11 : decode cX8_different 11 = .ok (.invokestatic 26, 3) := by decide +kernel
theorem dX8_different_14 : decode cX8_different 14 = .ok (.istore_n 2, 1) := by decide +kernel
theorem dX8_different_15 : decode cX8_different 15 = .ok (.iconst 2, 1) := by decide +kernel
theorem dX8_different_16 : decode cX8_different 16 = .ok (.istore_n 3, 1) := by decide +kernel
theorem dX8_different_17 : decode cX8_different 17 = .ok (.iload_n 3, 1) := by decide +kernel
theorem dX8_different_18 : decode cX8_different 18 = .ok (.bipush 8, 2) := by decide +kernel
theorem dX8_different_20 : decode cX8_different 20 = .ok (.if_icmp .gt 18, 3) := by decide +kernel
theorem dX8_different_23 : decode cX8_different 23 = .ok (.iload_n 2, 1) := by decide +kernel
theorem dX8_different_24 : decode cX8_different 24 = .ok (.aload_n 0, 1) := by decide +kernel
theorem dX8_different_25 : decode cX8_different 25 = .ok (.aload_n 1, 1) := by decide +kernel
theorem dX8_different_26 : decode cX8_different 26 = .ok (.iload_n 3, 1) := by decide +kernel
theorem dX8_different_27 : decode cX8_different 27 = .ok (.invokevirtual 30, 3) := by decide +kernel
theorem dX8_different_30 : decode cX8_different 30 = .ok (.iadd, 1) := by decide +kernel
theorem dX8_different_31 : decode cX8_different 31 = .ok (.istore_n 2, 1) := by decide +kernel
theorem dX8_different_32 : decode cX8_different 32 = .ok (.iinc 3 1, 3) := by decide +kernel
theorem dX8_different_35 : decode cX8_different 35 = .ok (.goto (-18), 3) := by decide +kernel
theorem dX8_different_38 : decode cX8_different 38 = .ok (.iload_n 2, 1) := by decide +kernel
theorem dX8_different_39 : decode cX8_different 39 = .ok (.ireturn, 1) := by decide +kernel
theorem dX8_squaresMet_0 : decode cX8_squaresMet 0 = .ok (.aload_n 0, 1) := by decide +kernel
theorem dX8_squaresMet_1 : decode cX8_squaresMet 1 = .ok (.getfield 34, 3) := by decide +kernel
theorem dX8_squaresMet_4 : decode cX8_squaresMet 4 = .ok (.iload_n 1, 1) := by decide +kernel
theorem dX8_squaresMet_5 : decode cX8_squaresMet 5 = .ok (.ishr, 1) := by decide +kernel
theorem dX8_squaresMet_6 : decode cX8_squaresMet 6 = .ok (.aload_n 0, 1) := by decide +kernel
theorem dX8_squaresMet_7 : decode cX8_squaresMet 7 = .ok (.getfield 37, 3) := by decide +kernel
theorem dX8_squaresMet_10 : decode cX8_squaresMet 10 = .ok (.iload_n 1, 1) := by decide +kernel
theorem dX8_squaresMet_11 : decode cX8_squaresMet 11 = .ok (.ishr, 1) := by decide +kernel
theorem dX8_squaresMet_12 : decode cX8_squaresMet 12 = .ok (.isub, 1) := by decide +kernel
theorem dX8_squaresMet_13 : decode cX8_squaresMet 13 = .ok (.iconst 1, 1) := by decide +kernel
theorem dX8_squaresMet_14 : decode cX8_squaresMet 14 = .ok (.iadd, 1) := by decide +kernel
theorem dX8_squaresMet_15 : decode cX8_squaresMet 15 = .ok (.istore_n 2, 1) := by decide +kernel
theorem dX8_squaresMet_16 : decode cX8_squaresMet 16 = .ok (.aload_n 0, 1) := by decide +kernel
theorem dX8_squaresMet_17 : decode cX8_squaresMet 17 = .ok (.getfield 40, 3) := by decide +kernel
theorem dX8_squaresMet_20 : decode cX8_squaresMet 20 = .ok (.iload_n 1, 1) := by decide +kernel
theorem dX8_squaresMet_21 : decode cX8_squaresMet 21 = .ok (.ishr, 1) := by decide +kernel
theorem dX8_squaresMet_22 : decode cX8_squaresMet 22 = .ok (.aload_n 0, 1) := by decide +kernel
theorem dX8_squaresMet_23 : decode cX8_squaresMet 23 = .ok (.getfield 43, 3) := by decide +kernel
theorem dX8_squaresMet_26 : decode cX8_squaresMet 26 = .ok (.iload_n 1, 1) := by decide +kernel
theorem dX8_squaresMet_27 : decode cX8_squaresMet 27 = .ok (.ishr, 1) := by decide +kernel
theorem dX8_squaresMet_28 : decode cX8_squaresMet 28 = .ok (.isub, 1) := by decide +kernel
theorem dX8_squaresMet_29 : decode cX8_squaresMet 29 = .ok (.iconst 1, 1) := by decide +kernel
theorem dX8_squaresMet_30 : decode cX8_squaresMet 30 = .ok (.iadd, 1) := by decide +kernel
theorem dX8_squaresMet_31 : decode cX8_squaresMet 31 = .ok (.istore_n 3, 1) := by decide +kernel
theorem dX8_squaresMet_32 : decode cX8_squaresMet 32 = .ok (.iload_n 2, 1) := by decide +kernel
theorem dX8_squaresMet_33 : decode cX8_squaresMet 33 = .ok (.iload_n 3, 1) := by decide +kernel
theorem dX8_squaresMet_34 : decode cX8_squaresMet 34 = .ok (.imul, 1) := by decide +kernel
theorem dX8_squaresMet_35 : decode cX8_squaresMet 35 = .ok (.ireturn, 1) := by decide +kernel
theorem dX8_meetsBox_0 : decode cX8_meetsBox 0 = .ok (.iload_n 2, 1) := by decide +kernel
theorem dX8_meetsBox_1 : decode cX8_meetsBox 1 = .ok (.aload_n 0, 1) := by decide +kernel
theorem dX8_meetsBox_2 : decode cX8_meetsBox 2 = .ok (.getfield 43, 3) := by decide +kernel
theorem dX8_meetsBox_5 : decode cX8_meetsBox 5 = .ok (.iload_n 1, 1) := by decide +kernel
theorem dX8_meetsBox_6 : decode cX8_meetsBox 6 = .ok (.ishr, 1) := by decide +kernel
theorem dX8_meetsBox_7 : decode cX8_meetsBox 7 = .ok (.if_icmp .lt 37, 3) := by decide +kernel
theorem dX8_meetsBox_10 : decode cX8_meetsBox 10 = .ok (.iload_n 2, 1) := by decide +kernel
theorem dX8_meetsBox_11 : decode cX8_meetsBox 11 = .ok (.aload_n 0, 1) := by decide +kernel
theorem dX8_meetsBox_12 : decode cX8_meetsBox 12 = .ok (.getfield 40, 3) := by decide +kernel
theorem dX8_meetsBox_15 : decode cX8_meetsBox 15 = .ok (.iload_n 1, 1) := by decide +kernel
theorem dX8_meetsBox_16 : decode cX8_meetsBox 16 = .ok (.ishr, 1) := by decide +kernel
theorem dX8_meetsBox_17 : decode cX8_meetsBox 17 = .ok (.if_icmp .gt 27, 3) := by decide +kernel
theorem dX8_meetsBox_20 : decode cX8_meetsBox 20 = .ok (.iload_n 3, 1) := by decide +kernel
theorem dX8_meetsBox_21 : decode cX8_meetsBox 21 = .ok (.aload_n 0, 1) := by decide +kernel
theorem dX8_meetsBox_22 : decode cX8_meetsBox 22 = .ok (.getfield 37, 3) := by decide +kernel
theorem dX8_meetsBox_25 : decode cX8_meetsBox 25 = .ok (.iload_n 1, 1) := by decide +kernel
theorem dX8_meetsBox_26 : decode cX8_meetsBox 26 = .ok (.ishr, 1) := by decide +kernel
theorem dX8_meetsBox_27 : decode cX8_meetsBox 27 = .ok (.if_icmp .lt 17, 3) := by decide +kernel
theorem dX8_meetsBox_30 : decode cX8_meetsBox 30 = .ok (.iload_n 3, 1) := by decide +kernel
theorem dX8_meetsBox_31 : decode cX8_meetsBox 31 = .ok (.aload_n 0, 1) := by decide +kernel
theorem dX8_meetsBox_32 : decode cX8_meetsBox 32 = .ok (.getfield 34, 3) := by decide +kernel
theorem dX8_meetsBox_35 : decode cX8_meetsBox 35 = .ok (.iload_n 1, 1) := by decide +kernel
theorem dX8_meetsBox_36 : decode cX8_meetsBox 36 = .ok (.ishr, 1) := by decide +kernel
theorem dX8_meetsBox_37 : decode cX8_meetsBox 37 = .ok (.if_icmp .gt 7, 3) := by decide +kernel
theorem dX8_meetsBox_40 : decode cX8_meetsBox 40 = .ok (.iconst 1, 1) := by decide +kernel
theorem dX8_meetsBox_41 : decode cX8_meetsBox 41 = .ok (.goto 4, 3) := by decide +kernel
theorem dX8_meetsBox_44 : decode cX8_meetsBox 44 = .ok (.iconst 0, 1) := by decide +kernel
theorem dX8_meetsBox_45 : decode cX8_meetsBox 45 = .ok (.ireturn, 1) := by decide +kernel
theorem dX8_leavesEmptyOnes_0 : decode cX8_leavesEmptyOnes 0 = .ok (.sipush 256, 3) := by decide +kernel
theorem dX8_leavesEmptyOnes_3 : decode cX8_leavesEmptyOnes 3 = .ok (.iload_n 1, 1) := by decide +kernel
theorem dX8_leavesEmptyOnes_4 : decode cX8_leavesEmptyOnes 4 = .ok (.ishr, 1) := by decide +kernel
theorem dX8_leavesEmptyOnes_5 : decode cX8_leavesEmptyOnes 5 = .ok (.istore_n 2, 1) := by decide +kernel
theorem dX8_leavesEmptyOnes_6 : decode cX8_leavesEmptyOnes 6 = .ok (.aload_n 0, 1) := by decide +kernel
theorem dX8_leavesEmptyOnes_7 : decode cX8_leavesEmptyOnes 7 = .ok (.iload_n 1, 1) := by decide +kernel
theorem dX8_leavesEmptyOnes_8 : decode cX8_leavesEmptyOnes 8 = .ok (.invokestatic 46, 3) := by decide +kernel
theorem dX8_leavesEmptyOnes_11 : decode cX8_leavesEmptyOnes 11 = .ok (.iload_n 2, 1) := by decide +kernel
theorem dX8_leavesEmptyOnes_12 : decode cX8_leavesEmptyOnes 12 = .ok (.iload_n 2, 1) := by decide +kernel
theorem dX8_leavesEmptyOnes_13 : decode cX8_leavesEmptyOnes 13 = .ok (.imul, 1) := by decide +kernel
theorem dX8_leavesEmptyOnes_14 : decode cX8_leavesEmptyOnes 14 = .ok (.if_icmp .ge 7, 3) := by decide +kernel
theorem dX8_leavesEmptyOnes_17 : decode cX8_leavesEmptyOnes 17 = .ok (.iconst 1, 1) := by decide +kernel
theorem dX8_leavesEmptyOnes_18 : decode cX8_leavesEmptyOnes 18 = .ok (.goto 4, 3) := by decide +kernel
theorem dX8_leavesEmptyOnes_21 : decode cX8_leavesEmptyOnes 21 = .ok (.iconst 0, 1) := by decide +kernel
theorem dX8_leavesEmptyOnes_22 : decode cX8_leavesEmptyOnes 22 = .ok (.ireturn, 1) := by decide +kernel
theorem dX8_differentPairs_0 : decode cX8_differentPairs 0 = .ok (.aload_n 0, 1) := by decide +kernel
theorem dX8_differentPairs_1 : decode cX8_differentPairs 1 = .ok (.iconst 1, 1) := by decide +kernel
theorem dX8_differentPairs_2 : decode cX8_differentPairs 2 = .ok (.invokestatic 49, 3) := by decide +kernel
theorem dX8_differentPairs_5 : decode cX8_differentPairs 5 = .ok (.ifCond .eq 7, 3) := by decide +kernel
theorem dX8_differentPairs_8 : decode cX8_differentPairs 8 = .ok (.iconst 1, 1) := by decide +kernel
theorem dX8_differentPairs_9 : decode cX8_differentPairs 9 = .ok (.goto 4, 3) := by decide +kernel
theorem dX8_differentPairs_12 : decode cX8_differentPairs 12 = .ok (.iconst 0, 1) := by decide +kernel
theorem dX8_differentPairs_13 : decode cX8_differentPairs 13 = .ok (.istore_n 1, 1) := by decide +kernel
theorem dX8_differentPairs_14 : decode cX8_differentPairs 14 = .ok (.aload_n 0, 1) := by decide +kernel
theorem dX8_differentPairs_15 : decode cX8_differentPairs 15 = .ok (.getfield 43, 3) := by decide +kernel
theorem dX8_differentPairs_18 : decode cX8_differentPairs 18 = .ok (.iconst 1, 1) := by decide +kernel
theorem dX8_differentPairs_19 : decode cX8_differentPairs 19 = .ok (.ishr, 1) := by decide +kernel
theorem dX8_differentPairs_20 : decode cX8_differentPairs 20 = .ok (.istore_n 2, 1) := by decide +kernel
theorem dX8_differentPairs_21 : decode cX8_differentPairs 21 = .ok (.iload_n 2, 1) := by decide +kernel
theorem dX8_differentPairs_22 : decode cX8_differentPairs 22 = .ok (.aload_n 0, 1) := by decide +kernel
theorem dX8_differentPairs_23 : decode cX8_differentPairs 23 = .ok (.getfield 40, 3) := by decide +kernel
theorem dX8_differentPairs_26 : decode cX8_differentPairs 26 = .ok (.iconst 1, 1) := by decide +kernel
theorem dX8_differentPairs_27 : decode cX8_differentPairs 27 = .ok (.ishr, 1) := by decide +kernel
theorem dX8_differentPairs_28 : decode cX8_differentPairs 28 = .ok (.if_icmp .gt 79, 3) := by decide +kernel
theorem dX8_differentPairs_31 : decode cX8_differentPairs 31 = .ok (.aload_n 0, 1) := by decide +kernel
theorem dX8_differentPairs_32 : decode cX8_differentPairs 32 = .ok (.getfield 37, 3) := by decide +kernel
theorem dX8_differentPairs_35 : decode cX8_differentPairs 35 = .ok (.iconst 1, 1) := by decide +kernel
theorem dX8_differentPairs_36 : decode cX8_differentPairs 36 = .ok (.ishr, 1) := by decide +kernel
theorem dX8_differentPairs_37 : decode cX8_differentPairs 37 = .ok (.istore_n 3, 1) := by decide +kernel
theorem dX8_differentPairs_38 : decode cX8_differentPairs 38 = .ok (.iload_n 3, 1) := by decide +kernel
theorem dX8_differentPairs_39 : decode cX8_differentPairs 39 = .ok (.aload_n 0, 1) := by decide +kernel
theorem dX8_differentPairs_40 : decode cX8_differentPairs 40 = .ok (.getfield 34, 3) := by decide +kernel
theorem dX8_differentPairs_43 : decode cX8_differentPairs 43 = .ok (.iconst 1, 1) := by decide +kernel
theorem dX8_differentPairs_44 : decode cX8_differentPairs 44 = .ok (.ishr, 1) := by decide +kernel
theorem dX8_differentPairs_45 : decode cX8_differentPairs 45 = .ok (.if_icmp .gt 56, 3) := by decide +kernel
theorem dX8_differentPairs_48 : decode cX8_differentPairs 48 = .ok (.aload_n 0, 1) := by decide +kernel
theorem dX8_differentPairs_49 : decode cX8_differentPairs 49 = .ok (.iconst 2, 1) := by decide +kernel
theorem dX8_differentPairs_50 : decode cX8_differentPairs 50 = .ok (.iload_n 3, 1) := by decide +kernel
theorem dX8_differentPairs_51 : decode cX8_differentPairs 51 = .ok (.imul, 1) := by decide +kernel
theorem dX8_differentPairs_52 : decode cX8_differentPairs 52 = .ok (.iconst 2, 1) := by decide +kernel
theorem dX8_differentPairs_53 : decode cX8_differentPairs 53 = .ok (.iload_n 2, 1) := by decide +kernel
theorem dX8_differentPairs_54 : decode cX8_differentPairs 54 = .ok (.imul, 1) := by decide +kernel
theorem dX8_differentPairs_55 : decode cX8_differentPairs 55 = .ok (.invokevirtual 53, 3) := by decide +kernel
theorem dX8_differentPairs_58 : decode cX8_differentPairs 58 = .ok (.ldc2_w 57, 3) := by decide +kernel
theorem dX8_differentPairs_61 : decode cX8_differentPairs 61 = .ok (.land, 1) := by decide +kernel
theorem dX8_differentPairs_62 : decode cX8_differentPairs 62 = .ok (.lstore 4, 2) := by decide +kernel
theorem dX8_differentPairs_64 : decode cX8_differentPairs 64 = .ok (.aload_n 0, 1) := by decide +kernel
theorem dX8_differentPairs_65 : decode cX8_differentPairs 65 = .ok (.iconst 2, 1) := by decide +kernel
theorem dX8_differentPairs_66 : decode cX8_differentPairs 66 = .ok (.iload_n 3, 1) := by decide +kernel
theorem dX8_differentPairs_67 : decode cX8_differentPairs 67 = .ok (.imul, 1) := by decide +kernel
theorem dX8_differentPairs_68 : decode cX8_differentPairs 68 = .ok (.iconst 2, 1) := by decide +kernel
theorem dX8_differentPairs_69 : decode cX8_differentPairs 69 = .ok (.iload_n 2, 1) := by decide +kernel
theorem dX8_differentPairs_70 : decode cX8_differentPairs 70 = .ok (.imul, 1) := by decide +kernel
theorem dX8_differentPairs_71 : decode cX8_differentPairs 71 = .ok (.iconst 1, 1) := by decide +kernel
theorem dX8_differentPairs_72 : decode cX8_differentPairs 72 = .ok (.iadd, 1) := by decide +kernel
theorem dX8_differentPairs_73 : decode cX8_differentPairs 73 = .ok (.invokevirtual 53, 3) := by decide +kernel
theorem dX8_differentPairs_76 : decode cX8_differentPairs 76 = .ok (.ldc2_w 57, 3) := by decide +kernel
theorem dX8_differentPairs_79 : decode cX8_differentPairs 79 = .ok (.land, 1) := by decide +kernel
theorem dX8_differentPairs_80 : decode cX8_differentPairs 80 = .ok (.lstore 6, 2) := by decide +kernel
theorem dX8_differentPairs_82 : decode cX8_differentPairs 82 = .ok (.iload_n 1, 1) := by decide +kernel
theorem dX8_differentPairs_83 : decode cX8_differentPairs 83 = .ok (.iconst 1, 1) := by decide +kernel
theorem dX8_differentPairs_84 : decode cX8_differentPairs 84 = .ok (.lload 4, 2) := by decide +kernel
theorem dX8_differentPairs_86 : decode cX8_differentPairs 86 = .ok (.lload 6, 2) := by decide +kernel
theorem dX8_differentPairs_88 : decode cX8_differentPairs 88 = .ok (.iconst 2, 1) := by decide +kernel
theorem dX8_differentPairs_89 : decode cX8_differentPairs 89 = .ok (.lshl, 1) := by decide +kernel
theorem dX8_differentPairs_90 : decode cX8_differentPairs 90 = .ok (.lor, 1) := by decide +kernel
theorem dX8_differentPairs_91 : decode cX8_differentPairs 91 = .ok (.l2i, 1) := by decide +kernel
theorem dX8_differentPairs_92 : decode cX8_differentPairs 92 = .ok (.ishl, 1) := by decide +kernel
theorem dX8_differentPairs_93 : decode cX8_differentPairs 93 = .ok (.ior, 1) := by decide +kernel
theorem dX8_differentPairs_94 : decode cX8_differentPairs 94 = .ok (.istore_n 1, 1) := by decide +kernel
theorem dX8_differentPairs_95 : decode cX8_differentPairs 95 = .ok (.iinc 3 1, 3) := by decide +kernel
theorem dX8_differentPairs_98 : decode cX8_differentPairs 98 = .ok (.goto (-60), 3) := by decide +kernel
theorem dX8_differentPairs_101 : decode cX8_differentPairs 101 = .ok (.iinc 2 1, 3) := by decide +kernel
theorem dX8_differentPairs_104 : decode cX8_differentPairs 104 = .ok (.goto (-83), 3) := by decide +kernel
theorem dX8_differentPairs_107 : decode cX8_differentPairs 107 = .ok (.iload_n 1, 1) := by decide +kernel
theorem dX8_differentPairs_108 : decode cX8_differentPairs 108 = .ok (.invokestatic 59, 3) := by decide +kernel
theorem dX8_differentPairs_111 : decode cX8_differentPairs 111 = .ok (.ireturn, 1) := by decide +kernel
theorem dX8_differentOfSide_0 : decode cX8_differentOfSide 0 = .ok (.aload_n 0, 1) := by decide +kernel
theorem dX8_differentOfSide_1 : decode cX8_differentOfSide 1 = .ok (.aload_n 1, 1) := by decide +kernel
theorem dX8_differentOfSide_2 : decode cX8_differentOfSide 2 = .ok (.iload_n 2, 1) := by decide +kernel
theorem dX8_differentOfSide_3 : decode cX8_differentOfSide 3 = .ok (.invokestatic 49, 3) := by decide +kernel
theorem dX8_differentOfSide_6 : decode cX8_differentOfSide 6 = .ok (.putfield 65, 3) := by decide +kernel
theorem dX8_differentOfSide_9 : decode cX8_differentOfSide 9 = .ok (.aload_n 0, 1) := by decide +kernel
theorem dX8_differentOfSide_10 : decode cX8_differentOfSide 10 = .ok (.aload_n 1, 1) := by decide +kernel
theorem dX8_differentOfSide_11 : decode cX8_differentOfSide 11 = .ok (.iload_n 2, 1) := by decide +kernel
theorem dX8_differentOfSide_12 : decode cX8_differentOfSide 12 = .ok (.invokestatic 46, 3) := by decide +kernel
theorem dX8_differentOfSide_15 : decode cX8_differentOfSide 15 = .ok (.invokevirtual 69, 3) := by decide +kernel
theorem dX8_differentOfSide_18 : decode cX8_differentOfSide 18 = .ok (.aload_n 1, 1) := by decide +kernel
theorem dX8_differentOfSide_19 : decode cX8_differentOfSide 19 = .ok (.getfield 43, 3) := by decide +kernel
theorem dX8_differentOfSide_22 : decode cX8_differentOfSide 22 = .ok (.iload_n 2, 1) := by decide +kernel
theorem dX8_differentOfSide_23 : decode cX8_differentOfSide 23 = .ok (.ishr, 1) := by decide +kernel
theorem dX8_differentOfSide_24 : decode cX8_differentOfSide 24 = .ok (.istore_n 3, 1) := by decide +kernel
theorem dX8_differentOfSide_25 : decode cX8_differentOfSide 25 = .ok (.iload_n 3, 1) := by decide +kernel
theorem dX8_differentOfSide_26 : decode cX8_differentOfSide 26 = .ok (.aload_n 1, 1) := by decide +kernel
theorem dX8_differentOfSide_27 : decode cX8_differentOfSide 27 = .ok (.getfield 40, 3) := by decide +kernel
theorem dX8_differentOfSide_30 : decode cX8_differentOfSide 30 = .ok (.iload_n 2, 1) := by decide +kernel
theorem dX8_differentOfSide_31 : decode cX8_differentOfSide 31 = .ok (.ishr, 1) := by decide +kernel
theorem dX8_differentOfSide_32 : decode cX8_differentOfSide 32 = .ok (.if_icmp .gt 93, 3) := by decide +kernel
theorem dX8_differentOfSide_35 : decode cX8_differentOfSide 35 = .ok (.iload_n 3, 1) := by decide +kernel
theorem dX8_differentOfSide_36 : decode cX8_differentOfSide 36 = .ok (.bipush 64, 2) := by decide +kernel
theorem dX8_differentOfSide_38 : decode cX8_differentOfSide 38 = .ok (.if_icmp .ge 87, 3) := by decide +kernel
theorem dX8_differentOfSide_41 : decode cX8_differentOfSide 41 = .ok (.aload_n 1, 1) := by decide +kernel
theorem dX8_differentOfSide_42 : decode cX8_differentOfSide 42 = .ok (.getfield 37, 3) := by decide +kernel
theorem dX8_differentOfSide_45 : decode cX8_differentOfSide 45 = .ok (.iload_n 2, 1) := by decide +kernel
theorem dX8_differentOfSide_46 : decode cX8_differentOfSide 46 = .ok (.ishr, 1) := by decide +kernel
theorem dX8_differentOfSide_47 : decode cX8_differentOfSide 47 = .ok (.istore 4, 2) := by decide +kernel
theorem dX8_differentOfSide_49 : decode cX8_differentOfSide 49 = .ok (.iload 4, 2) := by decide +kernel
theorem dX8_differentOfSide_51 : decode cX8_differentOfSide 51 = .ok (.aload_n 1, 1) := by decide +kernel
theorem dX8_differentOfSide_52 : decode cX8_differentOfSide 52 = .ok (.getfield 34, 3) := by decide +kernel
theorem dX8_differentOfSide_55 : decode cX8_differentOfSide 55 = .ok (.iload_n 2, 1) := by decide +kernel
theorem dX8_differentOfSide_56 : decode cX8_differentOfSide 56 = .ok (.ishr, 1) := by decide +kernel
theorem dX8_differentOfSide_57 : decode cX8_differentOfSide 57 = .ok (.if_icmp .gt 62, 3) := by decide +kernel
theorem dX8_differentOfSide_60 : decode cX8_differentOfSide 60 = .ok (.iload 4, 2) := by decide +kernel
theorem dX8_differentOfSide_62 : decode cX8_differentOfSide 62 = .ok (.bipush 64, 2) := by decide +kernel
theorem dX8_differentOfSide_64 : decode cX8_differentOfSide 64 = .ok (.if_icmp .ge 55, 3) := by decide +kernel
theorem dX8_differentOfSide_67 : decode cX8_differentOfSide 67 = .ok (.iload_n 2, 1) := by decide +kernel
theorem dX8_differentOfSide_68 : decode cX8_differentOfSide 68 = .ok (.iconst 2, 1) := by decide +kernel
theorem dX8_differentOfSide_69 : decode cX8_differentOfSide 69 = .ok (.if_icmp .ne 13, 3) := by decide +kernel
theorem dX8_differentOfSide_72 : decode cX8_differentOfSide 72 = .ok (.aload_n 1, 1) := by decide +kernel
theorem dX8_differentOfSide_73 : decode cX8_differentOfSide 73 = .ok (.iload_n 3, 1) := by decide +kernel
theorem dX8_differentOfSide_74 : decode cX8_differentOfSide 74 = .ok (.iload 4, 2) := by decide +kernel
theorem dX8_differentOfSide_76 : decode cX8_differentOfSide 76 = .ok (.invokestatic 73, 3) := by decide +kernel
theorem dX8_differentOfSide_79 : decode cX8_differentOfSide 79 = .ok (.goto 14, 3) := by decide +kernel
theorem dX8_differentOfSide_82 : decode cX8_differentOfSide 82 = .ok (.aload_n 0, 1) := by decide +kernel
theorem dX8_differentOfSide_83 : decode cX8_differentOfSide 83 = .ok (.aload_n 1, 1) := by decide +kernel
theorem dX8_differentOfSide_84 : decode cX8_differentOfSide 84 = .ok (.iload_n 2, 1) := by decide +kernel
theorem dX8_differentOfSide_85 : decode cX8_differentOfSide 85 = .ok (.iconst 1, 1) := by decide +kernel
theorem dX8_differentOfSide_86 : decode cX8_differentOfSide 86 = .ok (.isub, 1) := by decide +kernel
theorem dX8_differentOfSide_87 : decode cX8_differentOfSide 87 = .ok (.iload_n 3, 1) := by decide +kernel
theorem dX8_differentOfSide_88 : decode cX8_differentOfSide 88 = .ok (.iload 4, 2) := by decide +kernel
theorem dX8_differentOfSide_90 : decode cX8_differentOfSide 90 = .ok (.invokevirtual 77, 3) := by decide +kernel
theorem dX8_differentOfSide_93 : decode cX8_differentOfSide 93 = .ok (.lstore 5, 2) := by decide +kernel
theorem dX8_differentOfSide_95 : decode cX8_differentOfSide 95 = .ok (.aload_n 0, 1) := by decide +kernel
theorem dX8_differentOfSide_96 : decode cX8_differentOfSide 96 = .ok (.getfield 9, 3) := by decide +kernel
theorem dX8_differentOfSide_99 : decode cX8_differentOfSide 99 = .ok (.iload_n 3, 1) := by decide +kernel
theorem dX8_differentOfSide_100 : decode cX8_differentOfSide 100 = .ok (.bipush 64, 2) := by decide +kernel
theorem dX8_differentOfSide_102 : decode cX8_differentOfSide 102 = .ok (.imul, 1) := by decide +kernel
theorem dX8_differentOfSide_103 : decode cX8_differentOfSide 103 = .ok (.iload 4, 2) := by decide +kernel
theorem dX8_differentOfSide_105 : decode cX8_differentOfSide 105 = .ok (.iadd, 1) := by decide +kernel
theorem dX8_differentOfSide_106 : decode cX8_differentOfSide 106 = .ok (.aload_n 0, 1) := by decide +kernel
theorem dX8_differentOfSide_107 : decode cX8_differentOfSide 107 = .ok (.lload 5, 2) := by decide +kernel
theorem dX8_differentOfSide_109 : decode cX8_differentOfSide 109 = .ok (.invokevirtual 81, 3) := by decide +kernel
theorem dX8_differentOfSide_112 : decode cX8_differentOfSide 112 = .ok (.iastore, 1) := by decide +kernel
theorem dX8_differentOfSide_113 : decode cX8_differentOfSide 113 = .ok (.iinc 4 1, 3) := by decide +kernel
theorem dX8_differentOfSide_116 : decode cX8_differentOfSide 116 = .ok (.goto (-67), 3) := by decide +kernel
theorem dX8_differentOfSide_119 : decode cX8_differentOfSide 119 = .ok (.iinc 3 1, 3) := by decide +kernel
theorem dX8_differentOfSide_122 : decode cX8_differentOfSide 122 = .ok (.goto (-97), 3) := by decide +kernel
theorem dX8_differentOfSide_125 : decode cX8_differentOfSide 125 = .ok (.aload_n 0, 1) := by decide +kernel
theorem dX8_differentOfSide_126 : decode cX8_differentOfSide 126 = .ok (.getfield 85, 3) := by decide +kernel
theorem dX8_differentOfSide_129 : decode cX8_differentOfSide 129 = .ok (.aload_n 0, 1) := by decide +kernel
theorem dX8_differentOfSide_130 : decode cX8_differentOfSide 130 = .ok (.getfield 65, 3) := by decide +kernel
theorem dX8_differentOfSide_133 : decode cX8_differentOfSide 133 = .ok (.ifCond .eq 7, 3) := by decide +kernel
theorem dX8_differentOfSide_136 : decode cX8_differentOfSide 136 = .ok (.iconst 1, 1) := by decide +kernel
theorem dX8_differentOfSide_137 : decode cX8_differentOfSide 137 = .ok (.goto 4, 3) := by decide +kernel
theorem dX8_differentOfSide_140 : decode cX8_differentOfSide 140 = .ok (.iconst 0, 1) := by decide +kernel
theorem dX8_differentOfSide_141 : decode cX8_differentOfSide 141 = .ok (.iadd, 1) := by decide +kernel
theorem dX8_differentOfSide_142 : decode cX8_differentOfSide 142 = .ok (.ireturn, 1) := by decide +kernel
theorem dX8_keyOfCells_0 : decode cX8_keyOfCells 0 = .ok (.lconst 0, 1) := by decide +kernel
theorem dX8_keyOfCells_1 : decode cX8_keyOfCells 1 = .ok (.lstore_n 3, 1) := by decide +kernel
theorem dX8_keyOfCells_2 : decode cX8_keyOfCells 2 = .ok (.iconst 0, 1) := by decide +kernel
theorem dX8_keyOfCells_3 : decode cX8_keyOfCells 3 = .ok (.istore 5, 2) := by decide +kernel
theorem dX8_keyOfCells_5 : decode cX8_keyOfCells 5 = .ok (.iload 5, 2) := by decide +kernel
theorem dX8_keyOfCells_7 : decode cX8_keyOfCells 7 = .ok (.iconst 4, 1) := by decide +kernel
theorem dX8_keyOfCells_8 : decode cX8_keyOfCells 8 = .ok (.if_icmp .ge 31, 3) := by decide +kernel
theorem dX8_keyOfCells_11 : decode cX8_keyOfCells 11 = .ok (.lload_n 3, 1) := by decide +kernel
theorem dX8_keyOfCells_12 : decode cX8_keyOfCells 12 = .ok (.iconst 4, 1) := by decide +kernel
theorem dX8_keyOfCells_13 : decode cX8_keyOfCells 13 = .ok (.lshl, 1) := by decide +kernel
theorem dX8_keyOfCells_14 : decode cX8_keyOfCells 14 = .ok (.aload_n 0, 1) := by decide +kernel
theorem dX8_keyOfCells_15 : decode cX8_keyOfCells 15 = .ok (.iconst 4, 1) := by decide +kernel
theorem dX8_keyOfCells_16 : decode cX8_keyOfCells 16 = .ok (.iload_n 2, 1) := by decide +kernel
theorem dX8_keyOfCells_17 : decode cX8_keyOfCells 17 = .ok (.imul, 1) := by decide +kernel
theorem dX8_keyOfCells_18 : decode cX8_keyOfCells 18 = .ok (.iconst 4, 1) := by decide +kernel
theorem dX8_keyOfCells_19 : decode cX8_keyOfCells 19 = .ok (.iload_n 1, 1) := by decide +kernel
theorem dX8_keyOfCells_20 : decode cX8_keyOfCells 20 = .ok (.imul, 1) := by decide +kernel
theorem dX8_keyOfCells_21 : decode cX8_keyOfCells 21 = .ok (.iload 5, 2) := by decide +kernel
theorem dX8_keyOfCells_23 : decode cX8_keyOfCells 23 = .ok (.iadd, 1) := by decide +kernel
theorem dX8_keyOfCells_24 : decode cX8_keyOfCells 24 = .ok (.invokevirtual 53, 3) := by decide +kernel
theorem dX8_keyOfCells_27 : decode cX8_keyOfCells 27 = .ok (.ldc2_w 88, 3) := by decide +kernel
theorem dX8_keyOfCells_30 : decode cX8_keyOfCells 30 = .ok (.land, 1) := by decide +kernel
theorem dX8_keyOfCells_31 : decode cX8_keyOfCells 31 = .ok (.lor, 1) := by decide +kernel
theorem dX8_keyOfCells_32 : decode cX8_keyOfCells 32 = .ok (.lstore_n 3, 1) := by decide +kernel
theorem dX8_keyOfCells_33 : decode cX8_keyOfCells 33 = .ok (.iinc 5 1, 3) := by decide +kernel
theorem dX8_keyOfCells_36 : decode cX8_keyOfCells 36 = .ok (.goto (-31), 3) := by decide +kernel
theorem dX8_keyOfCells_39 : decode cX8_keyOfCells 39 = .ok (.lload_n 3, 1) := by decide +kernel
theorem dX8_keyOfCells_40 : decode cX8_keyOfCells 40 = .ok (.lreturn, 1) := by decide +kernel
theorem dX8_keyOfParts_0 : decode cX8_keyOfParts 0 = .ok (.lconst 0, 1) := by decide +kernel
theorem dX8_keyOfParts_1 : decode cX8_keyOfParts 1 = .ok (.lstore 5, 2) := by decide +kernel
theorem dX8_keyOfParts_3 : decode cX8_keyOfParts 3 = .ok (.iconst 0, 1) := by decide +kernel
theorem dX8_keyOfParts_4 : decode cX8_keyOfParts 4 = .ok (.istore 7, 2) := by decide +kernel
theorem dX8_keyOfParts_6 : decode cX8_keyOfParts 6 = .ok (.iload 7, 2) := by decide +kernel
theorem dX8_keyOfParts_8 : decode cX8_keyOfParts 8 = .ok (.iconst 4, 1) := by decide +kernel
theorem dX8_keyOfParts_9 : decode cX8_keyOfParts 9 = .ok (.if_icmp .ge 41, 3) := by decide +kernel
theorem dX8_keyOfParts_12 : decode cX8_keyOfParts 12 = .ok (.lload 5, 2) := by decide +kernel
theorem dX8_keyOfParts_14 : decode cX8_keyOfParts 14 = .ok (.bipush 13, 2) := by decide +kernel
theorem dX8_keyOfParts_16 : decode cX8_keyOfParts 16 = .ok (.lshl, 1) := by decide +kernel
theorem dX8_keyOfParts_17 : decode cX8_keyOfParts 17 = .ok (.aload_n 0, 1) := by decide +kernel
theorem dX8_keyOfParts_18 : decode cX8_keyOfParts 18 = .ok (.aload_n 1, 1) := by decide +kernel
theorem dX8_keyOfParts_19 : decode cX8_keyOfParts 19 = .ok (.iload_n 2, 1) := by decide +kernel
theorem dX8_keyOfParts_20 : decode cX8_keyOfParts 20 = .ok (.iconst 2, 1) := by decide +kernel
theorem dX8_keyOfParts_21 : decode cX8_keyOfParts 21 = .ok (.iload_n 3, 1) := by decide +kernel
theorem dX8_keyOfParts_22 : decode cX8_keyOfParts 22 = .ok (.imul, 1) := by decide +kernel
theorem dX8_keyOfParts_23 : decode cX8_keyOfParts 23 = .ok (.iload 7, 2) := by decide +kernel
theorem dX8_keyOfParts_25 : decode cX8_keyOfParts 25 = .ok (.iconst 1, 1) := by decide +kernel
theorem dX8_keyOfParts_26 : decode cX8_keyOfParts 26 = .ok (.ishr, 1) := by decide +kernel
theorem dX8_keyOfParts_27 : decode cX8_keyOfParts 27 = .ok (.iadd, 1) := by decide +kernel
theorem dX8_keyOfParts_28 : decode cX8_keyOfParts 28 = .ok (.iconst 2, 1) := by decide +kernel
theorem dX8_keyOfParts_29 : decode cX8_keyOfParts 29 = .ok (.iload 4, 2) := by decide +kernel
theorem dX8_keyOfParts_31 : decode cX8_keyOfParts 31 = .ok (.imul, 1) := by decide +kernel
theorem dX8_keyOfParts_32 : decode cX8_keyOfParts 32 = .ok (.iload 7, 2) := by decide +kernel
theorem dX8_keyOfParts_34 : decode cX8_keyOfParts 34 = .ok (.iconst 1, 1) := by decide +kernel
theorem dX8_keyOfParts_35 : decode cX8_keyOfParts 35 = .ok (.iand, 1) := by decide +kernel
theorem dX8_keyOfParts_36 : decode cX8_keyOfParts 36 = .ok (.iadd, 1) := by decide +kernel
theorem dX8_keyOfParts_37 : decode cX8_keyOfParts 37 = .ok (.invokevirtual 90, 3) := by decide +kernel
theorem dX8_keyOfParts_40 : decode cX8_keyOfParts 40 = .ok (.i2l, 1) := by decide +kernel
theorem dX8_keyOfParts_41 : decode cX8_keyOfParts 41 = .ok (.lor, 1) := by decide +kernel
theorem dX8_keyOfParts_42 : decode cX8_keyOfParts 42 = .ok (.lstore 5, 2) := by decide +kernel
theorem dX8_keyOfParts_44 : decode cX8_keyOfParts 44 = .ok (.iinc 7 1, 3) := by decide +kernel
theorem dX8_keyOfParts_47 : decode cX8_keyOfParts 47 = .ok (.goto (-41), 3) := by decide +kernel
theorem dX8_keyOfParts_50 : decode cX8_keyOfParts 50 = .ok (.lload 5, 2) := by decide +kernel
theorem dX8_keyOfParts_52 : decode cX8_keyOfParts 52 = .ok (.lreturn, 1) := by decide +kernel
theorem dX8_nameAt_0 : decode cX8_nameAt 0 = .ok (.iload_n 3, 1) := by decide +kernel
theorem dX8_nameAt_1 : decode cX8_nameAt 1 = .ok (.ifCond .lt 36, 3) := by decide +kernel
theorem dX8_nameAt_4 : decode cX8_nameAt 4 = .ok (.iload_n 3, 1) := by decide +kernel
theorem dX8_nameAt_5 : decode cX8_nameAt 5 = .ok (.bipush 64, 2) := by decide +kernel
theorem dX8_nameAt_7 : decode cX8_nameAt 7 = .ok (.if_icmp .ge 30, 3) := by decide +kernel
theorem dX8_nameAt_10 : decode cX8_nameAt 10 = .ok (.iload 4, 2) := by decide +kernel
theorem dX8_nameAt_12 : decode cX8_nameAt 12 = .ok (.ifCond .lt 25, 3) := by decide +kernel
theorem dX8_nameAt_15 : decode cX8_nameAt 15 = .ok (.iload 4, 2) := by decide +kernel
theorem dX8_nameAt_17 : decode cX8_nameAt 17 = .ok (.bipush 64, 2) := by decide +kernel
theorem dX8_nameAt_19 : decode cX8_nameAt 19 = .ok (.if_icmp .ge 18, 3) := by decide +kernel
theorem dX8_nameAt_22 : decode cX8_nameAt 22 = .ok (.aload_n 1, 1) := by decide +kernel
theorem dX8_nameAt_23 : decode cX8_nameAt 23 = .ok (.iload_n 2, 1) := by decide +kernel
theorem dX8_nameAt_24 : decode cX8_nameAt 24 = .ok (.iload_n 3, 1) := by decide +kernel
theorem dX8_nameAt_25 : decode cX8_nameAt 25 = .ok (.iload 4, 2) := by decide +kernel
theorem dX8_nameAt_27 : decode cX8_nameAt 27 = .ok (.invokestatic 94, 3) := by decide +kernel
theorem dX8_nameAt_30 : decode cX8_nameAt 30 = .ok (.ifCond .eq 7, 3) := by decide +kernel
theorem dX8_nameAt_33 : decode cX8_nameAt 33 = .ok (.iconst 1, 1) := by decide +kernel
theorem dX8_nameAt_34 : decode cX8_nameAt 34 = .ok (.goto 4, 3) := by decide +kernel
theorem dX8_nameAt_37 : decode cX8_nameAt 37 = .ok (.iconst 0, 1) := by decide +kernel
theorem dX8_nameAt_38 : decode cX8_nameAt 38 = .ok (.istore 5, 2) := by decide +kernel
theorem dX8_nameAt_40 : decode cX8_nameAt 40 = .ok (.iload 5, 2) := by decide +kernel
theorem dX8_nameAt_42 : decode cX8_nameAt 42 = .ok (.ifCond .eq 18, 3) := by decide +kernel
theorem dX8_nameAt_45 : decode cX8_nameAt 45 = .ok (.aload_n 0, 1) := by decide +kernel
theorem dX8_nameAt_46 : decode cX8_nameAt 46 = .ok (.getfield 9, 3) := by decide +kernel
theorem dX8_nameAt_49 : decode cX8_nameAt 49 = .ok (.iload_n 3, 1) := by decide +kernel
theorem dX8_nameAt_50 : decode cX8_nameAt 50 = .ok (.bipush 64, 2) := by decide +kernel
theorem dX8_nameAt_52 : decode cX8_nameAt 52 = .ok (.imul, 1) := by decide +kernel
theorem dX8_nameAt_53 : decode cX8_nameAt 53 = .ok (.iload 4, 2) := by decide +kernel
theorem dX8_nameAt_55 : decode cX8_nameAt 55 = .ok (.iadd, 1) := by decide +kernel
theorem dX8_nameAt_56 : decode cX8_nameAt 56 = .ok (.iaload, 1) := by decide +kernel
theorem dX8_nameAt_57 : decode cX8_nameAt 57 = .ok (.goto 4, 3) := by decide +kernel
theorem dX8_nameAt_60 : decode cX8_nameAt 60 = .ok (.iconst 0, 1) := by decide +kernel
theorem dX8_nameAt_61 : decode cX8_nameAt 61 = .ok (.ireturn, 1) := by decide +kernel
theorem dX8_forgetKeys_0 : decode cX8_forgetKeys 0 = .ok (.aload_n 0, 1) := by decide +kernel
theorem dX8_forgetKeys_1 : decode cX8_forgetKeys 1 = .ok (.iconst 0, 1) := by decide +kernel
theorem dX8_forgetKeys_2 : decode cX8_forgetKeys 2 = .ok (.putfield 85, 3) := by decide +kernel
theorem dX8_forgetKeys_5 : decode cX8_forgetKeys 5 = .ok (.aload_n 0, 1) := by decide +kernel
theorem dX8_forgetKeys_6 : decode cX8_forgetKeys 6 = .ok (.iconst 2, 1) := by decide +kernel
theorem dX8_forgetKeys_7 : decode cX8_forgetKeys 7 = .ok (.putfield 98, 3) := by decide +kernel
theorem dX8_forgetKeys_10 : decode cX8_forgetKeys 10 = .ok (.aload_n 0, 1) := by decide +kernel
theorem dX8_forgetKeys_11 : decode cX8_forgetKeys 11 = .ok (.getfield 98, 3) := by decide +kernel
theorem dX8_forgetKeys_14 : decode cX8_forgetKeys 14 = .ok (.sipush 8192, 3) := by decide +kernel
theorem dX8_forgetKeys_17 : decode cX8_forgetKeys 17 = .ok (.if_icmp .ge 26, 3) := by decide +kernel
theorem dX8_forgetKeys_20 : decode cX8_forgetKeys 20 = .ok (.aload_n 0, 1) := by decide +kernel
theorem dX8_forgetKeys_21 : decode cX8_forgetKeys 21 = .ok (.getfield 98, 3) := by decide +kernel
theorem dX8_forgetKeys_24 : decode cX8_forgetKeys 24 = .ok (.iconst 2, 1) := by decide +kernel
theorem dX8_forgetKeys_25 : decode cX8_forgetKeys 25 = .ok (.iload_n 1, 1) := by decide +kernel
theorem dX8_forgetKeys_26 : decode cX8_forgetKeys 26 = .ok (.imul, 1) := by decide +kernel
theorem dX8_forgetKeys_27 : decode cX8_forgetKeys 27 = .ok (.if_icmp .ge 16, 3) := by decide +kernel
theorem dX8_forgetKeys_30 : decode cX8_forgetKeys 30 = .ok (.aload_n 0, 1) := by decide +kernel
theorem dX8_forgetKeys_31 : decode cX8_forgetKeys 31 = .ok (.dup, 1) := by decide +kernel
theorem dX8_forgetKeys_32 : decode cX8_forgetKeys 32 = .ok (.getfield 98, 3) := by decide +kernel
theorem dX8_forgetKeys_35 : decode cX8_forgetKeys 35 = .ok (.iconst 2, 1) := by decide +kernel
theorem dX8_forgetKeys_36 : decode cX8_forgetKeys 36 = .ok (.imul, 1) := by decide +kernel
theorem dX8_forgetKeys_37 : decode cX8_forgetKeys 37 = .ok (.putfield 98, 3) := by decide +kernel
theorem dX8_forgetKeys_40 : decode cX8_forgetKeys 40 = .ok (.goto (-30), 3) := by decide +kernel
theorem dX8_forgetKeys_43 : decode cX8_forgetKeys 43 = .ok (.iconst 0, 1) := by decide +kernel
theorem dX8_forgetKeys_44 : decode cX8_forgetKeys 44 = .ok (.istore_n 2, 1) := by decide +kernel
theorem dX8_forgetKeys_45 : decode cX8_forgetKeys 45 = .ok (.iload_n 2, 1) := by decide +kernel
theorem dX8_forgetKeys_46 : decode cX8_forgetKeys 46 = .ok (.aload_n 0, 1) := by decide +kernel
theorem dX8_forgetKeys_47 : decode cX8_forgetKeys 47 = .ok (.getfield 98, 3) := by decide +kernel
theorem dX8_forgetKeys_50 : decode cX8_forgetKeys 50 = .ok (.if_icmp .ge 16, 3) := by decide +kernel
theorem dX8_forgetKeys_53 : decode cX8_forgetKeys 53 = .ok (.aload_n 0, 1) := by decide +kernel
theorem dX8_forgetKeys_54 : decode cX8_forgetKeys 54 = .ok (.getfield 13, 3) := by decide +kernel
theorem dX8_forgetKeys_57 : decode cX8_forgetKeys 57 = .ok (.iload_n 2, 1) := by decide +kernel
theorem dX8_forgetKeys_58 : decode cX8_forgetKeys 58 = .ok (.lconst 0, 1) := by decide +kernel
theorem dX8_forgetKeys_59 : decode cX8_forgetKeys 59 = .ok (.lastore, 1) := by decide +kernel
theorem dX8_forgetKeys_60 : decode cX8_forgetKeys 60 = .ok (.iinc 2 1, 3) := by decide +kernel
theorem dX8_forgetKeys_63 : decode cX8_forgetKeys 63 = .ok (.goto (-18), 3) := by decide +kernel
theorem dX8_forgetKeys_66 : decode cX8_forgetKeys 66 = .ok (.return_, 1) := by decide +kernel
