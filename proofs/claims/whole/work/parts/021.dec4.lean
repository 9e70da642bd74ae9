theorem dX12_feed_0 : decode cX12_feed 0 = .ok (.aload_n 0, 1) := by decide +kernel
theorem dX12_feed_1 : decode cX12_feed 1 = .ok (.getfield 128, 3) := by decide +kernel
theorem dX12_feed_4 : decode cX12_feed 4 = .ok (.bipush 20, 2) := by decide +kernel
theorem dX12_feed_6 : decode cX12_feed 6 = .ok (.iadd, 1) := by decide +kernel
theorem dX12_feed_7 : decode cX12_feed 7 = .ok (.sipush 2000, 3) := by decide +kernel
theorem dX12_feed_10 : decode cX12_feed 10 = .ok (.if_icmp .le 6, 3) := by decide +kernel
theorem dX12_feed_13 : decode cX12_feed 13 = .ok (.bipush (-3), 2) := by decide +kernel
theorem dX12_feed_15 : decode cX12_feed 15 = .ok (.ireturn, 1) := by decide +kernel
theorem dX12_feed_16 : decode cX12_feed 16 = .ok (.iconst 0, 1) := by decide +kernel
theorem dX12_feed_17 : decode cX12_feed 17 = .ok (.istore 6, 2) := by decide +kernel
theorem dX12_feed_19 : decode cX12_feed 19 = .ok (.iload 6, 2) := by decide +kernel
theorem dX12_feed_21 : decode cX12_feed 21 = .ok (.bipush 20, 2) := by decide +kernel
theorem dX12_feed_23 : decode cX12_feed 23 = .ok (.if_icmp .ge 93, 3) := by decide +kernel
theorem dX12_feed_26 : decode cX12_feed 26 = .ok (.iload 6, 2) := by decide +kernel
theorem dX12_feed_28 : decode cX12_feed 28 = .ok (.iconst 4, 1) := by decide +kernel
theorem dX12_feed_29 : decode cX12_feed 29 = .ok (.if_icmp .ge 7, 3) := by decide +kernel
theorem dX12_feed_32 : decode cX12_feed 32 = .ok (.iload_n 1, 1) := by decide +kernel
theorem dX12_feed_33 : decode cX12_feed 33 = .ok (.goto 39, 3) := by decide +kernel
theorem dX12_feed_36 : decode cX12_feed 36 = .ok (.iload 6, 2) := by decide +kernel
theorem dX12_feed_38 : decode cX12_feed 38 = .ok (.bipush 8, 2) := by decide +kernel
theorem dX12_feed_40 : decode cX12_feed 40 = .ok (.if_icmp .ge 7, 3) := by decide +kernel
theorem dX12_feed_43 : decode cX12_feed 43 = .ok (.iload_n 2, 1) := by decide +kernel
theorem dX12_feed_44 : decode cX12_feed 44 = .ok (.goto 28, 3) := by decide +kernel
theorem dX12_feed_47 : decode cX12_feed 47 = .ok (.iload 6, 2) := by decide +kernel
theorem dX12_feed_49 : decode cX12_feed 49 = .ok (.bipush 12, 2) := by decide +kernel
theorem dX12_feed_51 : decode cX12_feed 51 = .ok (.if_icmp .ge 7, 3) := by decide +kernel
theorem dX12_feed_54 : decode cX12_feed 54 = .ok (.iload_n 3, 1) := by decide +kernel
theorem dX12_feed_55 : decode cX12_feed 55 = .ok (.goto 17, 3) := by decide +kernel
theorem dX12_feed_58 : decode cX12_feed 58 = .ok (.iload 6, 2) := by decide +kernel
theorem dX12_feed_60 : decode cX12_feed 60 = .ok (.bipush 16, 2) := by decide +kernel
theorem dX12_feed_62 : decode cX12_feed 62 = .ok (.if_icmp .ge 8, 3) := by decide +kernel
theorem dX12_feed_65 : decode cX12_feed 65 = .ok (.iload 4, 2) := by decide +kernel
theorem dX12_feed_67 : decode cX12_feed 67 = .ok (.goto 5, 3) := by decide +kernel
theorem dX12_feed_70 : decode cX12_feed 70 = .ok (.iload 5, 2) := by decide +kernel
theorem dX12_feed_72 : decode cX12_feed 72 = .ok (.istore 7, 2) := by decide +kernel
theorem dX12_feed_74 : decode cX12_feed 74 = .ok (.aload_n 0, 1) := by decide +kernel
theorem dX12_feed_75 : decode cX12_feed 75 = .ok (.getfield 7, 3) := by decide +kernel
theorem dX12_feed_78 : decode cX12_feed 78 = .ok (.aload_n 0, 1) := by decide +kernel
theorem dX12_feed_79 : decode cX12_feed 79 = .ok (.getfield 128, 3) := by decide +kernel
theorem dX12_feed_82 : decode cX12_feed 82 = .ok (.iload 7, 2) := by decide +kernel
theorem dX12_feed_84 : decode cX12_feed 84 = .ok (.bipush 24, 2) := by decide +kernel
theorem dX12_feed_86 : decode cX12_feed 86 = .ok (.bipush 8, 2) := by decide +kernel
theorem dX12_feed_88 : decode cX12_feed 88 = .ok (.iload 6, 2) := by decide +kernel
theorem dX12_feed_90 : decode cX12_feed 90 = .ok (.iconst 4, 1) := by decide +kernel
theorem dX12_feed_91 : decode cX12_feed 91 = .ok (.irem, 1) := by decide +kernel
theorem dX12_feed_92 : decode cX12_feed 92 = .ok (.imul, 1) := by decide +kernel
theorem dX12_feed_93 : decode cX12_feed 93 = .ok (.isub, 1) := by decide +kernel
theorem dX12_feed_94 : decode cX12_feed 94 = .ok (.iushr, 1) := by decide +kernel
theorem dX12_feed_95 : decode cX12_feed 95 = .ok (.sipush 255, 3) := by decide +kernel
theorem dX12_feed_98 : decode cX12_feed 98 = .ok (.iand, 1) := by decide +kernel
theorem dX12_feed_99 : decode cX12_feed 99 = .ok (.iastore, 1) := by decide +kernel
theorem dX12_feed_100 : decode cX12_feed 100 = .ok (.aload_n 0, 1) := by decide +kernel
theorem dX12_feed_101 : decode cX12_feed 101 = .ok (.dup, 1) := by decide +kernel
theorem dX12_feed_102 : decode cX12_feed 102 = .ok (.getfield 128, 3) := by decide +kernel
theorem dX12_feed_105 : decode cX12_feed 105 = .ok (.iconst 1, 1) := by decide +kernel
theorem dX12_feed_106 : decode cX12_feed 106 = .ok (.iadd, 1) := by decide +kernel
theorem dX12_feed_107 : decode cX12_feed 107 = .ok (.putfield 128, 3) := by decide +kernel
theorem dX12_feed_110 : decode cX12_feed 110 = .ok (.iinc 6 1, 3) := by decide +kernel
theorem dX12_feed_113 : decode cX12_feed 113 = .ok (.goto (-94), 3) := by decide +kernel
theorem dX12_feed_116 : decode cX12_feed 116 = .ok (.aload_n 0, 1) := by decide +kernel
theorem dX12_feed_117 : decode cX12_feed 117 = .ok (.getfield 128, 3) := by decide +kernel
theorem dX12_feed_120 : decode cX12_feed 120 = .ok (.ireturn, 1) := by decide +kernel
theorem dX12_end_0 : decode cX12_end 0 = .ok (.iload_n 1, 1) := by decide +kernel
theorem dX12_end_1 : decode cX12_end 1 = .ok (.ifCond .lt 11, 3) := by decide +kernel
theorem dX12_end_4 : decode cX12_end 4 = .ok (.iload_n 1, 1) := by decide +kernel
theorem dX12_end_5 : decode cX12_end 5 = .ok (.aload_n 0, 1) := by decide +kernel
theorem dX12_end_6 : decode cX12_end 6 = .ok (.getfield 128, 3) := by decide +kernel
theorem dX12_end_9 : decode cX12_end 9 = .ok (.if_icmp .le 5, 3) := by decide +kernel
theorem dX12_end_12 : decode cX12_end 12 = .ok (.iconst (-1), 1) := by decide +kernel
theorem dX12_end_13 : decode cX12_end 13 = .ok (.ireturn, 1) := by decide +kernel
theorem dX12_end_14 : decode cX12_end 14 = .ok (.aload_n 0, 1) := by decide +kernel
theorem dX12_end_15 : decode cX12_end 15 = .ok (.iload_n 1, 1) := by decide +kernel
theorem dX12_end_16 : decode cX12_end 16 = .ok (.putfield 128, 3) := by decide +kernel
theorem dX12_end_19 : decode cX12_end 19 = .ok (.iload_n 1, 1) := by decide +kernel
theorem dX12_end_20 : decode cX12_end 20 = .ok (.ireturn, 1) := by decide +kernel
theorem dX12_byteAt_0 : decode cX12_byteAt 0 = .ok (.iload_n 1, 1) := by decide +kernel
theorem dX12_byteAt_1 : decode cX12_byteAt 1 = .ok (.aload_n 0, 1) := by decide +kernel
theorem dX12_byteAt_2 : decode cX12_byteAt 2 = .ok (.getfield 128, 3) := by decide +kernel
theorem dX12_byteAt_5 : decode cX12_byteAt 5 = .ok (.if_icmp .ge 12, 3) := by decide +kernel
theorem dX12_byteAt_8 : decode cX12_byteAt 8 = .ok (.aload_n 0, 1) := by decide +kernel
theorem dX12_byteAt_9 : decode cX12_byteAt 9 = .ok (.getfield 7, 3) := by decide +kernel
theorem dX12_byteAt_12 : decode cX12_byteAt 12 = .ok (.iload_n 1, 1) := by decide +kernel
theorem dX12_byteAt_13 : decode cX12_byteAt 13 = .ok (.iaload, 1) := by decide +kernel
theorem dX12_byteAt_14 : decode cX12_byteAt 14 = .ok (.goto 4, 3) := by decide +kernel
theorem dX12_byteAt_17 : decode cX12_byteAt 17 = .ok (.iconst (-1), 1) := by decide +kernel
theorem dX12_byteAt_18 : decode cX12_byteAt 18 = .ok (.ireturn, 1) := by decide +kernel
theorem dX12_readDigits_0 : decode cX12_readDigits 0 = .ok (.aload_n 0, 1) := by decide +kernel
theorem dX12_readDigits_1 : decode cX12_readDigits 1 = .ok (.iconst 0, 1) := by decide +kernel
theorem dX12_readDigits_2 : decode cX12_readDigits 2 = .ok (.putfield 131, 3) := by decide +kernel
theorem dX12_readDigits_5 : decode cX12_readDigits 5 = .ok (.iconst (-1), 1) := by decide +kernel
theorem dX12_readDigits_6 : decode cX12_readDigits 6 = .ok (.istore_n 1, 1) := by decide +kernel
theorem dX12_readDigits_7 : decode cX12_readDigits 7 = .ok (.aload_n 0, 1) := by decide +kernel
theorem dX12_readDigits_8 : decode cX12_readDigits 8 = .ok (.aload_n 0, 1) := by decide +kernel
theorem dX12_readDigits_9 : decode cX12_readDigits 9 = .ok (.getfield 134, 3) := by decide +kernel
theorem dX12_readDigits_12 : decode cX12_readDigits 12 = .ok (.invokevirtual 137, 3) := by decide +kernel
theorem dX12_readDigits_15 : decode cX12_readDigits 15 = .ok (.bipush 48, 2) := by decide +kernel
theorem dX12_readDigits_17 : decode cX12_readDigits 17 = .ok (.iload_n 1, 1) := by decide +kernel
theorem dX12_readDigits_18 : decode cX12_readDigits 18 = .ok (.iadd, 1) := by decide +kernel
theorem dX12_readDigits_19 : decode cX12_readDigits 19 = .ok (.iconst 1, 1) := by decide +kernel
theorem dX12_readDigits_20 : decode cX12_readDigits 20 = .ok (.iadd, 1) := by decide +kernel
theorem dX12_readDigits_21 : decode cX12_readDigits 21 = .ok (.if_icmp .lt 53, 3) := by decide +kernel
theorem dX12_readDigits_24 : decode cX12_readDigits 24 = .ok (.aload_n 0, 1) := by decide +kernel
theorem dX12_readDigits_25 : decode cX12_readDigits 25 = .ok (.aload_n 0, 1) := by decide +kernel
theorem dX12_readDigits_26 : decode cX12_readDigits 26 = .ok (.getfield 134, 3) := by decide +kernel
theorem dX12_readDigits_29 : decode cX12_readDigits 29 = .ok (.invokevirtual 137, 3) := by decide +kernel
theorem dX12_readDigits_32 : decode cX12_readDigits 32 = .ok (.bipush 56, 2) := by decide +kernel
theorem dX12_readDigits_34 : decode cX12_readDigits 34 = .ok (.if_icmp .gt 40, 3) := by decide +kernel
theorem dX12_readDigits_37 : decode cX12_readDigits 37 = .ok (.aload_n 0, 1) := by decide +kernel
theorem dX12_readDigits_38 : decode cX12_readDigits 38 = .ok (.aload_n 0, 1) := by decide +kernel
theorem dX12_readDigits_39 : decode cX12_readDigits 39 = .ok (.getfield 134, 3) := by decide +kernel
theorem dX12_readDigits_42 : decode cX12_readDigits 42 = .ok (.invokevirtual 137, 3) := by decide +kernel
theorem dX12_readDigits_45 : decode cX12_readDigits 45 = .ok (.bipush 48, 2) := by decide +kernel
theorem dX12_readDigits_47 : decode cX12_readDigits 47 = .ok (.isub, 1) := by decide +kernel
theorem dX12_readDigits_48 : decode cX12_readDigits 48 = .ok (.istore_n 1, 1) := by decide +kernel
theorem dX12_readDigits_49 : decode cX12_readDigits 49 = .ok (.aload_n 0, 1) := by decide +kernel
theorem dX12_readDigits_50 : decode cX12_readDigits 50 = .ok (.dup, 1) := by decide +kernel
theorem dX12_readDigits_51 : decode cX12_readDigits 51 = .ok (.getfield 131, 3) := by decide +kernel
theorem dX12_readDigits_54 : decode cX12_readDigits 54 = .ok (.iconst 1, 1) := by decide +kernel
theorem dX12_readDigits_55 : decode cX12_readDigits 55 = .ok (.iload_n 1, 1) := by decide +kernel
theorem dX12_readDigits_56 : decode cX12_readDigits 56 = .ok (.ishl, 1) := by decide +kernel
theorem dX12_readDigits_57 : decode cX12_readDigits 57 = .ok (.ior, 1) := by decide +kernel
theorem dX12_readDigits_58 : decode cX12_readDigits 58 = .ok (.putfield 131, 3) := by decide +kernel
theorem dX12_readDigits_61 : decode cX12_readDigits 61 = .ok (.aload_n 0, 1) := by decide +kernel
theorem dX12_readDigits_62 : decode cX12_readDigits 62 = .ok (.dup, 1) := by decide +kernel
theorem dX12_readDigits_63 : decode cX12_readDigits 63 = .ok (.getfield 134, 3) := by decide +kernel
theorem dX12_readDigits_66 : decode cX12_readDigits 66 = .ok (.iconst 1, 1) := by decide +kernel
theorem dX12_readDigits_67 : decode cX12_readDigits 67 = .ok (.iadd, 1) := by decide +kernel
theorem dX12_readDigits_68 : decode cX12_readDigits 68 = .ok (.putfield 134, 3) := by decide +kernel
theorem dX12_readDigits_71 : decode cX12_readDigits 71 = .ok (.goto (-64), 3) := by decide +kernel
theorem dX12_readDigits_74 : decode cX12_readDigits 74 = .ok (.return_, 1) := by decide +kernel
theorem dX12_reads_0 : decode cX12_reads 0 = .ok (.aload_n 0, 1) := by decide +kernel
theorem dX12_reads_1 : decode cX12_reads 1 = .ok (.aload_n 0, 1) := by decide +kernel
theorem dX12_reads_2 : decode cX12_reads 2 = .ok (.getfield 134, 3) := by decide +kernel
theorem dX12_reads_5 : decode cX12_reads 5 = .ok (.invokevirtual 137, 3) := by decide +kernel
theorem dX12_reads_8 : decode cX12_reads 8 = .ok (.iload_n 1, 1) := by decide +kernel
theorem dX12_reads_9 : decode cX12_reads 9 = .ok (.if_icmp .eq 5, 3) := by decide +kernel
theorem dX12_reads_12 : decode cX12_reads 12 = .ok (.iconst 0, 1) := by decide +kernel
theorem dX12_reads_13 : decode cX12_reads 13 = .ok (.ireturn, 1) := by decide +kernel
theorem dX12_reads_14 : decode cX12_reads 14 = .ok (.aload_n 0, 1) := by decide +kernel
theorem dX12_reads_15 : decode cX12_reads 15 = .ok (.dup, 1) := by decide +kernel
theorem dX12_reads_16 : decode cX12_reads 16 = .ok (.getfield 134, 3) := by decide +kernel
theorem dX12_reads_19 : decode cX12_reads 19 = .ok (.iconst 1, 1) := by decide +kernel
theorem dX12_reads_20 : decode cX12_reads 20 = .ok (.iadd, 1) := by decide +kernel
theorem dX12_reads_21 : decode cX12_reads 21 = .ok (.putfield 134, 3) := by decide +kernel
theorem dX12_reads_24 : decode cX12_reads 24 = .ok (.iconst 1, 1) := by decide +kernel
theorem dX12_reads_25 : decode cX12_reads 25 = .ok (.ireturn, 1) := by decide +kernel
theorem dX12_readCounts_0 : decode cX12_readCounts 0 = .ok (.aload_n 0, 1) := by decide +kernel
theorem dX12_readCounts_1 : decode cX12_readCounts 1 = .ok (.bipush 66, 2) := by decide +kernel
theorem dX12_readCounts_3 : decode cX12_readCounts 3 = .ok (.invokevirtual 141, 3) := by decide +kernel
theorem dX12_readCounts_6 : decode cX12_readCounts 6 = .ok (.ifCond .ne 5, 3) := by decide +kernel
theorem dX12_readCounts_9 : decode cX12_readCounts 9 = .ok (.iconst 0, 1) := by decide +kernel
theorem dX12_readCounts_10 : decode cX12_readCounts 10 = .ok (.ireturn, 1) := by decide +kernel
theorem dX12_readCounts_11 : decode cX12_readCounts 11 = .ok (.aload_n 0, 1) := by decide +kernel
theorem dX12_readCounts_12 : decode cX12_readCounts 12 = .ok (.invokevirtual 145, 3) := by decide +kernel
theorem dX12_readCounts_15 : decode cX12_readCounts 15 = .ok (.aload_n 0, 1) := by decide +kernel
theorem dX12_readCounts_16 : decode cX12_readCounts 16 = .ok (.getfield 131, 3) := by decide +kernel
theorem dX12_readCounts_19 : decode cX12_readCounts 19 = .ok (.istore_n 1, 1) := by decide +kernel
theorem dX12_readCounts_20 : decode cX12_readCounts 20 = .ok (.aload_n 0, 1) := by decide +kernel
theorem dX12_readCounts_21 : decode cX12_readCounts 21 = .ok (.bipush 47, 2) := by decide +kernel
theorem dX12_readCounts_23 : decode cX12_readCounts 23 = .ok (.invokevirtual 141, 3) := by decide +kernel
theorem dX12_readCounts_26 : decode cX12_readCounts 26 = .ok (.ifCond .eq 12, 3) := by decide +kernel
theorem dX12_readCounts_29 : decode cX12_readCounts 29 = .ok (.aload_n 0, 1) := by decide +kernel
theorem dX12_readCounts_30 : decode cX12_readCounts 30 = .ok (.bipush 83, 2) := by decide +kernel
theorem dX12_readCounts_32 : decode cX12_readCounts 32 = .ok (.invokevirtual 141, 3) := by decide +kernel
theorem dX12_readCounts_35 : decode cX12_readCounts 35 = .ok (.ifCond .ne 5, 3) := by decide +kernel
theorem dX12_readCounts_38 : decode cX12_readCounts 38 = .ok (.iconst 0, 1) := by decide +kernel
theorem dX12_readCounts_39 : decode cX12_readCounts 39 = .ok (.ireturn, 1) := by decide +kernel
theorem dX12_readCounts_40 : decode cX12_readCounts 40 = .ok (.aload_n 0, 1) := by decide +kernel
theorem dX12_readCounts_41 : decode cX12_readCounts 41 = .ok (.invokevirtual 145, 3) := by decide +kernel
theorem dX12_readCounts_44 : decode cX12_readCounts 44 = .ok (.aload_n 0, 1) := by decide +kernel
theorem dX12_readCounts_45 : decode cX12_readCounts 45 = .ok (.getfield 131, 3) := by decide +kernel
theorem dX12_readCounts_48 : decode cX12_readCounts 48 = .ok (.istore_n 2, 1) := by decide +kernel
theorem dX12_readCounts_49 : decode cX12_readCounts 49 = .ok (.aload_n 0, 1) := by decide +kernel
theorem dX12_readCounts_50 : decode cX12_readCounts 50 = .ok (.bipush 47, 2) := by decide +kernel
theorem dX12_readCounts_52 : decode cX12_readCounts 52 = .ok (.invokevirtual 141, 3) := by decide +kernel
theorem dX12_readCounts_55 : decode cX12_readCounts 55 = .ok (.ifCond .ne 5, 3) := by decide +kernel
theorem dX12_readCounts_58 : decode cX12_readCounts 58 = .ok (.iconst 0, 1) := by decide +kernel
theorem dX12_readCounts_59 : decode cX12_readCounts 59 = .ok (.ireturn, 1) := by decide +kernel
theorem dX12_readCounts_60 : decode cX12_readCounts 60 = .ok (.aload_n 0, 1) := by decide +kernel
theorem dX12_readCounts_61 : decode cX12_readCounts 61 = .ok (.aload_n 0, 1) := by decide +kernel
theorem dX12_readCounts_62 : decode cX12_readCounts 62 = .ok (.getfield 134, 3) := by decide +kernel
theorem dX12_readCounts_65 : decode cX12_readCounts 65 = .ok (.invokevirtual 137, 3) := by decide +kernel
theorem dX12_readCounts_68 : decode cX12_readCounts 68 = .ok (.istore_n 3, 1) := by decide +kernel
theorem dX12_readCounts_69 : decode cX12_readCounts 69 = .ok (.iload_n 3, 1) := by decide +kernel
theorem dX12_readCounts_70 : decode cX12_readCounts 70 = .ok (.bipush 77, 2) := by decide +kernel
theorem dX12_readCounts_72 : decode cX12_readCounts 72 = .ok (.if_icmp .ne 8, 3) := by decide +kernel
theorem dX12_readCounts_75 : decode cX12_readCounts 75 = .ok (.bipush 8, 2) := by decide +kernel
theorem dX12_readCounts_77 : decode cX12_readCounts 77 = .ok (.goto 25, 3) := by decide +kernel
theorem dX12_readCounts_80 : decode cX12_readCounts 80 = .ok (.iload_n 3, 1) := by decide +kernel
theorem dX12_readCounts_81 : decode cX12_readCounts 81 = .ok (.bipush 86, 2) := by decide +kernel
theorem dX12_readCounts_83 : decode cX12_readCounts 83 = .ok (.if_icmp .ne 7, 3) := by decide +kernel
theorem dX12_readCounts_86 : decode cX12_readCounts 86 = .ok (.iconst 4, 1) := by decide +kernel
theorem dX12_readCounts_87 : decode cX12_readCounts 87 = .ok (.goto 15, 3) := by decide +kernel
theorem dX12_readCounts_90 : decode cX12_readCounts 90 = .ok (.iload_n 3, 1) := by decide +kernel
theorem dX12_readCounts_91 : decode cX12_readCounts 91 = .ok (.bipush 88, 2) := by decide +kernel
theorem dX12_readCounts_93 : decode cX12_readCounts 93 = .ok (.if_icmp .ne 8, 3) := by decide +kernel
theorem dX12_readCounts_96 : decode cX12_readCounts 96 = .ok (.bipush 6, 2) := by decide +kernel
theorem dX12_readCounts_98 : decode cX12_readCounts 98 = .ok (.goto 4, 3) := by decide +kernel
theorem dX12_readCounts_101 : decode cX12_readCounts 101 = .ok (.iconst (-1), 1) := by decide +kernel
theorem dX12_readCounts_102 : decode cX12_readCounts 102 = .ok (.istore 4, 2) := by decide +kernel
theorem dX12_readCounts_104 : decode cX12_readCounts 104 = .ok (.iload 4, 2) := by decide +kernel
theorem dX12_readCounts_106 : decode cX12_readCounts 106 = .ok (.ifCond .lt 14, 3) := by decide +kernel
theorem dX12_readCounts_109 : decode cX12_readCounts 109 = .ok (.iload_n 1, 1) := by decide +kernel
theorem dX12_readCounts_110 : decode cX12_readCounts 110 = .ok (.iload_n 2, 1) := by decide +kernel
theorem dX12_readCounts_111 : decode cX12_readCounts 111 = .ok (.ior, 1) := by decide +kernel
theorem dX12_readCounts_112 : decode cX12_readCounts 112 = .ok (.iload 4, 2) := by decide +kernel
theorem dX12_readCounts_114 : decode cX12_readCounts 114 = .ok (.iconst 1, 1) := by decide +kernel
theorem dX12_readCounts_115 : decode cX12_readCounts 115 = .ok (.iadd, 1) := by decide +kernel
theorem dX12_readCounts_116 : decode cX12_readCounts 116 = .ok (.ishr, 1) := by decide +kernel
theorem dX12_readCounts_117 : decode cX12_readCounts 117 = .ok (.ifCond .eq 5, 3) := by decide +kernel
theorem dX12_readCounts_120 : decode cX12_readCounts 120 = .ok (.iconst 0, 1) := by decide +kernel
theorem dX12_readCounts_121 : decode cX12_readCounts 121 = .ok (.ireturn, 1) := by decide +kernel
theorem dX12_readCounts_122 : decode cX12_readCounts 122 = .ok (.aload_n 0, 1) := by decide +kernel
theorem dX12_readCounts_123 : decode cX12_readCounts 123 = .ok (.dup, 1) := by decide +kernel
theorem dX12_readCounts_124 : decode cX12_readCounts 124 = .ok (.getfield 134, 3) := by decide +kernel
theorem dX12_readCounts_127 : decode cX12_readCounts 127 = .ok (.iconst 1, 1) := by decide +kernel
theorem dX12_readCounts_128 : decode cX12_readCounts 128 = .ok (.iadd, 1) := by decide +kernel
theorem dX12_readCounts_129 : decode cX12_readCounts 129 = .ok (.putfield 134, 3) := by decide +kernel
theorem dX12_readCounts_132 : decode cX12_readCounts 132 = .ok (.aload_n 0, 1) := by decide +kernel
theorem dX12_readCounts_133 : decode cX12_readCounts 133 = .ok (.getfield 23, 3) := by decide +kernel
theorem dX12_readCounts_136 : decode cX12_readCounts 136 = .ok (.aload_n 0, 1) := by decide +kernel
theorem dX12_readCounts_137 : decode cX12_readCounts 137 = .ok (.getfield 148, 3) := by decide +kernel
theorem dX12_readCounts_140 : decode cX12_readCounts 140 = .ok (.iload 4, 2) := by decide +kernel
theorem dX12_readCounts_142 : decode cX12_readCounts 142 = .ok (.iastore, 1) := by decide +kernel
theorem dX12_readCounts_143 : decode cX12_readCounts 143 = .ok (.aload_n 0, 1) := by decide +kernel
theorem dX12_readCounts_144 : decode cX12_readCounts 144 = .ok (.getfield 26, 3) := by decide +kernel
theorem dX12_readCounts_147 : decode cX12_readCounts 147 = .ok (.aload_n 0, 1) := by decide +kernel
theorem dX12_readCounts_148 : decode cX12_readCounts 148 = .ok (.getfield 148, 3) := by decide +kernel
theorem dX12_readCounts_151 : decode cX12_readCounts 151 = .ok (.iload_n 1, 1) := by decide +kernel
theorem dX12_readCounts_152 : decode cX12_readCounts 152 = .ok (.iastore, 1) := by decide +kernel
theorem dX12_readCounts_153 : decode cX12_readCounts 153 = .ok (.aload_n 0, 1) := by decide +kernel
theorem dX12_readCounts_154 : decode cX12_readCounts 154 = .ok (.getfield 29, 3) := by decide +kernel
theorem dX12_readCounts_157 : decode cX12_readCounts 157 = .ok (.aload_n 0, 1) := by decide +kernel
theorem dX12_readCounts_158 : decode cX12_readCounts 158 = .ok (.getfield 148, 3) := by decide +kernel
theorem dX12_readCounts_161 : decode cX12_readCounts 161 = .ok (.iload_n 2, 1) := by decide +kernel
theorem dX12_readCounts_162 : decode cX12_readCounts 162 = .ok (.iastore, 1) := by decide +kernel
theorem dX12_readCounts_163 : decode cX12_readCounts 163 = .ok (.aload_n 0, 1) := by decide +kernel
theorem dX12_readCounts_164 : decode cX12_readCounts 164 = .ok (.getfield 20, 3) := by decide +kernel
theorem dX12_readCounts_167 : decode cX12_readCounts 167 = .ok (.aload_n 0, 1) := by decide +kernel
theorem dX12_readCounts_168 : decode cX12_readCounts 168 = .ok (.getfield 148, 3) := by decide +kernel
theorem dX12_readCounts_171 : decode cX12_readCounts 171 = .ok (.iconst 2, 1) := by decide +kernel
theorem dX12_readCounts_172 : decode cX12_readCounts 172 = .ok (.iastore, 1) := by decide +kernel
theorem dX12_readCounts_173 : decode cX12_readCounts 173 = .ok (.aload_n 0, 1) := by decide +kernel
theorem dX12_readCounts_174 : decode cX12_readCounts 174 = .ok (.getfield 134, 3) := by decide +kernel
theorem dX12_readCounts_177 : decode cX12_readCounts 177 = .ok (.aload_n 0, 1) := by decide +kernel
theorem dX12_readCounts_178 : decode cX12_readCounts 178 = .ok (.getfield 128, 3) := by decide +kernel
theorem dX12_readCounts_181 : decode cX12_readCounts 181 = .ok (.if_icmp .ne 7, 3) := by decide +kernel
theorem dX12_readCounts_184 : decode cX12_readCounts 184 = .ok (.iconst 1, 1) := by decide +kernel
theorem dX12_readCounts_185 : decode cX12_readCounts 185 = .ok (.goto 4, 3) := by decide +kernel
theorem dX12_readCounts_188 : decode cX12_readCounts 188 = .ok (.iconst 0, 1) := by decide +kernel
theorem dX12_readCounts_189 : decode cX12_readCounts 189 = .ok (.ireturn, 1) := by decide +kernel
theorem dX12_readBlocks_0 : decode cX12_readBlocks 0 = .ok (.aload_n 0, 1) := by decide +kernel
theorem dX12_readBlocks_1 : decode cX12_readBlocks 1 = .ok (.bipush 75, 2) := by decide +kernel
theorem dX12_readBlocks_3 : decode cX12_readBlocks 3 = .ok (.invokevirtual 141, 3) := by decide +kernel
theorem dX12_readBlocks_6 : decode cX12_readBlocks 6 = .ok (.ifCond .ne 5, 3) := by decide +kernel
theorem dX12_readBlocks_9 : decode cX12_readBlocks 9 = .ok (.iconst 0, 1) := by decide +kernel
theorem dX12_readBlocks_10 : decode cX12_readBlocks 10 = .ok (.ireturn, 1) := by decide +kernel
theorem dX12_readBlocks_11 : decode cX12_readBlocks 11 = .ok (.aload_n 0, 1) := by decide +kernel
theorem dX12_readBlocks_12 : decode cX12_readBlocks 12 = .ok (.aload_n 0, 1) := by decide +kernel
theorem dX12_readBlocks_13 : decode cX12_readBlocks 13 = .ok (.getfield 134, 3) := by decide +kernel
theorem dX12_readBlocks_16 : decode cX12_readBlocks 16 = .ok (.invokevirtual 137, 3) := by decide +kernel
theorem dX12_readBlocks_19 : decode cX12_readBlocks 19 = .ok (.bipush 48, 2) := by decide +kernel
theorem dX12_readBlocks_21 : decode cX12_readBlocks 21 = .ok (.isub, 1) := by decide +kernel
theorem dX12_readBlocks_22 : decode cX12_readBlocks 22 = .ok (.istore_n 1, 1) := by decide +kernel
theorem dX12_readBlocks_23 : decode cX12_readBlocks 23 = .ok (.iload_n 1, 1) := by decide +kernel
theorem dX12_readBlocks_24 : decode cX12_readBlocks 24 = .ok (.iconst 2, 1) := by decide +kernel
theorem dX12_readBlocks_25 : decode cX12_readBlocks 25 = .ok (.if_icmp .lt 8, 3) := by decide +kernel
theorem dX12_readBlocks_28 : decode cX12_readBlocks 28 = .ok (.iload_n 1, 1) := by decide +kernel
theorem dX12_readBlocks_29 : decode cX12_readBlocks 29 = .ok (.iconst 4, 1) := by decide +kernel
theorem dX12_readBlocks_30 : decode cX12_readBlocks 30 = .ok (.if_icmp .le 5, 3) := by decide +kernel
theorem dX12_readBlocks_33 : decode cX12_readBlocks 33 = .ok (.iconst 0, 1) := by decide +kernel
theorem dX12_readBlocks_34 : decode cX12_readBlocks 34 = .ok (.ireturn, 1) := by decide +kernel
theorem dX12_readBlocks_35 : decode cX12_readBlocks 35 = .ok (.aload_n 0, 1) := by decide +kernel
theorem dX12_readBlocks_36 : decode cX12_readBlocks 36 = .ok (.dup, 1) := by decide +kernel
theorem dX12_readBlocks_37 : decode cX12_readBlocks 37 = .ok (.getfield 134, 3) := by decide +kernel
theorem dX12_readBlocks_40 : decode cX12_readBlocks 40 = .ok (.iconst 1, 1) := by decide +kernel
theorem dX12_readBlocks_41 : decode cX12_readBlocks 41 = .ok (.iadd, 1) := by decide +kernel
theorem dX12_readBlocks_42 : decode cX12_readBlocks 42 = .ok (.putfield 134, 3) := by decide +kernel
theorem dX12_readBlocks_45 : decode cX12_readBlocks 45 = .ok (.iconst 0, 1) := by decide +kernel
theorem dX12_readBlocks_46 : decode cX12_readBlocks 46 = .ok (.istore_n 2, 1) := by decide +kernel
theorem dX12_readBlocks_47 : decode cX12_readBlocks 47 = .ok (.iload_n 2, 1) := by decide +kernel
theorem dX12_readBlocks_48 : decode cX12_readBlocks 48 = .ok (.iload_n 1, 1) := by decide +kernel
theorem dX12_readBlocks_49 : decode cX12_readBlocks 49 = .ok (.iload_n 1, 1) := by decide +kernel
theorem dX12_readBlocks_50 : decode cX12_readBlocks 50 = .ok (.imul, 1) := by decide +kernel
theorem dX12_readBlocks_51 : decode cX12_readBlocks 51 = .ok (.iload_n 1, 1) := by decide +kernel
theorem dX12_readBlocks_52 : decode cX12_readBlocks 52 = .ok (.imul, 1) := by decide +kernel
theorem dX12_readBlocks_53 : decode cX12_readBlocks 53 = .ok (.iload_n 1, 1) := by decide +kernel
theorem dX12_readBlocks_54 : decode cX12_readBlocks 54 = .ok (.imul, 1) := by decide +kernel
theorem dX12_readBlocks_55 : decode cX12_readBlocks 55 = .ok (.if_icmp .ge 85, 3) := by decide +kernel
theorem dX12_readBlocks_58 : decode cX12_readBlocks 58 = .ok (.iconst 0, 1) := by decide +kernel
theorem dX12_readBlocks_59 : decode cX12_readBlocks 59 = .ok (.istore_n 3, 1) := by decide +kernel
theorem dX12_readBlocks_60 : decode cX12_readBlocks 60 = .ok (.iconst 0, 1) := by decide +kernel
theorem dX12_readBlocks_61 : decode cX12_readBlocks 61 = .ok (.istore 4, 2) := by decide +kernel
theorem dX12_readBlocks_63 : decode cX12_readBlocks 63 = .ok (.iload 4, 2) := by decide +kernel
theorem dX12_readBlocks_65 : decode cX12_readBlocks 65 = .ok (.iconst 4, 1) := by decide +kernel
theorem dX12_readBlocks_66 : decode cX12_readBlocks 66 = .ok (.if_icmp .ge 52, 3) := by decide +kernel
theorem dX12_readBlocks_69 : decode cX12_readBlocks 69 = .ok (.aload_n 0, 1) := by decide +kernel
theorem dX12_readBlocks_70 : decode cX12_readBlocks 70 = .ok (.aload_n 0, 1) := by decide +kernel
theorem dX12_readBlocks_71 : decode cX12_readBlocks 71 = .ok (.getfield 134, 3) := by decide +kernel
theorem dX12_readBlocks_74 : decode cX12_readBlocks 74 = .ok (.invokevirtual 137, 3) := by decide +kernel
theorem dX12_readBlocks_77 : decode cX12_readBlocks 77 = .ok (.bipush 48, 2) := by decide +kernel
theorem dX12_readBlocks_79 : decode cX12_readBlocks 79 = .ok (.isub, 1) := by decide +kernel
theorem dX12_readBlocks_80 : decode cX12_readBlocks 80 = .ok (.istore 5, 2) := by decide +kernel
theorem dX12_readBlocks_82 : decode cX12_readBlocks 82 = .ok (.iload 5, 2) := by decide +kernel
theorem dX12_readBlocks_84 : decode cX12_readBlocks 84 = .ok (.ifCond .lt 9, 3) := by decide +kernel
theorem dX12_readBlocks_87 : decode cX12_readBlocks 87 = .ok (.iload 5, 2) := by decide +kernel
theorem dX12_readBlocks_89 : decode cX12_readBlocks 89 = .ok (.iload_n 1, 1) := by decide +kernel
theorem dX12_readBlocks_90 : decode cX12_readBlocks 90 = .ok (.if_icmp .lt 5, 3) := by decide +kernel
theorem dX12_readBlocks_93 : decode cX12_readBlocks 93 = .ok (.iconst 0, 1) := by decide +kernel
theorem dX12_readBlocks_94 : decode cX12_readBlocks 94 = .ok (.ireturn, 1) := by decide +kernel
theorem dX12_readBlocks_95 : decode cX12_readBlocks 95 = .ok (.iload_n 3, 1) := by decide +kernel
theorem dX12_readBlocks_96 : decode cX12_readBlocks 96 = .ok (.iload_n 1, 1) := by decide +kernel
theorem dX12_readBlocks_97 : decode cX12_readBlocks 97 = .ok (.imul, 1) := by decide +kernel
theorem dX12_readBlocks_98 : decode cX12_readBlocks 98 = .ok (.iload 5, 2) := by decide +kernel
theorem dX12_readBlocks_100 : decode cX12_readBlocks 100 = .ok (.iadd, 1) := by decide +kernel
theorem dX12_readBlocks_101 : decode cX12_readBlocks 101 = .ok (.istore_n 3, 1) := by decide +kernel
theorem dX12_readBlocks_102 : decode cX12_readBlocks 102 = .ok (.aload_n 0, 1) := by decide +kernel
theorem dX12_readBlocks_103 : decode cX12_readBlocks 103 = .ok (.dup, 1) := by decide +kernel
theorem dX12_readBlocks_104 : decode cX12_readBlocks 104 = .ok (.getfield 134, 3) := by decide +kernel
theorem dX12_readBlocks_107 : decode cX12_readBlocks 107 = .ok (.iconst 1, 1) := by decide +kernel
theorem dX12_readBlocks_108 : decode cX12_readBlocks 108 = .ok (.iadd, 1) := by decide +kernel
theorem dX12_readBlocks_109 : decode cX12_readBlocks 109 = .ok (.putfield 134, 3) := by decide +kernel
theorem dX12_readBlocks_112 : decode cX12_readBlocks 112 = .ok (.iinc 4 1, 3) := by decide +kernel
theorem dX12_readBlocks_115 : decode cX12_readBlocks 115 = .ok (.goto (-52), 3) := by decide +kernel
theorem dX12_readBlocks_118 : decode cX12_readBlocks 118 = .ok (.aload_n 0, 1) := by decide +kernel
theorem dX12_readBlocks_119 : decode cX12_readBlocks 119 = .ok (.getfield 32, 3) := by decide +kernel
theorem dX12_readBlocks_122 : decode cX12_readBlocks 122 = .ok (.sipush 256, 3) := by decide +kernel
theorem dX12_readBlocks_125 : decode cX12_readBlocks 125 = .ok (.aload_n 0, 1) := by decide +kernel
theorem dX12_readBlocks_126 : decode cX12_readBlocks 126 = .ok (.getfield 148, 3) := by decide +kernel
theorem dX12_readBlocks_129 : decode cX12_readBlocks 129 = .ok (.imul, 1) := by decide +kernel
theorem dX12_readBlocks_130 : decode cX12_readBlocks 130 = .ok (.iload_n 2, 1) := by decide +kernel
theorem dX12_readBlocks_131 : decode cX12_readBlocks 131 = .ok (.iadd, 1) := by decide +kernel
theorem dX12_readBlocks_132 : decode cX12_readBlocks 132 = .ok (.iload_n 3, 1) := by decide +kernel
theorem dX12_readBlocks_133 : decode cX12_readBlocks 133 = .ok (.iastore, 1) := by decide +kernel
theorem dX12_readBlocks_134 : decode cX12_readBlocks 134 = .ok (.iinc 2 1, 3) := by decide +kernel
theorem dX12_readBlocks_137 : decode cX12_readBlocks 137 = .ok (.goto (-90), 3) := by decide +kernel
theorem dX12_readBlocks_140 : decode cX12_readBlocks 140 = .ok (.aload_n 0, 1) := by decide +kernel
theorem dX12_readBlocks_141 : decode cX12_readBlocks 141 = .ok (.getfield 23, 3) := by decide +kernel
theorem dX12_readBlocks_144 : decode cX12_readBlocks 144 = .ok (.aload_n 0, 1) := by decide +kernel
theorem dX12_readBlocks_145 : decode cX12_readBlocks 145 = .ok (.getfield 148, 3) := by decide +kernel
theorem dX12_readBlocks_148 : decode cX12_readBlocks 148 = .ok (.iconst 0, 1) := by decide +kernel
theorem dX12_readBlocks_149 : decode cX12_readBlocks 149 = .ok (.iastore, 1) := by decide +kernel
theorem dX12_readBlocks_150 : decode cX12_readBlocks 150 = .ok (.aload_n 0, 1) := by decide +kernel
theorem dX12_readBlocks_151 : decode cX12_readBlocks 151 = .ok (.getfield 20, 3) := by decide +kernel
theorem dX12_readBlocks_154 : decode cX12_readBlocks 154 = .ok (.aload_n 0, 1) := by decide +kernel
theorem dX12_readBlocks_155 : decode cX12_readBlocks 155 = .ok (.getfield 148, 3) := by decide +kernel
theorem dX12_readBlocks_158 : decode cX12_readBlocks 158 = .ok (.iload_n 1, 1) := by decide +kernel
theorem dX12_readBlocks_159 : decode cX12_readBlocks 159 = .ok (.iastore, 1) := by decide +kernel
theorem dX12_readBlocks_160 : decode cX12_readBlocks 160 = .ok (.aload_n 0, 1) := by decide +kernel
theorem dX12_readBlocks_161 : decode cX12_readBlocks 161 = .ok (.getfield 134, 3) := by decide +kernel
theorem dX12_readBlocks_164 : decode cX12_readBlocks 164 = .ok (.aload_n 0, 1) := by decide +kernel
theorem dX12_readBlocks_165 : decode cX12_readBlocks 165 = .ok (.getfield 128, 3) := by decide +kernel
theorem dX12_readBlocks_168 : decode cX12_readBlocks 168 = .ok (.if_icmp .ne 7, 3) := by decide +kernel
theorem dX12_readBlocks_171 : decode cX12_readBlocks 171 = .ok (.iconst 1, 1) := by decide +kernel
theorem dX12_readBlocks_172 : decode cX12_readBlocks 172 = .ok (.goto 4, 3) := by decide +kernel
theorem dX12_readBlocks_175 : decode cX12_readBlocks 175 = .ok (.iconst 0, 1) := by decide +kernel
theorem dX12_readBlocks_176 : decode cX12_readBlocks 176 = .ok (.ireturn, 1) := by decide +kernel
theorem dX12_rule_0 : decode cX12_rule 0 = .ok (.aload_n 0, 1) := by decide +kernel
theorem dX12_rule_1 : decode cX12_rule 1 = .ok (.getfield 128, 3) := by decide +kernel
theorem dX12_rule_4 : decode cX12_rule 4 = .ok (.istore_n 1, 1) := by decide +kernel
theorem dX12_rule_5 : decode cX12_rule 5 = .ok (.bipush (-3), 2) := by decide +kernel
theorem dX12_rule_7 : decode cX12_rule 7 = .ok (.istore_n 2, 1) := by decide +kernel
theorem dX12_rule_8 : decode cX12_rule 8 = .ok (.aload_n 0, 1) := by decide +kernel
theorem dX12_rule_9 : decode cX12_rule 9 = .ok (.getfield 148, 3) := by decide +kernel
theorem dX12_rule_12 : decode cX12_rule 12 = .ok (.bipush 16, 2) := by decide +kernel
theorem dX12_rule_14 : decode cX12_rule 14 = .ok (.if_icmp .ge 112, 3) := by decide +kernel
theorem dX12_rule_17 : decode cX12_rule 17 = .ok (.aload_n 0, 1) := by decide +kernel
theorem dX12_rule_18 : decode cX12_rule 18 = .ok (.iconst 0, 1) := by decide +kernel
theorem dX12_rule_19 : decode cX12_rule 19 = .ok (.putfield 134, 3) := by decide +kernel
theorem dX12_rule_22 : decode cX12_rule 22 = .ok (.aload_n 0, 1) := by decide +kernel
theorem dX12_rule_23 : decode cX12_rule 23 = .ok (.iconst 0, 1) := by decide +kernel
theorem dX12_rule_24 : decode cX12_rule 24 = .ok (.invokevirtual 137, 3) := by decide +kernel
theorem dX12_rule_27 : decode cX12_rule 27 = .ok (.bipush 75, 2) := by decide +kernel
theorem dX12_rule_29 : decode cX12_rule 29 = .ok (.if_icmp .ne 10, 3) := by decide +kernel
theorem dX12_rule_32 : decode cX12_rule 32 = .ok (.aload_n 0, 1) := by decide +kernel
theorem dX12_rule_33 : decode cX12_rule 33 = .ok (.invokevirtual 151, 3) := by decide +kernel
theorem dX12_rule_36 : decode cX12_rule 36 = .ok (.goto 7, 3) := by decide +kernel
theorem dX12_rule_39 : decode cX12_rule 39 = .ok (.aload_n 0, 1) := by decide +kernel
theorem dX12_rule_40 : decode cX12_rule 40 = .ok (.invokevirtual 155, 3) := by decide +kernel
theorem dX12_rule_43 : decode cX12_rule 43 = .ok (.istore_n 3, 1) := by decide +kernel
theorem dX12_rule_44 : decode cX12_rule 44 = .ok (.iload_n 3, 1) := by decide +kernel
theorem dX12_rule_45 : decode cX12_rule 45 = .ok (.ifCond .eq 10, 3) := by decide +kernel
theorem dX12_rule_48 : decode cX12_rule 48 = .ok (.aload_n 0, 1) := by decide +kernel
theorem dX12_rule_49 : decode cX12_rule 49 = .ok (.getfield 148, 3) := by decide +kernel
theorem dX12_rule_52 : decode cX12_rule 52 = .ok (.goto 10, 3) := by decide +kernel
theorem dX12_rule_55 : decode cX12_rule 55 = .ok (.bipush (-10), 2) := by decide +kernel
theorem dX12_rule_57 : decode cX12_rule 57 = .ok (.aload_n 0, 1) := by decide +kernel
theorem dX12_rule_58 : decode cX12_rule 58 = .ok (.getfield 134, 3) := by decide +kernel
theorem dX12_rule_61 : decode cX12_rule 61 = .ok (.isub, 1) := by decide +kernel
theorem dX12_rule_62 : decode cX12_rule 62 = .ok (.istore_n 2, 1) := by decide +kernel
theorem dX12_rule_63 : decode cX12_rule 63 = .ok (.iload_n 3, 1) := by decide +kernel
theorem dX12_rule_64 : decode cX12_rule 64 = .ok (.ifCond .eq 62, 3) := by decide +kernel
theorem dX12_rule_67 : decode cX12_rule 67 = .ok (.iconst 0, 1) := by decide +kernel
theorem dX12_rule_68 : decode cX12_rule 68 = .ok (.istore 4, 2) := by decide +kernel
theorem dX12_rule_70 : decode cX12_rule 70 = .ok (.iload 4, 2) := by decide +kernel
theorem dX12_rule_72 : decode cX12_rule 72 = .ok (.iload_n 1, 1) := by decide +kernel
theorem dX12_rule_73 : decode cX12_rule 73 = .ok (.if_icmp .ge 33, 3) := by decide +kernel
theorem dX12_rule_76 : decode cX12_rule 76 = .ok (.aload_n 0, 1) := by decide +kernel
theorem dX12_rule_77 : decode cX12_rule 77 = .ok (.getfield 13, 3) := by decide +kernel
theorem dX12_rule_80 : decode cX12_rule 80 = .ok (.sipush 2000, 3) := by decide +kernel
theorem dX12_rule_83 : decode cX12_rule 83 = .ok (.aload_n 0, 1) := by decide +kernel
theorem dX12_rule_84 : decode cX12_rule 84 = .ok (.getfield 148, 3) := by decide +kernel
theorem dX12_rule_87 : decode cX12_rule 87 = .ok (.imul, 1) := by decide +kernel
theorem dX12_rule_88 : decode cX12_rule 88 = .ok (.iload 4, 2) := by decide +kernel
theorem dX12_rule_90 : decode cX12_rule 90 = .ok (.iadd, 1) := by decide +kernel
theorem dX12_rule_91 : decode cX12_rule 91 = .ok (.aload_n 0, 1) := by decide +kernel
theorem dX12_rule_92 : decode cX12_rule 92 = .ok (.getfield 7, 3) := by decide +kernel
theorem dX12_rule_95 : decode cX12_rule 95 = .ok (.iload 4, 2) := by decide +kernel
theorem dX12_rule_97 : decode cX12_rule 97 = .ok (.iaload, 1) := by decide +kernel
theorem dX12_rule_98 : decode cX12_rule 98 = .ok (.i2b, 1) := by decide +kernel
theorem dX12_rule_99 : decode cX12_rule 99 = .ok (.bastore, 1) := by decide +kernel
theorem dX12_rule_100 : decode cX12_rule 100 = .ok (.iinc 4 1, 3) := by decide +kernel
theorem dX12_rule_103 : decode cX12_rule 103 = .ok (.goto (-33), 3) := by decide +kernel
theorem dX12_rule_106 : decode cX12_rule 106 = .ok (.aload_n 0, 1) := by decide +kernel
theorem dX12_rule_107 : decode cX12_rule 107 = .ok (.getfield 17, 3) := by decide +kernel
theorem dX12_rule_110 : decode cX12_rule 110 = .ok (.aload_n 0, 1) := by decide +kernel
theorem dX12_rule_111 : decode cX12_rule 111 = .ok (.getfield 148, 3) := by decide +kernel
theorem dX12_rule_114 : decode cX12_rule 114 = .ok (.iload_n 1, 1) := by decide +kernel
theorem dX12_rule_115 : decode cX12_rule 115 = .ok (.iastore, 1) := by decide +kernel
theorem dX12_rule_116 : decode cX12_rule 116 = .ok (.aload_n 0, 1) := by decide +kernel
theorem dX12_rule_117 : decode cX12_rule 117 = .ok (.dup, 1) := by decide +kernel
theorem dX12_rule_118 : decode cX12_rule 118 = .ok (.getfield 148, 3) := by decide +kernel
theorem dX12_rule_121 : decode cX12_rule 121 = .ok (.iconst 1, 1) := by decide +kernel
theorem dX12_rule_122 : decode cX12_rule 122 = .ok (.iadd, 1) := by decide +kernel
theorem dX12_rule_123 : decode cX12_rule 123 = .ok (.putfield 148, 3) := by decide +kernel
theorem dX12_rule_126 : decode cX12_rule 126 = .ok (.aload_n 0, 1) := by decide +kernel
theorem dX12_rule_127 : decode cX12_rule 127 = .ok (.iconst 0, 1) := by decide +kernel
theorem dX12_rule_128 : decode cX12_rule 128 = .ok (.putfield 128, 3) := by decide +kernel
theorem dX12_rule_131 : decode cX12_rule 131 = .ok (.iload_n 2, 1) := by decide +kernel
theorem dX12_rule_132 : decode cX12_rule 132 = .ok (.ireturn, 1) := by decide +kernel
theorem dX12_isRule_0 : decode cX12_isRule 0 = .ok (.iload_n 1, 1) := by decide +kernel
theorem dX12_isRule_1 : decode cX12_isRule 1 = .ok (.ifCond .lt 15, 3) := by decide +kernel
theorem dX12_isRule_4 : decode cX12_isRule 4 = .ok (.iload_n 1, 1) := by decide +kernel
theorem dX12_isRule_5 : decode cX12_isRule 5 = .ok (.aload_n 0, 1) := by decide +kernel
theorem dX12_isRule_6 : decode cX12_isRule 6 = .ok (.getfield 148, 3) := by decide +kernel
theorem dX12_isRule_9 : decode cX12_isRule 9 = .ok (.if_icmp .ge 7, 3) := by decide +kernel
theorem dX12_isRule_12 : decode cX12_isRule 12 = .ok (.iconst 1, 1) := by decide +kernel
theorem dX12_isRule_13 : decode cX12_isRule 13 = .ok (.goto 4, 3) := by decide +kernel
theorem dX12_isRule_16 : decode cX12_isRule 16 = .ok (.iconst 0, 1) := by decide +kernel
theorem dX12_isRule_17 : decode cX12_isRule 17 = .ok (.ireturn, 1) := by decide +kernel
theorem dX12_isBlocks_0 : decode cX12_isBlocks 0 = .ok (.aload_n 0, 1) := by decide +kernel
theorem dX12_isBlocks_1 : decode cX12_isBlocks 1 = .ok (.getfield 23, 3) := by decide +kernel
theorem dX12_isBlocks_4 : decode cX12_isBlocks 4 = .ok (.iload_n 1, 1) := by decide +kernel
theorem dX12_isBlocks_5 : decode cX12_isBlocks 5 = .ok (.iaload, 1) := by decide +kernel
theorem dX12_isBlocks_6 : decode cX12_isBlocks 6 = .ok (.ifCond .ne 7, 3) := by decide +kernel
theorem dX12_isBlocks_9 : decode cX12_isBlocks 9 = .ok (.iconst 1, 1) := by decide +kernel
theorem dX12_isBlocks_10 : decode cX12_isBlocks 10 = .ok (.goto 4, 3) := by decide +kernel
theorem dX12_isBlocks_13 : decode cX12_isBlocks 13 = .ok (.iconst 0, 1) := by decide +kernel
theorem dX12_isBlocks_14 : decode cX12_isBlocks 14 = .ok (.ireturn, 1) := by decide +kernel
theorem dX12_isQuiet_0 : decode cX12_isQuiet 0 = .ok (.aload_n 0, 1) := by decide +kernel
theorem dX12_isQuiet_1 : decode cX12_isQuiet 1 = .ok (.iload_n 1, 1) := by decide +kernel
theorem dX12_isQuiet_2 : decode cX12_isQuiet 2 = .ok (.invokevirtual 158, 3) := by decide +kernel
theorem dX12_isQuiet_5 : decode cX12_isQuiet 5 = .ok (.ifCond .ne 18, 3) := by decide +kernel
theorem dX12_isQuiet_8 : decode cX12_isQuiet 8 = .ok (.aload_n 0, 1) := by decide +kernel
theorem dX12_isQuiet_9 : decode cX12_isQuiet 9 = .ok (.getfield 26, 3) := by decide +kernel
theorem dX12_isQuiet_12 : decode cX12_isQuiet 12 = .ok (.iload_n 1, 1) := by decide +kernel
theorem dX12_isQuiet_13 : decode cX12_isQuiet 13 = .ok (.iaload, 1) := by decide +kernel
theorem dX12_isQuiet_14 : decode cX12_isQuiet 14 = .ok (.iconst 1, 1) := by decide +kernel
theorem dX12_isQuiet_15 : decode cX12_isQuiet 15 = .ok (.iand, 1) := by decide +kernel
theorem dX12_isQuiet_16 : decode cX12_isQuiet 16 = .ok (.ifCond .ne 7, 3) := by decide +kernel
theorem dX12_isQuiet_19 : decode cX12_isQuiet 19 = .ok (.iconst 1, 1) := by decide +kernel
theorem dX12_isQuiet_20 : decode cX12_isQuiet 20 = .ok (.goto 4, 3) := by decide +kernel
theorem dX12_isQuiet_23 : decode cX12_isQuiet 23 = .ok (.iconst 0, 1) := by decide +kernel
theorem dX12_isQuiet_24 : decode cX12_isQuiet 24 = .ok (.ireturn, 1) := by decide +kernel
theorem dX12_ruleByte_0 : decode cX12_ruleByte 0 = .ok (.aload_n 0, 1) := by decide +kernel
theorem dX12_ruleByte_1 : decode cX12_ruleByte 1 = .ok (.iload_n 1, 1) := by decide +kernel
theorem dX12_ruleByte_2 : decode cX12_ruleByte 2 = .ok (.invokevirtual 161, 3) := by decide +kernel
theorem dX12_ruleByte_5 : decode cX12_ruleByte 5 = .ok (.ifCond .ne 7, 3) := by decide +kernel
theorem dX12_ruleByte_8 : decode cX12_ruleByte 8 = .ok (.iconst (-1), 1) := by decide +kernel
theorem dX12_ruleByte_9 : decode cX12_ruleByte 9 = .ok (.goto 33, 3) := by decide +kernel
theorem dX12_ruleByte_12 : decode cX12_ruleByte 12 = .ok (.iload_n 2, 1) := by decide +kernel
theorem dX12_ruleByte_13 : decode cX12_ruleByte 13 = .ok (.ifCond .lt 13, 3) := by decide +kernel
theorem dX12_ruleByte_16 : decode cX12_ruleByte 16 = .ok (.iload_n 2, 1) := by decide +kernel
theorem dX12_ruleByte_17 : decode cX12_ruleByte 17 = .ok (.aload_n 0, 1) := by decide +kernel
theorem dX12_ruleByte_18 : decode cX12_ruleByte 18 = .ok (.getfield 17, 3) := by decide +kernel
theorem dX12_ruleByte_21 : decode cX12_ruleByte 21 = .ok (.iload_n 1, 1) := by decide +kernel
theorem dX12_ruleByte_22 : decode cX12_ruleByte 22 = .ok (.iaload, 1) := by decide +kernel
theorem dX12_ruleByte_23 : decode cX12_ruleByte 23 = .ok (.if_icmp .lt 7, 3) := by decide +kernel
theorem dX12_ruleByte_26 : decode cX12_ruleByte 26 = .ok (.iconst 0, 1) := by decide +kernel
theorem dX12_ruleByte_27 : decode cX12_ruleByte 27 = .ok (.goto 15, 3) := by decide +kernel
theorem dX12_ruleByte_30 : decode cX12_ruleByte 30 = .ok (.aload_n 0, 1) := by decide +kernel
theorem dX12_ruleByte_31 : decode cX12_ruleByte 31 = .ok (.getfield 13, 3) := by decide +kernel
theorem dX12_ruleByte_34 : decode cX12_ruleByte 34 = .ok (.sipush 2000, 3) := by decide +kernel
theorem dX12_ruleByte_37 : decode cX12_ruleByte 37 = .ok (.iload_n 1, 1) := by decide +kernel
theorem dX12_ruleByte_38 : decode cX12_ruleByte 38 = .ok (.imul, 1) := by decide +kernel
theorem dX12_ruleByte_39 : decode cX12_ruleByte 39 = .ok (.iload_n 2, 1) := by decide +kernel
theorem dX12_ruleByte_40 : decode cX12_ruleByte 40 = .ok (.iadd, 1) := by decide +kernel
theorem dX12_ruleByte_41 : decode cX12_ruleByte 41 = .ok (.baload, 1) := by decide +kernel
theorem dX12_ruleByte_42 : decode cX12_ruleByte 42 = .ok (.ireturn, 1) := by decide +kernel
theorem dX12_alive_0 : decode cX12_alive 0 = .ok (.iload 4, 2) := by decide +kernel
theorem dX12_alive_2 : decode cX12_alive 2 = .ok (.ifCond .lt 20, 3) := by decide +kernel
theorem dX12_alive_5 : decode cX12_alive 5 = .ok (.iload 5, 2) := by decide +kernel
theorem dX12_alive_7 : decode cX12_alive 7 = .ok (.ifCond .lt 15, 3) := by decide +kernel
theorem dX12_alive_10 : decode cX12_alive 10 = .ok (.iload 4, 2) := by decide +kernel
theorem dX12_alive_12 : decode cX12_alive 12 = .ok (.iload_n 2, 1) := by decide +kernel
theorem dX12_alive_13 : decode cX12_alive 13 = .ok (.if_icmp .ge 9, 3) := by decide +kernel
theorem dX12_alive_16 : decode cX12_alive 16 = .ok (.iload 5, 2) := by decide +kernel
theorem dX12_alive_18 : decode cX12_alive 18 = .ok (.iload_n 3, 1) := by decide +kernel
theorem dX12_alive_19 : decode cX12_alive 19 = .ok (.if_icmp .lt 7, 3) := by decide +kernel
theorem dX12_alive_22 : decode cX12_alive 22 = .ok (.iconst 0, 1) := by decide +kernel
theorem dX12_alive_23 : decode cX12_alive 23 = .ok (.goto 14, 3) := by decide +kernel
theorem dX12_alive_26 : decode cX12_alive 26 = .ok (.aload_n 0, 1) := by decide +kernel
theorem dX12_alive_27 : decode cX12_alive 27 = .ok (.iload_n 1, 1) := by decide +kernel
theorem dX12_alive_28 : decode cX12_alive 28 = .ok (.iload_n 2, 1) := by decide +kernel
theorem dX12_alive_29 : decode cX12_alive 29 = .ok (.iload 5, 2) := by decide +kernel
theorem dX12_alive_31 : decode cX12_alive 31 = .ok (.imul, 1) := by decide +kernel
theorem dX12_alive_32 : decode cX12_alive 32 = .ok (.iadd, 1) := by decide +kernel
theorem dX12_alive_33 : decode cX12_alive 33 = .ok (.iload 4, 2) := by decide +kernel
theorem dX12_alive_35 : decode cX12_alive 35 = .ok (.iadd, 1) := by decide +kernel
theorem dX12_alive_36 : decode cX12_alive 36 = .ok (.baload, 1) := by decide +kernel
theorem dX12_alive_37 : decode cX12_alive 37 = .ok (.ireturn, 1) := by decide +kernel
theorem dX12_neighbours_0 : decode cX12_neighbours 0 = .ok (.aload_n 0, 1) := by decide +kernel
theorem dX12_neighbours_1 : decode cX12_neighbours 1 = .ok (.iload_n 1, 1) := by decide +kernel
theorem dX12_neighbours_2 : decode cX12_neighbours 2 = .ok (.iload_n 2, 1) := by decide +kernel
theorem dX12_neighbours_3 : decode cX12_neighbours 3 = .ok (.iload_n 3, 1) := by decide +kernel
theorem dX12_neighbours_4 : decode cX12_neighbours 4 = .ok (.iload 4, 2) := by decide +kernel
theorem dX12_neighbours_6 : decode cX12_neighbours 6 = .ok (.iconst 1, 1) := by decide +kernel
theorem dX12_neighbours_7 : decode cX12_neighbours 7 = .ok (.isub, 1) := by decide +kernel
theorem dX12_neighbours_8 : decode cX12_neighbours 8 = .ok (.iload 5, 2) := by decide +kernel
theorem dX12_neighbours_10 : decode cX12_neighbours 10 = .ok (.invokestatic 164, 3) := by decide +kernel
theorem dX12_neighbours_13 : decode cX12_neighbours 13 = .ok (.aload_n 0, 1) := by decide +kernel
theorem dX12_neighbours_14 : decode cX12_neighbours 14 = .ok (.iload_n 1, 1) := by decide +kernel
theorem dX12_neighbours_15 : decode cX12_neighbours 15 = .ok (.iload_n 2, 1) := by decide +kernel
theorem dX12_neighbours_16 : decode cX12_neighbours 16 = .ok (.iload_n 3, 1) := by decide +kernel
theorem dX12_neighbours_17 : decode cX12_neighbours 17 = .ok (.iload 4, 2) := by decide +kernel
theorem dX12_neighbours_19 : decode cX12_neighbours 19 = .ok (.iconst 1, 1) := by decide +kernel
theorem dX12_neighbours_20 : decode cX12_neighbours 20 = .ok (.iadd, 1) := by decide +kernel
theorem dX12_neighbours_21 : decode cX12_neighbours 21 = .ok (.iload 5, 2) := by decide +kernel
theorem dX12_neighbours_23 : decode cX12_neighbours 23 = .ok (.invokestatic 164, 3) := by decide +kernel
theorem dX12_neighbours_26 : decode cX12_neighbours 26 = .ok (.iadd, 1) := by decide +kernel
theorem dX12_neighbours_27 : decode cX12_neighbours 27 = .ok (.aload_n 0, 1) := by decide +kernel
theorem dX12_neighbours_28 : decode cX12_neighbours 28 = .ok (.iload_n 1, 1) := by decide +kernel
theorem dX12_neighbours_29 : decode cX12_neighbours 29 = .ok (.iload_n 2, 1) := by decide +kernel
theorem dX12_neighbours_30 : decode cX12_neighbours 30 = .ok (.iload_n 3, 1) := by decide +kernel
theorem dX12_neighbours_31 : decode cX12_neighbours 31 = .ok (.iload 4, 2) := by decide +kernel
theorem dX12_neighbours_33 : decode cX12_neighbours 33 = .ok (.iload 5, 2) := by decide +kernel
theorem dX12_neighbours_35 : decode cX12_neighbours 35 = .ok (.iconst 1, 1) := by decide +kernel
theorem dX12_neighbours_36 : decode cX12_neighbours 36 = .ok (.isub, 1) := by decide +kernel
theorem dX12_neighbours_37 : decode cX12_neighbours 37 = .ok (.invokestatic 164, 3) := by decide +kernel
theorem dX12_neighbours_40 : decode cX12_neighbours 40 = .ok (.iadd, 1) := by decide +kernel
theorem dX12_neighbours_41 : decode cX12_neighbours 41 = .ok (.aload_n 0, 1) := by decide +kernel
theorem dX12_neighbours_42 : decode cX12_neighbours 42 = .ok (.iload_n 1, 1) := by decide +kernel
theorem dX12_neighbours_43 : decode cX12_neighbours 43 = .ok (.iload_n 2, 1) := by decide +kernel
theorem dX12_neighbours_44 : decode cX12_neighbours 44 = .ok (.iload_n 3, 1) := by decide +kernel
theorem dX12_neighbours_45 : decode cX12_neighbours 45 = .ok (.iload 4, 2) := by decide +kernel
theorem dX12_neighbours_47 : decode cX12_neighbours 47 = .ok (.iload 5, 2) := by decide +kernel
theorem dX12_neighbours_49 : decode cX12_neighbours 49 = .ok (.iconst 1, 1) := by decide +kernel
theorem dX12_neighbours_50 : decode cX12_neighbours 50 = .ok (.iadd, 1) := by decide +kernel
theorem dX12_neighbours_51 : decode cX12_neighbours 51 = .ok (.invokestatic 164, 3) := by decide +kernel
theorem dX12_neighbours_54 : decode cX12_neighbours 54 = .ok (.iadd, 1) := by decide +kernel
theorem dX12_neighbours_55 : decode cX12_neighbours 55 = .ok (.istore 7, 2) := by decide +kernel
theorem dX12_neighbours_57 : decode cX12_neighbours 57 = .ok (.iload 6, 2) := by decide +kernel
theorem dX12_neighbours_59 : decode cX12_neighbours 59 = .ok (.iconst 4, 1) := by decide +kernel
theorem dX12_neighbours_60 : decode cX12_neighbours 60 = .ok (.if_icmp .le 39, 3) := by decide +kernel
theorem dX12_neighbours_63 : decode cX12_neighbours 63 = .ok (.iload 7, 2) := by decide +kernel
theorem dX12_neighbours_65 : decode cX12_neighbours 65 = .ok (.aload_n 0, 1) := by decide +kernel
theorem dX12_neighbours_66 : decode cX12_neighbours 66 = .ok (.iload_n 1, 1) := by decide +kernel
theorem dX12_neighbours_67 : decode cX12_neighbours 67 = .ok (.iload_n 2, 1) := by decide +kernel
theorem dX12_neighbours_68 : decode cX12_neighbours 68 = .ok (.iload_n 3, 1) := by decide +kernel
theorem dX12_neighbours_69 : decode cX12_neighbours 69 = .ok (.iload 4, 2) := by decide +kernel
theorem dX12_neighbours_71 : decode cX12_neighbours 71 = .ok (.iconst 1, 1) := by decide +kernel
theorem dX12_neighbours_72 : decode cX12_neighbours 72 = .ok (.isub, 1) := by decide +kernel
theorem dX12_neighbours_73 : decode cX12_neighbours 73 = .ok (.iload 5, 2) := by decide +kernel
theorem dX12_neighbours_75 : decode cX12_neighbours 75 = .ok (.iconst 1, 1) := by decide +kernel
theorem dX12_neighbours_76 : decode cX12_neighbours 76 = .ok (.isub, 1) := by decide +kernel
theorem dX12_neighbours_77 : decode cX12_neighbours 77 = .ok (.invokestatic 164, 3) := by decide +kernel
theorem dX12_neighbours_80 : decode cX12_neighbours 80 = .ok (.aload_n 0, 1) := by decide +kernel
theorem dX12_neighbours_81 : decode cX12_neighbours 81 = .ok (.iload_n 1, 1) := by decide +kernel
theorem dX12_neighbours_82 : decode cX12_neighbours 82 = .ok (.iload_n 2, 1) := by decide +kernel
theorem dX12_neighbours_83 : decode cX12_neighbours 83 = .ok (.iload_n 3, 1) := by decide +kernel
theorem dX12_neighbours_84 : decode cX12_neighbours 84 = .ok (.iload 4, 2) := by decide +kernel
theorem dX12_neighbours_86 : decode cX12_neighbours 86 = .ok (.iconst 1, 1) := by decide +kernel
theorem dX12_neighbours_87 : decode cX12_neighbours 87 = .ok (.iadd, 1) := by decide +kernel
theorem dX12_neighbours_88 : decode cX12_neighbours 88 = .ok (.iload 5, 2) := by decide +kernel
theorem dX12_neighbours_90 : decode cX12_neighbours 90 = .ok (.iconst 1, 1) := by decide +kernel
theorem dX12_neighbours_91 : decode cX12_neighbours 91 = .ok (.iadd, 1) := by decide +kernel
theorem dX12_neighbours_92 : decode cX12_neighbours 92 = .ok (.invokestatic 164, 3) := by decide +kernel
theorem dX12_neighbours_95 : decode cX12_neighbours 95 = .ok (.iadd, 1) := by decide +kernel
theorem dX12_neighbours_96 : decode cX12_neighbours 96 = .ok (.iadd, 1) := by decide +kernel
theorem dX12_neighbours_97 : decode cX12_neighbours 97 = .ok (.istore 7, 2) := by decide +kernel
theorem dX12_neighbours_99 : decode cX12_neighbours 99 = .ok (.iload 6, 2) := by decide +kernel
theorem dX12_neighbours_101 : decode cX12_neighbours 101 = .ok (.bipush 6, 2) := by decide +kernel
theorem dX12_neighbours_103 : decode cX12_neighbours 103 = .ok (.if_icmp .le 39, 3) := by decide +kernel
theorem dX12_neighbours_106 : decode cX12_neighbours 106 = .ok (.iload 7, 2) := by decide +kernel
theorem dX12_neighbours_108 : decode cX12_neighbours 108 = .ok (.aload_n 0, 1) := by decide +kernel
theorem dX12_neighbours_109 : decode cX12_neighbours 109 = .ok (.iload_n 1, 1) := by decide +kernel
theorem dX12_neighbours_110 : decode cX12_neighbours 110 = .ok (.iload_n 2, 1) := by decide +kernel
theorem dX12_neighbours_111 : decode cX12_neighbours 111 = .ok (.iload_n 3, 1) := by decide +kernel
theorem dX12_neighbours_112 : decode cX12_neighbours 112 = .ok (.iload 4, 2) := by decide +kernel
theorem dX12_neighbours_114 : decode cX12_neighbours 114 = .ok (.iconst 1, 1) := by decide +kernel
theorem dX12_neighbours_115 : decode cX12_neighbours 115 = .ok (.iadd, 1) := by decide +kernel
theorem dX12_neighbours_116 : decode cX12_neighbours 116 = .ok (.iload 5, 2) := by decide +kernel
theorem dX12_neighbours_118 : decode cX12_neighbours 118 = .ok (.iconst 1, 1) := by decide +kernel
theorem dX12_neighbours_119 : decode cX12_neighbours 119 = .ok (.isub, 1) := by decide +kernel
theorem dX12_neighbours_120 : decode cX12_neighbours 120 = .ok (.invokestatic 164, 3) := by decide +kernel
theorem dX12_neighbours_123 : decode cX12_neighbours 123 = .ok (.aload_n 0, 1) := by decide +kernel
theorem dX12_neighbours_124 : decode cX12_neighbours 124 = .ok (.iload_n 1, 1) := by decide +kernel
theorem dX12_neighbours_125 : decode cX12_neighbours 125 = .ok (.iload_n 2, 1) := by decide +kernel
theorem dX12_neighbours_126 : decode cX12_neighbours 126 = .ok (.iload_n 3, 1) := by decide +kernel
theorem dX12_neighbours_127 : decode cX12_neighbours 127 = .ok (.iload 4, 2) := by decide +kernel
theorem dX12_neighbours_129 : decode cX12_neighbours 129 = .ok (.iconst 1, 1) := by decide +kernel
theorem dX12_neighbours_130 : decode cX12_neighbours 130 = .ok (.isub, 1) := by decide +kernel
theorem dX12_neighbours_131 : decode cX12_neighbours 131 = .ok (.iload 5, 2) := by decide +kernel
theorem dX12_neighbours_133 : decode cX12_neighbours 133 = .ok (.iconst 1, 1) := by decide +kernel
theorem dX12_neighbours_134 : decode cX12_neighbours 134 = .ok (.iadd, 1) := by decide +kernel
theorem dX12_neighbours_135 : decode cX12_neighbours 135 = .ok (.invokestatic 164, 3) := by decide +kernel
theorem dX12_neighbours_138 : decode cX12_neighbours 138 = .ok (.iadd, 1) := by decide +kernel
theorem dX12_neighbours_139 : decode cX12_neighbours 139 = .ok (.iadd, 1) := by decide +kernel
theorem dX12_neighbours_140 : decode cX12_neighbours 140 = .ok (.istore 7, 2) := by decide +kernel
theorem dX12_neighbours_142 : decode cX12_neighbours 142 = .ok (.iload 7, 2) := by decide +kernel
theorem dX12_neighbours_144 : decode cX12_neighbours 144 = .ok (.ireturn, 1) := by decide +kernel
theorem dX12_after_0 : decode cX12_after 0 = .ok (.aload_n 2, 1) := by decide +kernel
theorem dX12_after_1 : decode cX12_after 1 = .ok (.iload_n 3, 1) := by decide +kernel
theorem dX12_after_2 : decode cX12_after 2 = .ok (.iload 4, 2) := by decide +kernel
theorem dX12_after_4 : decode cX12_after 4 = .ok (.iload 5, 2) := by decide +kernel
theorem dX12_after_6 : decode cX12_after 6 = .ok (.iload 6, 2) := by decide +kernel
theorem dX12_after_8 : decode cX12_after 8 = .ok (.iload 7, 2) := by decide +kernel
theorem dX12_after_10 : decode cX12_after 10 = .ok (.aload_n 0, 1) := by decide +kernel
theorem dX12_after_11 : decode cX12_after 11 = .ok (.getfield 23, 3) := by decide +kernel
theorem dX12_after_14 : decode cX12_after 14 = .ok (.iload_n 1, 1) := by decide +kernel
theorem dX12_after_15 : decode cX12_after 15 = .ok (.iaload, 1) := by decide +kernel
theorem dX12_after_16 : decode cX12_after 16 = .ok (.invokestatic 168, 3) := by decide +kernel
theorem dX12_after_19 : decode cX12_after 19 = .ok (.istore 8, 2) := by decide +kernel
theorem dX12_after_21 : decode cX12_after 21 = .ok (.aload_n 2, 1) := by decide +kernel
theorem dX12_after_22 : decode cX12_after 22 = .ok (.iload_n 3, 1) := by decide +kernel
theorem dX12_after_23 : decode cX12_after 23 = .ok (.iload 4, 2) := by decide +kernel
theorem dX12_after_25 : decode cX12_after 25 = .ok (.iload 5, 2) := by decide +kernel
theorem dX12_after_27 : decode cX12_after 27 = .ok (.iload 6, 2) := by decide +kernel
theorem dX12_after_29 : decode cX12_after 29 = .ok (.iload 7, 2) := by decide +kernel
theorem dX12_after_31 : decode cX12_after 31 = .ok (.invokestatic 164, 3) := by decide +kernel
theorem dX12_after_34 : decode cX12_after 34 = .ok (.istore 9, 2) := by decide +kernel
theorem dX12_after_36 : decode cX12_after 36 = .ok (.iload 9, 2) := by decide +kernel
theorem dX12_after_38 : decode cX12_after 38 = .ok (.iconst 1, 1) := by decide +kernel
theorem dX12_after_39 : decode cX12_after 39 = .ok (.if_icmp .ne 12, 3) := by decide +kernel
theorem dX12_after_42 : decode cX12_after 42 = .ok (.aload_n 0, 1) := by decide +kernel
theorem dX12_after_43 : decode cX12_after 43 = .ok (.getfield 29, 3) := by decide +kernel
theorem dX12_after_46 : decode cX12_after 46 = .ok (.iload_n 1, 1) := by decide +kernel
theorem dX12_after_47 : decode cX12_after 47 = .ok (.iaload, 1) := by decide +kernel
theorem dX12_after_48 : decode cX12_after 48 = .ok (.goto 9, 3) := by decide +kernel
theorem dX12_after_51 : decode cX12_after 51 = .ok (.aload_n 0, 1) := by decide +kernel
theorem dX12_after_52 : decode cX12_after 52 = .ok (.getfield 26, 3) := by decide +kernel
theorem dX12_after_55 : decode cX12_after 55 = .ok (.iload_n 1, 1) := by decide +kernel
theorem dX12_after_56 : decode cX12_after 56 = .ok (.iaload, 1) := by decide +kernel
theorem dX12_after_57 : decode cX12_after 57 = .ok (.iload 8, 2) := by decide +kernel
theorem dX12_after_59 : decode cX12_after 59 = .ok (.ishr, 1) := by decide +kernel
theorem dX12_after_60 : decode cX12_after 60 = .ok (.iconst 1, 1) := by decide +kernel
theorem dX12_after_61 : decode cX12_after 61 = .ok (.iand, 1) := by decide +kernel
theorem dX12_after_62 : decode cX12_after 62 = .ok (.ireturn, 1) := by decide +kernel
theorem dX12_isField_0 : decode cX12_isField 0 = .ok (.iload_n 1, 1) := by decide +kernel
theorem dX12_isField_1 : decode cX12_isField 1 = .ok (.ifCond .lt 15, 3) := by decide +kernel
theorem dX12_isField_4 : decode cX12_isField 4 = .ok (.iload_n 1, 1) := by decide +kernel
theorem dX12_isField_5 : decode cX12_isField 5 = .ok (.aload_n 0, 1) := by decide +kernel
theorem dX12_isField_6 : decode cX12_isField 6 = .ok (.getfield 172, 3) := by decide +kernel
theorem dX12_isField_9 : decode cX12_isField 9 = .ok (.if_icmp .ge 7, 3) := by decide +kernel
theorem dX12_isField_12 : decode cX12_isField 12 = .ok (.iconst 1, 1) := by decide +kernel
theorem dX12_isField_13 : decode cX12_isField 13 = .ok (.goto 4, 3) := by decide +kernel
theorem dX12_isField_16 : decode cX12_isField 16 = .ok (.iconst 0, 1) := by decide +kernel
theorem dX12_isField_17 : decode cX12_isField 17 = .ok (.ireturn, 1) := by decide +kernel
theorem dX12_isPlace_0 : decode cX12_isPlace 0 = .ok (.iload_n 1, 1) := by decide +kernel
theorem dX12_isPlace_1 : decode cX12_isPlace 1 = .ok (.bipush (-128), 2) := by decide +kernel
theorem dX12_isPlace_3 : decode cX12_isPlace 3 = .ok (.if_icmp .lt 27, 3) := by decide +kernel
theorem dX12_isPlace_6 : decode cX12_isPlace 6 = .ok (.iload_n 1, 1) := by decide +kernel
theorem dX12_isPlace_7 : decode cX12_isPlace 7 = .ok (.sipush 128, 3) := by decide +kernel
theorem dX12_isPlace_10 : decode cX12_isPlace 10 = .ok (.if_icmp .ge 20, 3) := by decide +kernel
theorem dX12_isPlace_13 : decode cX12_isPlace 13 = .ok (.iload_n 2, 1) := by decide +kernel
theorem dX12_isPlace_14 : decode cX12_isPlace 14 = .ok (.bipush (-128), 2) := by decide +kernel
theorem dX12_isPlace_16 : decode cX12_isPlace 16 = .ok (.if_icmp .lt 14, 3) := by decide +kernel
theorem dX12_isPlace_19 : decode cX12_isPlace 19 = .ok (.iload_n 2, 1) := by decide +kernel
theorem dX12_isPlace_20 : decode cX12_isPlace 20 = .ok (.sipush 128, 3) := by decide +kernel
theorem dX12_isPlace_23 : decode cX12_isPlace 23 = .ok (.if_icmp .ge 7, 3) := by decide +kernel
theorem dX12_isPlace_26 : decode cX12_isPlace 26 = .ok (.iconst 1, 1) := by decide +kernel
theorem dX12_isPlace_27 : decode cX12_isPlace 27 = .ok (.goto 4, 3) := by decide +kernel
theorem dX12_isPlace_30 : decode cX12_isPlace 30 = .ok (.iconst 0, 1) := by decide +kernel
theorem dX12_isPlace_31 : decode cX12_isPlace 31 = .ok (.ireturn, 1) := by decide +kernel
theorem dX12_place_0 : decode cX12_place 0 = .ok (.ldc 45, 2) := by decide +kernel
theorem dX12_place_2 : decode cX12_place 2 = .ok (.iload_n 1, 1) := by decide +kernel
theorem dX12_place_3 : decode cX12_place 3 = .ok (.imul, 1) := by decide +kernel
theorem dX12_place_4 : decode cX12_place 4 = .ok (.sipush 256, 3) := by decide +kernel
theorem dX12_place_7 : decode cX12_place 7 = .ok (.iload_n 3, 1) := by decide +kernel
theorem dX12_place_8 : decode cX12_place 8 = .ok (.sipush 128, 3) := by decide +kernel
theorem dX12_place_11 : decode cX12_place 11 = .ok (.iadd, 1) := by decide +kernel
theorem dX12_place_12 : decode cX12_place 12 = .ok (.imul, 1) := by decide +kernel
theorem dX12_place_13 : decode cX12_place 13 = .ok (.iadd, 1) := by decide +kernel
theorem dX12_place_14 : decode cX12_place 14 = .ok (.iload_n 2, 1) := by decide +kernel
theorem dX12_place_15 : decode cX12_place 15 = .ok (.iadd, 1) := by decide +kernel
theorem dX12_place_16 : decode cX12_place 16 = .ok (.sipush 128, 3) := by decide +kernel
theorem dX12_place_19 : decode cX12_place 19 = .ok (.iadd, 1) := by decide +kernel
theorem dX12_place_20 : decode cX12_place 20 = .ok (.ireturn, 1) := by decide +kernel
theorem dX12_field_0 : decode cX12_field 0 = .ok (.aload_n 0, 1) := by decide +kernel
theorem dX12_field_1 : decode cX12_field 1 = .ok (.iload_n 1, 1) := by decide +kernel
theorem dX12_field_2 : decode cX12_field 2 = .ok (.invokevirtual 161, 3) := by decide +kernel
theorem dX12_field_5 : decode cX12_field 5 = .ok (.ifCond .ne 5, 3) := by decide +kernel
theorem dX12_field_8 : decode cX12_field 8 = .ok (.iconst (-1), 1) := by decide +kernel
theorem dX12_field_9 : decode cX12_field 9 = .ok (.ireturn, 1) := by decide +kernel
theorem dX12_field_10 : decode cX12_field 10 = .ok (.aload_n 0, 1) := by decide +kernel
theorem dX12_field_11 : decode cX12_field 11 = .ok (.iload_n 1, 1) := by decide +kernel
theorem dX12_field_12 : decode cX12_field 12 = .ok (.invokevirtual 175, 3) := by decide +kernel
theorem dX12_field_15 : decode cX12_field 15 = .ok (.ifCond .ne 6, 3) := by decide +kernel
theorem dX12_field_18 : decode cX12_field 18 = .ok (.bipush (-2), 2) := by decide +kernel
theorem dX12_field_20 : decode cX12_field 20 = .ok (.ireturn, 1) := by decide +kernel
theorem dX12_field_21 : decode cX12_field 21 = .ok (.aload_n 0, 1) := by decide +kernel
theorem dX12_field_22 : decode cX12_field 22 = .ok (.getfield 172, 3) := by decide +kernel
theorem dX12_field_25 : decode cX12_field 25 = .ok (.bipush 8, 2) := by decide +kernel
theorem dX12_field_27 : decode cX12_field 27 = .ok (.if_icmp .ne 6, 3) := by decide +kernel
theorem dX12_field_30 : decode cX12_field 30 = .ok (.bipush (-3), 2) := by decide +kernel
theorem dX12_field_32 : decode cX12_field 32 = .ok (.ireturn, 1) := by decide +kernel
theorem dX12_field_33 : decode cX12_field 33 = .ok (.iconst 0, 1) := by decide +kernel
theorem dX12_field_34 : decode cX12_field 34 = .ok (.istore_n 2, 1) := by decide +kernel
theorem dX12_field_35 : decode cX12_field 35 = .ok (.iload_n 2, 1) := by decide +kernel
theorem dX12_field_36 : decode cX12_field 36 = .ok (.ldc 45, 2) := by decide +kernel
theorem dX12_field_38 : decode cX12_field 38 = .ok (.if_icmp .ge 24, 3) := by decide +kernel
theorem dX12_field_41 : decode cX12_field 41 = .ok (.aload_n 0, 1) := by decide +kernel
theorem dX12_field_42 : decode cX12_field 42 = .ok (.getfield 36, 3) := by decide +kernel
theorem dX12_field_45 : decode cX12_field 45 = .ok (.ldc 45, 2) := by decide +kernel
theorem dX12_field_47 : decode cX12_field 47 = .ok (.aload_n 0, 1) := by decide +kernel
theorem dX12_field_48 : decode cX12_field 48 = .ok (.getfield 172, 3) := by decide +kernel
theorem dX12_field_51 : decode cX12_field 51 = .ok (.imul, 1) := by decide +kernel
theorem dX12_field_52 : decode cX12_field 52 = .ok (.iload_n 2, 1) := by decide +kernel
theorem dX12_field_53 : decode cX12_field 53 = .ok (.iadd, 1) := by decide +kernel
theorem dX12_field_54 : decode cX12_field 54 = .ok (.iconst 0, 1) := by decide +kernel
theorem dX12_field_55 : decode cX12_field 55 = .ok (.bastore, 1) := by decide +kernel
theorem dX12_field_56 : decode cX12_field 56 = .ok (.iinc 2 1, 3) := by decide +kernel
theorem dX12_field_59 : decode cX12_field 59 = .ok (.goto (-24), 3) := by decide +kernel
theorem dX12_field_62 : decode cX12_field 62 = .ok (.aload_n 0, 1) := by decide +kernel
theorem dX12_field_63 : decode cX12_field 63 = .ok (.getfield 39, 3) := by decide +kernel
theorem dX12_field_66 : decode cX12_field 66 = .ok (.aload_n 0, 1) := by decide +kernel
theorem dX12_field_67 : decode cX12_field 67 = .ok (.getfield 172, 3) := by decide +kernel
theorem dX12_field_70 : decode cX12_field 70 = .ok (.iload_n 1, 1) := by decide +kernel
theorem dX12_field_71 : decode cX12_field 71 = .ok (.iastore, 1) := by decide +kernel
theorem dX12_field_72 : decode cX12_field 72 = .ok (.aload_n 0, 1) := by decide +kernel
theorem dX12_field_73 : decode cX12_field 73 = .ok (.getfield 42, 3) := by decide +kernel
theorem dX12_field_76 : decode cX12_field 76 = .ok (.aload_n 0, 1) := by decide +kernel
theorem dX12_field_77 : decode cX12_field 77 = .ok (.getfield 172, 3) := by decide +kernel
theorem dX12_field_80 : decode cX12_field 80 = .ok (.iconst 0, 1) := by decide +kernel
theorem dX12_field_81 : decode cX12_field 81 = .ok (.iastore, 1) := by decide +kernel
theorem dX12_field_82 : decode cX12_field 82 = .ok (.aload_n 0, 1) := by decide +kernel
theorem dX12_field_83 : decode cX12_field 83 = .ok (.dup, 1) := by decide +kernel
theorem dX12_field_84 : decode cX12_field 84 = .ok (.getfield 172, 3) := by decide +kernel
theorem dX12_field_87 : decode cX12_field 87 = .ok (.iconst 1, 1) := by decide +kernel
theorem dX12_field_88 : decode cX12_field 88 = .ok (.iadd, 1) := by decide +kernel
theorem dX12_field_89 : decode cX12_field 89 = .ok (.putfield 172, 3) := by decide +kernel
theorem dX12_field_92 : decode cX12_field 92 = .ok (.aload_n 0, 1) := by decide +kernel
theorem dX12_field_93 : decode cX12_field 93 = .ok (.getfield 172, 3) := by decide +kernel
theorem dX12_field_96 : decode cX12_field 96 = .ok (.iconst 1, 1) := by decide +kernel
theorem dX12_field_97 : decode cX12_field 97 = .ok (.isub, 1) := by decide +kernel
theorem dX12_field_98 : decode cX12_field 98 = .ok (.ireturn, 1) := by decide +kernel
theorem dX12_put_0 : decode cX12_put 0 = .ok (.aload_n 0, 1) := by decide +kernel
theorem dX12_put_1 : decode cX12_put 1 = .ok (.iload_n 1, 1) := by decide +kernel
theorem dX12_put_2 : decode cX12_put 2 = .ok (.invokevirtual 178, 3) := by decide +kernel
theorem dX12_put_5 : decode cX12_put 5 = .ok (.ifCond .eq 23, 3) := by decide +kernel
theorem dX12_put_8 : decode cX12_put 8 = .ok (.aload_n 0, 1) := by decide +kernel
theorem dX12_put_9 : decode cX12_put 9 = .ok (.iload_n 2, 1) := by decide +kernel
theorem dX12_put_10 : decode cX12_put 10 = .ok (.iload_n 3, 1) := by decide +kernel
theorem dX12_put_11 : decode cX12_put 11 = .ok (.invokevirtual 181, 3) := by decide +kernel
theorem dX12_put_14 : decode cX12_put 14 = .ok (.ifCond .eq 14, 3) := by decide +kernel
theorem dX12_put_17 : decode cX12_put 17 = .ok (.iload 4, 2) := by decide +kernel
theorem dX12_put_19 : decode cX12_put 19 = .ok (.ifCond .lt 9, 3) := by decide +kernel
theorem dX12_put_22 : decode cX12_put 22 = .ok (.iload 4, 2) := by decide +kernel
theorem dX12_put_24 : decode cX12_put 24 = .ok (.iconst 1, 1) := by decide +kernel
theorem dX12_put_25 : decode cX12_put 25 = .ok (.if_icmp .le 5, 3) := by decide +kernel
theorem dX12_put_28 : decode cX12_put 28 = .ok (.iconst (-1), 1) := by decide +kernel
theorem dX12_put_29 : decode cX12_put 29 = .ok (.ireturn, 1) := by decide +kernel
theorem dX12_put_30 : decode cX12_put 30 = .ok (.aload_n 0, 1) := by decide +kernel
theorem dX12_put_31 : decode cX12_put 31 = .ok (.getfield 36, 3) := by decide +kernel
theorem dX12_put_34 : decode cX12_put 34 = .ok (.aload_n 0, 1) := by decide +kernel
theorem dX12_put_35 : decode cX12_put 35 = .ok (.iload_n 1, 1) := by decide +kernel
theorem dX12_put_36 : decode cX12_put 36 = .ok (.iload_n 2, 1) := by decide +kernel
theorem dX12_put_37 : decode cX12_put 37 = .ok (.iload_n 3, 1) := by decide +kernel
theorem dX12_put_38 : decode cX12_put 38 = .ok (.invokevirtual 185, 3) := by decide +kernel
theorem dX12_put_41 : decode cX12_put 41 = .ok (.baload, 1) := by decide +kernel
theorem dX12_put_42 : decode cX12_put 42 = .ok (.istore 5, 2) := by decide +kernel
theorem dX12_put_44 : decode cX12_put 44 = .ok (.aload_n 0, 1) := by decide +kernel
theorem dX12_put_45 : decode cX12_put 45 = .ok (.getfield 36, 3) := by decide +kernel
theorem dX12_put_48 : decode cX12_put 48 = .ok (.aload_n 0, 1) := by decide +kernel
theorem dX12_put_49 : decode cX12_put 49 = .ok (.iload_n 1, 1) := by decide +kernel
theorem dX12_put_50 : decode cX12_put 50 = .ok (.iload_n 2, 1) := by decide +kernel
theorem dX12_put_51 : decode cX12_put 51 = .ok (.iload_n 3, 1) := by decide +kernel
theorem dX12_put_52 : decode cX12_put 52 = .ok (.invokevirtual 185, 3) := by decide +kernel
theorem dX12_put_55 : decode cX12_put 55 = .ok (.iload 4, 2) := by decide +kernel
theorem dX12_put_57 : decode cX12_put 57 = .ok (.i2b, 1) := by decide +kernel
theorem dX12_put_58 : decode cX12_put 58 = .ok (.bastore, 1) := by decide +kernel
theorem dX12_put_59 : decode cX12_put 59 = .ok (.iload 5, 2) := by decide +kernel
theorem dX12_put_61 : decode cX12_put 61 = .ok (.ireturn, 1) := by decide +kernel
theorem dX12_at_0 : decode cX12_at 0 = .ok (.aload_n 0, 1) := by decide +kernel
theorem dX12_at_1 : decode cX12_at 1 = .ok (.iload_n 1, 1) := by decide +kernel
theorem dX12_at_2 : decode cX12_at 2 = .ok (.invokevirtual 178, 3) := by decide +kernel
theorem dX12_at_5 : decode cX12_at 5 = .ok (.ifCond .eq 12, 3) := by decide +kernel
theorem dX12_at_8 : decode cX12_at 8 = .ok (.aload_n 0, 1) := by decide +kernel
theorem dX12_at_9 : decode cX12_at 9 = .ok (.iload_n 2, 1) := by decide +kernel
theorem dX12_at_10 : decode cX12_at 10 = .ok (.iload_n 3, 1) := by decide +kernel
theorem dX12_at_11 : decode cX12_at 11 = .ok (.invokevirtual 181, 3) := by decide +kernel
theorem dX12_at_14 : decode cX12_at 14 = .ok (.ifCond .ne 7, 3) := by decide +kernel
theorem dX12_at_17 : decode cX12_at 17 = .ok (.iconst (-1), 1) := by decide +kernel
theorem dX12_at_18 : decode cX12_at 18 = .ok (.goto 15, 3) := by decide +kernel
theorem dX12_at_21 : decode cX12_at 21 = .ok (.aload_n 0, 1) := by decide +kernel
theorem dX12_at_22 : decode cX12_at 22 = .ok (.getfield 36, 3) := by decide +kernel
theorem dX12_at_25 : decode cX12_at 25 = .ok (.aload_n 0, 1) := by decide +kernel
theorem dX12_at_26 : decode cX12_at 26 = .ok (.iload_n 1, 1) := by decide +kernel
theorem dX12_at_27 : decode cX12_at 27 = .ok (.iload_n 2, 1) := by decide +kernel
theorem dX12_at_28 : decode cX12_at 28 = .ok (.iload_n 3, 1) := by decide +kernel
theorem dX12_at_29 : decode cX12_at 29 = .ok (.invokevirtual 185, 3) := by decide +kernel
theorem dX12_at_32 : decode cX12_at 32 = .ok (.baload, 1) := by decide +kernel
theorem dX12_at_33 : decode cX12_at 33 = .ok (.ireturn, 1) := by decide +kernel
theorem dX12_look_0 : decode cX12_look 0 = .ok (.aload_n 0, 1) := by decide +kernel
theorem dX12_look_1 : decode cX12_look 1 = .ok (.sipush 256, 3) := by decide +kernel
theorem dX12_look_4 : decode cX12_look 4 = .ok (.putfield 189, 3) := by decide +kernel
theorem dX12_look_7 : decode cX12_look 7 = .ok (.aload_n 0, 1) := by decide +kernel
theorem dX12_look_8 : decode cX12_look 8 = .ok (.iconst (-1), 1) := by decide +kernel
theorem dX12_look_9 : decode cX12_look 9 = .ok (.putfield 192, 3) := by decide +kernel
theorem dX12_look_12 : decode cX12_look 12 = .ok (.aload_n 0, 1) := by decide +kernel
theorem dX12_look_13 : decode cX12_look 13 = .ok (.sipush 256, 3) := by decide +kernel
theorem dX12_look_16 : decode cX12_look 16 = .ok (.putfield 195, 3) := by decide +kernel
theorem dX12_look_19 : decode cX12_look 19 = .ok (.aload_n 0, 1) := by decide +kernel
theorem dX12_look_20 : decode cX12_look 20 = .ok (.iconst (-1), 1) := by decide +kernel
theorem dX12_look_21 : decode cX12_look 21 = .ok (.putfield 198, 3) := by decide +kernel
theorem dX12_look_24 : decode cX12_look 24 = .ok (.aload_n 0, 1) := by decide +kernel
theorem dX12_look_25 : decode cX12_look 25 = .ok (.iconst 0, 1) := by decide +kernel
theorem dX12_look_26 : decode cX12_look 26 = .ok (.putfield 201, 3) := by decide +kernel
theorem dX12_look_29 : decode cX12_look 29 = .ok (.iconst 0, 1) := by decide +kernel
theorem dX12_look_30 : decode cX12_look 30 = .ok (.istore_n 3, 1) := by decide +kernel
theorem dX12_look_31 : decode cX12_look 31 = .ok (.iload_n 3, 1) := by decide +kernel
theorem dX12_look_32 : decode cX12_look 32 = .ok (.sipush 256, 3) := by decide +kernel
theorem dX12_look_35 : decode cX12_look 35 = .ok (.if_icmp .ge 138, 3) := by decide +kernel
theorem dX12_look_38 : decode cX12_look 38 = .ok (.iconst 0, 1) := by decide +kernel
theorem dX12_look_39 : decode cX12_look 39 = .ok (.istore 4, 2) := by decide +kernel
theorem dX12_look_41 : decode cX12_look 41 = .ok (.iload 4, 2) := by decide +kernel
theorem dX12_look_43 : decode cX12_look 43 = .ok (.sipush 256, 3) := by decide +kernel
theorem dX12_look_46 : decode cX12_look 46 = .ok (.if_icmp .ge 121, 3) := by decide +kernel
theorem dX12_look_49 : decode cX12_look 49 = .ok (.aload_n 1, 1) := by decide +kernel
theorem dX12_look_50 : decode cX12_look 50 = .ok (.iload_n 2, 1) := by decide +kernel
theorem dX12_look_51 : decode cX12_look 51 = .ok (.sipush 256, 3) := by decide +kernel
theorem dX12_look_54 : decode cX12_look 54 = .ok (.iload_n 3, 1) := by decide +kernel
theorem dX12_look_55 : decode cX12_look 55 = .ok (.imul, 1) := by decide +kernel
theorem dX12_look_56 : decode cX12_look 56 = .ok (.iadd, 1) := by decide +kernel
theorem dX12_look_57 : decode cX12_look 57 = .ok (.iload 4, 2) := by decide +kernel
theorem dX12_look_59 : decode cX12_look 59 = .ok (.iadd, 1) := by decide +kernel
theorem dX12_look_60 : decode cX12_look 60 = .ok (.baload, 1) := by decide +kernel
theorem dX12_look_61 : decode cX12_look 61 = .ok (.ifCond .ne 6, 3) := by decide +kernel
theorem dX12_look_64 : decode cX12_look 64 = .ok (.goto 97, 3) := by decide +kernel
theorem dX12_look_67 : decode cX12_look 67 = .ok (.aload_n 0, 1) := by decide +kernel
theorem dX12_look_68 : decode cX12_look 68 = .ok (.iload 4, 2) := by decide +kernel
theorem dX12_look_70 : decode cX12_look 70 = .ok (.aload_n 0, 1) := by decide +kernel
theorem dX12_look_71 : decode cX12_look 71 = .ok (.getfield 189, 3) := by decide +kernel
theorem dX12_look_74 : decode cX12_look 74 = .ok (.if_icmp .ge 8, 3) := by decide +kernel
theorem dX12_look_77 : decode cX12_look 77 = .ok (.iload 4, 2) := by decide +kernel
theorem dX12_look_79 : decode cX12_look 79 = .ok (.goto 7, 3) := by decide +kernel
theorem dX12_look_82 : decode cX12_look 82 = .ok (.aload_n 0, 1) := by decide +kernel
theorem dX12_look_83 : decode cX12_look 83 = .ok (.getfield 189, 3) := by decide +kernel
theorem dX12_look_86 : decode cX12_look 86 = .ok (.putfield 189, 3) := by decide +kernel
theorem dX12_look_89 : decode cX12_look 89 = .ok (.aload_n 0, 1) := by decide +kernel
theorem dX12_look_90 : decode cX12_look 90 = .ok (.iload 4, 2) := by decide +kernel
theorem dX12_look_92 : decode cX12_look 92 = .ok (.aload_n 0, 1) := by decide +kernel
theorem dX12_look_93 : decode cX12_look 93 = .ok (.getfield 192, 3) := by decide +kernel
theorem dX12_look_96 : decode cX12_look 96 = .ok (.if_icmp .le 8, 3) := by decide +kernel
theorem dX12_look_99 : decode cX12_look 99 = .ok (.iload 4, 2) := by decide +kernel
theorem dX12_look_101 : decode cX12_look 101 = .ok (.goto 7, 3) := by decide +kernel
theorem dX12_look_104 : decode cX12_look 104 = .ok (.aload_n 0, 1) := by decide +kernel
theorem dX12_look_105 : decode cX12_look 105 = .ok (.getfield 192, 3) := by decide +kernel
theorem dX12_look_108 : decode cX12_look 108 = .ok (.putfield 192, 3) := by decide +kernel
theorem dX12_look_111 : decode cX12_look 111 = .ok (.aload_n 0, 1) := by decide +kernel
theorem dX12_look_112 : decode cX12_look 112 = .ok (.iload_n 3, 1) := by decide +kernel
theorem dX12_look_113 : decode cX12_look 113 = .ok (.aload_n 0, 1) := by decide +kernel
theorem dX12_look_114 : decode cX12_look 114 = .ok (.getfield 195, 3) := by decide +kernel
theorem dX12_look_117 : decode cX12_look 117 = .ok (.if_icmp .ge 7, 3) := by decide +kernel
theorem dX12_look_120 : decode cX12_look 120 = .ok (.iload_n 3, 1) := by decide +kernel
theorem dX12_look_121 : decode cX12_look 121 = .ok (.goto 7, 3) := by decide +kernel
theorem dX12_look_124 : decode cX12_look 124 = .ok (.aload_n 0, 1) := by decide +kernel
theorem dX12_look_125 : decode cX12_look 125 = .ok (.getfield 195, 3) := by decide +kernel
theorem dX12_look_128 : decode cX12_look 128 = .ok (.putfield 195, 3) := by decide +kernel
theorem dX12_look_131 : decode cX12_look 131 = .ok (.aload_n 0, 1) := by decide +kernel
theorem dX12_look_132 : decode cX12_look 132 = .ok (.iload_n 3, 1) := by decide +kernel
theorem dX12_look_133 : decode cX12_look 133 = .ok (.aload_n 0, 1) := by decide +kernel
theorem dX12_look_134 : decode cX12_look 134 = .ok (.getfield 198, 3) := by decide +kernel
theorem dX12_look_137 : decode cX12_look 137 = .ok (.if_icmp .le 7, 3) := by decide +kernel
theorem dX12_look_140 : decode cX12_look 140 = .ok (.iload_n 3, 1) := by decide +kernel
theorem dX12_look_141 : decode cX12_look 141 = .ok (.goto 7, 3) := by decide +kernel
theorem dX12_look_144 : decode cX12_look 144 = .ok (.aload_n 0, 1) := by decide +kernel
theorem dX12_look_145 : decode cX12_look 145 = .ok (.getfield 198, 3) := by decide +kernel
theorem dX12_look_148 : decode cX12_look 148 = .ok (.putfield 198, 3) := by decide +kernel
theorem dX12_look_151 : decode cX12_look 151 = .ok (.aload_n 0, 1) := by decide +kernel
theorem dX12_look_152 : decode cX12_look 152 = .ok (.dup, 1) := by decide +kernel
theorem dX12_look_153 : decode cX12_look 153 = .ok (.getfield 201, 3) := by decide +kernel
theorem dX12_look_156 : decode cX12_look 156 = .ok (.iconst 1, 1) := by decide +kernel
theorem dX12_look_157 : decode cX12_look 157 = .ok (.iadd, 1) := by decide +kernel
theorem dX12_look_158 : decode cX12_look 158 = .ok (.putfield 201, 3) := by decide +kernel
theorem dX12_look_161 : decode cX12_look 161 = .ok (.iinc 4 1, 3) := by decide +kernel
theorem dX12_look_164 : decode cX12_look 164 = .ok (.goto (-123), 3) := by decide +kernel
theorem dX12_look_167 : decode cX12_look 167 = .ok (.iinc 3 1, 3) := by decide +kernel
theorem dX12_look_170 : decode cX12_look 170 = .ok (.goto (-139), 3) := by decide +kernel
theorem dX12_look_173 : decode cX12_look 173 = .ok (.return_, 1) := by decide +kernel
theorem dX12_areDone_0 : decode cX12_areDone 0 = .ok (.aload_n 0, 1) := by decide +kernel
theorem dX12_areDone_1 : decode cX12_areDone 1 = .ok (.getfield 201, 3) := by decide +kernel
theorem dX12_areDone_4 : decode cX12_areDone 4 = .ok (.ifCond .eq 45, 3) := by decide +kernel
theorem dX12_areDone_7 : decode cX12_areDone 7 = .ok (.aload_n 0, 1) := by decide +kernel
theorem dX12_areDone_8 : decode cX12_areDone 8 = .ok (.getfield 189, 3) := by decide +kernel
theorem dX12_areDone_11 : decode cX12_areDone 11 = .ok (.iload_n 1, 1) := by decide +kernel
theorem dX12_areDone_12 : decode cX12_areDone 12 = .ok (.isub, 1) := by decide +kernel
theorem dX12_areDone_13 : decode cX12_areDone 13 = .ok (.ifCond .lt 40, 3) := by decide +kernel
theorem dX12_areDone_16 : decode cX12_areDone 16 = .ok (.aload_n 0, 1) := by decide +kernel
theorem dX12_areDone_17 : decode cX12_areDone 17 = .ok (.getfield 195, 3) := by decide +kernel
theorem dX12_areDone_20 : decode cX12_areDone 20 = .ok (.iload_n 1, 1) := by decide +kernel
theorem dX12_areDone_21 : decode cX12_areDone 21 = .ok (.isub, 1) := by decide +kernel
theorem dX12_areDone_22 : decode cX12_areDone 22 = .ok (.ifCond .lt 31, 3) := by decide +kernel
theorem dX12_areDone_25 : decode cX12_areDone 25 = .ok (.aload_n 0, 1) := by decide +kernel
theorem dX12_areDone_26 : decode cX12_areDone 26 = .ok (.getfield 192, 3) := by decide +kernel
theorem dX12_areDone_29 : decode cX12_areDone 29 = .ok (.iload_n 1, 1) := by decide +kernel
theorem dX12_areDone_30 : decode cX12_areDone 30 = .ok (.iadd, 1) := by decide +kernel
theorem dX12_areDone_31 : decode cX12_areDone 31 = .ok (.sipush 256, 3) := by decide +kernel
theorem dX12_areDone_34 : decode cX12_areDone 34 = .ok (.if_icmp .ge 19, 3) := by decide +kernel
theorem dX12_areDone_37 : decode cX12_areDone 37 = .ok (.aload_n 0, 1) := by decide +kernel
theorem dX12_areDone_38 : decode cX12_areDone 38 = .ok (.getfield 198, 3) := by decide +kernel
theorem dX12_areDone_41 : decode cX12_areDone 41 = .ok (.iload_n 1, 1) := by decide +kernel
theorem dX12_areDone_42 : decode cX12_areDone 42 = .ok (.iadd, 1) := by decide +kernel
theorem dX12_areDone_43 : decode cX12_areDone 43 = .ok (.sipush 256, 3) := by decide +kernel
theorem dX12_areDone_46 : decode cX12_areDone 46 = .ok (.if_icmp .ge 7, 3) := by decide +kernel
theorem dX12_areDone_49 : decode cX12_areDone 49 = .ok (.iconst 1, 1) := by decide +kernel
theorem dX12_areDone_50 : decode cX12_areDone 50 = .ok (.goto 4, 3) := by decide +kernel
theorem dX12_areDone_53 : decode cX12_areDone 53 = .ok (.iconst 0, 1) := by decide +kernel
theorem dX12_areDone_54 : decode cX12_areDone 54 = .ok (.ireturn, 1) := by decide +kernel
theorem dX12_step_0 : decode cX12_step 0 = .ok (.aload_n 0, 1) := by decide +kernel
theorem dX12_step_1 : decode cX12_step 1 = .ok (.aload_n 2, 1) := by decide +kernel
theorem dX12_step_2 : decode cX12_step 2 = .ok (.iload_n 3, 1) := by decide +kernel
theorem dX12_step_3 : decode cX12_step 3 = .ok (.invokevirtual 204, 3) := by decide +kernel
theorem dX12_step_6 : decode cX12_step 6 = .ok (.aload_n 0, 1) := by decide +kernel
theorem dX12_step_7 : decode cX12_step 7 = .ok (.getfield 201, 3) := by decide +kernel
theorem dX12_step_10 : decode cX12_step 10 = .ok (.ifCond .ne 4, 3) := by decide +kernel
theorem dX12_step_13 : decode cX12_step 13 = .ok (.return_, 1) := by decide +kernel
theorem dX12_step_14 : decode cX12_step 14 = .ok (.aload_n 0, 1) := by decide +kernel
theorem dX12_step_15 : decode cX12_step 15 = .ok (.getfield 189, 3) := by decide +kernel
theorem dX12_step_18 : decode cX12_step 18 = .ok (.ifCond .ne 7, 3) := by decide +kernel
theorem dX12_step_21 : decode cX12_step 21 = .ok (.iconst 0, 1) := by decide +kernel
theorem dX12_step_22 : decode cX12_step 22 = .ok (.goto 9, 3) := by decide +kernel
theorem dX12_step_25 : decode cX12_step 25 = .ok (.aload_n 0, 1) := by decide +kernel
theorem dX12_step_26 : decode cX12_step 26 = .ok (.getfield 189, 3) := by decide +kernel
theorem dX12_step_29 : decode cX12_step 29 = .ok (.iconst 1, 1) := by decide +kernel
theorem dX12_step_30 : decode cX12_step 30 = .ok (.isub, 1) := by decide +kernel
theorem dX12_step_31 : decode cX12_step 31 = .ok (.istore 4, 2) := by decide +kernel
theorem dX12_step_33 : decode cX12_step 33 = .ok (.aload_n 0, 1) := by decide +kernel
theorem dX12_step_34 : decode cX12_step 34 = .ok (.getfield 192, 3) := by decide +kernel
theorem dX12_step_37 : decode cX12_step 37 = .ok (.sipush 255, 3) := by decide +kernel
theorem dX12_step_40 : decode cX12_step 40 = .ok (.if_icmp .ne 10, 3) := by decide +kernel
theorem dX12_step_43 : decode cX12_step 43 = .ok (.aload_n 0, 1) := by decide +kernel
theorem dX12_step_44 : decode cX12_step 44 = .ok (.getfield 192, 3) := by decide +kernel
theorem dX12_step_47 : decode cX12_step 47 = .ok (.goto 9, 3) := by decide +kernel
theorem dX12_step_50 : decode cX12_step 50 = .ok (.aload_n 0, 1) := by decide +kernel
theorem dX12_step_51 : decode cX12_step 51 = .ok (.getfield 192, 3) := by decide +kernel
theorem dX12_step_54 : decode cX12_step 54 = .ok (.iconst 1, 1) := by decide +kernel
theorem dX12_step_55 : decode cX12_step 55 = .ok (.iadd, 1) := by decide +kernel
theorem dX12_step_56 : decode cX12_step 56 = .ok (.istore 5, 2) := by decide +kernel
theorem dX12_step_58 : decode cX12_step 58 = .ok (.aload_n 0, 1) := by decide +kernel
theorem dX12_step_59 : decode cX12_step 59 = .ok (.getfield 195, 3) := by decide +kernel
theorem dX12_step_62 : decode cX12_step 62 = .ok (.ifCond .ne 7, 3) := by decide +kernel
theorem dX12_step_65 : decode cX12_step 65 = .ok (.iconst 0, 1) := by decide +kernel
theorem dX12_step_66 : decode cX12_step 66 = .ok (.goto 9, 3) := by decide +kernel
theorem dX12_step_69 : decode cX12_step 69 = .ok (.aload_n 0, 1) := by decide +kernel
theorem dX12_step_70 : decode cX12_step 70 = .ok (.getfield 195, 3) := by decide +kernel
theorem dX12_step_73 : decode cX12_step 73 = .ok (.iconst 1, 1) := by decide +kernel
theorem dX12_step_74 : decode cX12_step 74 = .ok (.isub, 1) := by decide +kernel
theorem dX12_step_75 : decode cX12_step 75 = .ok (.istore 6, 2) := by decide +kernel
theorem dX12_step_77 : decode cX12_step 77 = .ok (.aload_n 0, 1) := by decide +kernel
theorem dX12_step_78 : decode cX12_step 78 = .ok (.getfield 198, 3) := by decide +kernel
theorem dX12_step_81 : decode cX12_step 81 = .ok (.sipush 255, 3) := by decide +kernel
theorem dX12_step_84 : decode cX12_step 84 = .ok (.if_icmp .ne 10, 3) := by decide +kernel
theorem dX12_step_87 : decode cX12_step 87 = .ok (.aload_n 0, 1) := by decide +kernel
theorem dX12_step_88 : decode cX12_step 88 = .ok (.getfield 198, 3) := by decide +kernel
theorem dX12_step_91 : decode cX12_step 91 = .ok (.goto 9, 3) := by decide +kernel
theorem dX12_step_94 : decode cX12_step 94 = .ok (.aload_n 0, 1) := by decide +kernel
theorem dX12_step_95 : decode cX12_step 95 = .ok (.getfield 198, 3) := by decide +kernel
theorem dX12_step_98 : decode cX12_step 98 = .ok (.iconst 1, 1) := by decide +kernel
theorem dX12_step_99 : decode cX12_step 99 = .ok (.iadd, 1) := by decide +kernel
theorem dX12_step_100 : decode cX12_step 100 = .ok (.istore 7, 2) := by decide +kernel
theorem dX12_step_102 : decode cX12_step 102 = .ok (.iload 6, 2) := by decide +kernel
theorem dX12_step_104 : decode cX12_step 104 = .ok (.istore 8, 2) := by decide +kernel
theorem dX12_step_106 : decode cX12_step 106 = .ok (.iload 8, 2) := by decide +kernel
theorem dX12_step_108 : decode cX12_step 108 = .ok (.iload 7, 2) := by decide +kernel
theorem dX12_step_110 : decode cX12_step 110 = .ok (.if_icmp .gt 58, 3) := by decide +kernel
theorem dX12_step_113 : decode cX12_step 113 = .ok (.iload 4, 2) := by decide +kernel
theorem dX12_step_115 : decode cX12_step 115 = .ok (.istore 9, 2) := by decide +kernel
theorem dX12_step_117 : decode cX12_step 117 = .ok (.iload 9, 2) := by decide +kernel
theorem dX12_step_119 : decode cX12_step 119 = .ok (.iload 5, 2) := by decide +kernel
theorem dX12_step_121 : decode cX12_step 121 = .ok (.if_icmp .gt 41, 3) := by decide +kernel
theorem dX12_step_124 : decode cX12_step 124 = .ok (.aload_n 0, 1) := by decide +kernel
theorem dX12_step_125 : decode cX12_step 125 = .ok (.getfield 46, 3) := by decide +kernel
theorem dX12_step_128 : decode cX12_step 128 = .ok (.sipush 256, 3) := by decide +kernel
theorem dX12_step_131 : decode cX12_step 131 = .ok (.iload 8, 2) := by decide +kernel
theorem dX12_step_133 : decode cX12_step 133 = .ok (.imul, 1) := by decide +kernel
theorem dX12_step_134 : decode cX12_step 134 = .ok (.iload 9, 2) := by decide +kernel
theorem dX12_step_136 : decode cX12_step 136 = .ok (.iadd, 1) := by decide +kernel
theorem dX12_step_137 : decode cX12_step 137 = .ok (.aload_n 0, 1) := by decide +kernel
theorem dX12_step_138 : decode cX12_step 138 = .ok (.iload_n 1, 1) := by decide +kernel
theorem dX12_step_139 : decode cX12_step 139 = .ok (.aload_n 2, 1) := by decide +kernel
theorem dX12_step_140 : decode cX12_step 140 = .ok (.iload_n 3, 1) := by decide +kernel
theorem dX12_step_141 : decode cX12_step 141 = .ok (.sipush 256, 3) := by decide +kernel
theorem dX12_step_144 : decode cX12_step 144 = .ok (.sipush 256, 3) := by decide +kernel
theorem dX12_step_147 : decode cX12_step 147 = .ok (.iload 9, 2) := by decide +kernel
theorem dX12_step_149 : decode cX12_step 149 = .ok (.iload 8, 2) := by decide +kernel
theorem dX12_step_151 : decode cX12_step 151 = .ok (.invokevirtual 208, 3) := by decide +kernel
theorem dX12_step_154 : decode cX12_step 154 = .ok (.i2b, 1) := by decide +kernel
theorem dX12_step_155 : decode cX12_step 155 = .ok (.bastore, 1) := by decide +kernel
theorem dX12_step_156 : decode cX12_step 156 = .ok (.iinc 9 1, 3) := by decide +kernel
theorem dX12_step_159 : decode cX12_step 159 = .ok (.goto (-42), 3) := by decide +kernel
theorem dX12_step_162 : decode cX12_step 162 = .ok (.iinc 8 1, 3) := by decide +kernel
theorem dX12_step_165 : decode cX12_step 165 = .ok (.goto (-59), 3) := by decide +kernel
theorem dX12_step_168 : decode cX12_step 168 = .ok (.iload 6, 2) := by decide +kernel
theorem dX12_step_170 : decode cX12_step 170 = .ok (.istore 8, 2) := by decide +kernel
theorem dX12_step_172 : decode cX12_step 172 = .ok (.iload 8, 2) := by decide +kernel
theorem dX12_step_174 : decode cX12_step 174 = .ok (.iload 7, 2) := by decide +kernel
theorem dX12_step_176 : decode cX12_step 176 = .ok (.if_icmp .gt 53, 3) := by decide +kernel
theorem dX12_step_179 : decode cX12_step 179 = .ok (.iload 4, 2) := by decide +kernel
theorem dX12_step_181 : decode cX12_step 181 = .ok (.istore 9, 2) := by decide +kernel
theorem dX12_step_183 : decode cX12_step 183 = .ok (.iload 9, 2) := by decide +kernel
theorem dX12_step_185 : decode cX12_step 185 = .ok (.iload 5, 2) := by decide +kernel
theorem dX12_step_187 : decode cX12_step 187 = .ok (.if_icmp .gt 36, 3) := by decide +kernel
theorem dX12_step_190 : decode cX12_step 190 = .ok (.aload_n 2, 1) := by decide +kernel
theorem dX12_step_191 : decode cX12_step 191 = .ok (.iload_n 3, 1) := by decide +kernel
theorem dX12_step_192 : decode cX12_step 192 = .ok (.sipush 256, 3) := by decide +kernel
theorem dX12_step_195 : decode cX12_step 195 = .ok (.iload 8, 2) := by decide +kernel
theorem dX12_step_197 : decode cX12_step 197 = .ok (.imul, 1) := by decide +kernel
theorem dX12_step_198 : decode cX12_step 198 = .ok (.iadd, 1) := by decide +kernel
theorem dX12_step_199 : decode cX12_step 199 = .ok (.iload 9, 2) := by decide +kernel
theorem dX12_step_201 : decode cX12_step 201 = .ok (.iadd, 1) := by decide +kernel
theorem dX12_step_202 : decode cX12_step 202 = .ok (.aload_n 0, 1) := by decide +kernel
theorem dX12_step_203 : decode cX12_step 203 = .ok (.getfield 46, 3) := by decide +kernel
theorem dX12_step_206 : decode cX12_step 206 = .ok (.sipush 256, 3) := by decide +kernel
theorem dX12_step_209 : decode cX12_step 209 = .ok (.iload 8, 2) := by decide +kernel
theorem dX12_step_211 : decode cX12_step 211 = .ok (.imul, 1) := by decide +kernel
theorem dX12_step_212 : decode cX12_step 212 = .ok (.iload 9, 2) := by decide +kernel
theorem dX12_step_214 : decode cX12_step 214 = .ok (.iadd, 1) := by decide +kernel
theorem dX12_step_215 : decode cX12_step 215 = .ok (.baload, 1) := by decide +kernel
theorem dX12_step_216 : decode cX12_step 216 = .ok (.bastore, 1) := by decide +kernel
theorem dX12_step_217 : decode cX12_step 217 = .ok (.iinc 9 1, 3) := by decide +kernel
theorem dX12_step_220 : decode cX12_step 220 = .ok (.goto (-37), 3) := by decide +kernel
theorem dX12_step_223 : decode cX12_step 223 = .ok (.iinc 8 1, 3) := by decide +kernel
theorem dX12_step_226 : decode cX12_step 226 = .ok (.goto (-54), 3) := by decide +kernel
theorem dX12_step_229 : decode cX12_step 229 = .ok (.return_, 1) := by decide +kernel
theorem dX12_go2_0 : decode cX12_go2 0 = .ok (.aload_n 0, 1) := by decide +kernel
theorem dX12_go2_1 : decode cX12_go2 1 = .ok (.aload_n 0, 1) := by decide +kernel
theorem dX12_go2_2 : decode cX12_go2 2 = .ok (.getfield 36, 3) := by decide +kernel
theorem dX12_go2_5 : decode cX12_go2 5 = .ok (.ldc 45, 2) := by decide +kernel
theorem dX12_go2_7 : decode cX12_go2 7 = .ok (.iload_n 1, 1) := by decide +kernel
theorem dX12_go2_8 : decode cX12_go2 8 = .ok (.imul, 1) := by decide +kernel
theorem dX12_go2_9 : decode cX12_go2 9 = .ok (.invokevirtual 204, 3) := by decide +kernel
theorem dX12_go2_12 : decode cX12_go2 12 = .ok (.aload_n 0, 1) := by decide +kernel
theorem dX12_go2_13 : decode cX12_go2 13 = .ok (.iload_n 2, 1) := by decide +kernel
theorem dX12_go2_14 : decode cX12_go2 14 = .ok (.invokevirtual 212, 3) := by decide +kernel
theorem dX12_go2_17 : decode cX12_go2 17 = .ok (.ifCond .ne 6, 3) := by decide +kernel
theorem dX12_go2_20 : decode cX12_go2 20 = .ok (.bipush (-2), 2) := by decide +kernel
theorem dX12_go2_22 : decode cX12_go2 22 = .ok (.ireturn, 1) := by decide +kernel
theorem dX12_go2_23 : decode cX12_go2 23 = .ok (.iconst 0, 1) := by decide +kernel
theorem dX12_go2_24 : decode cX12_go2 24 = .ok (.istore_n 3, 1) := by decide +kernel
theorem dX12_go2_25 : decode cX12_go2 25 = .ok (.iload_n 3, 1) := by decide +kernel
theorem dX12_go2_26 : decode cX12_go2 26 = .ok (.iload_n 2, 1) := by decide +kernel
theorem dX12_go2_27 : decode cX12_go2 27 = .ok (.if_icmp .ge 27, 3) := by decide +kernel
theorem dX12_go2_30 : decode cX12_go2 30 = .ok (.aload_n 0, 1) := by decide +kernel
theorem dX12_go2_31 : decode cX12_go2 31 = .ok (.aload_n 0, 1) := by decide +kernel
theorem dX12_go2_32 : decode cX12_go2 32 = .ok (.getfield 39, 3) := by decide +kernel
theorem dX12_go2_35 : decode cX12_go2 35 = .ok (.iload_n 1, 1) := by decide +kernel
theorem dX12_go2_36 : decode cX12_go2 36 = .ok (.iaload, 1) := by decide +kernel
theorem dX12_go2_37 : decode cX12_go2 37 = .ok (.aload_n 0, 1) := by decide +kernel
theorem dX12_go2_38 : decode cX12_go2 38 = .ok (.getfield 36, 3) := by decide +kernel
theorem dX12_go2_41 : decode cX12_go2 41 = .ok (.ldc 45, 2) := by decide +kernel
theorem dX12_go2_43 : decode cX12_go2 43 = .ok (.iload_n 1, 1) := by decide +kernel
theorem dX12_go2_44 : decode cX12_go2 44 = .ok (.imul, 1) := by decide +kernel
theorem dX12_go2_45 : decode cX12_go2 45 = .ok (.invokevirtual 215, 3) := by decide +kernel
theorem dX12_go2_48 : decode cX12_go2 48 = .ok (.iinc 3 1, 3) := by decide +kernel
theorem dX12_go2_51 : decode cX12_go2 51 = .ok (.goto (-26), 3) := by decide +kernel
theorem dX12_go2_54 : decode cX12_go2 54 = .ok (.aload_n 0, 1) := by decide +kernel
theorem dX12_go2_55 : decode cX12_go2 55 = .ok (.getfield 42, 3) := by decide +kernel
theorem dX12_go2_58 : decode cX12_go2 58 = .ok (.iload_n 1, 1) := by decide +kernel
theorem dX12_go2_59 : decode cX12_go2 59 = .ok (.dup2, 1) := by decide +kernel
theorem dX12_go2_60 : decode cX12_go2 60 = .ok (.iaload, 1) := by decide +kernel
theorem dX12_go2_61 : decode cX12_go2 61 = .ok (.iload_n 2, 1) := by decide +kernel
theorem dX12_go2_62 : decode cX12_go2 62 = .ok (.iadd, 1) := by decide +kernel
theorem dX12_go2_63 : decode cX12_go2 63 = .ok (.iastore, 1) := by decide +kernel
theorem dX12_go2_64 : decode cX12_go2 64 = .ok (.aload_n 0, 1) := by decide +kernel
theorem dX12_go2_65 : decode cX12_go2 65 = .ok (.getfield 42, 3) := by decide +kernel
theorem dX12_go2_68 : decode cX12_go2 68 = .ok (.iload_n 1, 1) := by decide +kernel
theorem dX12_go2_69 : decode cX12_go2 69 = .ok (.iaload, 1) := by decide +kernel
theorem dX12_go2_70 : decode cX12_go2 70 = .ok (.ireturn, 1) := by decide +kernel
theorem dX12_steps_0 : decode cX12_steps 0 = .ok (.aload_n 0, 1) := by decide +kernel
theorem dX12_steps_1 : decode cX12_steps 1 = .ok (.iload_n 1, 1) := by decide +kernel
theorem dX12_steps_2 : decode cX12_steps 2 = .ok (.invokevirtual 178, 3) := by decide +kernel
theorem dX12_steps_5 : decode cX12_steps 5 = .ok (.ifCond .eq 13, 3) := by decide +kernel
theorem dX12_steps_8 : decode cX12_steps 8 = .ok (.iload_n 2, 1) := by decide +kernel
theorem dX12_steps_9 : decode cX12_steps 9 = .ok (.ifCond .lt 9, 3) := by decide +kernel
theorem dX12_steps_12 : decode cX12_steps 12 = .ok (.iload_n 2, 1) := by decide +kernel
theorem dX12_steps_13 : decode cX12_steps 13 = .ok (.bipush 64, 2) := by decide +kernel
theorem dX12_steps_15 : decode cX12_steps 15 = .ok (.if_icmp .le 7, 3) := by decide +kernel
theorem dX12_steps_18 : decode cX12_steps 18 = .ok (.iconst (-1), 1) := by decide +kernel
theorem dX12_steps_19 : decode cX12_steps 19 = .ok (.goto 9, 3) := by decide +kernel
theorem dX12_steps_22 : decode cX12_steps 22 = .ok (.aload_n 0, 1) := by decide +kernel
theorem dX12_steps_23 : decode cX12_steps 23 = .ok (.iload_n 1, 1) := by decide +kernel
theorem dX12_steps_24 : decode cX12_steps 24 = .ok (.iload_n 2, 1) := by decide +kernel
theorem dX12_steps_25 : decode cX12_steps 25 = .ok (.invokevirtual 219, 3) := by decide +kernel
theorem dX12_steps_28 : decode cX12_steps 28 = .ok (.ireturn, 1) := by decide +kernel
theorem dX12_jump_0 : decode cX12_jump 0 = .ok (.aload_n 0, 1) := by decide +kernel
theorem dX12_jump_1 : decode cX12_jump 1 = .ok (.iload_n 1, 1) := by decide +kernel
theorem dX12_jump_2 : decode cX12_jump 2 = .ok (.invokevirtual 178, 3) := by decide +kernel
theorem dX12_jump_5 : decode cX12_jump 5 = .ok (.ifCond .eq 13, 3) := by decide +kernel
theorem dX12_jump_8 : decode cX12_jump 8 = .ok (.iload_n 2, 1) := by decide +kernel
theorem dX12_jump_9 : decode cX12_jump 9 = .ok (.ifCond .lt 9, 3) := by decide +kernel
theorem dX12_jump_12 : decode cX12_jump 12 = .ok (.iload_n 2, 1) := by decide +kernel
theorem dX12_jump_13 : decode cX12_jump 13 = .ok (.bipush 6, 2) := by decide +kernel
theorem dX12_jump_15 : decode cX12_jump 15 = .ok (.if_icmp .le 7, 3) := by decide +kernel
theorem dX12_jump_18 : decode cX12_jump 18 = .ok (.iconst (-1), 1) := by decide +kernel
theorem dX12_jump_19 : decode cX12_jump 19 = .ok (.goto 11, 3) := by decide +kernel
theorem dX12_jump_22 : decode cX12_jump 22 = .ok (.aload_n 0, 1) := by decide +kernel
theorem dX12_jump_23 : decode cX12_jump 23 = .ok (.iload_n 1, 1) := by decide +kernel
theorem dX12_jump_24 : decode cX12_jump 24 = .ok (.iconst 1, 1) := by decide +kernel
theorem dX12_jump_25 : decode cX12_jump 25 = .ok (.iload_n 2, 1) := by decide +kernel
theorem dX12_jump_26 : decode cX12_jump 26 = .ok (.ishl, 1) := by decide +kernel
theorem dX12_jump_27 : decode cX12_jump 27 = .ok (.invokevirtual 219, 3) := by decide +kernel
theorem dX12_jump_30 : decode cX12_jump 30 = .ok (.ireturn, 1) := by decide +kernel
theorem dX12_isBlank_0 : decode cX12_isBlank 0 = .ok (.iload_n 0, 1) := by decide +kernel
theorem dX12_isBlank_1 : decode cX12_isBlank 1 = .ok (.bipush 10, 2) := by decide +kernel
theorem dX12_isBlank_3 : decode cX12_isBlank 3 = .ok (.if_icmp .eq 9, 3) := by decide +kernel
theorem dX12_isBlank_6 : decode cX12_isBlank 6 = .ok (.iload_n 0, 1) := by decide +kernel
theorem dX12_isBlank_7 : decode cX12_isBlank 7 = .ok (.bipush 32, 2) := by decide +kernel
theorem dX12_isBlank_9 : decode cX12_isBlank 9 = .ok (.if_icmp .ne 7, 3) := by decide +kernel
theorem dX12_isBlank_12 : decode cX12_isBlank 12 = .ok (.iconst 1, 1) := by decide +kernel
theorem dX12_isBlank_13 : decode cX12_isBlank 13 = .ok (.goto 4, 3) := by decide +kernel
theorem dX12_isBlank_16 : decode cX12_isBlank 16 = .ok (.iconst 0, 1) := by decide +kernel
theorem dX12_isBlank_17 : decode cX12_isBlank 17 = .ok (.ireturn, 1) := by decide +kernel
theorem dX12_isDigit_0 : decode cX12_isDigit 0 = .ok (.iload_n 0, 1) := by decide +kernel
theorem dX12_isDigit_1 : decode cX12_isDigit 1 = .ok (.bipush 48, 2) := by decide +kernel
theorem dX12_isDigit_3 : decode cX12_isDigit 3 = .ok (.if_icmp .lt 13, 3) := by decide +kernel
theorem dX12_isDigit_6 : decode cX12_isDigit 6 = .ok (.iload_n 0, 1) := by decide +kernel
theorem dX12_isDigit_7 : decode cX12_isDigit 7 = .ok (.bipush 57, 2) := by decide +kernel
theorem dX12_isDigit_9 : decode cX12_isDigit 9 = .ok (.if_icmp .gt 7, 3) := by decide +kernel
theorem dX12_isDigit_12 : decode cX12_isDigit 12 = .ok (.iconst 1, 1) := by decide +kernel
theorem dX12_isDigit_13 : decode cX12_isDigit 13 = .ok (.goto 4, 3) := by decide +kernel
theorem dX12_isDigit_16 : decode cX12_isDigit 16 = .ok (.iconst 0, 1) := by decide +kernel
theorem dX12_isDigit_17 : decode cX12_isDigit 17 = .ok (.ireturn, 1) := by decide +kernel
theorem dX12_readRuns_0 : decode cX12_readRuns 0 = .ok (.aload_n 0, 1) := by decide +kernel
theorem dX12_readRuns_1 : decode cX12_readRuns 1 = .ok (.iconst 0, 1) := by decide +kernel
theorem dX12_readRuns_2 : decode cX12_readRuns 2 = .ok (.putfield 223, 3) := by decide +kernel
theorem dX12_readRuns_5 : decode cX12_readRuns 5 = .ok (.iconst 0, 1) := by decide +kernel
theorem dX12_readRuns_6 : decode cX12_readRuns 6 = .ok (.istore_n 1, 1) := by decide +kernel
theorem dX12_readRuns_7 : decode cX12_readRuns 7 = .ok (.aload_n 0, 1) := by decide +kernel
theorem dX12_readRuns_8 : decode cX12_readRuns 8 = .ok (.iload_n 1, 1) := by decide +kernel
theorem dX12_readRuns_9 : decode cX12_readRuns 9 = .ok (.invokevirtual 137, 3) := by decide +kernel
theorem dX12_readRuns_12 : decode cX12_readRuns 12 = .ok (.bipush 33, 2) := by decide +kernel
theorem dX12_readRuns_14 : decode cX12_readRuns 14 = .ok (.if_icmp .eq 156, 3) := by decide +kernel
theorem dX12_readRuns_17 : decode cX12_readRuns 17 = .ok (.aload_n 0, 1) := by decide +kernel
theorem dX12_readRuns_18 : decode cX12_readRuns 18 = .ok (.iload_n 1, 1) := by decide +kernel
theorem dX12_readRuns_19 : decode cX12_readRuns 19 = .ok (.invokevirtual 137, 3) := by decide +kernel
theorem dX12_readRuns_22 : decode cX12_readRuns 22 = .ok (.istore_n 2, 1) := by decide +kernel
theorem dX12_readRuns_23 : decode cX12_readRuns 23 = .ok (.iload_n 2, 1) := by decide +kernel
theorem dX12_readRuns_24 : decode cX12_readRuns 24 = .ok (.invokestatic 226, 3) := by decide +kernel
theorem dX12_readRuns_27 : decode cX12_readRuns 27 = .ok (.ifCond .eq 9, 3) := by decide +kernel
theorem dX12_readRuns_30 : decode cX12_readRuns 30 = .ok (.iinc 1 1, 3) := by decide +kernel
theorem dX12_readRuns_33 : decode cX12_readRuns 33 = .ok (.goto (-26), 3) := by decide +kernel
theorem dX12_readRuns_36 : decode cX12_readRuns 36 = .ok (.iconst 1, 1) := by decide +kernel
theorem dX12_readRuns_37 : decode cX12_readRuns 37 = .ok (.istore_n 3, 1) := by decide +kernel
theorem dX12_readRuns_38 : decode cX12_readRuns 38 = .ok (.iload_n 2, 1) := by decide +kernel
theorem dX12_readRuns_39 : decode cX12_readRuns 39 = .ok (.invokestatic 229, 3) := by decide +kernel
theorem dX12_readRuns_42 : decode cX12_readRuns 42 = .ok (.ifCond .eq 72, 3) := by decide +kernel
theorem dX12_readRuns_45 : decode cX12_readRuns 45 = .ok (.iload_n 2, 1) := by decide +kernel
theorem dX12_readRuns_46 : decode cX12_readRuns 46 = .ok (.bipush 48, 2) := by decide +kernel
theorem dX12_readRuns_48 : decode cX12_readRuns 48 = .ok (.if_icmp .ne 5, 3) := by decide +kernel
theorem dX12_readRuns_51 : decode cX12_readRuns 51 = .ok (.iload_n 1, 1) := by decide +kernel
theorem dX12_readRuns_52 : decode cX12_readRuns 52 = .ok (.ireturn, 1) := by decide +kernel
theorem dX12_readRuns_53 : decode cX12_readRuns 53 = .ok (.iload_n 1, 1) := by decide +kernel
theorem dX12_readRuns_54 : decode cX12_readRuns 54 = .ok (.istore 4, 2) := by decide +kernel
theorem dX12_readRuns_56 : decode cX12_readRuns 56 = .ok (.iconst 0, 1) := by decide +kernel
theorem dX12_readRuns_57 : decode cX12_readRuns 57 = .ok (.istore_n 3, 1) := by decide +kernel
theorem dX12_readRuns_58 : decode cX12_readRuns 58 = .ok (.aload_n 0, 1) := by decide +kernel
theorem dX12_readRuns_59 : decode cX12_readRuns 59 = .ok (.iload_n 1, 1) := by decide +kernel
theorem dX12_readRuns_60 : decode cX12_readRuns 60 = .ok (.invokevirtual 137, 3) := by decide +kernel
theorem dX12_readRuns_63 : decode cX12_readRuns 63 = .ok (.invokestatic 229, 3) := by decide +kernel
theorem dX12_readRuns_66 : decode cX12_readRuns 66 = .ok (.ifCond .eq 33, 3) := by decide +kernel
theorem dX12_readRuns_69 : decode cX12_readRuns 69 = .ok (.iload_n 1, 1) := by decide +kernel
theorem dX12_readRuns_70 : decode cX12_readRuns 70 = .ok (.iload 4, 2) := by decide +kernel
theorem dX12_readRuns_72 : decode cX12_readRuns 72 = .ok (.isub, 1) := by decide +kernel
theorem dX12_readRuns_73 : decode cX12_readRuns 73 = .ok (.iconst 3, 1) := by decide +kernel
theorem dX12_readRuns_74 : decode cX12_readRuns 74 = .ok (.if_icmp .ne 5, 3) := by decide +kernel
theorem dX12_readRuns_77 : decode cX12_readRuns 77 = .ok (.iload_n 1, 1) := by decide +kernel
theorem dX12_readRuns_78 : decode cX12_readRuns 78 = .ok (.ireturn, 1) := by decide +kernel
theorem dX12_readRuns_79 : decode cX12_readRuns 79 = .ok (.bipush 10, 2) := by decide +kernel
theorem dX12_readRuns_81 : decode cX12_readRuns 81 = .ok (.iload_n 3, 1) := by decide +kernel
theorem dX12_readRuns_82 : decode cX12_readRuns 82 = .ok (.imul, 1) := by decide +kernel
theorem dX12_readRuns_83 : decode cX12_readRuns 83 = .ok (.aload_n 0, 1) := by decide +kernel
theorem dX12_readRuns_84 : decode cX12_readRuns 84 = .ok (.iload_n 1, 1) := by decide +kernel
theorem dX12_readRuns_85 : decode cX12_readRuns 85 = .ok (.invokevirtual 137, 3) := by decide +kernel
theorem dX12_readRuns_88 : decode cX12_readRuns 88 = .ok (.iadd, 1) := by decide +kernel
theorem dX12_readRuns_89 : decode cX12_readRuns 89 = .ok (.bipush 48, 2) := by decide +kernel
theorem dX12_readRuns_91 : decode cX12_readRuns 91 = .ok (.isub, 1) := by decide +kernel
theorem dX12_readRuns_92 : decode cX12_readRuns 92 = .ok (.istore_n 3, 1) := by decide +kernel
theorem dX12_readRuns_93 : decode cX12_readRuns 93 = .ok (.iinc 1 1, 3) := by decide +kernel
theorem dX12_readRuns_96 : decode cX12_readRuns 96 = .ok (.goto (-38), 3) := by decide +kernel
theorem dX12_readRuns_99 : decode cX12_readRuns 99 = .ok (.iload_n 3, 1) := by decide +kernel
theorem dX12_readRuns_100 : decode cX12_readRuns 100 = .ok (.iconst 2, 1) := by decide +kernel
theorem dX12_readRuns_101 : decode cX12_readRuns 101 = .ok (.if_icmp .ge 7, 3) := by decide +kernel
theorem dX12_readRuns_104 : decode cX12_readRuns 104 = .ok (.iload_n 1, 1) := by decide +kernel
theorem dX12_readRuns_105 : decode cX12_readRuns 105 = .ok (.iconst 1, 1) := by decide +kernel
theorem dX12_readRuns_106 : decode cX12_readRuns 106 = .ok (.isub, 1) := by decide +kernel
theorem dX12_readRuns_107 : decode cX12_readRuns 107 = .ok (.ireturn, 1) := by decide +kernel
theorem dX12_readRuns_108 : decode cX12_readRuns 108 = .ok (.aload_n 0, 1) := by decide +kernel
theorem dX12_readRuns_109 : decode cX12_readRuns 109 = .ok (.iload_n 1, 1) := by decide +kernel
theorem dX12_readRuns_110 : decode cX12_readRuns 110 = .ok (.invokevirtual 137, 3) := by decide +kernel
theorem dX12_readRuns_113 : decode cX12_readRuns 113 = .ok (.istore_n 2, 1) := by decide +kernel
theorem dX12_readRuns_114 : decode cX12_readRuns 114 = .ok (.iload_n 2, 1) := by decide +kernel
theorem dX12_readRuns_115 : decode cX12_readRuns 115 = .ok (.bipush 98, 2) := by decide +kernel
theorem dX12_readRuns_117 : decode cX12_readRuns 117 = .ok (.if_icmp .eq 17, 3) := by decide +kernel
theorem dX12_readRuns_120 : decode cX12_readRuns 120 = .ok (.iload_n 2, 1) := by decide +kernel
theorem dX12_readRuns_121 : decode cX12_readRuns 121 = .ok (.bipush 111, 2) := by decide +kernel
theorem dX12_readRuns_123 : decode cX12_readRuns 123 = .ok (.if_icmp .eq 11, 3) := by decide +kernel
theorem dX12_readRuns_126 : decode cX12_readRuns 126 = .ok (.iload_n 2, 1) := by decide +kernel
theorem dX12_readRuns_127 : decode cX12_readRuns 127 = .ok (.bipush 36, 2) := by decide +kernel
theorem dX12_readRuns_129 : decode cX12_readRuns 129 = .ok (.if_icmp .eq 5, 3) := by decide +kernel
theorem dX12_readRuns_132 : decode cX12_readRuns 132 = .ok (.iload_n 1, 1) := by decide +kernel
theorem dX12_readRuns_133 : decode cX12_readRuns 133 = .ok (.ireturn, 1) := by decide +kernel
theorem dX12_readRuns_134 : decode cX12_readRuns 134 = .ok (.aload_n 0, 1) := by decide +kernel
theorem dX12_readRuns_135 : decode cX12_readRuns 135 = .ok (.getfield 52, 3) := by decide +kernel
theorem dX12_readRuns_138 : decode cX12_readRuns 138 = .ok (.aload_n 0, 1) := by decide +kernel
theorem dX12_readRuns_139 : decode cX12_readRuns 139 = .ok (.getfield 223, 3) := by decide +kernel
theorem dX12_readRuns_142 : decode cX12_readRuns 142 = .ok (.iload_n 3, 1) := by decide +kernel
theorem dX12_readRuns_143 : decode cX12_readRuns 143 = .ok (.iastore, 1) := by decide +kernel
theorem dX12_readRuns_144 : decode cX12_readRuns 144 = .ok (.aload_n 0, 1) := by decide +kernel
theorem dX12_readRuns_145 : decode cX12_readRuns 145 = .ok (.getfield 55, 3) := by decide +kernel
theorem dX12_readRuns_148 : decode cX12_readRuns 148 = .ok (.aload_n 0, 1) := by decide +kernel
theorem dX12_readRuns_149 : decode cX12_readRuns 149 = .ok (.getfield 223, 3) := by decide +kernel
theorem dX12_readRuns_152 : decode cX12_readRuns 152 = .ok (.iload_n 2, 1) := by decide +kernel
theorem dX12_readRuns_153 : decode cX12_readRuns 153 = .ok (.iastore, 1) := by decide +kernel
theorem dX12_readRuns_154 : decode cX12_readRuns 154 = .ok (.aload_n 0, 1) := by decide +kernel
theorem dX12_readRuns_155 : decode cX12_readRuns 155 = .ok (.dup, 1) := by decide +kernel
theorem dX12_readRuns_156 : decode cX12_readRuns 156 = .ok (.getfield 223, 3) := by decide +kernel
theorem dX12_readRuns_159 : decode cX12_readRuns 159 = .ok (.iconst 1, 1) := by decide +kernel
theorem dX12_readRuns_160 : decode cX12_readRuns 160 = .ok (.iadd, 1) := by decide +kernel
theorem dX12_readRuns_161 : decode cX12_readRuns 161 = .ok (.putfield 223, 3) := by decide +kernel
theorem dX12_readRuns_164 : decode cX12_readRuns 164 = .ok (.iinc 1 1, 3) := by decide +kernel
theorem dX12_readRuns_167 : decode cX12_readRuns 167 = .ok (.goto (-160), 3) := by decide +kernel
theorem dX12_readRuns_170 : decode cX12_readRuns 170 = .ok (.iinc 1 1, 3) := by decide +kernel
theorem dX12_readRuns_173 : decode cX12_readRuns 173 = .ok (.aload_n 0, 1) := by decide +kernel
theorem dX12_readRuns_174 : decode cX12_readRuns 174 = .ok (.iload_n 1, 1) := by decide +kernel
theorem dX12_readRuns_175 : decode cX12_readRuns 175 = .ok (.invokevirtual 137, 3) := by decide +kernel
theorem dX12_readRuns_178 : decode cX12_readRuns 178 = .ok (.invokestatic 226, 3) := by decide +kernel
theorem dX12_readRuns_181 : decode cX12_readRuns 181 = .ok (.ifCond .eq 9, 3) := by decide +kernel
theorem dX12_readRuns_184 : decode cX12_readRuns 184 = .ok (.iinc 1 1, 3) := by decide +kernel
theorem dX12_readRuns_187 : decode cX12_readRuns 187 = .ok (.goto (-14), 3) := by decide +kernel
theorem dX12_readRuns_190 : decode cX12_readRuns 190 = .ok (.iload_n 1, 1) := by decide +kernel
theorem dX12_readRuns_191 : decode cX12_readRuns 191 = .ok (.aload_n 0, 1) := by decide +kernel
theorem dX12_readRuns_192 : decode cX12_readRuns 192 = .ok (.getfield 128, 3) := by decide +kernel
theorem dX12_readRuns_195 : decode cX12_readRuns 195 = .ok (.if_icmp .ge 7, 3) := by decide +kernel
theorem dX12_readRuns_198 : decode cX12_readRuns 198 = .ok (.iload_n 1, 1) := by decide +kernel
theorem dX12_readRuns_199 : decode cX12_readRuns 199 = .ok (.goto 4, 3) := by decide +kernel
theorem dX12_readRuns_202 : decode cX12_readRuns 202 = .ok (.iconst (-1), 1) := by decide +kernel
theorem dX12_readRuns_203 : decode cX12_readRuns 203 = .ok (.ireturn, 1) := by decide +kernel
theorem dX12_read_0 : decode cX12_read 0 = .ok (.iconst (-1), 1) := by decide +kernel
theorem dX12_read_1 : decode cX12_read 1 = .ok (.istore 4, 2) := by decide +kernel
theorem dX12_read_3 : decode cX12_read 3 = .ok (.aload_n 0, 1) := by decide +kernel
theorem dX12_read_4 : decode cX12_read 4 = .ok (.iload_n 1, 1) := by decide +kernel
theorem dX12_read_5 : decode cX12_read 5 = .ok (.invokevirtual 178, 3) := by decide +kernel
theorem dX12_read_8 : decode cX12_read 8 = .ok (.ifCond .eq 57, 3) := by decide +kernel
theorem dX12_read_11 : decode cX12_read 11 = .ok (.aload_n 0, 1) := by decide +kernel
theorem dX12_read_12 : decode cX12_read 12 = .ok (.iload_n 2, 1) := by decide +kernel
theorem dX12_read_13 : decode cX12_read 13 = .ok (.iload_n 3, 1) := by decide +kernel
theorem dX12_read_14 : decode cX12_read 14 = .ok (.invokevirtual 181, 3) := by decide +kernel
theorem dX12_read_17 : decode cX12_read 17 = .ok (.ifCond .eq 48, 3) := by decide +kernel
theorem dX12_read_20 : decode cX12_read 20 = .ok (.aload_n 0, 1) := by decide +kernel
theorem dX12_read_21 : decode cX12_read 21 = .ok (.invokevirtual 232, 3) := by decide +kernel
theorem dX12_read_24 : decode cX12_read 24 = .ok (.istore 5, 2) := by decide +kernel
theorem dX12_read_26 : decode cX12_read 26 = .ok (.iload 5, 2) := by decide +kernel
theorem dX12_read_28 : decode cX12_read 28 = .ok (.ifCond .lt 11, 3) := by decide +kernel
theorem dX12_read_31 : decode cX12_read 31 = .ok (.bipush (-10), 2) := by decide +kernel
theorem dX12_read_33 : decode cX12_read 33 = .ok (.iload 5, 2) := by decide +kernel
theorem dX12_read_35 : decode cX12_read 35 = .ok (.isub, 1) := by decide +kernel
theorem dX12_read_36 : decode cX12_read 36 = .ok (.goto 27, 3) := by decide +kernel
theorem dX12_read_39 : decode cX12_read 39 = .ok (.aload_n 0, 1) := by decide +kernel
theorem dX12_read_40 : decode cX12_read 40 = .ok (.iload_n 1, 1) := by decide +kernel
theorem dX12_read_41 : decode cX12_read 41 = .ok (.iload_n 2, 1) := by decide +kernel
theorem dX12_read_42 : decode cX12_read 42 = .ok (.iload_n 3, 1) := by decide +kernel
theorem dX12_read_43 : decode cX12_read 43 = .ok (.iconst 0, 1) := by decide +kernel
theorem dX12_read_44 : decode cX12_read 44 = .ok (.invokevirtual 236, 3) := by decide +kernel
theorem dX12_read_47 : decode cX12_read 47 = .ok (.ifCond .ge 8, 3) := by decide +kernel
theorem dX12_read_50 : decode cX12_read 50 = .ok (.bipush (-2), 2) := by decide +kernel
theorem dX12_read_52 : decode cX12_read 52 = .ok (.goto 11, 3) := by decide +kernel
theorem dX12_read_55 : decode cX12_read 55 = .ok (.aload_n 0, 1) := by decide +kernel
theorem dX12_read_56 : decode cX12_read 56 = .ok (.iload_n 1, 1) := by decide +kernel
theorem dX12_read_57 : decode cX12_read 57 = .ok (.iload_n 2, 1) := by decide +kernel
theorem dX12_read_58 : decode cX12_read 58 = .ok (.iload_n 3, 1) := by decide +kernel
theorem dX12_read_59 : decode cX12_read 59 = .ok (.iconst 1, 1) := by decide +kernel
theorem dX12_read_60 : decode cX12_read 60 = .ok (.invokevirtual 236, 3) := by decide +kernel
theorem dX12_read_63 : decode cX12_read 63 = .ok (.istore 4, 2) := by decide +kernel
theorem dX12_read_65 : decode cX12_read 65 = .ok (.aload_n 0, 1) := by decide +kernel
theorem dX12_read_66 : decode cX12_read 66 = .ok (.iconst 0, 1) := by decide +kernel
theorem dX12_read_67 : decode cX12_read 67 = .ok (.putfield 128, 3) := by decide +kernel
theorem dX12_read_70 : decode cX12_read 70 = .ok (.iload 4, 2) := by decide +kernel
theorem dX12_read_72 : decode cX12_read 72 = .ok (.ireturn, 1) := by decide +kernel
theorem dX12_told_0 : decode cX12_told 0 = .ok (.iconst 0, 1) := by decide +kernel
theorem dX12_told_1 : decode cX12_told 1 = .ok (.istore 5, 2) := by decide +kernel
theorem dX12_told_3 : decode cX12_told 3 = .ok (.iload_n 2, 1) := by decide +kernel
theorem dX12_told_4 : decode cX12_told 4 = .ok (.istore 6, 2) := by decide +kernel
theorem dX12_told_6 : decode cX12_told 6 = .ok (.iload_n 3, 1) := by decide +kernel
theorem dX12_told_7 : decode cX12_told 7 = .ok (.istore 7, 2) := by decide +kernel
theorem dX12_told_9 : decode cX12_told 9 = .ok (.iconst 0, 1) := by decide +kernel
theorem dX12_told_10 : decode cX12_told 10 = .ok (.istore 8, 2) := by decide +kernel
theorem dX12_told_12 : decode cX12_told 12 = .ok (.iload 8, 2) := by decide +kernel
theorem dX12_told_14 : decode cX12_told 14 = .ok (.aload_n 0, 1) := by decide +kernel
theorem dX12_told_15 : decode cX12_told 15 = .ok (.getfield 223, 3) := by decide +kernel
theorem dX12_told_18 : decode cX12_told 18 = .ok (.if_icmp .ge 171, 3) := by decide +kernel
theorem dX12_told_21 : decode cX12_told 21 = .ok (.aload_n 0, 1) := by decide +kernel
theorem dX12_told_22 : decode cX12_told 22 = .ok (.getfield 55, 3) := by decide +kernel
theorem dX12_told_25 : decode cX12_told 25 = .ok (.iload 8, 2) := by decide +kernel
theorem dX12_told_27 : decode cX12_told 27 = .ok (.iaload, 1) := by decide +kernel
theorem dX12_told_28 : decode cX12_told 28 = .ok (.bipush 36, 2) := by decide +kernel
theorem dX12_told_30 : decode cX12_told 30 = .ok (.if_icmp .ne 21, 3) := by decide +kernel
theorem dX12_told_33 : decode cX12_told 33 = .ok (.iload 7, 2) := by decide +kernel
theorem dX12_told_35 : decode cX12_told 35 = .ok (.aload_n 0, 1) := by decide +kernel
theorem dX12_told_36 : decode cX12_told 36 = .ok (.getfield 52, 3) := by decide +kernel
theorem dX12_told_39 : decode cX12_told 39 = .ok (.iload 8, 2) := by decide +kernel
theorem dX12_told_41 : decode cX12_told 41 = .ok (.iaload, 1) := by decide +kernel
theorem dX12_told_42 : decode cX12_told 42 = .ok (.iadd, 1) := by decide +kernel
theorem dX12_told_43 : decode cX12_told 43 = .ok (.istore 7, 2) := by decide +kernel
theorem dX12_told_45 : decode cX12_told 45 = .ok (.iload_n 2, 1) := by decide +kernel
theorem dX12_told_46 : decode cX12_told 46 = .ok (.istore 6, 2) := by decide +kernel
theorem dX12_told_48 : decode cX12_told 48 = .ok (.goto 135, 3) := by decide +kernel
theorem dX12_told_51 : decode cX12_told 51 = .ok (.iload 6, 2) := by decide +kernel
theorem dX12_told_53 : decode cX12_told 53 = .ok (.aload_n 0, 1) := by decide +kernel
theorem dX12_told_54 : decode cX12_told 54 = .ok (.getfield 52, 3) := by decide +kernel
theorem dX12_told_57 : decode cX12_told 57 = .ok (.iload 8, 2) := by decide +kernel
theorem dX12_told_59 : decode cX12_told 59 = .ok (.iaload, 1) := by decide +kernel
theorem dX12_told_60 : decode cX12_told 60 = .ok (.iadd, 1) := by decide +kernel
theorem dX12_told_61 : decode cX12_told 61 = .ok (.sipush 128, 3) := by decide +kernel
theorem dX12_told_64 : decode cX12_told 64 = .ok (.if_icmp .gt 10, 3) := by decide +kernel
theorem dX12_told_67 : decode cX12_told 67 = .ok (.iload 7, 2) := by decide +kernel
theorem dX12_told_69 : decode cX12_told 69 = .ok (.bipush 127, 2) := by decide +kernel
theorem dX12_told_71 : decode cX12_told 71 = .ok (.if_icmp .le 6, 3) := by decide +kernel
theorem dX12_told_74 : decode cX12_told 74 = .ok (.bipush (-2), 2) := by decide +kernel
theorem dX12_told_76 : decode cX12_told 76 = .ok (.ireturn, 1) := by decide +kernel
theorem dX12_told_77 : decode cX12_told 77 = .ok (.aload_n 0, 1) := by decide +kernel
theorem dX12_told_78 : decode cX12_told 78 = .ok (.getfield 55, 3) := by decide +kernel
theorem dX12_told_81 : decode cX12_told 81 = .ok (.iload 8, 2) := by decide +kernel
theorem dX12_told_83 : decode cX12_told 83 = .ok (.iaload, 1) := by decide +kernel
theorem dX12_told_84 : decode cX12_told 84 = .ok (.bipush 111, 2) := by decide +kernel
theorem dX12_told_86 : decode cX12_told 86 = .ok (.if_icmp .ne 7, 3) := by decide +kernel
theorem dX12_told_89 : decode cX12_told 89 = .ok (.iconst 1, 1) := by decide +kernel
theorem dX12_told_90 : decode cX12_told 90 = .ok (.goto 4, 3) := by decide +kernel
theorem dX12_told_93 : decode cX12_told 93 = .ok (.iconst 0, 1) := by decide +kernel
theorem dX12_told_94 : decode cX12_told 94 = .ok (.istore 9, 2) := by decide +kernel
theorem dX12_told_96 : decode cX12_told 96 = .ok (.iconst 0, 1) := by decide +kernel
theorem dX12_told_97 : decode cX12_told 97 = .ok (.istore 10, 2) := by decide +kernel
theorem dX12_told_99 : decode cX12_told 99 = .ok (.iload 10, 2) := by decide +kernel
theorem dX12_told_101 : decode cX12_told 101 = .ok (.aload_n 0, 1) := by decide +kernel
theorem dX12_told_102 : decode cX12_told 102 = .ok (.getfield 52, 3) := by decide +kernel
theorem dX12_told_105 : decode cX12_told 105 = .ok (.iload 8, 2) := by decide +kernel
theorem dX12_told_107 : decode cX12_told 107 = .ok (.iaload, 1) := by decide +kernel
theorem dX12_told_108 : decode cX12_told 108 = .ok (.if_icmp .ge 42, 3) := by decide +kernel
theorem dX12_told_111 : decode cX12_told 111 = .ok (.iload 4, 2) := by decide +kernel
theorem dX12_told_113 : decode cX12_told 113 = .ok (.ifCond .eq 37, 3) := by decide +kernel
theorem dX12_told_116 : decode cX12_told 116 = .ok (.aload_n 0, 1) := by decide +kernel
theorem dX12_told_117 : decode cX12_told 117 = .ok (.getfield 36, 3) := by decide +kernel
theorem dX12_told_120 : decode cX12_told 120 = .ok (.aload_n 0, 1) := by decide +kernel
theorem dX12_told_121 : decode cX12_told 121 = .ok (.iload_n 1, 1) := by decide +kernel
theorem dX12_told_122 : decode cX12_told 122 = .ok (.iload 6, 2) := by decide +kernel
theorem dX12_told_124 : decode cX12_told 124 = .ok (.iload 10, 2) := by decide +kernel
theorem dX12_told_126 : decode cX12_told 126 = .ok (.iadd, 1) := by decide +kernel
theorem dX12_told_127 : decode cX12_told 127 = .ok (.iload 7, 2) := by decide +kernel
theorem dX12_told_129 : decode cX12_told 129 = .ok (.invokevirtual 185, 3) := by decide +kernel
theorem dX12_told_132 : decode cX12_told 132 = .ok (.iload 9, 2) := by decide +kernel
theorem dX12_told_134 : decode cX12_told 134 = .ok (.ifCond .eq 7, 3) := by decide +kernel
theorem dX12_told_137 : decode cX12_told 137 = .ok (.iconst 1, 1) := by decide +kernel
theorem dX12_told_138 : decode cX12_told 138 = .ok (.goto 4, 3) := by decide +kernel
theorem dX12_told_141 : decode cX12_told 141 = .ok (.iconst 0, 1) := by decide +kernel
theorem dX12_told_142 : decode cX12_told 142 = .ok (.i2b, 1) := by decide +kernel
theorem dX12_told_143 : decode cX12_told 143 = .ok (.bastore, 1) := by decide +kernel
theorem dX12_told_144 : decode cX12_told 144 = .ok (.iinc 10 1, 3) := by decide +kernel
theorem dX12_told_147 : decode cX12_told 147 = .ok (.goto (-48), 3) := by decide +kernel
theorem dX12_told_150 : decode cX12_told 150 = .ok (.iload 6, 2) := by decide +kernel
theorem dX12_told_152 : decode cX12_told 152 = .ok (.aload_n 0, 1) := by decide +kernel
theorem dX12_told_153 : decode cX12_told 153 = .ok (.getfield 52, 3) := by decide +kernel
theorem dX12_told_156 : decode cX12_told 156 = .ok (.iload 8, 2) := by decide +kernel
theorem dX12_told_158 : decode cX12_told 158 = .ok (.iaload, 1) := by decide +kernel
theorem dX12_told_159 : decode cX12_told 159 = .ok (.iadd, 1) := by decide +kernel
theorem dX12_told_160 : decode cX12_told 160 = .ok (.istore 6, 2) := by decide +kernel
theorem dX12_told_162 : decode cX12_told 162 = .ok (.iload 5, 2) := by decide +kernel
theorem dX12_told_164 : decode cX12_told 164 = .ok (.iload 9, 2) := by decide +kernel
theorem dX12_told_166 : decode cX12_told 166 = .ok (.ifCond .eq 13, 3) := by decide +kernel
theorem dX12_told_169 : decode cX12_told 169 = .ok (.aload_n 0, 1) := by decide +kernel
theorem dX12_told_170 : decode cX12_told 170 = .ok (.getfield 52, 3) := by decide +kernel
theorem dX12_told_173 : decode cX12_told 173 = .ok (.iload 8, 2) := by decide +kernel
theorem dX12_told_175 : decode cX12_told 175 = .ok (.iaload, 1) := by decide +kernel
theorem dX12_told_176 : decode cX12_told 176 = .ok (.goto 4, 3) := by decide +kernel
theorem dX12_told_179 : decode cX12_told 179 = .ok (.iconst 0, 1) := by decide +kernel
theorem dX12_told_180 : decode cX12_told 180 = .ok (.iadd, 1) := by decide +kernel
theorem dX12_told_181 : decode cX12_told 181 = .ok (.istore 5, 2) := by decide +kernel
theorem dX12_told_183 : decode cX12_told 183 = .ok (.iinc 8 1, 3) := by decide +kernel
theorem dX12_told_186 : decode cX12_told 186 = .ok (.goto (-174), 3) := by decide +kernel
theorem dX12_told_189 : decode cX12_told 189 = .ok (.iload 5, 2) := by decide +kernel
theorem dX12_told_191 : decode cX12_told 191 = .ok (.ireturn, 1) := by decide +kernel
theorem dX12_say_0 : decode cX12_say 0 = .ok (.aload_n 0, 1) := by decide +kernel
theorem dX12_say_1 : decode cX12_say 1 = .ok (.getfield 59, 3) := by decide +kernel
theorem dX12_say_4 : decode cX12_say 4 = .ok (.aload_n 0, 1) := by decide +kernel
theorem dX12_say_5 : decode cX12_say 5 = .ok (.getfield 240, 3) := by decide +kernel
theorem dX12_say_8 : decode cX12_say 8 = .ok (.iload_n 1, 1) := by decide +kernel
theorem dX12_say_9 : decode cX12_say 9 = .ok (.i2b, 1) := by decide +kernel
theorem dX12_say_10 : decode cX12_say 10 = .ok (.bastore, 1) := by decide +kernel
theorem dX12_say_11 : decode cX12_say 11 = .ok (.aload_n 0, 1) := by decide +kernel
theorem dX12_say_12 : decode cX12_say 12 = .ok (.dup, 1) := by decide +kernel
theorem dX12_say_13 : decode cX12_say 13 = .ok (.getfield 240, 3) := by decide +kernel
theorem dX12_say_16 : decode cX12_say 16 = .ok (.iconst 1, 1) := by decide +kernel
theorem dX12_say_17 : decode cX12_say 17 = .ok (.iadd, 1) := by decide +kernel
theorem dX12_say_18 : decode cX12_say 18 = .ok (.putfield 240, 3) := by decide +kernel
theorem dX12_say_21 : decode cX12_say 21 = .ok (.return_, 1) := by decide +kernel
theorem dX12_sayRun_0 : decode cX12_sayRun 0 = .ok (.iload_n 1, 1) := by decide +kernel
theorem dX12_sayRun_1 : decode cX12_sayRun 1 = .ok (.bipush 99, 2) := by decide +kernel
theorem dX12_sayRun_3 : decode cX12_sayRun 3 = .ok (.if_icmp .le 14, 3) := by decide +kernel
theorem dX12_sayRun_6 : decode cX12_sayRun 6 = .ok (.aload_n 0, 1) := by decide +kernel
theorem dX12_sayRun_7 : decode cX12_sayRun 7 = .ok (.bipush 48, 2) := by decide +kernel
theorem dX12_sayRun_9 : decode cX12_sayRun 9 = .ok (.iload_n 1, 1) := by decide +kernel
theorem dX12_sayRun_10 : decode cX12_sayRun 10 = .ok (.bipush 100, 2) := by decide +kernel
theorem dX12_sayRun_12 : decode cX12_sayRun 12 = .ok (.idiv, 1) := by decide +kernel
theorem dX12_sayRun_13 : decode cX12_sayRun 13 = .ok (.iadd, 1) := by decide +kernel
theorem dX12_sayRun_14 : decode cX12_sayRun 14 = .ok (.invokevirtual 243, 3) := by decide +kernel
theorem dX12_sayRun_17 : decode cX12_sayRun 17 = .ok (.iload_n 1, 1) := by decide +kernel
theorem dX12_sayRun_18 : decode cX12_sayRun 18 = .ok (.bipush 9, 2) := by decide +kernel
theorem dX12_sayRun_20 : decode cX12_sayRun 20 = .ok (.if_icmp .le 17, 3) := by decide +kernel
theorem dX12_sayRun_23 : decode cX12_sayRun 23 = .ok (.aload_n 0, 1) := by decide +kernel
theorem dX12_sayRun_24 : decode cX12_sayRun 24 = .ok (.bipush 48, 2) := by decide +kernel
theorem dX12_sayRun_26 : decode cX12_sayRun 26 = .ok (.iload_n 1, 1) := by decide +kernel
theorem dX12_sayRun_27 : decode cX12_sayRun 27 = .ok (.bipush 10, 2) := by decide +kernel
theorem dX12_sayRun_29 : decode cX12_sayRun 29 = .ok (.idiv, 1) := by decide +kernel
theorem dX12_sayRun_30 : decode cX12_sayRun 30 = .ok (.bipush 10, 2) := by decide +kernel
theorem dX12_sayRun_32 : decode cX12_sayRun 32 = .ok (.irem, 1) := by decide +kernel
theorem dX12_sayRun_33 : decode cX12_sayRun 33 = .ok (.iadd, 1) := by decide +kernel
theorem dX12_sayRun_34 : decode cX12_sayRun 34 = .ok (.invokevirtual 243, 3) := by decide +kernel
theorem dX12_sayRun_37 : decode cX12_sayRun 37 = .ok (.iload_n 1, 1) := by decide +kernel
theorem dX12_sayRun_38 : decode cX12_sayRun 38 = .ok (.iconst 1, 1) := by decide +kernel
theorem dX12_sayRun_39 : decode cX12_sayRun 39 = .ok (.if_icmp .le 14, 3) := by decide +kernel
theorem dX12_sayRun_42 : decode cX12_sayRun 42 = .ok (.aload_n 0, 1) := by decide +kernel
theorem dX12_sayRun_43 : decode cX12_sayRun 43 = .ok (.bipush 48, 2) := by decide +kernel
theorem dX12_sayRun_45 : decode cX12_sayRun 45 = .ok (.iload_n 1, 1) := by decide +kernel
theorem dX12_sayRun_46 : decode cX12_sayRun 46 = .ok (.bipush 10, 2) := by decide +kernel
theorem dX12_sayRun_48 : decode cX12_sayRun 48 = .ok (.irem, 1) := by decide +kernel
theorem dX12_sayRun_49 : decode cX12_sayRun 49 = .ok (.iadd, 1) := by decide +kernel
theorem dX12_sayRun_50 : decode cX12_sayRun 50 = .ok (.invokevirtual 243, 3) := by decide +kernel
theorem dX12_sayRun_53 : decode cX12_sayRun 53 = .ok (.aload_n 0, 1) := by decide +kernel
theorem dX12_sayRun_54 : decode cX12_sayRun 54 = .ok (.iload_n 2, 1) := by decide +kernel
theorem dX12_sayRun_55 : decode cX12_sayRun 55 = .ok (.invokevirtual 243, 3) := by decide +kernel
theorem dX12_sayRun_58 : decode cX12_sayRun 58 = .ok (.return_, 1) := by decide +kernel
theorem dX12_spell_0 : decode cX12_spell 0 = .ok (.aload_n 0, 1) := by decide +kernel
theorem dX12_spell_1 : decode cX12_spell 1 = .ok (.iconst 0, 1) := by decide +kernel
theorem dX12_spell_2 : decode cX12_spell 2 = .ok (.putfield 240, 3) := by decide +kernel
theorem dX12_spell_5 : decode cX12_spell 5 = .ok (.ldc 45, 2) := by decide +kernel
theorem dX12_spell_7 : decode cX12_spell 7 = .ok (.iload_n 1, 1) := by decide +kernel
theorem dX12_spell_8 : decode cX12_spell 8 = .ok (.imul, 1) := by decide +kernel
theorem dX12_spell_9 : decode cX12_spell 9 = .ok (.istore_n 2, 1) := by decide +kernel
theorem dX12_spell_10 : decode cX12_spell 10 = .ok (.aload_n 0, 1) := by decide +kernel
theorem dX12_spell_11 : decode cX12_spell 11 = .ok (.aload_n 0, 1) := by decide +kernel
theorem dX12_spell_12 : decode cX12_spell 12 = .ok (.getfield 36, 3) := by decide +kernel
theorem dX12_spell_15 : decode cX12_spell 15 = .ok (.iload_n 2, 1) := by decide +kernel
theorem dX12_spell_16 : decode cX12_spell 16 = .ok (.invokevirtual 204, 3) := by decide +kernel
theorem dX12_spell_19 : decode cX12_spell 19 = .ok (.iconst (-1), 1) := by decide +kernel
theorem dX12_spell_20 : decode cX12_spell 20 = .ok (.istore_n 3, 1) := by decide +kernel
theorem dX12_spell_21 : decode cX12_spell 21 = .ok (.aload_n 0, 1) := by decide +kernel
theorem dX12_spell_22 : decode cX12_spell 22 = .ok (.getfield 195, 3) := by decide +kernel
theorem dX12_spell_25 : decode cX12_spell 25 = .ok (.istore 4, 2) := by decide +kernel
theorem dX12_spell_27 : decode cX12_spell 27 = .ok (.iload 4, 2) := by decide +kernel
theorem dX12_spell_29 : decode cX12_spell 29 = .ok (.aload_n 0, 1) := by decide +kernel
theorem dX12_spell_30 : decode cX12_spell 30 = .ok (.getfield 198, 3) := by decide +kernel
theorem dX12_spell_33 : decode cX12_spell 33 = .ok (.if_icmp .gt 190, 3) := by decide +kernel
theorem dX12_spell_36 : decode cX12_spell 36 = .ok (.iconst (-1), 1) := by decide +kernel
theorem dX12_spell_37 : decode cX12_spell 37 = .ok (.istore 5, 2) := by decide +kernel
theorem dX12_spell_39 : decode cX12_spell 39 = .ok (.aload_n 0, 1) := by decide +kernel
theorem dX12_spell_40 : decode cX12_spell 40 = .ok (.getfield 189, 3) := by decide +kernel
theorem dX12_spell_43 : decode cX12_spell 43 = .ok (.istore 6, 2) := by decide +kernel
theorem dX12_spell_45 : decode cX12_spell 45 = .ok (.iload 6, 2) := by decide +kernel
theorem dX12_spell_47 : decode cX12_spell 47 = .ok (.aload_n 0, 1) := by decide +kernel
theorem dX12_spell_48 : decode cX12_spell 48 = .ok (.getfield 192, 3) := by decide +kernel
theorem dX12_spell_51 : decode cX12_spell 51 = .ok (.if_icmp .gt 38, 3) := by decide +kernel
theorem dX12_spell_54 : decode cX12_spell 54 = .ok (.aload_n 0, 1) := by decide +kernel
theorem dX12_spell_55 : decode cX12_spell 55 = .ok (.getfield 36, 3) := by decide +kernel
theorem dX12_spell_58 : decode cX12_spell 58 = .ok (.iload_n 2, 1) := by decide +kernel
theorem dX12_spell_59 : decode cX12_spell 59 = .ok (.sipush 256, 3) := by decide +kernel
theorem dX12_spell_62 : decode cX12_spell 62 = .ok (.iload 4, 2) := by decide +kernel
theorem dX12_spell_64 : decode cX12_spell 64 = .ok (.imul, 1) := by decide +kernel
theorem dX12_spell_65 : decode cX12_spell 65 = .ok (.iadd, 1) := by decide +kernel
theorem dX12_spell_66 : decode cX12_spell 66 = .ok (.iload 6, 2) := by decide +kernel
theorem dX12_spell_68 : decode cX12_spell 68 = .ok (.iadd, 1) := by decide +kernel
theorem dX12_spell_69 : decode cX12_spell 69 = .ok (.baload, 1) := by decide +kernel
theorem dX12_spell_70 : decode cX12_spell 70 = .ok (.iconst 1, 1) := by decide +kernel
theorem dX12_spell_71 : decode cX12_spell 71 = .ok (.if_icmp .ne 8, 3) := by decide +kernel
theorem dX12_spell_74 : decode cX12_spell 74 = .ok (.iload 6, 2) := by decide +kernel
theorem dX12_spell_76 : decode cX12_spell 76 = .ok (.goto 5, 3) := by decide +kernel
theorem dX12_spell_79 : decode cX12_spell 79 = .ok (.iload 5, 2) := by decide +kernel
theorem dX12_spell_81 : decode cX12_spell 81 = .ok (.istore 5, 2) := by decide +kernel
theorem dX12_spell_83 : decode cX12_spell 83 = .ok (.iinc 6 1, 3) := by decide +kernel
theorem dX12_spell_86 : decode cX12_spell 86 = .ok (.goto (-41), 3) := by decide +kernel
theorem dX12_spell_89 : decode cX12_spell 89 = .ok (.iload 5, 2) := by decide +kernel
theorem dX12_spell_91 : decode cX12_spell 91 = .ok (.ifCond .ge 6, 3) := by decide +kernel
theorem dX12_spell_94 : decode cX12_spell 94 = .ok (.goto 123, 3) := by decide +kernel
theorem dX12_spell_97 : decode cX12_spell 97 = .ok (.iload_n 3, 1) := by decide +kernel
theorem dX12_spell_98 : decode cX12_spell 98 = .ok (.ifCond .lt 13, 3) := by decide +kernel
theorem dX12_spell_101 : decode cX12_spell 101 = .ok (.aload_n 0, 1) := by decide +kernel
theorem dX12_spell_102 : decode cX12_spell 102 = .ok (.iload 4, 2) := by decide +kernel
theorem dX12_spell_104 : decode cX12_spell 104 = .ok (.iload_n 3, 1) := by decide +kernel
theorem dX12_spell_105 : decode cX12_spell 105 = .ok (.isub, 1) := by decide +kernel
theorem dX12_spell_106 : decode cX12_spell 106 = .ok (.bipush 36, 2) := by decide +kernel
theorem dX12_spell_108 : decode cX12_spell 108 = .ok (.invokevirtual 247, 3) := by decide +kernel
theorem dX12_spell_111 : decode cX12_spell 111 = .ok (.iload 4, 2) := by decide +kernel
theorem dX12_spell_113 : decode cX12_spell 113 = .ok (.istore_n 3, 1) := by decide +kernel
theorem dX12_spell_114 : decode cX12_spell 114 = .ok (.aload_n 0, 1) := by decide +kernel
theorem dX12_spell_115 : decode cX12_spell 115 = .ok (.getfield 189, 3) := by decide +kernel
theorem dX12_spell_118 : decode cX12_spell 118 = .ok (.istore 6, 2) := by decide +kernel
theorem dX12_spell_120 : decode cX12_spell 120 = .ok (.iload 6, 2) := by decide +kernel
theorem dX12_spell_122 : decode cX12_spell 122 = .ok (.iload 5, 2) := by decide +kernel
theorem dX12_spell_124 : decode cX12_spell 124 = .ok (.if_icmp .gt 93, 3) := by decide +kernel
theorem dX12_spell_127 : decode cX12_spell 127 = .ok (.aload_n 0, 1) := by decide +kernel
theorem dX12_spell_128 : decode cX12_spell 128 = .ok (.getfield 36, 3) := by decide +kernel
theorem dX12_spell_131 : decode cX12_spell 131 = .ok (.iload_n 2, 1) := by decide +kernel
theorem dX12_spell_132 : decode cX12_spell 132 = .ok (.sipush 256, 3) := by decide +kernel
theorem dX12_spell_135 : decode cX12_spell 135 = .ok (.iload 4, 2) := by decide +kernel
theorem dX12_spell_137 : decode cX12_spell 137 = .ok (.imul, 1) := by decide +kernel
theorem dX12_spell_138 : decode cX12_spell 138 = .ok (.iadd, 1) := by decide +kernel
theorem dX12_spell_139 : decode cX12_spell 139 = .ok (.iload 6, 2) := by decide +kernel
theorem dX12_spell_141 : decode cX12_spell 141 = .ok (.iadd, 1) := by decide +kernel
theorem dX12_spell_142 : decode cX12_spell 142 = .ok (.baload, 1) := by decide +kernel
theorem dX12_spell_143 : decode cX12_spell 143 = .ok (.istore 7, 2) := by decide +kernel
theorem dX12_spell_145 : decode cX12_spell 145 = .ok (.iconst 1, 1) := by decide +kernel
theorem dX12_spell_146 : decode cX12_spell 146 = .ok (.istore 8, 2) := by decide +kernel
theorem dX12_spell_148 : decode cX12_spell 148 = .ok (.iload 6, 2) := by decide +kernel
theorem dX12_spell_150 : decode cX12_spell 150 = .ok (.iload 8, 2) := by decide +kernel
theorem dX12_spell_152 : decode cX12_spell 152 = .ok (.iadd, 1) := by decide +kernel
theorem dX12_spell_153 : decode cX12_spell 153 = .ok (.iload 5, 2) := by decide +kernel
theorem dX12_spell_155 : decode cX12_spell 155 = .ok (.if_icmp .gt 33, 3) := by decide +kernel
theorem dX12_spell_158 : decode cX12_spell 158 = .ok (.aload_n 0, 1) := by decide +kernel
theorem dX12_spell_159 : decode cX12_spell 159 = .ok (.getfield 36, 3) := by decide +kernel
theorem dX12_spell_162 : decode cX12_spell 162 = .ok (.iload_n 2, 1) := by decide +kernel
theorem dX12_spell_163 : decode cX12_spell 163 = .ok (.sipush 256, 3) := by decide +kernel
theorem dX12_spell_166 : decode cX12_spell 166 = .ok (.iload 4, 2) := by decide +kernel
theorem dX12_spell_168 : decode cX12_spell 168 = .ok (.imul, 1) := by decide +kernel
theorem dX12_spell_169 : decode cX12_spell 169 = .ok (.iadd, 1) := by decide +kernel
theorem dX12_spell_170 : decode cX12_spell 170 = .ok (.iload 6, 2) := by decide +kernel
theorem dX12_spell_172 : decode cX12_spell 172 = .ok (.iadd, 1) := by decide +kernel
theorem dX12_spell_173 : decode cX12_spell 173 = .ok (.iload 8, 2) := by decide +kernel
theorem dX12_spell_175 : decode cX12_spell 175 = .ok (.iadd, 1) := by decide +kernel
theorem dX12_spell_176 : decode cX12_spell 176 = .ok (.baload, 1) := by decide +kernel
theorem dX12_spell_177 : decode cX12_spell 177 = .ok (.iload 7, 2) := by decide +kernel
theorem dX12_spell_179 : decode cX12_spell 179 = .ok (.if_icmp .ne 9, 3) := by decide +kernel
theorem dX12_spell_182 : decode cX12_spell 182 = .ok (.iinc 8 1, 3) := by decide +kernel
theorem dX12_spell_185 : decode cX12_spell 185 = .ok (.goto (-37), 3) := by decide +kernel
theorem dX12_spell_188 : decode cX12_spell 188 = .ok (.aload_n 0, 1) := by decide +kernel
theorem dX12_spell_189 : decode cX12_spell 189 = .ok (.iload 8, 2) := by decide +kernel
theorem dX12_spell_191 : decode cX12_spell 191 = .ok (.iload 7, 2) := by decide +kernel
theorem dX12_spell_193 : decode cX12_spell 193 = .ok (.iconst 1, 1) := by decide +kernel
theorem dX12_spell_194 : decode cX12_spell 194 = .ok (.if_icmp .ne 8, 3) := by decide +kernel
theorem dX12_spell_197 : decode cX12_spell 197 = .ok (.bipush 111, 2) := by decide +kernel
theorem dX12_spell_199 : decode cX12_spell 199 = .ok (.goto 5, 3) := by decide +kernel
theorem dX12_spell_202 : decode cX12_spell 202 = .ok (.bipush 98, 2) := by decide +kernel
theorem dX12_spell_204 : decode cX12_spell 204 = .ok (.invokevirtual 247, 3) := by decide +kernel
theorem dX12_spell_207 : decode cX12_spell 207 = .ok (.iload 6, 2) := by decide +kernel
theorem dX12_spell_209 : decode cX12_spell 209 = .ok (.iload 8, 2) := by decide +kernel
theorem dX12_spell_211 : decode cX12_spell 211 = .ok (.iadd, 1) := by decide +kernel
theorem dX12_spell_212 : decode cX12_spell 212 = .ok (.istore 6, 2) := by decide +kernel
theorem dX12_spell_214 : decode cX12_spell 214 = .ok (.goto (-94), 3) := by decide +kernel
theorem dX12_spell_217 : decode cX12_spell 217 = .ok (.iinc 4 1, 3) := by decide +kernel
theorem dX12_spell_220 : decode cX12_spell 220 = .ok (.goto (-193), 3) := by decide +kernel
theorem dX12_spell_223 : decode cX12_spell 223 = .ok (.aload_n 0, 1) := by decide +kernel
theorem dX12_spell_224 : decode cX12_spell 224 = .ok (.bipush 33, 2) := by decide +kernel
theorem dX12_spell_226 : decode cX12_spell 226 = .ok (.invokevirtual 243, 3) := by decide +kernel
theorem dX12_spell_229 : decode cX12_spell 229 = .ok (.return_, 1) := by decide +kernel
theorem dX12_textByte_0 : decode cX12_textByte 0 = .ok (.aload_n 0, 1) := by decide +kernel
theorem dX12_textByte_1 : decode cX12_textByte 1 = .ok (.iload_n 1, 1) := by decide +kernel
theorem dX12_textByte_2 : decode cX12_textByte 2 = .ok (.invokevirtual 178, 3) := by decide +kernel
theorem dX12_textByte_5 : decode cX12_textByte 5 = .ok (.ifCond .ne 5, 3) := by decide +kernel
theorem dX12_textByte_8 : decode cX12_textByte 8 = .ok (.iconst (-1), 1) := by decide +kernel
theorem dX12_textByte_9 : decode cX12_textByte 9 = .ok (.ireturn, 1) := by decide +kernel
theorem dX12_textByte_10 : decode cX12_textByte 10 = .ok (.aload_n 0, 1) := by decide +kernel
theorem dX12_textByte_11 : decode cX12_textByte 11 = .ok (.iload_n 1, 1) := by decide +kernel
theorem dX12_textByte_12 : decode cX12_textByte 12 = .ok (.invokevirtual 251, 3) := by decide +kernel
theorem dX12_textByte_15 : decode cX12_textByte 15 = .ok (.iload_n 2, 1) := by decide +kernel
theorem dX12_textByte_16 : decode cX12_textByte 16 = .ok (.ifCond .lt 11, 3) := by decide +kernel
theorem dX12_textByte_19 : decode cX12_textByte 19 = .ok (.iload_n 2, 1) := by decide +kernel
theorem dX12_textByte_20 : decode cX12_textByte 20 = .ok (.aload_n 0, 1) := by decide +kernel
theorem dX12_textByte_21 : decode cX12_textByte 21 = .ok (.getfield 240, 3) := by decide +kernel
theorem dX12_textByte_24 : decode cX12_textByte 24 = .ok (.if_icmp .lt 7, 3) := by decide +kernel
theorem dX12_textByte_27 : decode cX12_textByte 27 = .ok (.iconst 0, 1) := by decide +kernel
theorem dX12_textByte_28 : decode cX12_textByte 28 = .ok (.goto 9, 3) := by decide +kernel
theorem dX12_textByte_31 : decode cX12_textByte 31 = .ok (.aload_n 0, 1) := by decide +kernel
theorem dX12_textByte_32 : decode cX12_textByte 32 = .ok (.getfield 59, 3) := by decide +kernel
theorem dX12_textByte_35 : decode cX12_textByte 35 = .ok (.iload_n 2, 1) := by decide +kernel
theorem dX12_textByte_36 : decode cX12_textByte 36 = .ok (.baload, 1) := by decide +kernel
theorem dX12_textByte_37 : decode cX12_textByte 37 = .ok (.ireturn, 1) := by decide +kernel
theorem dX12_which_0 : decode cX12_which 0 = .ok (.iconst 0, 1) := by decide +kernel
theorem dX12_which_1 : decode cX12_which 1 = .ok (.istore 5, 2) := by decide +kernel
theorem dX12_which_3 : decode cX12_which 3 = .ok (.iload 5, 2) := by decide +kernel
theorem dX12_which_5 : decode cX12_which 5 = .ok (.aload_n 0, 1) := by decide +kernel
theorem dX12_which_6 : decode cX12_which 6 = .ok (.getfield 254, 3) := by decide +kernel
theorem dX12_which_9 : decode cX12_which 9 = .ok (.if_icmp .ge 57, 3) := by decide +kernel
theorem dX12_which_12 : decode cX12_which 12 = .ok (.aload_n 0, 1) := by decide +kernel
theorem dX12_which_13 : decode cX12_which 13 = .ok (.getfield 68, 3) := by decide +kernel
theorem dX12_which_16 : decode cX12_which 16 = .ok (.iload 5, 2) := by decide +kernel
theorem dX12_which_18 : decode cX12_which 18 = .ok (.iaload, 1) := by decide +kernel
theorem dX12_which_19 : decode cX12_which 19 = .ok (.iload_n 1, 1) := by decide +kernel
theorem dX12_which_20 : decode cX12_which 20 = .ok (.if_icmp .ne 40, 3) := by decide +kernel
theorem dX12_which_23 : decode cX12_which 23 = .ok (.aload_n 0, 1) := by decide +kernel
theorem dX12_which_24 : decode cX12_which 24 = .ok (.getfield 71, 3) := by decide +kernel
theorem dX12_which_27 : decode cX12_which 27 = .ok (.iload 5, 2) := by decide +kernel
theorem dX12_which_29 : decode cX12_which 29 = .ok (.iaload, 1) := by decide +kernel
theorem dX12_which_30 : decode cX12_which 30 = .ok (.iload_n 2, 1) := by decide +kernel
theorem dX12_which_31 : decode cX12_which 31 = .ok (.if_icmp .ne 29, 3) := by decide +kernel
theorem dX12_which_34 : decode cX12_which 34 = .ok (.aload_n 0, 1) := by decide +kernel
theorem dX12_which_35 : decode cX12_which 35 = .ok (.getfield 74, 3) := by decide +kernel
theorem dX12_which_38 : decode cX12_which 38 = .ok (.iload 5, 2) := by decide +kernel
theorem dX12_which_40 : decode cX12_which 40 = .ok (.iaload, 1) := by decide +kernel
theorem dX12_which_41 : decode cX12_which 41 = .ok (.iload_n 3, 1) := by decide +kernel
theorem dX12_which_42 : decode cX12_which 42 = .ok (.if_icmp .ne 18, 3) := by decide +kernel
theorem dX12_which_45 : decode cX12_which 45 = .ok (.aload_n 0, 1) := by decide +kernel
theorem dX12_which_46 : decode cX12_which 46 = .ok (.getfield 77, 3) := by decide +kernel
theorem dX12_which_49 : decode cX12_which 49 = .ok (.iload 5, 2) := by decide +kernel
theorem dX12_which_51 : decode cX12_which 51 = .ok (.iaload, 1) := by decide +kernel
theorem dX12_which_52 : decode cX12_which 52 = .ok (.iload 4, 2) := by decide +kernel
theorem dX12_which_54 : decode cX12_which 54 = .ok (.if_icmp .ne 6, 3) := by decide +kernel
theorem dX12_which_57 : decode cX12_which 57 = .ok (.iload 5, 2) := by decide +kernel
theorem dX12_which_59 : decode cX12_which 59 = .ok (.ireturn, 1) := by decide +kernel
theorem dX12_which_60 : decode cX12_which 60 = .ok (.iinc 5 1, 3) := by decide +kernel
theorem dX12_which_63 : decode cX12_which 63 = .ok (.goto (-60), 3) := by decide +kernel
theorem dX12_which_66 : decode cX12_which 66 = .ok (.aload_n 0, 1) := by decide +kernel
theorem dX12_which_67 : decode cX12_which 67 = .ok (.getfield 68, 3) := by decide +kernel
theorem dX12_which_70 : decode cX12_which 70 = .ok (.aload_n 0, 1) := by decide +kernel
theorem dX12_which_71 : decode cX12_which 71 = .ok (.getfield 254, 3) := by decide +kernel
theorem dX12_which_74 : decode cX12_which 74 = .ok (.iload_n 1, 1) := by decide +kernel
theorem dX12_which_75 : decode cX12_which 75 = .ok (.iastore, 1) := by decide +kernel
theorem dX12_which_76 : decode cX12_which 76 = .ok (.aload_n 0, 1) := by decide +kernel
theorem dX12_which_77 : decode cX12_which 77 = .ok (.getfield 71, 3) := by decide +kernel
theorem dX12_which_80 : decode cX12_which 80 = .ok (.aload_n 0, 1) := by decide +kernel
theorem dX12_which_81 : decode cX12_which 81 = .ok (.getfield 254, 3) := by decide +kernel
theorem dX12_which_84 : decode cX12_which 84 = .ok (.iload_n 2, 1) := by decide +kernel
theorem dX12_which_85 : decode cX12_which 85 = .ok (.iastore, 1) := by decide +kernel
theorem dX12_which_86 : decode cX12_which 86 = .ok (.aload_n 0, 1) := by decide +kernel
theorem dX12_which_87 : decode cX12_which 87 = .ok (.getfield 74, 3) := by decide +kernel
theorem dX12_which_90 : decode cX12_which 90 = .ok (.aload_n 0, 1) := by decide +kernel
theorem dX12_which_91 : decode cX12_which 91 = .ok (.getfield 254, 3) := by decide +kernel
theorem dX12_which_94 : decode cX12_which 94 = .ok (.iload_n 3, 1) := by decide +kernel
theorem dX12_which_95 : decode cX12_which 95 = .ok (.iastore, 1) := by decide +kernel
theorem dX12_which_96 : decode cX12_which 96 = .ok (.aload_n 0, 1) := by decide +kernel
theorem dX12_which_97 : decode cX12_which 97 = .ok (.getfield 77, 3) := by decide +kernel
theorem dX12_which_100 : decode cX12_which 100 = .ok (.aload_n 0, 1) := by decide +kernel
theorem dX12_which_101 : decode cX12_which 101 = .ok (.getfield 254, 3) := by decide +kernel
theorem dX12_which_104 : decode cX12_which 104 = .ok (.iload 4, 2) := by decide +kernel
theorem dX12_which_106 : decode cX12_which 106 = .ok (.iastore, 1) := by decide +kernel
theorem dX12_which_107 : decode cX12_which 107 = .ok (.aload_n 0, 1) := by decide +kernel
theorem dX12_which_108 : decode cX12_which 108 = .ok (.dup, 1) := by decide +kernel
theorem dX12_which_109 : decode cX12_which 109 = .ok (.getfield 254, 3) := by decide +kernel
theorem dX12_which_112 : decode cX12_which 112 = .ok (.iconst 1, 1) := by decide +kernel
theorem dX12_which_113 : decode cX12_which 113 = .ok (.iadd, 1) := by decide +kernel
theorem dX12_which_114 : decode cX12_which 114 = .ok (.putfield 254, 3) := by decide +kernel
theorem dX12_which_117 : decode cX12_which 117 = .ok (.aload_n 0, 1) := by decide +kernel
theorem dX12_which_118 : decode cX12_which 118 = .ok (.getfield 254, 3) := by decide +kernel
theorem dX12_which_121 : decode cX12_which 121 = .ok (.iconst 1, 1) := by decide +kernel
theorem dX12_which_122 : decode cX12_which 122 = .ok (.isub, 1) := by decide +kernel
theorem dX12_which_123 : decode cX12_which 123 = .ok (.ireturn, 1) := by decide +kernel
theorem dX12_differentBlocks_0 : decode cX12_differentBlocks 0 = .ok (.ldc 45, 2) := by decide +kernel
theorem dX12_differentBlocks_2 : decode cX12_differentBlocks 2 = .ok (.iload_n 1, 1) := by decide +kernel
theorem dX12_differentBlocks_3 : decode cX12_differentBlocks 3 = .ok (.imul, 1) := by decide +kernel
theorem dX12_differentBlocks_4 : decode cX12_differentBlocks 4 = .ok (.istore_n 2, 1) := by decide +kernel
theorem dX12_differentBlocks_5 : decode cX12_differentBlocks 5 = .ok (.iconst 0, 1) := by decide +kernel
theorem dX12_differentBlocks_6 : decode cX12_differentBlocks 6 = .ok (.istore_n 3, 1) := by decide +kernel
theorem dX12_differentBlocks_7 : decode cX12_differentBlocks 7 = .ok (.aload_n 0, 1) := by decide +kernel
theorem dX12_differentBlocks_8 : decode cX12_differentBlocks 8 = .ok (.iconst 0, 1) := by decide +kernel
theorem dX12_differentBlocks_9 : decode cX12_differentBlocks 9 = .ok (.putfield 254, 3) := by decide +kernel
theorem dX12_differentBlocks_12 : decode cX12_differentBlocks 12 = .ok (.iconst 0, 1) := by decide +kernel
theorem dX12_differentBlocks_13 : decode cX12_differentBlocks 13 = .ok (.istore 4, 2) := by decide +kernel
theorem dX12_differentBlocks_15 : decode cX12_differentBlocks 15 = .ok (.iload 4, 2) := by decide +kernel
theorem dX12_differentBlocks_17 : decode cX12_differentBlocks 17 = .ok (.sipush 128, 3) := by decide +kernel
theorem dX12_differentBlocks_20 : decode cX12_differentBlocks 20 = .ok (.if_icmp .ge 99, 3) := by decide +kernel
theorem dX12_differentBlocks_23 : decode cX12_differentBlocks 23 = .ok (.iconst 0, 1) := by decide +kernel
theorem dX12_differentBlocks_24 : decode cX12_differentBlocks 24 = .ok (.istore 5, 2) := by decide +kernel
theorem dX12_differentBlocks_26 : decode cX12_differentBlocks 26 = .ok (.iload 5, 2) := by decide +kernel
theorem dX12_differentBlocks_28 : decode cX12_differentBlocks 28 = .ok (.sipush 128, 3) := by decide +kernel
theorem dX12_differentBlocks_31 : decode cX12_differentBlocks 31 = .ok (.if_icmp .ge 82, 3) := by decide +kernel
theorem dX12_differentBlocks_34 : decode cX12_differentBlocks 34 = .ok (.iload_n 2, 1) := by decide +kernel
theorem dX12_differentBlocks_35 : decode cX12_differentBlocks 35 = .ok (.sipush 512, 3) := by decide +kernel
theorem dX12_differentBlocks_38 : decode cX12_differentBlocks 38 = .ok (.iload 4, 2) := by decide +kernel
theorem dX12_differentBlocks_40 : decode cX12_differentBlocks 40 = .ok (.imul, 1) := by decide +kernel
theorem dX12_differentBlocks_41 : decode cX12_differentBlocks 41 = .ok (.iadd, 1) := by decide +kernel
theorem dX12_differentBlocks_42 : decode cX12_differentBlocks 42 = .ok (.iconst 2, 1) := by decide +kernel
theorem dX12_differentBlocks_43 : decode cX12_differentBlocks 43 = .ok (.iload 5, 2) := by decide +kernel
theorem dX12_differentBlocks_45 : decode cX12_differentBlocks 45 = .ok (.imul, 1) := by decide +kernel
theorem dX12_differentBlocks_46 : decode cX12_differentBlocks 46 = .ok (.iadd, 1) := by decide +kernel
theorem dX12_differentBlocks_47 : decode cX12_differentBlocks 47 = .ok (.istore 6, 2) := by decide +kernel
theorem dX12_differentBlocks_49 : decode cX12_differentBlocks 49 = .ok (.aload_n 0, 1) := by decide +kernel
theorem dX12_differentBlocks_50 : decode cX12_differentBlocks 50 = .ok (.getfield 62, 3) := by decide +kernel
theorem dX12_differentBlocks_53 : decode cX12_differentBlocks 53 = .ok (.sipush 128, 3) := by decide +kernel
theorem dX12_differentBlocks_56 : decode cX12_differentBlocks 56 = .ok (.iload 4, 2) := by decide +kernel
theorem dX12_differentBlocks_58 : decode cX12_differentBlocks 58 = .ok (.imul, 1) := by decide +kernel
theorem dX12_differentBlocks_59 : decode cX12_differentBlocks 59 = .ok (.iload 5, 2) := by decide +kernel
theorem dX12_differentBlocks_61 : decode cX12_differentBlocks 61 = .ok (.iadd, 1) := by decide +kernel
theorem dX12_differentBlocks_62 : decode cX12_differentBlocks 62 = .ok (.aload_n 0, 1) := by decide +kernel
theorem dX12_differentBlocks_63 : decode cX12_differentBlocks 63 = .ok (.aload_n 0, 1) := by decide +kernel
theorem dX12_differentBlocks_64 : decode cX12_differentBlocks 64 = .ok (.getfield 36, 3) := by decide +kernel
theorem dX12_differentBlocks_67 : decode cX12_differentBlocks 67 = .ok (.iload 6, 2) := by decide +kernel
theorem dX12_differentBlocks_69 : decode cX12_differentBlocks 69 = .ok (.baload, 1) := by decide +kernel
theorem dX12_differentBlocks_70 : decode cX12_differentBlocks 70 = .ok (.aload_n 0, 1) := by decide +kernel
theorem dX12_differentBlocks_71 : decode cX12_differentBlocks 71 = .ok (.getfield 36, 3) := by decide +kernel
theorem dX12_differentBlocks_74 : decode cX12_differentBlocks 74 = .ok (.iload 6, 2) := by decide +kernel
theorem dX12_differentBlocks_76 : decode cX12_differentBlocks 76 = .ok (.iconst 1, 1) := by decide +kernel
theorem dX12_differentBlocks_77 : decode cX12_differentBlocks 77 = .ok (.iadd, 1) := by decide +kernel
theorem dX12_differentBlocks_78 : decode cX12_differentBlocks 78 = .ok (.baload, 1) := by decide +kernel
theorem dX12_differentBlocks_79 : decode cX12_differentBlocks 79 = .ok (.aload_n 0, 1) := by decide +kernel
theorem dX12_differentBlocks_80 : decode cX12_differentBlocks 80 = .ok (.getfield 36, 3) := by decide +kernel
theorem dX12_differentBlocks_83 : decode cX12_differentBlocks 83 = .ok (.iload 6, 2) := by decide +kernel
theorem dX12_differentBlocks_85 : decode cX12_differentBlocks 85 = .ok (.sipush 256, 3) := by decide +kernel
theorem dX12_differentBlocks_88 : decode cX12_differentBlocks 88 = .ok (.iadd, 1) := by decide +kernel
theorem dX12_differentBlocks_89 : decode cX12_differentBlocks 89 = .ok (.baload, 1) := by decide +kernel
theorem dX12_differentBlocks_90 : decode cX12_differentBlocks 90 = .ok (.aload_n 0, 1) := by decide +kernel
theorem dX12_differentBlocks_91 : decode cX12_differentBlocks 91 = .ok (.getfield 36, 3) := by decide +kernel
theorem dX12_differentBlocks_94 : decode cX12_differentBlocks 94 = .ok (.iload 6, 2) := by decide +kernel
theorem dX12_differentBlocks_96 : decode cX12_differentBlocks 96 = .ok (.sipush 256, 3) := by decide +kernel
theorem dX12_differentBlocks_99 : decode cX12_differentBlocks 99 = .ok (.iadd, 1) := by decide +kernel
theorem dX12_differentBlocks_100 : decode cX12_differentBlocks 100 = .ok (.iconst 1, 1) := by decide +kernel
theorem dX12_differentBlocks_101 : decode cX12_differentBlocks 101 = .ok (.iadd, 1) := by decide +kernel
theorem dX12_differentBlocks_102 : decode cX12_differentBlocks 102 = .ok (.baload, 1) := by decide +kernel
theorem dX12_differentBlocks_103 : decode cX12_differentBlocks 103 = .ok (.invokevirtual 257, 3) := by decide +kernel
theorem dX12_differentBlocks_106 : decode cX12_differentBlocks 106 = .ok (.iastore, 1) := by decide +kernel
theorem dX12_differentBlocks_107 : decode cX12_differentBlocks 107 = .ok (.iinc 5 1, 3) := by decide +kernel
theorem dX12_differentBlocks_110 : decode cX12_differentBlocks 110 = .ok (.goto (-84), 3) := by decide +kernel
theorem dX12_differentBlocks_113 : decode cX12_differentBlocks 113 = .ok (.iinc 4 1, 3) := by decide +kernel
theorem dX12_differentBlocks_116 : decode cX12_differentBlocks 116 = .ok (.goto (-101), 3) := by decide +kernel
theorem dX12_differentBlocks_119 : decode cX12_differentBlocks 119 = .ok (.iload_n 3, 1) := by decide +kernel
theorem dX12_differentBlocks_120 : decode cX12_differentBlocks 120 = .ok (.aload_n 0, 1) := by decide +kernel
theorem dX12_differentBlocks_121 : decode cX12_differentBlocks 121 = .ok (.getfield 254, 3) := by decide +kernel
theorem dX12_differentBlocks_124 : decode cX12_differentBlocks 124 = .ok (.iadd, 1) := by decide +kernel
theorem dX12_differentBlocks_125 : decode cX12_differentBlocks 125 = .ok (.istore_n 3, 1) := by decide +kernel
theorem dX12_differentBlocks_126 : decode cX12_differentBlocks 126 = .ok (.bipush 64, 2) := by decide +kernel
theorem dX12_differentBlocks_128 : decode cX12_differentBlocks 128 = .ok (.istore 4, 2) := by decide +kernel
theorem dX12_differentBlocks_130 : decode cX12_differentBlocks 130 = .ok (.iload 4, 2) := by decide +kernel
theorem dX12_differentBlocks_132 : decode cX12_differentBlocks 132 = .ok (.ifCond .le 164, 3) := by decide +kernel
theorem dX12_differentBlocks_135 : decode cX12_differentBlocks 135 = .ok (.aload_n 0, 1) := by decide +kernel
theorem dX12_differentBlocks_136 : decode cX12_differentBlocks 136 = .ok (.iconst 0, 1) := by decide +kernel
theorem dX12_differentBlocks_137 : decode cX12_differentBlocks 137 = .ok (.putfield 254, 3) := by decide +kernel
theorem dX12_differentBlocks_140 : decode cX12_differentBlocks 140 = .ok (.iconst 2, 1) := by decide +kernel
theorem dX12_differentBlocks_141 : decode cX12_differentBlocks 141 = .ok (.iload 4, 2) := by decide +kernel
theorem dX12_differentBlocks_143 : decode cX12_differentBlocks 143 = .ok (.imul, 1) := by decide +kernel
theorem dX12_differentBlocks_144 : decode cX12_differentBlocks 144 = .ok (.istore 5, 2) := by decide +kernel
theorem dX12_differentBlocks_146 : decode cX12_differentBlocks 146 = .ok (.iconst 0, 1) := by decide +kernel
theorem dX12_differentBlocks_147 : decode cX12_differentBlocks 147 = .ok (.istore 6, 2) := by decide +kernel
theorem dX12_differentBlocks_149 : decode cX12_differentBlocks 149 = .ok (.iload 6, 2) := by decide +kernel
theorem dX12_differentBlocks_151 : decode cX12_differentBlocks 151 = .ok (.iload 4, 2) := by decide +kernel
theorem dX12_differentBlocks_153 : decode cX12_differentBlocks 153 = .ok (.if_icmp .ge 94, 3) := by decide +kernel
theorem dX12_differentBlocks_156 : decode cX12_differentBlocks 156 = .ok (.iconst 0, 1) := by decide +kernel
theorem dX12_differentBlocks_157 : decode cX12_differentBlocks 157 = .ok (.istore 7, 2) := by decide +kernel
theorem dX12_differentBlocks_159 : decode cX12_differentBlocks 159 = .ok (.iload 7, 2) := by decide +kernel
theorem dX12_differentBlocks_161 : decode cX12_differentBlocks 161 = .ok (.iload 4, 2) := by decide +kernel
theorem dX12_differentBlocks_163 : decode cX12_differentBlocks 163 = .ok (.if_icmp .ge 78, 3) := by decide +kernel
theorem dX12_differentBlocks_166 : decode cX12_differentBlocks 166 = .ok (.iconst 2, 1) := by decide +kernel
theorem dX12_differentBlocks_167 : decode cX12_differentBlocks 167 = .ok (.iload 5, 2) := by decide +kernel
theorem dX12_differentBlocks_169 : decode cX12_differentBlocks 169 = .ok (.imul, 1) := by decide +kernel
theorem dX12_differentBlocks_170 : decode cX12_differentBlocks 170 = .ok (.iload 6, 2) := by decide +kernel
theorem dX12_differentBlocks_172 : decode cX12_differentBlocks 172 = .ok (.imul, 1) := by decide +kernel
theorem dX12_differentBlocks_173 : decode cX12_differentBlocks 173 = .ok (.iconst 2, 1) := by decide +kernel
theorem dX12_differentBlocks_174 : decode cX12_differentBlocks 174 = .ok (.iload 7, 2) := by decide +kernel
theorem dX12_differentBlocks_176 : decode cX12_differentBlocks 176 = .ok (.imul, 1) := by decide +kernel
theorem dX12_differentBlocks_177 : decode cX12_differentBlocks 177 = .ok (.iadd, 1) := by decide +kernel
theorem dX12_differentBlocks_178 : decode cX12_differentBlocks 178 = .ok (.istore 8, 2) := by decide +kernel
theorem dX12_differentBlocks_180 : decode cX12_differentBlocks 180 = .ok (.aload_n 0, 1) := by decide +kernel
theorem dX12_differentBlocks_181 : decode cX12_differentBlocks 181 = .ok (.getfield 65, 3) := by decide +kernel
theorem dX12_differentBlocks_184 : decode cX12_differentBlocks 184 = .ok (.iload 4, 2) := by decide +kernel
theorem dX12_differentBlocks_186 : decode cX12_differentBlocks 186 = .ok (.iload 6, 2) := by decide +kernel
theorem dX12_differentBlocks_188 : decode cX12_differentBlocks 188 = .ok (.imul, 1) := by decide +kernel
theorem dX12_differentBlocks_189 : decode cX12_differentBlocks 189 = .ok (.iload 7, 2) := by decide +kernel
theorem dX12_differentBlocks_191 : decode cX12_differentBlocks 191 = .ok (.iadd, 1) := by decide +kernel
theorem dX12_differentBlocks_192 : decode cX12_differentBlocks 192 = .ok (.aload_n 0, 1) := by decide +kernel
theorem dX12_differentBlocks_193 : decode cX12_differentBlocks 193 = .ok (.aload_n 0, 1) := by decide +kernel
theorem dX12_differentBlocks_194 : decode cX12_differentBlocks 194 = .ok (.getfield 62, 3) := by decide +kernel
theorem dX12_differentBlocks_197 : decode cX12_differentBlocks 197 = .ok (.iload 8, 2) := by decide +kernel
theorem dX12_differentBlocks_199 : decode cX12_differentBlocks 199 = .ok (.iaload, 1) := by decide +kernel
theorem dX12_differentBlocks_200 : decode cX12_differentBlocks 200 = .ok (.aload_n 0, 1) := by decide +kernel
theorem dX12_differentBlocks_201 : decode cX12_differentBlocks 201 = .ok (.getfield 62, 3) := by decide +kernel
theorem dX12_differentBlocks_204 : decode cX12_differentBlocks 204 = .ok (.iload 8, 2) := by decide +kernel
theorem dX12_differentBlocks_206 : decode cX12_differentBlocks 206 = .ok (.iconst 1, 1) := by decide +kernel
theorem dX12_differentBlocks_207 : decode cX12_differentBlocks 207 = .ok (.iadd, 1) := by decide +kernel
theorem dX12_differentBlocks_208 : decode cX12_differentBlocks 208 = .ok (.iaload, 1) := by decide +kernel
theorem dX12_differentBlocks_209 : decode cX12_differentBlocks 209 = .ok (.aload_n 0, 1) := by decide +kernel
theorem dX12_differentBlocks_210 : decode cX12_differentBlocks 210 = .ok (.getfield 62, 3) := by decide +kernel
theorem dX12_differentBlocks_213 : decode cX12_differentBlocks 213 = .ok (.iload 8, 2) := by decide +kernel
theorem dX12_differentBlocks_215 : decode cX12_differentBlocks 215 = .ok (.iload 5, 2) := by decide +kernel
theorem dX12_differentBlocks_217 : decode cX12_differentBlocks 217 = .ok (.iadd, 1) := by decide +kernel
theorem dX12_differentBlocks_218 : decode cX12_differentBlocks 218 = .ok (.iaload, 1) := by decide +kernel
theorem dX12_differentBlocks_219 : decode cX12_differentBlocks 219 = .ok (.aload_n 0, 1) := by decide +kernel
theorem dX12_differentBlocks_220 : decode cX12_differentBlocks 220 = .ok (.getfield 62, 3) := by decide +kernel
theorem dX12_differentBlocks_223 : decode cX12_differentBlocks 223 = .ok (.iload 8, 2) := by decide +kernel
theorem dX12_differentBlocks_225 : decode cX12_differentBlocks 225 = .ok (.iload 5, 2) := by decide +kernel
theorem dX12_differentBlocks_227 : decode cX12_differentBlocks 227 = .ok (.iadd, 1) := by decide +kernel
theorem dX12_differentBlocks_228 : decode cX12_differentBlocks 228 = .ok (.iconst 1, 1) := by decide +kernel
theorem dX12_differentBlocks_229 : decode cX12_differentBlocks 229 = .ok (.iadd, 1) := by decide +kernel
theorem dX12_differentBlocks_230 : decode cX12_differentBlocks 230 = .ok (.iaload, 1) := by decide +kernel
theorem dX12_differentBlocks_231 : decode cX12_differentBlocks 231 = .ok (.invokevirtual 257, 3) := by decide +kernel
theorem dX12_differentBlocks_234 : decode cX12_differentBlocks 234 = .ok (.iastore, 1) := by decide +kernel
theorem dX12_differentBlocks_235 : decode cX12_differentBlocks 235 = .ok (.iinc 7 1, 3) := by decide +kernel
theorem dX12_differentBlocks_238 : decode cX12_differentBlocks 238 = .ok (.goto (-79), 3) := by decide +kernel
theorem dX12_differentBlocks_241 : decode cX12_differentBlocks 241 = .ok (.iinc 6 1, 3) := by decide +kernel
theorem dX12_differentBlocks_244 : decode cX12_differentBlocks 244 = .ok (.goto (-95), 3) := by decide +kernel
theorem dX12_differentBlocks_247 : decode cX12_differentBlocks 247 = .ok (.iload_n 3, 1) := by decide +kernel
theorem dX12_differentBlocks_248 : decode cX12_differentBlocks 248 = .ok (.aload_n 0, 1) := by decide +kernel
theorem dX12_differentBlocks_249 : decode cX12_differentBlocks 249 = .ok (.getfield 254, 3) := by decide +kernel
theorem dX12_differentBlocks_252 : decode cX12_differentBlocks 252 = .ok (.iadd, 1) := by decide +kernel
theorem dX12_differentBlocks_253 : decode cX12_differentBlocks 253 = .ok (.istore_n 3, 1) := by decide +kernel
theorem dX12_differentBlocks_254 : decode cX12_differentBlocks 254 = .ok (.iconst 0, 1) := by decide +kernel
theorem dX12_differentBlocks_255 : decode cX12_differentBlocks 255 = .ok (.istore 6, 2) := by decide +kernel
theorem dX12_differentBlocks_257 : decode cX12_differentBlocks 257 = .ok (.iload 6, 2) := by decide +kernel
theorem dX12_differentBlocks_259 : decode cX12_differentBlocks 259 = .ok (.iload 4, 2) := by decide +kernel
theorem dX12_differentBlocks_261 : decode cX12_differentBlocks 261 = .ok (.iload 4, 2) := by decide +kernel
theorem dX12_differentBlocks_263 : decode cX12_differentBlocks 263 = .ok (.imul, 1) := by decide +kernel
theorem dX12_differentBlocks_264 : decode cX12_differentBlocks 264 = .ok (.if_icmp .ge 23, 3) := by decide +kernel
theorem dX12_differentBlocks_267 : decode cX12_differentBlocks 267 = .ok (.aload_n 0, 1) := by decide +kernel
theorem dX12_differentBlocks_268 : decode cX12_differentBlocks 268 = .ok (.getfield 62, 3) := by decide +kernel
theorem dX12_differentBlocks_271 : decode cX12_differentBlocks 271 = .ok (.iload 6, 2) := by decide +kernel
theorem dX12_differentBlocks_273 : decode cX12_differentBlocks 273 = .ok (.aload_n 0, 1) := by decide +kernel
theorem dX12_differentBlocks_274 : decode cX12_differentBlocks 274 = .ok (.getfield 65, 3) := by decide +kernel
theorem dX12_differentBlocks_277 : decode cX12_differentBlocks 277 = .ok (.iload 6, 2) := by decide +kernel
theorem dX12_differentBlocks_279 : decode cX12_differentBlocks 279 = .ok (.iaload, 1) := by decide +kernel
theorem dX12_differentBlocks_280 : decode cX12_differentBlocks 280 = .ok (.iastore, 1) := by decide +kernel
theorem dX12_differentBlocks_281 : decode cX12_differentBlocks 281 = .ok (.iinc 6 1, 3) := by decide +kernel
theorem dX12_differentBlocks_284 : decode cX12_differentBlocks 284 = .ok (.goto (-27), 3) := by decide +kernel
theorem dX12_differentBlocks_287 : decode cX12_differentBlocks 287 = .ok (.iload 4, 2) := by decide +kernel
theorem dX12_differentBlocks_289 : decode cX12_differentBlocks 289 = .ok (.iconst 2, 1) := by decide +kernel
theorem dX12_differentBlocks_290 : decode cX12_differentBlocks 290 = .ok (.idiv, 1) := by decide +kernel
theorem dX12_differentBlocks_291 : decode cX12_differentBlocks 291 = .ok (.istore 4, 2) := by decide +kernel
theorem dX12_differentBlocks_293 : decode cX12_differentBlocks 293 = .ok (.goto (-163), 3) := by decide +kernel
theorem dX12_differentBlocks_296 : decode cX12_differentBlocks 296 = .ok (.iload_n 3, 1) := by decide +kernel
theorem dX12_differentBlocks_297 : decode cX12_differentBlocks 297 = .ok (.ireturn, 1) := by decide +kernel
