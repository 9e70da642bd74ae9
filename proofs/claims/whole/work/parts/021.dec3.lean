theorem dX8_nameOf_0 : decode cX8_nameOf 0 = .ok (.lload_n 1, 1) := by decide +kernel
theorem dX8_nameOf_1 : decode cX8_nameOf 1 = .ok (.lconst 0, 1) := by decide +kernel
theorem dX8_nameOf_2 : decode cX8_nameOf 2 = .ok (.lcmp, 1) := by decide +kernel
theorem dX8_nameOf_3 : decode cX8_nameOf 3 = .ok (.ifCond .ne 10, 3) := by decide +kernel
theorem dX8_nameOf_6 : decode cX8_nameOf 6 = .ok (.aload_n 0, 1) := by decide +kernel
theorem dX8_nameOf_7 : decode cX8_nameOf 7 = .ok (.iconst 1, 1) := by decide +kernel
theorem dX8_nameOf_8 : decode cX8_nameOf 8 = .ok (.putfield 65, 3) := by decide +kernel
theorem dX8_nameOf_11 : decode cX8_nameOf 11 = .ok (.iconst 0, 1) := by decide +kernel
theorem dX8_nameOf_12 : decode cX8_nameOf 12 = .ok (.ireturn, 1) := by decide +kernel
theorem dX8_nameOf_13 : decode cX8_nameOf 13 = .ok (.lload_n 1, 1) := by decide +kernel
theorem dX8_nameOf_14 : decode cX8_nameOf 14 = .ok (.ldc2_w 101, 3) := by decide +kernel
theorem dX8_nameOf_17 : decode cX8_nameOf 17 = .ok (.lmul, 1) := by decide +kernel
theorem dX8_nameOf_18 : decode cX8_nameOf 18 = .ok (.bipush 40, 2) := by decide +kernel
theorem dX8_nameOf_20 : decode cX8_nameOf 20 = .ok (.lushr, 1) := by decide +kernel
theorem dX8_nameOf_21 : decode cX8_nameOf 21 = .ok (.l2i, 1) := by decide +kernel
theorem dX8_nameOf_22 : decode cX8_nameOf 22 = .ok (.istore_n 3, 1) := by decide +kernel
theorem dX8_nameOf_23 : decode cX8_nameOf 23 = .ok (.iconst 0, 1) := by decide +kernel
theorem dX8_nameOf_24 : decode cX8_nameOf 24 = .ok (.istore 4, 2) := by decide +kernel
theorem dX8_nameOf_26 : decode cX8_nameOf 26 = .ok (.iload 4, 2) := by decide +kernel
theorem dX8_nameOf_28 : decode cX8_nameOf 28 = .ok (.aload_n 0, 1) := by decide +kernel
theorem dX8_nameOf_29 : decode cX8_nameOf 29 = .ok (.getfield 98, 3) := by decide +kernel
theorem dX8_nameOf_32 : decode cX8_nameOf 32 = .ok (.if_icmp .ge 83, 3) := by decide +kernel
theorem dX8_nameOf_35 : decode cX8_nameOf 35 = .ok (.iload_n 3, 1) := by decide +kernel
theorem dX8_nameOf_36 : decode cX8_nameOf 36 = .ok (.iload 4, 2) := by decide +kernel
theorem dX8_nameOf_38 : decode cX8_nameOf 38 = .ok (.iadd, 1) := by decide +kernel
theorem dX8_nameOf_39 : decode cX8_nameOf 39 = .ok (.aload_n 0, 1) := by decide +kernel
theorem dX8_nameOf_40 : decode cX8_nameOf 40 = .ok (.getfield 98, 3) := by decide +kernel
theorem dX8_nameOf_43 : decode cX8_nameOf 43 = .ok (.iconst 1, 1) := by decide +kernel
theorem dX8_nameOf_44 : decode cX8_nameOf 44 = .ok (.isub, 1) := by decide +kernel
theorem dX8_nameOf_45 : decode cX8_nameOf 45 = .ok (.iand, 1) := by decide +kernel
theorem dX8_nameOf_46 : decode cX8_nameOf 46 = .ok (.istore 5, 2) := by decide +kernel
theorem dX8_nameOf_48 : decode cX8_nameOf 48 = .ok (.aload_n 0, 1) := by decide +kernel
theorem dX8_nameOf_49 : decode cX8_nameOf 49 = .ok (.getfield 13, 3) := by decide +kernel
theorem dX8_nameOf_52 : decode cX8_nameOf 52 = .ok (.iload 5, 2) := by decide +kernel
theorem dX8_nameOf_54 : decode cX8_nameOf 54 = .ok (.laload, 1) := by decide +kernel
theorem dX8_nameOf_55 : decode cX8_nameOf 55 = .ok (.lconst 0, 1) := by decide +kernel
theorem dX8_nameOf_56 : decode cX8_nameOf 56 = .ok (.lcmp, 1) := by decide +kernel
theorem dX8_nameOf_57 : decode cX8_nameOf 57 = .ok (.ifCond .ne 32, 3) := by decide +kernel
theorem dX8_nameOf_60 : decode cX8_nameOf 60 = .ok (.aload_n 0, 1) := by decide +kernel
theorem dX8_nameOf_61 : decode cX8_nameOf 61 = .ok (.dup, 1) := by decide +kernel
theorem dX8_nameOf_62 : decode cX8_nameOf 62 = .ok (.getfield 85, 3) := by decide +kernel
theorem dX8_nameOf_65 : decode cX8_nameOf 65 = .ok (.iconst 1, 1) := by decide +kernel
theorem dX8_nameOf_66 : decode cX8_nameOf 66 = .ok (.iadd, 1) := by decide +kernel
theorem dX8_nameOf_67 : decode cX8_nameOf 67 = .ok (.putfield 85, 3) := by decide +kernel
theorem dX8_nameOf_70 : decode cX8_nameOf 70 = .ok (.aload_n 0, 1) := by decide +kernel
theorem dX8_nameOf_71 : decode cX8_nameOf 71 = .ok (.getfield 13, 3) := by decide +kernel
theorem dX8_nameOf_74 : decode cX8_nameOf 74 = .ok (.iload 5, 2) := by decide +kernel
theorem dX8_nameOf_76 : decode cX8_nameOf 76 = .ok (.lload_n 1, 1) := by decide +kernel
theorem dX8_nameOf_77 : decode cX8_nameOf 77 = .ok (.lastore, 1) := by decide +kernel
theorem dX8_nameOf_78 : decode cX8_nameOf 78 = .ok (.aload_n 0, 1) := by decide +kernel
theorem dX8_nameOf_79 : decode cX8_nameOf 79 = .ok (.getfield 17, 3) := by decide +kernel
theorem dX8_nameOf_82 : decode cX8_nameOf 82 = .ok (.iload 5, 2) := by decide +kernel
theorem dX8_nameOf_84 : decode cX8_nameOf 84 = .ok (.aload_n 0, 1) := by decide +kernel
theorem dX8_nameOf_85 : decode cX8_nameOf 85 = .ok (.getfield 85, 3) := by decide +kernel
theorem dX8_nameOf_88 : decode cX8_nameOf 88 = .ok (.iastore, 1) := by decide +kernel
theorem dX8_nameOf_89 : decode cX8_nameOf 89 = .ok (.aload_n 0, 1) := by decide +kernel
theorem dX8_nameOf_90 : decode cX8_nameOf 90 = .ok (.getfield 13, 3) := by decide +kernel
theorem dX8_nameOf_93 : decode cX8_nameOf 93 = .ok (.iload 5, 2) := by decide +kernel
theorem dX8_nameOf_95 : decode cX8_nameOf 95 = .ok (.laload, 1) := by decide +kernel
theorem dX8_nameOf_96 : decode cX8_nameOf 96 = .ok (.lload_n 1, 1) := by decide +kernel
theorem dX8_nameOf_97 : decode cX8_nameOf 97 = .ok (.lcmp, 1) := by decide +kernel
theorem dX8_nameOf_98 : decode cX8_nameOf 98 = .ok (.ifCond .ne 11, 3) := by decide +kernel
theorem dX8_nameOf_101 : decode cX8_nameOf 101 = .ok (.aload_n 0, 1) := by decide +kernel
theorem dX8_nameOf_102 : decode cX8_nameOf 102 = .ok (.getfield 17, 3) := by decide +kernel
theorem dX8_nameOf_105 : decode cX8_nameOf 105 = .ok (.iload 5, 2) := by decide +kernel
theorem dX8_nameOf_107 : decode cX8_nameOf 107 = .ok (.iaload, 1) := by decide +kernel
theorem dX8_nameOf_108 : decode cX8_nameOf 108 = .ok (.ireturn, 1) := by decide +kernel
theorem dX8_nameOf_109 : decode cX8_nameOf 109 = .ok (.iinc 4 1, 3) := by decide +kernel
theorem dX8_nameOf_112 : decode cX8_nameOf 112 = .ok (.goto (-86), 3) := by decide +kernel
theorem dX8_nameOf_115 : decode cX8_nameOf 115 = .ok (.iconst 0, 1) := by decide +kernel
theorem dX8_nameOf_116 : decode cX8_nameOf 116 = .ok (.ireturn, 1) := by decide +kernel
theorem dX9_init_0 : decode cX9_init 0 = .ok (.aload_n 0, 1) := by decide +kernel
theorem dX9_init_1 : decode cX9_init 1 = .ok (.invokespecial 1, 3) := by decide +kernel
theorem dX9_init_4 : decode cX9_init 4 = .ok (.aload_n 0, 1) := by decide +kernel
theorem dX9_init_5 : decode cX9_init 5 = .ok (.bipush 6, 2) := by decide +kernel
theorem dX9_init_7 : decode cX9_init 7 = .ok (.newarray .long, 2) := by decide +kernel
theorem dX9_init_9 : decode cX9_init 9 = .ok (.putfield 9, 3) := by decide +kernel
theorem dX9_init_12 : decode cX9_init 12 = .ok (.aload_n 0, 1) := by decide +kernel
theorem dX9_init_13 : decode cX9_init 13 = .ok (.bipush 6, 2) := by decide +kernel
theorem dX9_init_15 : decode cX9_init 15 = .ok (.newarray .long, 2) := by decide +kernel
theorem dX9_init_17 : decode cX9_init 17 = .ok (.putfield 15, 3) := by decide +kernel
theorem dX9_init_20 : decode cX9_init 20 = .ok (.aload_n 0, 1) := by decide +kernel
theorem dX9_init_21 : decode cX9_init 21 = .ok (.bipush 6, 2) := by decide +kernel
theorem dX9_init_23 : decode cX9_init 23 = .ok (.newarray .long, 2) := by decide +kernel
theorem dX9_init_25 : decode cX9_init 25 = .ok (.putfield 18, 3) := by decide +kernel
theorem dX9_init_28 : decode cX9_init 28 = .ok (.return_, 1) := by decide +kernel
theorem dX9_step_0 : decode cX9_step 0 = .ok (.aload_n 1, 1) := by decide +kernel
theorem dX9_step_1 : decode cX9_step 1 = .ok (.getfield 21, 3) := by decide +kernel
theorem dX9_step_4 : decode cX9_step 4 = .ok (.astore_n 2, 1) := by decide +kernel
theorem dX9_step_5 : decode cX9_step 5 = .ok (.aload_n 1, 1) := by decide +kernel
theorem dX9_step_6 : decode cX9_step 6 = .ok (.getfield 25, 3) := by decide +kernel
theorem dX9_step_9 : decode cX9_step 9 = .ok (.ifCond .eq 7, 3) := by decide +kernel
theorem dX9_step_12 : decode cX9_step 12 = .ok (.aload_n 2, 1) := by decide +kernel
theorem dX9_step_13 : decode cX9_step 13 = .ok (.ifnonnull 4, 3) := by decide +kernel
theorem dX9_step_16 : decode cX9_step 16 = .ok (.return_, 1) := by decide +kernel
theorem dX9_step_17 : decode cX9_step 17 = .ok (.aload_n 1, 1) := by decide +kernel
theorem dX9_step_18 : decode cX9_step 18 = .ok (.getfield 29, 3) := by decide +kernel
theorem dX9_step_21 : decode cX9_step 21 = .ok (.iconst 1, 1) := by decide +kernel
theorem dX9_step_22 : decode cX9_step 22 = .ok (.isub, 1) := by decide +kernel
theorem dX9_step_23 : decode cX9_step 23 = .ok (.iconst 0, 1) := by decide +kernel
theorem dX9_step_24 : decode cX9_step 24 = .ok (.invokestatic 32, 3) := by decide +kernel
theorem dX9_step_27 : decode cX9_step 27 = .ok (.istore_n 3, 1) := by decide +kernel
theorem dX9_step_28 : decode cX9_step 28 = .ok (.aload_n 1, 1) := by decide +kernel
theorem dX9_step_29 : decode cX9_step 29 = .ok (.getfield 38, 3) := by decide +kernel
theorem dX9_step_32 : decode cX9_step 32 = .ok (.iconst 1, 1) := by decide +kernel
theorem dX9_step_33 : decode cX9_step 33 = .ok (.iadd, 1) := by decide +kernel
theorem dX9_step_34 : decode cX9_step 34 = .ok (.sipush 255, 3) := by decide +kernel
theorem dX9_step_37 : decode cX9_step 37 = .ok (.invokestatic 41, 3) := by decide +kernel
theorem dX9_step_40 : decode cX9_step 40 = .ok (.istore 4, 2) := by decide +kernel
theorem dX9_step_42 : decode cX9_step 42 = .ok (.aload_n 1, 1) := by decide +kernel
theorem dX9_step_43 : decode cX9_step 43 = .ok (.getfield 44, 3) := by decide +kernel
theorem dX9_step_46 : decode cX9_step 46 = .ok (.iconst 1, 1) := by decide +kernel
theorem dX9_step_47 : decode cX9_step 47 = .ok (.isub, 1) := by decide +kernel
theorem dX9_step_48 : decode cX9_step 48 = .ok (.iconst 0, 1) := by decide +kernel
theorem dX9_step_49 : decode cX9_step 49 = .ok (.invokestatic 32, 3) := by decide +kernel
theorem dX9_step_52 : decode cX9_step 52 = .ok (.bipush 6, 2) := by decide +kernel
theorem dX9_step_54 : decode cX9_step 54 = .ok (.ishr, 1) := by decide +kernel
theorem dX9_step_55 : decode cX9_step 55 = .ok (.istore 5, 2) := by decide +kernel
theorem dX9_step_57 : decode cX9_step 57 = .ok (.aload_n 1, 1) := by decide +kernel
theorem dX9_step_58 : decode cX9_step 58 = .ok (.getfield 47, 3) := by decide +kernel
theorem dX9_step_61 : decode cX9_step 61 = .ok (.iconst 1, 1) := by decide +kernel
theorem dX9_step_62 : decode cX9_step 62 = .ok (.iadd, 1) := by decide +kernel
theorem dX9_step_63 : decode cX9_step 63 = .ok (.sipush 255, 3) := by decide +kernel
theorem dX9_step_66 : decode cX9_step 66 = .ok (.invokestatic 41, 3) := by decide +kernel
theorem dX9_step_69 : decode cX9_step 69 = .ok (.bipush 6, 2) := by decide +kernel
theorem dX9_step_71 : decode cX9_step 71 = .ok (.ishr, 1) := by decide +kernel
theorem dX9_step_72 : decode cX9_step 72 = .ok (.istore 6, 2) := by decide +kernel
theorem dX9_step_74 : decode cX9_step 74 = .ok (.aload_n 1, 1) := by decide +kernel
theorem dX9_step_75 : decode cX9_step 75 = .ok (.iload_n 3, 1) := by decide +kernel
theorem dX9_step_76 : decode cX9_step 76 = .ok (.iconst 1, 1) := by decide +kernel
theorem dX9_step_77 : decode cX9_step 77 = .ok (.isub, 1) := by decide +kernel
theorem dX9_step_78 : decode cX9_step 78 = .ok (.aload_n 0, 1) := by decide +kernel
theorem dX9_step_79 : decode cX9_step 79 = .ok (.getfield 9, 3) := by decide +kernel
theorem dX9_step_82 : decode cX9_step 82 = .ok (.invokestatic 50, 3) := by decide +kernel
theorem dX9_step_85 : decode cX9_step 85 = .ok (.aload_n 1, 1) := by decide +kernel
theorem dX9_step_86 : decode cX9_step 86 = .ok (.iload_n 3, 1) := by decide +kernel
theorem dX9_step_87 : decode cX9_step 87 = .ok (.aload_n 0, 1) := by decide +kernel
theorem dX9_step_88 : decode cX9_step 88 = .ok (.getfield 15, 3) := by decide +kernel
theorem dX9_step_91 : decode cX9_step 91 = .ok (.invokestatic 50, 3) := by decide +kernel
theorem dX9_step_94 : decode cX9_step 94 = .ok (.iload_n 3, 1) := by decide +kernel
theorem dX9_step_95 : decode cX9_step 95 = .ok (.istore 7, 2) := by decide +kernel
theorem dX9_step_97 : decode cX9_step 97 = .ok (.iload 7, 2) := by decide +kernel
theorem dX9_step_99 : decode cX9_step 99 = .ok (.iload 4, 2) := by decide +kernel
theorem dX9_step_101 : decode cX9_step 101 = .ok (.if_icmp .gt 83, 3) := by decide +kernel
theorem dX9_step_104 : decode cX9_step 104 = .ok (.aload_n 1, 1) := by decide +kernel
theorem dX9_step_105 : decode cX9_step 105 = .ok (.iload 7, 2) := by decide +kernel
theorem dX9_step_107 : decode cX9_step 107 = .ok (.iconst 1, 1) := by decide +kernel
theorem dX9_step_108 : decode cX9_step 108 = .ok (.iadd, 1) := by decide +kernel
theorem dX9_step_109 : decode cX9_step 109 = .ok (.aload_n 0, 1) := by decide +kernel
theorem dX9_step_110 : decode cX9_step 110 = .ok (.getfield 18, 3) := by decide +kernel
theorem dX9_step_113 : decode cX9_step 113 = .ok (.invokestatic 50, 3) := by decide +kernel
theorem dX9_step_116 : decode cX9_step 116 = .ok (.iload 5, 2) := by decide +kernel
theorem dX9_step_118 : decode cX9_step 118 = .ok (.istore 8, 2) := by decide +kernel
theorem dX9_step_120 : decode cX9_step 120 = .ok (.iload 8, 2) := by decide +kernel
theorem dX9_step_122 : decode cX9_step 122 = .ok (.iload 6, 2) := by decide +kernel
theorem dX9_step_124 : decode cX9_step 124 = .ok (.if_icmp .gt 26, 3) := by decide +kernel
theorem dX9_step_127 : decode cX9_step 127 = .ok (.aload_n 1, 1) := by decide +kernel
theorem dX9_step_128 : decode cX9_step 128 = .ok (.iload 7, 2) := by decide +kernel
theorem dX9_step_130 : decode cX9_step 130 = .ok (.iload 8, 2) := by decide +kernel
theorem dX9_step_132 : decode cX9_step 132 = .ok (.aload_n 0, 1) := by decide +kernel
theorem dX9_step_133 : decode cX9_step 133 = .ok (.iload 8, 2) := by decide +kernel
theorem dX9_step_135 : decode cX9_step 135 = .ok (.iconst 1, 1) := by decide +kernel
theorem dX9_step_136 : decode cX9_step 136 = .ok (.iadd, 1) := by decide +kernel
theorem dX9_step_137 : decode cX9_step 137 = .ok (.aload_n 2, 1) := by decide +kernel
theorem dX9_step_138 : decode cX9_step 138 = .ok (.invokevirtual 54, 3) := by decide +kernel
theorem dX9_step_141 : decode cX9_step 141 = .ok (.invokevirtual 58, 3) := by decide +kernel
theorem dX9_step_144 : decode cX9_step 144 = .ok (.iinc 8 1, 3) := by decide +kernel
theorem dX9_step_147 : decode cX9_step 147 = .ok (.goto (-27), 3) := by decide +kernel
theorem dX9_step_150 : decode cX9_step 150 = .ok (.aload_n 0, 1) := by decide +kernel
theorem dX9_step_151 : decode cX9_step 151 = .ok (.getfield 9, 3) := by decide +kernel
theorem dX9_step_154 : decode cX9_step 154 = .ok (.astore 8, 2) := by decide +kernel
theorem dX9_step_156 : decode cX9_step 156 = .ok (.aload_n 0, 1) := by decide +kernel
theorem dX9_step_157 : decode cX9_step 157 = .ok (.aload_n 0, 1) := by decide +kernel
theorem dX9_step_158 : decode cX9_step 158 = .ok (.getfield 15, 3) := by decide +kernel
theorem dX9_step_161 : decode cX9_step 161 = .ok (.putfield 9, 3) := by decide +kernel
theorem dX9_step_164 : decode cX9_step 164 = .ok (.aload_n 0, 1) := by decide +kernel
theorem dX9_step_165 : decode cX9_step 165 = .ok (.aload_n 0, 1) := by decide +kernel
theorem dX9_step_166 : decode cX9_step 166 = .ok (.getfield 18, 3) := by decide +kernel
theorem dX9_step_169 : decode cX9_step 169 = .ok (.putfield 15, 3) := by decide +kernel
theorem dX9_step_172 : decode cX9_step 172 = .ok (.aload_n 0, 1) := by decide +kernel
theorem dX9_step_173 : decode cX9_step 173 = .ok (.aload 8, 2) := by decide +kernel
theorem dX9_step_175 : decode cX9_step 175 = .ok (.putfield 18, 3) := by decide +kernel
theorem dX9_step_178 : decode cX9_step 178 = .ok (.iinc 7 1, 3) := by decide +kernel
theorem dX9_step_181 : decode cX9_step 181 = .ok (.goto (-84), 3) := by decide +kernel
theorem dX9_step_184 : decode cX9_step 184 = .ok (.aload_n 1, 1) := by decide +kernel
theorem dX9_step_185 : decode cX9_step 185 = .ok (.iload_n 3, 1) := by decide +kernel
theorem dX9_step_186 : decode cX9_step 186 = .ok (.iload 4, 2) := by decide +kernel
theorem dX9_step_188 : decode cX9_step 188 = .ok (.invokevirtual 62, 3) := by decide +kernel
theorem dX9_step_191 : decode cX9_step 191 = .ok (.return_, 1) := by decide +kernel
theorem dX9_load_0 : decode cX9_load 0 = .ok (.iconst 0, 1) := by decide +kernel
theorem dX9_load_1 : decode cX9_load 1 = .ok (.istore_n 3, 1) := by decide +kernel
theorem dX9_load_2 : decode cX9_load 2 = .ok (.iload_n 3, 1) := by decide +kernel
theorem dX9_load_3 : decode cX9_load 3 = .ok (.iconst 4, 1) := by decide +kernel
theorem dX9_load_4 : decode cX9_load 4 = .ok (.if_icmp .ge 20, 3) := by decide +kernel
theorem dX9_load_7 : decode cX9_load 7 = .ok (.aload_n 2, 1) := by decide +kernel
theorem dX9_load_8 : decode cX9_load 8 = .ok (.iload_n 3, 1) := by decide +kernel
theorem dX9_load_9 : decode cX9_load 9 = .ok (.iconst 1, 1) := by decide +kernel
theorem dX9_load_10 : decode cX9_load 10 = .ok (.iadd, 1) := by decide +kernel
theorem dX9_load_11 : decode cX9_load 11 = .ok (.aload_n 0, 1) := by decide +kernel
theorem dX9_load_12 : decode cX9_load 12 = .ok (.iload_n 1, 1) := by decide +kernel
theorem dX9_load_13 : decode cX9_load 13 = .ok (.iload_n 3, 1) := by decide +kernel
theorem dX9_load_14 : decode cX9_load 14 = .ok (.invokevirtual 66, 3) := by decide +kernel
theorem dX9_load_17 : decode cX9_load 17 = .ok (.lastore, 1) := by decide +kernel
theorem dX9_load_18 : decode cX9_load 18 = .ok (.iinc 3 1, 3) := by decide +kernel
theorem dX9_load_21 : decode cX9_load 21 = .ok (.goto (-19), 3) := by decide +kernel
theorem dX9_load_24 : decode cX9_load 24 = .ok (.return_, 1) := by decide +kernel
theorem dX9_nextWord_0 : decode cX9_nextWord 0 = .ok (.iload_n 1, 1) := by decide +kernel
theorem dX9_nextWord_1 : decode cX9_nextWord 1 = .ok (.iconst 1, 1) := by decide +kernel
theorem dX9_nextWord_2 : decode cX9_nextWord 2 = .ok (.if_icmp .lt 8, 3) := by decide +kernel
theorem dX9_nextWord_5 : decode cX9_nextWord 5 = .ok (.iload_n 1, 1) := by decide +kernel
theorem dX9_nextWord_6 : decode cX9_nextWord 6 = .ok (.iconst 4, 1) := by decide +kernel
theorem dX9_nextWord_7 : decode cX9_nextWord 7 = .ok (.if_icmp .le 5, 3) := by decide +kernel
theorem dX9_nextWord_10 : decode cX9_nextWord 10 = .ok (.lconst 0, 1) := by decide +kernel
theorem dX9_nextWord_11 : decode cX9_nextWord 11 = .ok (.lreturn, 1) := by decide +kernel
theorem dX9_nextWord_12 : decode cX9_nextWord 12 = .ok (.aload_n 0, 1) := by decide +kernel
theorem dX9_nextWord_13 : decode cX9_nextWord 13 = .ok (.lconst 0, 1) := by decide +kernel
theorem dX9_nextWord_14 : decode cX9_nextWord 14 = .ok (.putfield 70, 3) := by decide +kernel
theorem dX9_nextWord_17 : decode cX9_nextWord 17 = .ok (.aload_n 0, 1) := by decide +kernel
theorem dX9_nextWord_18 : decode cX9_nextWord 18 = .ok (.lconst 0, 1) := by decide +kernel
theorem dX9_nextWord_19 : decode cX9_nextWord 19 = .ok (.putfield 74, 3) := by decide +kernel
theorem dX9_nextWord_22 : decode cX9_nextWord 22 = .ok (.aload_n 0, 1) := by decide +kernel
theorem dX9_nextWord_23 : decode cX9_nextWord 23 = .ok (.lconst 0, 1) := by decide +kernel
theorem dX9_nextWord_24 : decode cX9_nextWord 24 = .ok (.putfield 77, 3) := by decide +kernel
theorem dX9_nextWord_27 : decode cX9_nextWord 27 = .ok (.aload_n 0, 1) := by decide +kernel
theorem dX9_nextWord_28 : decode cX9_nextWord 28 = .ok (.lconst 0, 1) := by decide +kernel
theorem dX9_nextWord_29 : decode cX9_nextWord 29 = .ok (.putfield 80, 3) := by decide +kernel
theorem dX9_nextWord_32 : decode cX9_nextWord 32 = .ok (.aload_n 0, 1) := by decide +kernel
theorem dX9_nextWord_33 : decode cX9_nextWord 33 = .ok (.aload_n 0, 1) := by decide +kernel
theorem dX9_nextWord_34 : decode cX9_nextWord 34 = .ok (.getfield 9, 3) := by decide +kernel
theorem dX9_nextWord_37 : decode cX9_nextWord 37 = .ok (.iload_n 1, 1) := by decide +kernel
theorem dX9_nextWord_38 : decode cX9_nextWord 38 = .ok (.laload, 1) := by decide +kernel
theorem dX9_nextWord_39 : decode cX9_nextWord 39 = .ok (.invokevirtual 83, 3) := by decide +kernel
theorem dX9_nextWord_42 : decode cX9_nextWord 42 = .ok (.aload_n 0, 1) := by decide +kernel
theorem dX9_nextWord_43 : decode cX9_nextWord 43 = .ok (.aload_n 0, 1) := by decide +kernel
theorem dX9_nextWord_44 : decode cX9_nextWord 44 = .ok (.getfield 18, 3) := by decide +kernel
theorem dX9_nextWord_47 : decode cX9_nextWord 47 = .ok (.iload_n 1, 1) := by decide +kernel
theorem dX9_nextWord_48 : decode cX9_nextWord 48 = .ok (.laload, 1) := by decide +kernel
theorem dX9_nextWord_49 : decode cX9_nextWord 49 = .ok (.invokevirtual 83, 3) := by decide +kernel
theorem dX9_nextWord_52 : decode cX9_nextWord 52 = .ok (.aload_n 0, 1) := by decide +kernel
theorem dX9_nextWord_53 : decode cX9_nextWord 53 = .ok (.aload_n 0, 1) := by decide +kernel
theorem dX9_nextWord_54 : decode cX9_nextWord 54 = .ok (.getfield 15, 3) := by decide +kernel
theorem dX9_nextWord_57 : decode cX9_nextWord 57 = .ok (.iload_n 1, 1) := by decide +kernel
theorem dX9_nextWord_58 : decode cX9_nextWord 58 = .ok (.invokestatic 87, 3) := by decide +kernel
theorem dX9_nextWord_61 : decode cX9_nextWord 61 = .ok (.invokevirtual 83, 3) := by decide +kernel
theorem dX9_nextWord_64 : decode cX9_nextWord 64 = .ok (.aload_n 0, 1) := by decide +kernel
theorem dX9_nextWord_65 : decode cX9_nextWord 65 = .ok (.aload_n 0, 1) := by decide +kernel
theorem dX9_nextWord_66 : decode cX9_nextWord 66 = .ok (.getfield 15, 3) := by decide +kernel
theorem dX9_nextWord_69 : decode cX9_nextWord 69 = .ok (.iload_n 1, 1) := by decide +kernel
theorem dX9_nextWord_70 : decode cX9_nextWord 70 = .ok (.invokestatic 91, 3) := by decide +kernel
theorem dX9_nextWord_73 : decode cX9_nextWord 73 = .ok (.invokevirtual 83, 3) := by decide +kernel
theorem dX9_nextWord_76 : decode cX9_nextWord 76 = .ok (.aload_n 2, 1) := by decide +kernel
theorem dX9_nextWord_77 : decode cX9_nextWord 77 = .ok (.getfield 94, 3) := by decide +kernel
theorem dX9_nextWord_80 : decode cX9_nextWord 80 = .ok (.bipush 6, 2) := by decide +kernel
theorem dX9_nextWord_82 : decode cX9_nextWord 82 = .ok (.if_icmp .lt 27, 3) := by decide +kernel
theorem dX9_nextWord_85 : decode cX9_nextWord 85 = .ok (.aload_n 0, 1) := by decide +kernel
theorem dX9_nextWord_86 : decode cX9_nextWord 86 = .ok (.aload_n 0, 1) := by decide +kernel
theorem dX9_nextWord_87 : decode cX9_nextWord 87 = .ok (.getfield 9, 3) := by decide +kernel
theorem dX9_nextWord_90 : decode cX9_nextWord 90 = .ok (.iload_n 1, 1) := by decide +kernel
theorem dX9_nextWord_91 : decode cX9_nextWord 91 = .ok (.invokestatic 87, 3) := by decide +kernel
theorem dX9_nextWord_94 : decode cX9_nextWord 94 = .ok (.invokevirtual 83, 3) := by decide +kernel
theorem dX9_nextWord_97 : decode cX9_nextWord 97 = .ok (.aload_n 0, 1) := by decide +kernel
theorem dX9_nextWord_98 : decode cX9_nextWord 98 = .ok (.aload_n 0, 1) := by decide +kernel
theorem dX9_nextWord_99 : decode cX9_nextWord 99 = .ok (.getfield 18, 3) := by decide +kernel
theorem dX9_nextWord_102 : decode cX9_nextWord 102 = .ok (.iload_n 1, 1) := by decide +kernel
theorem dX9_nextWord_103 : decode cX9_nextWord 103 = .ok (.invokestatic 91, 3) := by decide +kernel
theorem dX9_nextWord_106 : decode cX9_nextWord 106 = .ok (.invokevirtual 83, 3) := by decide +kernel
theorem dX9_nextWord_109 : decode cX9_nextWord 109 = .ok (.aload_n 2, 1) := by decide +kernel
theorem dX9_nextWord_110 : decode cX9_nextWord 110 = .ok (.getfield 94, 3) := by decide +kernel
theorem dX9_nextWord_113 : decode cX9_nextWord 113 = .ok (.bipush 8, 2) := by decide +kernel
theorem dX9_nextWord_115 : decode cX9_nextWord 115 = .ok (.if_icmp .ne 27, 3) := by decide +kernel
theorem dX9_nextWord_118 : decode cX9_nextWord 118 = .ok (.aload_n 0, 1) := by decide +kernel
theorem dX9_nextWord_119 : decode cX9_nextWord 119 = .ok (.aload_n 0, 1) := by decide +kernel
theorem dX9_nextWord_120 : decode cX9_nextWord 120 = .ok (.getfield 9, 3) := by decide +kernel
theorem dX9_nextWord_123 : decode cX9_nextWord 123 = .ok (.iload_n 1, 1) := by decide +kernel
theorem dX9_nextWord_124 : decode cX9_nextWord 124 = .ok (.invokestatic 91, 3) := by decide +kernel
theorem dX9_nextWord_127 : decode cX9_nextWord 127 = .ok (.invokevirtual 83, 3) := by decide +kernel
theorem dX9_nextWord_130 : decode cX9_nextWord 130 = .ok (.aload_n 0, 1) := by decide +kernel
theorem dX9_nextWord_131 : decode cX9_nextWord 131 = .ok (.aload_n 0, 1) := by decide +kernel
theorem dX9_nextWord_132 : decode cX9_nextWord 132 = .ok (.getfield 18, 3) := by decide +kernel
theorem dX9_nextWord_135 : decode cX9_nextWord 135 = .ok (.iload_n 1, 1) := by decide +kernel
theorem dX9_nextWord_136 : decode cX9_nextWord 136 = .ok (.invokestatic 87, 3) := by decide +kernel
theorem dX9_nextWord_139 : decode cX9_nextWord 139 = .ok (.invokevirtual 83, 3) := by decide +kernel
theorem dX9_nextWord_142 : decode cX9_nextWord 142 = .ok (.aload_n 0, 1) := by decide +kernel
theorem dX9_nextWord_143 : decode cX9_nextWord 143 = .ok (.getfield 15, 3) := by decide +kernel
theorem dX9_nextWord_146 : decode cX9_nextWord 146 = .ok (.iload_n 1, 1) := by decide +kernel
theorem dX9_nextWord_147 : decode cX9_nextWord 147 = .ok (.laload, 1) := by decide +kernel
theorem dX9_nextWord_148 : decode cX9_nextWord 148 = .ok (.aload_n 0, 1) := by decide +kernel
theorem dX9_nextWord_149 : decode cX9_nextWord 149 = .ok (.aload_n 2, 1) := by decide +kernel
theorem dX9_nextWord_150 : decode cX9_nextWord 150 = .ok (.getfield 99, 3) := by decide +kernel
theorem dX9_nextWord_153 : decode cX9_nextWord 153 = .ok (.invokevirtual 102, 3) := by decide +kernel
theorem dX9_nextWord_156 : decode cX9_nextWord 156 = .ok (.land, 1) := by decide +kernel
theorem dX9_nextWord_157 : decode cX9_nextWord 157 = .ok (.aload_n 0, 1) := by decide +kernel
theorem dX9_nextWord_158 : decode cX9_nextWord 158 = .ok (.getfield 15, 3) := by decide +kernel
theorem dX9_nextWord_161 : decode cX9_nextWord 161 = .ok (.iload_n 1, 1) := by decide +kernel
theorem dX9_nextWord_162 : decode cX9_nextWord 162 = .ok (.laload, 1) := by decide +kernel
theorem dX9_nextWord_163 : decode cX9_nextWord 163 = .ok (.ldc2_w 106, 3) := by decide +kernel
theorem dX9_nextWord_166 : decode cX9_nextWord 166 = .ok (.lxor, 1) := by decide +kernel
theorem dX9_nextWord_167 : decode cX9_nextWord 167 = .ok (.aload_n 0, 1) := by decide +kernel
theorem dX9_nextWord_168 : decode cX9_nextWord 168 = .ok (.aload_n 2, 1) := by decide +kernel
theorem dX9_nextWord_169 : decode cX9_nextWord 169 = .ok (.getfield 108, 3) := by decide +kernel
theorem dX9_nextWord_172 : decode cX9_nextWord 172 = .ok (.invokevirtual 102, 3) := by decide +kernel
theorem dX9_nextWord_175 : decode cX9_nextWord 175 = .ok (.land, 1) := by decide +kernel
theorem dX9_nextWord_176 : decode cX9_nextWord 176 = .ok (.lor, 1) := by decide +kernel
theorem dX9_nextWord_177 : decode cX9_nextWord 177 = .ok (.lreturn, 1) := by decide +kernel
theorem dX9_westOf_0 : decode cX9_westOf 0 = .ok (.iload_n 1, 1) := by decide +kernel
theorem dX9_westOf_1 : decode cX9_westOf 1 = .ok (.iconst 1, 1) := by decide +kernel
theorem dX9_westOf_2 : decode cX9_westOf 2 = .ok (.if_icmp .lt 26, 3) := by decide +kernel
theorem dX9_westOf_5 : decode cX9_westOf 5 = .ok (.iload_n 1, 1) := by decide +kernel
theorem dX9_westOf_6 : decode cX9_westOf 6 = .ok (.aload_n 0, 1) := by decide +kernel
theorem dX9_westOf_7 : decode cX9_westOf 7 = .ok (.arraylength, 1) := by decide +kernel
theorem dX9_westOf_8 : decode cX9_westOf 8 = .ok (.if_icmp .ge 20, 3) := by decide +kernel
theorem dX9_westOf_11 : decode cX9_westOf 11 = .ok (.aload_n 0, 1) := by decide +kernel
theorem dX9_westOf_12 : decode cX9_westOf 12 = .ok (.iload_n 1, 1) := by decide +kernel
theorem dX9_westOf_13 : decode cX9_westOf 13 = .ok (.laload, 1) := by decide +kernel
theorem dX9_westOf_14 : decode cX9_westOf 14 = .ok (.iconst 1, 1) := by decide +kernel
theorem dX9_westOf_15 : decode cX9_westOf 15 = .ok (.lshl, 1) := by decide +kernel
theorem dX9_westOf_16 : decode cX9_westOf 16 = .ok (.aload_n 0, 1) := by decide +kernel
theorem dX9_westOf_17 : decode cX9_westOf 17 = .ok (.iload_n 1, 1) := by decide +kernel
theorem dX9_westOf_18 : decode cX9_westOf 18 = .ok (.iconst 1, 1) := by decide +kernel
theorem dX9_westOf_19 : decode cX9_westOf 19 = .ok (.isub, 1) := by decide +kernel
theorem dX9_westOf_20 : decode cX9_westOf 20 = .ok (.laload, 1) := by decide +kernel
theorem dX9_westOf_21 : decode cX9_westOf 21 = .ok (.bipush 63, 2) := by decide +kernel
theorem dX9_westOf_23 : decode cX9_westOf 23 = .ok (.lushr, 1) := by decide +kernel
theorem dX9_westOf_24 : decode cX9_westOf 24 = .ok (.lor, 1) := by decide +kernel
theorem dX9_westOf_25 : decode cX9_westOf 25 = .ok (.goto 4, 3) := by decide +kernel
theorem dX9_westOf_28 : decode cX9_westOf 28 = .ok (.lconst 0, 1) := by decide +kernel
theorem dX9_westOf_29 : decode cX9_westOf 29 = .ok (.lreturn, 1) := by decide +kernel
theorem dX9_eastOf_0 : decode cX9_eastOf 0 = .ok (.iload_n 1, 1) := by decide +kernel
theorem dX9_eastOf_1 : decode cX9_eastOf 1 = .ok (.ifCond .lt 28, 3) := by decide +kernel
theorem dX9_eastOf_4 : decode cX9_eastOf 4 = .ok (.iload_n 1, 1) := by decide +kernel
theorem dX9_eastOf_5 : decode cX9_eastOf 5 = .ok (.iconst 1, 1) := by decide +kernel
theorem dX9_eastOf_6 : decode cX9_eastOf 6 = .ok (.iadd, 1) := by decide +kernel
theorem dX9_eastOf_7 : decode cX9_eastOf 7 = .ok (.aload_n 0, 1) := by decide +kernel
theorem dX9_eastOf_8 : decode cX9_eastOf 8 = .ok (.arraylength, 1) := by decide +kernel
theorem dX9_eastOf_9 : decode cX9_eastOf 9 = .ok (.if_icmp .ge 20, 3) := by decide +kernel
theorem dX9_eastOf_12 : decode cX9_eastOf 12 = .ok (.aload_n 0, 1) := by decide +kernel
theorem dX9_eastOf_13 : decode cX9_eastOf 13 = .ok (.iload_n 1, 1) := by decide +kernel
theorem dX9_eastOf_14 : decode cX9_eastOf 14 = .ok (.laload, 1) := by decide +kernel
theorem dX9_eastOf_15 : decode cX9_eastOf 15 = .ok (.iconst 1, 1) := by decide +kernel
theorem dX9_eastOf_16 : decode cX9_eastOf 16 = .ok (.lushr, 1) := by decide +kernel
theorem dX9_eastOf_17 : decode cX9_eastOf 17 = .ok (.aload_n 0, 1) := by decide +kernel
theorem dX9_eastOf_18 : decode cX9_eastOf 18 = .ok (.iload_n 1, 1) := by decide +kernel
theorem dX9_eastOf_19 : decode cX9_eastOf 19 = .ok (.iconst 1, 1) := by decide +kernel
theorem dX9_eastOf_20 : decode cX9_eastOf 20 = .ok (.iadd, 1) := by decide +kernel
theorem dX9_eastOf_21 : decode cX9_eastOf 21 = .ok (.laload, 1) := by decide +kernel
theorem dX9_eastOf_22 : decode cX9_eastOf 22 = .ok (.bipush 63, 2) := by decide +kernel
theorem dX9_eastOf_24 : decode cX9_eastOf 24 = .ok (.lshl, 1) := by decide +kernel
theorem dX9_eastOf_25 : decode cX9_eastOf 25 = .ok (.lor, 1) := by decide +kernel
theorem dX9_eastOf_26 : decode cX9_eastOf 26 = .ok (.goto 4, 3) := by decide +kernel
theorem dX9_eastOf_29 : decode cX9_eastOf 29 = .ok (.lconst 0, 1) := by decide +kernel
theorem dX9_eastOf_30 : decode cX9_eastOf 30 = .ok (.lreturn, 1) := by decide +kernel
theorem dX9_tally_0 : decode cX9_tally 0 = .ok (.aload_n 0, 1) := by decide +kernel
theorem dX9_tally_1 : decode cX9_tally 1 = .ok (.getfield 70, 3) := by decide +kernel
theorem dX9_tally_4 : decode cX9_tally 4 = .ok (.lload_n 1, 1) := by decide +kernel
theorem dX9_tally_5 : decode cX9_tally 5 = .ok (.land, 1) := by decide +kernel
theorem dX9_tally_6 : decode cX9_tally 6 = .ok (.lstore_n 3, 1) := by decide +kernel
theorem dX9_tally_7 : decode cX9_tally 7 = .ok (.aload_n 0, 1) := by decide +kernel
theorem dX9_tally_8 : decode cX9_tally 8 = .ok (.dup, 1) := by decide +kernel
theorem dX9_tally_9 : decode cX9_tally 9 = .ok (.getfield 70, 3) := by decide +kernel
theorem dX9_tally_12 : decode cX9_tally 12 = .ok (.lload_n 1, 1) := by decide +kernel
theorem dX9_tally_13 : decode cX9_tally 13 = .ok (.lxor, 1) := by decide +kernel
theorem dX9_tally_14 : decode cX9_tally 14 = .ok (.putfield 70, 3) := by decide +kernel
theorem dX9_tally_17 : decode cX9_tally 17 = .ok (.aload_n 0, 1) := by decide +kernel
theorem dX9_tally_18 : decode cX9_tally 18 = .ok (.getfield 74, 3) := by decide +kernel
theorem dX9_tally_21 : decode cX9_tally 21 = .ok (.lload_n 3, 1) := by decide +kernel
theorem dX9_tally_22 : decode cX9_tally 22 = .ok (.land, 1) := by decide +kernel
theorem dX9_tally_23 : decode cX9_tally 23 = .ok (.lstore 5, 2) := by decide +kernel
theorem dX9_tally_25 : decode cX9_tally 25 = .ok (.aload_n 0, 1) := by decide +kernel
theorem dX9_tally_26 : decode cX9_tally 26 = .ok (.dup, 1) := by decide +kernel
theorem dX9_tally_27 : decode cX9_tally 27 = .ok (.getfield 74, 3) := by decide +kernel
theorem dX9_tally_30 : decode cX9_tally 30 = .ok (.lload_n 3, 1) := by decide +kernel
theorem dX9_tally_31 : decode cX9_tally 31 = .ok (.lxor, 1) := by decide +kernel
theorem dX9_tally_32 : decode cX9_tally 32 = .ok (.putfield 74, 3) := by decide +kernel
theorem dX9_tally_35 : decode cX9_tally 35 = .ok (.aload_n 0, 1) := by decide +kernel
theorem dX9_tally_36 : decode cX9_tally 36 = .ok (.getfield 77, 3) := by decide +kernel
theorem dX9_tally_39 : decode cX9_tally 39 = .ok (.lload 5, 2) := by decide +kernel
theorem dX9_tally_41 : decode cX9_tally 41 = .ok (.land, 1) := by decide +kernel
theorem dX9_tally_42 : decode cX9_tally 42 = .ok (.lstore 7, 2) := by decide +kernel
theorem dX9_tally_44 : decode cX9_tally 44 = .ok (.aload_n 0, 1) := by decide +kernel
theorem dX9_tally_45 : decode cX9_tally 45 = .ok (.dup, 1) := by decide +kernel
theorem dX9_tally_46 : decode cX9_tally 46 = .ok (.getfield 77, 3) := by decide +kernel
theorem dX9_tally_49 : decode cX9_tally 49 = .ok (.lload 5, 2) := by decide +kernel
theorem dX9_tally_51 : decode cX9_tally 51 = .ok (.lxor, 1) := by decide +kernel
theorem dX9_tally_52 : decode cX9_tally 52 = .ok (.putfield 77, 3) := by decide +kernel
theorem dX9_tally_55 : decode cX9_tally 55 = .ok (.aload_n 0, 1) := by decide +kernel
theorem dX9_tally_56 : decode cX9_tally 56 = .ok (.dup, 1) := by decide +kernel
theorem dX9_tally_57 : decode cX9_tally 57 = .ok (.getfield 80, 3) := by decide +kernel
theorem dX9_tally_60 : decode cX9_tally 60 = .ok (.lload 7, 2) := by decide +kernel
theorem dX9_tally_62 : decode cX9_tally 62 = .ok (.lor, 1) := by decide +kernel
theorem dX9_tally_63 : decode cX9_tally 63 = .ok (.putfield 80, 3) := by decide +kernel
theorem dX9_tally_66 : decode cX9_tally 66 = .ok (.return_, 1) := by decide +kernel
theorem dX9_thoseIn_0 : decode cX9_thoseIn 0 = .ok (.lconst 0, 1) := by decide +kernel
theorem dX9_thoseIn_1 : decode cX9_thoseIn 1 = .ok (.lstore_n 2, 1) := by decide +kernel
theorem dX9_thoseIn_2 : decode cX9_thoseIn 2 = .ok (.iconst 0, 1) := by decide +kernel
theorem dX9_thoseIn_3 : decode cX9_thoseIn 3 = .ok (.istore 4, 2) := by decide +kernel
theorem dX9_thoseIn_5 : decode cX9_thoseIn 5 = .ok (.iload 4, 2) := by decide +kernel
theorem dX9_thoseIn_7 : decode cX9_thoseIn 7 = .ok (.bipush 8, 2) := by decide +kernel
theorem dX9_thoseIn_9 : decode cX9_thoseIn 9 = .ok (.if_icmp .gt 113, 3) := by decide +kernel
theorem dX9_thoseIn_12 : decode cX9_thoseIn 12 = .ok (.iload_n 1, 1) := by decide +kernel
theorem dX9_thoseIn_13 : decode cX9_thoseIn 13 = .ok (.iload 4, 2) := by decide +kernel
theorem dX9_thoseIn_15 : decode cX9_thoseIn 15 = .ok (.ishr, 1) := by decide +kernel
theorem dX9_thoseIn_16 : decode cX9_thoseIn 16 = .ok (.iconst 1, 1) := by decide +kernel
theorem dX9_thoseIn_17 : decode cX9_thoseIn 17 = .ok (.iand, 1) := by decide +kernel
theorem dX9_thoseIn_18 : decode cX9_thoseIn 18 = .ok (.ifCond .eq 98, 3) := by decide +kernel
theorem dX9_thoseIn_21 : decode cX9_thoseIn 21 = .ok (.lload_n 2, 1) := by decide +kernel
theorem dX9_thoseIn_22 : decode cX9_thoseIn 22 = .ok (.iload 4, 2) := by decide +kernel
theorem dX9_thoseIn_24 : decode cX9_thoseIn 24 = .ok (.iconst 1, 1) := by decide +kernel
theorem dX9_thoseIn_25 : decode cX9_thoseIn 25 = .ok (.iand, 1) := by decide +kernel
theorem dX9_thoseIn_26 : decode cX9_thoseIn 26 = .ok (.ifCond .eq 10, 3) := by decide +kernel
theorem dX9_thoseIn_29 : decode cX9_thoseIn 29 = .ok (.aload_n 0, 1) := by decide +kernel
theorem dX9_thoseIn_30 : decode cX9_thoseIn 30 = .ok (.getfield 70, 3) := by decide +kernel
theorem dX9_thoseIn_33 : decode cX9_thoseIn 33 = .ok (.goto 11, 3) := by decide +kernel
theorem dX9_thoseIn_36 : decode cX9_thoseIn 36 = .ok (.aload_n 0, 1) := by decide +kernel
theorem dX9_thoseIn_37 : decode cX9_thoseIn 37 = .ok (.getfield 70, 3) := by decide +kernel
theorem dX9_thoseIn_40 : decode cX9_thoseIn 40 = .ok (.ldc2_w 106, 3) := by decide +kernel
theorem dX9_thoseIn_43 : decode cX9_thoseIn 43 = .ok (.lxor, 1) := by decide +kernel
theorem dX9_thoseIn_44 : decode cX9_thoseIn 44 = .ok (.iload 4, 2) := by decide +kernel
theorem dX9_thoseIn_46 : decode cX9_thoseIn 46 = .ok (.iconst 2, 1) := by decide +kernel
theorem dX9_thoseIn_47 : decode cX9_thoseIn 47 = .ok (.iand, 1) := by decide +kernel
theorem dX9_thoseIn_48 : decode cX9_thoseIn 48 = .ok (.ifCond .eq 10, 3) := by decide +kernel
theorem dX9_thoseIn_51 : decode cX9_thoseIn 51 = .ok (.aload_n 0, 1) := by decide +kernel
theorem dX9_thoseIn_52 : decode cX9_thoseIn 52 = .ok (.getfield 74, 3) := by decide +kernel
theorem dX9_thoseIn_55 : decode cX9_thoseIn 55 = .ok (.goto 11, 3) := by decide +kernel
theorem dX9_thoseIn_58 : decode cX9_thoseIn 58 = .ok (.aload_n 0, 1) := by decide +kernel
theorem dX9_thoseIn_59 : decode cX9_thoseIn 59 = .ok (.getfield 74, 3) := by decide +kernel
theorem dX9_thoseIn_62 : decode cX9_thoseIn 62 = .ok (.ldc2_w 106, 3) := by decide +kernel
theorem dX9_thoseIn_65 : decode cX9_thoseIn 65 = .ok (.lxor, 1) := by decide +kernel
theorem dX9_thoseIn_66 : decode cX9_thoseIn 66 = .ok (.land, 1) := by decide +kernel
theorem dX9_thoseIn_67 : decode cX9_thoseIn 67 = .ok (.iload 4, 2) := by decide +kernel
theorem dX9_thoseIn_69 : decode cX9_thoseIn 69 = .ok (.iconst 4, 1) := by decide +kernel
theorem dX9_thoseIn_70 : decode cX9_thoseIn 70 = .ok (.iand, 1) := by decide +kernel
theorem dX9_thoseIn_71 : decode cX9_thoseIn 71 = .ok (.ifCond .eq 10, 3) := by decide +kernel
theorem dX9_thoseIn_74 : decode cX9_thoseIn 74 = .ok (.aload_n 0, 1) := by decide +kernel
theorem dX9_thoseIn_75 : decode cX9_thoseIn 75 = .ok (.getfield 77, 3) := by decide +kernel
theorem dX9_thoseIn_78 : decode cX9_thoseIn 78 = .ok (.goto 11, 3) := by decide +kernel
theorem dX9_thoseIn_81 : decode cX9_thoseIn 81 = .ok (.aload_n 0, 1) := by decide +kernel
theorem dX9_thoseIn_82 : decode cX9_thoseIn 82 = .ok (.getfield 77, 3) := by decide +kernel
theorem dX9_thoseIn_85 : decode cX9_thoseIn 85 = .ok (.ldc2_w 106, 3) := by decide +kernel
theorem dX9_thoseIn_88 : decode cX9_thoseIn 88 = .ok (.lxor, 1) := by decide +kernel
theorem dX9_thoseIn_89 : decode cX9_thoseIn 89 = .ok (.land, 1) := by decide +kernel
theorem dX9_thoseIn_90 : decode cX9_thoseIn 90 = .ok (.iload 4, 2) := by decide +kernel
theorem dX9_thoseIn_92 : decode cX9_thoseIn 92 = .ok (.bipush 8, 2) := by decide +kernel
theorem dX9_thoseIn_94 : decode cX9_thoseIn 94 = .ok (.iand, 1) := by decide +kernel
theorem dX9_thoseIn_95 : decode cX9_thoseIn 95 = .ok (.ifCond .eq 10, 3) := by decide +kernel
theorem dX9_thoseIn_98 : decode cX9_thoseIn 98 = .ok (.aload_n 0, 1) := by decide +kernel
theorem dX9_thoseIn_99 : decode cX9_thoseIn 99 = .ok (.getfield 80, 3) := by decide +kernel
theorem dX9_thoseIn_102 : decode cX9_thoseIn 102 = .ok (.goto 11, 3) := by decide +kernel
theorem dX9_thoseIn_105 : decode cX9_thoseIn 105 = .ok (.aload_n 0, 1) := by decide +kernel
theorem dX9_thoseIn_106 : decode cX9_thoseIn 106 = .ok (.getfield 80, 3) := by decide +kernel
theorem dX9_thoseIn_109 : decode cX9_thoseIn 109 = .ok (.ldc2_w 106, 3) := by decide +kernel
theorem dX9_thoseIn_112 : decode cX9_thoseIn 112 = .ok (.lxor, 1) := by decide +kernel
theorem dX9_thoseIn_113 : decode cX9_thoseIn 113 = .ok (.land, 1) := by decide +kernel
theorem dX9_thoseIn_114 : decode cX9_thoseIn 114 = .ok (.lor, 1) := by decide +kernel
theorem dX9_thoseIn_115 : decode cX9_thoseIn 115 = .ok (.lstore_n 2, 1) := by decide +kernel
theorem dX9_thoseIn_116 : decode cX9_thoseIn 116 = .ok (.iinc 4 1, 3) := by decide +kernel
theorem dX9_thoseIn_119 : decode cX9_thoseIn 119 = .ok (.goto (-114), 3) := by decide +kernel
theorem dX9_thoseIn_122 : decode cX9_thoseIn 122 = .ok (.lload_n 2, 1) := by decide +kernel
theorem dX9_thoseIn_123 : decode cX9_thoseIn 123 = .ok (.lreturn, 1) := by decide +kernel
theorem dX10_init_0 : decode cX10_init 0 = .ok (.aload_n 0, 1) := by decide +kernel
theorem dX10_init_1 : decode cX10_init 1 = .ok (.invokespecial 1, 3) := by decide +kernel
theorem dX10_init_4 : decode cX10_init 4 = .ok (.aload_n 0, 1) := by decide +kernel
theorem dX10_init_5 : decode cX10_init 5 = .ok (.sipush 2000, 3) := by decide +kernel
theorem dX10_init_8 : decode cX10_init 8 = .ok (.newarray .byte, 2) := by decide +kernel
theorem dX10_init_10 : decode cX10_init 10 = .ok (.putfield 9, 3) := by decide +kernel
theorem dX10_init_13 : decode cX10_init 13 = .ok (.return_, 1) := by decide +kernel
theorem dX10_size_0 : decode cX10_size 0 = .ok (.aload_n 0, 1) := by decide +kernel
theorem dX10_size_1 : decode cX10_size 1 = .ok (.getfield 13, 3) := by decide +kernel
theorem dX10_size_4 : decode cX10_size 4 = .ok (.ireturn, 1) := by decide +kernel
theorem dX10_keep_0 : decode cX10_keep 0 = .ok (.iload_n 1, 1) := by decide +kernel
theorem dX10_keep_1 : decode cX10_keep 1 = .ok (.ifCond .lt 16, 3) := by decide +kernel
theorem dX10_keep_4 : decode cX10_keep 4 = .ok (.iload_n 1, 1) := by decide +kernel
theorem dX10_keep_5 : decode cX10_keep 5 = .ok (.aload_n 0, 1) := by decide +kernel
theorem dX10_keep_6 : decode cX10_keep 6 = .ok (.getfield 13, 3) := by decide +kernel
theorem dX10_keep_9 : decode cX10_keep 9 = .ok (.if_icmp .ge 8, 3) := by decide +kernel
theorem dX10_keep_12 : decode cX10_keep 12 = .ok (.aload_n 0, 1) := by decide +kernel
theorem dX10_keep_13 : decode cX10_keep 13 = .ok (.iload_n 1, 1) := by decide +kernel
theorem dX10_keep_14 : decode cX10_keep 14 = .ok (.putfield 13, 3) := by decide +kernel
theorem dX10_keep_17 : decode cX10_keep 17 = .ok (.return_, 1) := by decide +kernel
theorem dX10_append_0 : decode cX10_append 0 = .ok (.bipush 24, 2) := by decide +kernel
theorem dX10_append_2 : decode cX10_append 2 = .ok (.istore_n 2, 1) := by decide +kernel
theorem dX10_append_3 : decode cX10_append 3 = .ok (.iload_n 2, 1) := by decide +kernel
theorem dX10_append_4 : decode cX10_append 4 = .ok (.ifCond .lt 44, 3) := by decide +kernel
theorem dX10_append_7 : decode cX10_append 7 = .ok (.aload_n 0, 1) := by decide +kernel
theorem dX10_append_8 : decode cX10_append 8 = .ok (.getfield 13, 3) := by decide +kernel
theorem dX10_append_11 : decode cX10_append 11 = .ok (.aload_n 0, 1) := by decide +kernel
theorem dX10_append_12 : decode cX10_append 12 = .ok (.getfield 9, 3) := by decide +kernel
theorem dX10_append_15 : decode cX10_append 15 = .ok (.arraylength, 1) := by decide +kernel
theorem dX10_append_16 : decode cX10_append 16 = .ok (.if_icmp .ge 32, 3) := by decide +kernel
theorem dX10_append_19 : decode cX10_append 19 = .ok (.aload_n 0, 1) := by decide +kernel
theorem dX10_append_20 : decode cX10_append 20 = .ok (.getfield 9, 3) := by decide +kernel
theorem dX10_append_23 : decode cX10_append 23 = .ok (.aload_n 0, 1) := by decide +kernel
theorem dX10_append_24 : decode cX10_append 24 = .ok (.getfield 13, 3) := by decide +kernel
theorem dX10_append_27 : decode cX10_append 27 = .ok (.iload_n 1, 1) := by decide +kernel
theorem dX10_append_28 : decode cX10_append 28 = .ok (.iload_n 2, 1) := by decide +kernel
theorem dX10_append_29 : decode cX10_append 29 = .ok (.iushr, 1) := by decide +kernel
theorem dX10_append_30 : decode cX10_append 30 = .ok (.i2b, 1) := by decide +kernel
theorem dX10_append_31 : decode cX10_append 31 = .ok (.bastore, 1) := by decide +kernel
theorem dX10_append_32 : decode cX10_append 32 = .ok (.aload_n 0, 1) := by decide +kernel
theorem dX10_append_33 : decode cX10_append 33 = .ok (.dup, 1) := by decide +kernel
theorem dX10_append_34 : decode cX10_append 34 = .ok (.getfield 13, 3) := by decide +kernel
theorem dX10_append_37 : decode cX10_append 37 = .ok (.iconst 1, 1) := by decide +kernel
theorem dX10_append_38 : decode cX10_append 38 = .ok (.iadd, 1) := by decide +kernel
theorem dX10_append_39 : decode cX10_append 39 = .ok (.putfield 13, 3) := by decide +kernel
theorem dX10_append_42 : decode cX10_append 42 = .ok (.iinc 2 (-8), 3) := by decide +kernel
theorem dX10_append_45 : decode cX10_append 45 = .ok (.goto (-42), 3) := by decide +kernel
theorem dX10_append_48 : decode cX10_append 48 = .ok (.return_, 1) := by decide +kernel
theorem dX10_byteAt_0 : decode cX10_byteAt 0 = .ok (.iload_n 1, 1) := by decide +kernel
theorem dX10_byteAt_1 : decode cX10_byteAt 1 = .ok (.ifCond .lt 24, 3) := by decide +kernel
theorem dX10_byteAt_4 : decode cX10_byteAt 4 = .ok (.iload_n 1, 1) := by decide +kernel
theorem dX10_byteAt_5 : decode cX10_byteAt 5 = .ok (.aload_n 0, 1) := by decide +kernel
theorem dX10_byteAt_6 : decode cX10_byteAt 6 = .ok (.getfield 13, 3) := by decide +kernel
theorem dX10_byteAt_9 : decode cX10_byteAt 9 = .ok (.if_icmp .ge 16, 3) := by decide +kernel
theorem dX10_byteAt_12 : decode cX10_byteAt 12 = .ok (.aload_n 0, 1) := by decide +kernel
theorem dX10_byteAt_13 : decode cX10_byteAt 13 = .ok (.getfield 9, 3) := by decide +kernel
theorem dX10_byteAt_16 : decode cX10_byteAt 16 = .ok (.iload_n 1, 1) := by decide +kernel
theorem dX10_byteAt_17 : decode cX10_byteAt 17 = .ok (.baload, 1) := by decide +kernel
theorem dX10_byteAt_18 : decode cX10_byteAt 18 = .ok (.sipush 255, 3) := by decide +kernel
theorem dX10_byteAt_21 : decode cX10_byteAt 21 = .ok (.iand, 1) := by decide +kernel
theorem dX10_byteAt_22 : decode cX10_byteAt 22 = .ok (.goto 4, 3) := by decide +kernel
theorem dX10_byteAt_25 : decode cX10_byteAt 25 = .ok (.iconst (-1), 1) := by decide +kernel
theorem dX10_byteAt_26 : decode cX10_byteAt 26 = .ok (.ireturn, 1) := by decide +kernel
theorem dX10_copy_0 : decode cX10_copy 0 = .ok (.aload_n 0, 1) := by decide +kernel
theorem dX10_copy_1 : decode cX10_copy 1 = .ok (.getfield 9, 3) := by decide +kernel
theorem dX10_copy_4 : decode cX10_copy 4 = .ok (.aload_n 0, 1) := by decide +kernel
theorem dX10_copy_5 : decode cX10_copy 5 = .ok (.getfield 13, 3) := by decide +kernel
theorem dX10_copy_8 : decode cX10_copy 8 = .ok (.invokestatic 17, 3) := by decide +kernel
theorem dX10_copy_11 : decode cX10_copy 11 = .ok (.areturn, 1) := by decide +kernel
theorem dX11_init_0 : decode cX11_init 0 = .ok (.aload_n 0, 1) := by decide +kernel
theorem dX11_init_1 : decode cX11_init 1 = .ok (.invokespecial 1, 3) := by decide +kernel
theorem dX11_init_4 : decode cX11_init 4 = .ok (.aload_n 0, 1) := by decide +kernel
theorem dX11_init_5 : decode cX11_init 5 = .ok (.new 7, 3) := by decide +kernel
theorem dX11_init_8 : decode cX11_init 8 = .ok (.dup, 1) := by decide +kernel
theorem dX11_init_9 : decode cX11_init 9 = .ok (.invokespecial 9, 3) := by decide +kernel
theorem dX11_init_12 : decode cX11_init 12 = .ok (.putfield 10, 3) := by decide +kernel
theorem dX11_init_15 : decode cX11_init 15 = .ok (.aload_n 0, 1) := by decide +kernel
theorem dX11_init_16 : decode cX11_init 16 = .ok (.new 16, 3) := by decide +kernel
theorem dX11_init_19 : decode cX11_init 19 = .ok (.dup, 1) := by decide +kernel
theorem dX11_init_20 : decode cX11_init 20 = .ok (.invokespecial 18, 3) := by decide +kernel
theorem dX11_init_23 : decode cX11_init 23 = .ok (.putfield 19, 3) := by decide +kernel
theorem dX11_init_26 : decode cX11_init 26 = .ok (.aload_n 0, 1) := by decide +kernel
theorem dX11_init_27 : decode cX11_init 27 = .ok (.new 23, 3) := by decide +kernel
theorem dX11_init_30 : decode cX11_init 30 = .ok (.dup, 1) := by decide +kernel
theorem dX11_init_31 : decode cX11_init 31 = .ok (.invokespecial 25, 3) := by decide +kernel
theorem dX11_init_34 : decode cX11_init 34 = .ok (.putfield 26, 3) := by decide +kernel
theorem dX11_init_37 : decode cX11_init 37 = .ok (.aload_n 0, 1) := by decide +kernel
theorem dX11_init_38 : decode cX11_init 38 = .ok (.new 30, 3) := by decide +kernel
theorem dX11_init_41 : decode cX11_init 41 = .ok (.dup, 1) := by decide +kernel
theorem dX11_init_42 : decode cX11_init 42 = .ok (.invokespecial 32, 3) := by decide +kernel
theorem dX11_init_45 : decode cX11_init 45 = .ok (.putfield 33, 3) := by decide +kernel
theorem dX11_init_48 : decode cX11_init 48 = .ok (.aload_n 0, 1) := by decide +kernel
theorem dX11_init_49 : decode cX11_init 49 = .ok (.bipush 16, 2) := by decide +kernel
theorem dX11_init_51 : decode cX11_init 51 = .ok (.anewarray 37, 3) := by decide +kernel
theorem dX11_init_54 : decode cX11_init 54 = .ok (.putfield 39, 3) := by decide +kernel
theorem dX11_init_57 : decode cX11_init 57 = .ok (.aload_n 0, 1) := by decide +kernel
theorem dX11_init_58 : decode cX11_init 58 = .ok (.bipush 8, 2) := by decide +kernel
theorem dX11_init_60 : decode cX11_init 60 = .ok (.anewarray 43, 3) := by decide +kernel
theorem dX11_init_63 : decode cX11_init 63 = .ok (.putfield 45, 3) := by decide +kernel
theorem dX11_init_66 : decode cX11_init 66 = .ok (.aload_n 0, 1) := by decide +kernel
theorem dX11_init_67 : decode cX11_init 67 = .ok (.bipush 8, 2) := by decide +kernel
theorem dX11_init_69 : decode cX11_init 69 = .ok (.anewarray 49, 3) := by decide +kernel
theorem dX11_init_72 : decode cX11_init 72 = .ok (.putfield 51, 3) := by decide +kernel
theorem dX11_init_75 : decode cX11_init 75 = .ok (.aload_n 0, 1) := by decide +kernel
theorem dX11_init_76 : decode cX11_init 76 = .ok (.new 55, 3) := by decide +kernel
theorem dX11_init_79 : decode cX11_init 79 = .ok (.dup, 1) := by decide +kernel
theorem dX11_init_80 : decode cX11_init 80 = .ok (.invokespecial 57, 3) := by decide +kernel
theorem dX11_init_83 : decode cX11_init 83 = .ok (.putfield 58, 3) := by decide +kernel
theorem dX11_init_86 : decode cX11_init 86 = .ok (.aload_n 0, 1) := by decide +kernel
theorem dX11_init_87 : decode cX11_init 87 = .ok (.new 43, 3) := by decide +kernel
theorem dX11_init_90 : decode cX11_init 90 = .ok (.dup, 1) := by decide +kernel
theorem dX11_init_91 : decode cX11_init 91 = .ok (.invokespecial 62, 3) := by decide +kernel
theorem dX11_init_94 : decode cX11_init 94 = .ok (.putfield 63, 3) := by decide +kernel
theorem dX11_init_97 : decode cX11_init 97 = .ok (.aload_n 0, 1) := by decide +kernel
theorem dX11_init_98 : decode cX11_init 98 = .ok (.new 67, 3) := by decide +kernel
theorem dX11_init_101 : decode cX11_init 101 = .ok (.dup, 1) := by decide +kernel
theorem dX11_init_102 : decode cX11_init 102 = .ok (.invokespecial 69, 3) := by decide +kernel
theorem dX11_init_105 : decode cX11_init 105 = .ok (.putfield 70, 3) := by decide +kernel
theorem dX11_init_108 : decode cX11_init 108 = .ok (.aload_n 0, 1) := by decide +kernel
theorem dX11_init_109 : decode cX11_init 109 = .ok (.new 74, 3) := by decide +kernel
theorem dX11_init_112 : decode cX11_init 112 = .ok (.dup, 1) := by decide +kernel
theorem dX11_init_113 : decode cX11_init 113 = .ok (.invokespecial 76, 3) := by decide +kernel
theorem dX11_init_116 : decode cX11_init 116 = .ok (.putfield 77, 3) := by decide +kernel
theorem dX11_init_119 : decode cX11_init 119 = .ok (.aload_n 0, 1) := by decide +kernel
theorem dX11_init_120 : decode cX11_init 120 = .ok (.new 81, 3) := by decide +kernel
theorem dX11_init_123 : decode cX11_init 123 = .ok (.dup, 1) := by decide +kernel
theorem dX11_init_124 : decode cX11_init 124 = .ok (.invokespecial 83, 3) := by decide +kernel
theorem dX11_init_127 : decode cX11_init 127 = .ok (.putfield 84, 3) := by decide +kernel
theorem dX11_init_130 : decode cX11_init 130 = .ok (.return_, 1) := by decide +kernel
theorem dX11_feed_0 : decode cX11_feed 0 = .ok (.aload_n 0, 1) := by decide +kernel
theorem dX11_feed_1 : decode cX11_feed 1 = .ok (.getfield 10, 3) := by decide +kernel
theorem dX11_feed_4 : decode cX11_feed 4 = .ok (.invokevirtual 88, 3) := by decide +kernel
theorem dX11_feed_7 : decode cX11_feed 7 = .ok (.bipush 20, 2) := by decide +kernel
theorem dX11_feed_9 : decode cX11_feed 9 = .ok (.iadd, 1) := by decide +kernel
theorem dX11_feed_10 : decode cX11_feed 10 = .ok (.sipush 2000, 3) := by decide +kernel
theorem dX11_feed_13 : decode cX11_feed 13 = .ok (.if_icmp .le 6, 3) := by decide +kernel
theorem dX11_feed_16 : decode cX11_feed 16 = .ok (.bipush (-3), 2) := by decide +kernel
theorem dX11_feed_18 : decode cX11_feed 18 = .ok (.ireturn, 1) := by decide +kernel
theorem dX11_feed_19 : decode cX11_feed 19 = .ok (.aload_n 0, 1) := by decide +kernel
theorem dX11_feed_20 : decode cX11_feed 20 = .ok (.getfield 10, 3) := by decide +kernel
theorem dX11_feed_23 : decode cX11_feed 23 = .ok (.iload_n 1, 1) := by decide +kernel
theorem dX11_feed_24 : decode cX11_feed 24 = .ok (.invokevirtual 92, 3) := by decide +kernel
theorem dX11_feed_27 : decode cX11_feed 27 = .ok (.aload_n 0, 1) := by decide +kernel
theorem dX11_feed_28 : decode cX11_feed 28 = .ok (.getfield 10, 3) := by decide +kernel
theorem dX11_feed_31 : decode cX11_feed 31 = .ok (.iload_n 2, 1) := by decide +kernel
theorem dX11_feed_32 : decode cX11_feed 32 = .ok (.invokevirtual 92, 3) := by decide +kernel
theorem dX11_feed_35 : decode cX11_feed 35 = .ok (.aload_n 0, 1) := by decide +kernel
theorem dX11_feed_36 : decode cX11_feed 36 = .ok (.getfield 10, 3) := by decide +kernel
theorem dX11_feed_39 : decode cX11_feed 39 = .ok (.iload_n 3, 1) := by decide +kernel
theorem dX11_feed_40 : decode cX11_feed 40 = .ok (.invokevirtual 92, 3) := by decide +kernel
theorem dX11_feed_43 : decode cX11_feed 43 = .ok (.aload_n 0, 1) := by decide +kernel
theorem dX11_feed_44 : decode cX11_feed 44 = .ok (.getfield 10, 3) := by decide +kernel
theorem dX11_feed_47 : decode cX11_feed 47 = .ok (.iload 4, 2) := by decide +kernel
theorem dX11_feed_49 : decode cX11_feed 49 = .ok (.invokevirtual 92, 3) := by decide +kernel
theorem dX11_feed_52 : decode cX11_feed 52 = .ok (.aload_n 0, 1) := by decide +kernel
theorem dX11_feed_53 : decode cX11_feed 53 = .ok (.getfield 10, 3) := by decide +kernel
theorem dX11_feed_56 : decode cX11_feed 56 = .ok (.iload 5, 2) := by decide +kernel
theorem dX11_feed_58 : decode cX11_feed 58 = .ok (.invokevirtual 92, 3) := by decide +kernel
theorem dX11_feed_61 : decode cX11_feed 61 = .ok (.aload_n 0, 1) := by decide +kernel
theorem dX11_feed_62 : decode cX11_feed 62 = .ok (.getfield 10, 3) := by decide +kernel
theorem dX11_feed_65 : decode cX11_feed 65 = .ok (.invokevirtual 88, 3) := by decide +kernel
theorem dX11_feed_68 : decode cX11_feed 68 = .ok (.ireturn, 1) := by decide +kernel
theorem dX11_end_0 : decode cX11_end 0 = .ok (.iload_n 1, 1) := by decide +kernel
theorem dX11_end_1 : decode cX11_end 1 = .ok (.ifCond .lt 14, 3) := by decide +kernel
theorem dX11_end_4 : decode cX11_end 4 = .ok (.iload_n 1, 1) := by decide +kernel
theorem dX11_end_5 : decode cX11_end 5 = .ok (.aload_n 0, 1) := by decide +kernel
theorem dX11_end_6 : decode cX11_end 6 = .ok (.getfield 10, 3) := by decide +kernel
theorem dX11_end_9 : decode cX11_end 9 = .ok (.invokevirtual 88, 3) := by decide +kernel
theorem dX11_end_12 : decode cX11_end 12 = .ok (.if_icmp .le 5, 3) := by decide +kernel
theorem dX11_end_15 : decode cX11_end 15 = .ok (.iconst (-1), 1) := by decide +kernel
theorem dX11_end_16 : decode cX11_end 16 = .ok (.ireturn, 1) := by decide +kernel
theorem dX11_end_17 : decode cX11_end 17 = .ok (.aload_n 0, 1) := by decide +kernel
theorem dX11_end_18 : decode cX11_end 18 = .ok (.getfield 10, 3) := by decide +kernel
theorem dX11_end_21 : decode cX11_end 21 = .ok (.iload_n 1, 1) := by decide +kernel
theorem dX11_end_22 : decode cX11_end 22 = .ok (.invokevirtual 96, 3) := by decide +kernel
theorem dX11_end_25 : decode cX11_end 25 = .ok (.iload_n 1, 1) := by decide +kernel
theorem dX11_end_26 : decode cX11_end 26 = .ok (.ireturn, 1) := by decide +kernel
theorem dX11_rule_0 : decode cX11_rule 0 = .ok (.aload_n 0, 1) := by decide +kernel
theorem dX11_rule_1 : decode cX11_rule 1 = .ok (.invokevirtual 99, 3) := by decide +kernel
theorem dX11_rule_4 : decode cX11_rule 4 = .ok (.istore_n 1, 1) := by decide +kernel
theorem dX11_rule_5 : decode cX11_rule 5 = .ok (.aload_n 0, 1) := by decide +kernel
theorem dX11_rule_6 : decode cX11_rule 6 = .ok (.getfield 10, 3) := by decide +kernel
theorem dX11_rule_9 : decode cX11_rule 9 = .ok (.iconst 0, 1) := by decide +kernel
theorem dX11_rule_10 : decode cX11_rule 10 = .ok (.invokevirtual 96, 3) := by decide +kernel
theorem dX11_rule_13 : decode cX11_rule 13 = .ok (.iload_n 1, 1) := by decide +kernel
theorem dX11_rule_14 : decode cX11_rule 14 = .ok (.ireturn, 1) := by decide +kernel
theorem dX11_makeRule_0 : decode cX11_makeRule 0 = .ok (.aload_n 0, 1) := by decide +kernel
theorem dX11_makeRule_1 : decode cX11_makeRule 1 = .ok (.getfield 102, 3) := by decide +kernel
theorem dX11_makeRule_4 : decode cX11_makeRule 4 = .ok (.bipush 16, 2) := by decide +kernel
theorem dX11_makeRule_6 : decode cX11_makeRule 6 = .ok (.if_icmp .lt 6, 3) := by decide +kernel
theorem dX11_makeRule_9 : decode cX11_makeRule 9 = .ok (.bipush (-3), 2) := by decide +kernel
theorem dX11_makeRule_11 : decode cX11_makeRule 11 = .ok (.ireturn, 1) := by decide +kernel
theorem dX11_makeRule_12 : decode cX11_makeRule 12 = .ok (.aload_n 0, 1) := by decide +kernel
theorem dX11_makeRule_13 : decode cX11_makeRule 13 = .ok (.getfield 19, 3) := by decide +kernel
theorem dX11_makeRule_16 : decode cX11_makeRule 16 = .ok (.aload_n 0, 1) := by decide +kernel
theorem dX11_makeRule_17 : decode cX11_makeRule 17 = .ok (.getfield 10, 3) := by decide +kernel
theorem dX11_makeRule_20 : decode cX11_makeRule 20 = .ok (.invokevirtual 106, 3) := by decide +kernel
theorem dX11_makeRule_23 : decode cX11_makeRule 23 = .ok (.istore_n 1, 1) := by decide +kernel
theorem dX11_makeRule_24 : decode cX11_makeRule 24 = .ok (.iload_n 1, 1) := by decide +kernel
theorem dX11_makeRule_25 : decode cX11_makeRule 25 = .ok (.ifCond .lt 8, 3) := by decide +kernel
theorem dX11_makeRule_28 : decode cX11_makeRule 28 = .ok (.bipush (-10), 2) := by decide +kernel
theorem dX11_makeRule_30 : decode cX11_makeRule 30 = .ok (.iload_n 1, 1) := by decide +kernel
theorem dX11_makeRule_31 : decode cX11_makeRule 31 = .ok (.isub, 1) := by decide +kernel
theorem dX11_makeRule_32 : decode cX11_makeRule 32 = .ok (.ireturn, 1) := by decide +kernel
theorem dX11_makeRule_33 : decode cX11_makeRule 33 = .ok (.new 37, 3) := by decide +kernel
theorem dX11_makeRule_36 : decode cX11_makeRule 36 = .ok (.dup, 1) := by decide +kernel
theorem dX11_makeRule_37 : decode cX11_makeRule 37 = .ok (.aload_n 0, 1) := by decide +kernel
theorem dX11_makeRule_38 : decode cX11_makeRule 38 = .ok (.getfield 10, 3) := by decide +kernel
theorem dX11_makeRule_41 : decode cX11_makeRule 41 = .ok (.aload_n 0, 1) := by decide +kernel
theorem dX11_makeRule_42 : decode cX11_makeRule 42 = .ok (.getfield 19, 3) := by decide +kernel
theorem dX11_makeRule_45 : decode cX11_makeRule 45 = .ok (.invokespecial 110, 3) := by decide +kernel
theorem dX11_makeRule_48 : decode cX11_makeRule 48 = .ok (.astore_n 2, 1) := by decide +kernel
theorem dX11_makeRule_49 : decode cX11_makeRule 49 = .ok (.aload_n 2, 1) := by decide +kernel
theorem dX11_makeRule_50 : decode cX11_makeRule 50 = .ok (.aload_n 0, 1) := by decide +kernel
theorem dX11_makeRule_51 : decode cX11_makeRule 51 = .ok (.getfield 33, 3) := by decide +kernel
theorem dX11_makeRule_54 : decode cX11_makeRule 54 = .ok (.invokevirtual 113, 3) := by decide +kernel
theorem dX11_makeRule_57 : decode cX11_makeRule 57 = .ok (.aload_n 0, 1) := by decide +kernel
theorem dX11_makeRule_58 : decode cX11_makeRule 58 = .ok (.getfield 39, 3) := by decide +kernel
theorem dX11_makeRule_61 : decode cX11_makeRule 61 = .ok (.aload_n 0, 1) := by decide +kernel
theorem dX11_makeRule_62 : decode cX11_makeRule 62 = .ok (.getfield 102, 3) := by decide +kernel
theorem dX11_makeRule_65 : decode cX11_makeRule 65 = .ok (.aload_n 2, 1) := by decide +kernel
theorem dX11_makeRule_66 : decode cX11_makeRule 66 = .ok (.aastore, 1) := by decide +kernel
theorem dX11_makeRule_67 : decode cX11_makeRule 67 = .ok (.aload_n 0, 1) := by decide +kernel
theorem dX11_makeRule_68 : decode cX11_makeRule 68 = .ok (.dup, 1) := by decide +kernel
theorem dX11_makeRule_69 : decode cX11_makeRule 69 = .ok (.getfield 102, 3) := by decide +kernel
theorem dX11_makeRule_72 : decode cX11_makeRule 72 = .ok (.iconst 1, 1) := by decide +kernel
theorem dX11_makeRule_73 : decode cX11_makeRule 73 = .ok (.iadd, 1) := by decide +kernel
theorem dX11_makeRule_74 : decode cX11_makeRule 74 = .ok (.putfield 102, 3) := by decide +kernel
theorem dX11_makeRule_77 : decode cX11_makeRule 77 = .ok (.aload_n 0, 1) := by decide +kernel
theorem dX11_makeRule_78 : decode cX11_makeRule 78 = .ok (.getfield 102, 3) := by decide +kernel
theorem dX11_makeRule_81 : decode cX11_makeRule 81 = .ok (.iconst 1, 1) := by decide +kernel
theorem dX11_makeRule_82 : decode cX11_makeRule 82 = .ok (.isub, 1) := by decide +kernel
theorem dX11_makeRule_83 : decode cX11_makeRule 83 = .ok (.ireturn, 1) := by decide +kernel
theorem dX11_ruleByte_0 : decode cX11_ruleByte 0 = .ok (.aload_n 0, 1) := by decide +kernel
theorem dX11_ruleByte_1 : decode cX11_ruleByte 1 = .ok (.iload_n 1, 1) := by decide +kernel
theorem dX11_ruleByte_2 : decode cX11_ruleByte 2 = .ok (.invokevirtual 117, 3) := by decide +kernel
theorem dX11_ruleByte_5 : decode cX11_ruleByte 5 = .ok (.astore_n 3, 1) := by decide +kernel
theorem dX11_ruleByte_6 : decode cX11_ruleByte 6 = .ok (.aload_n 3, 1) := by decide +kernel
theorem dX11_ruleByte_7 : decode cX11_ruleByte 7 = .ok (.ifnonnull 7, 3) := by decide +kernel
theorem dX11_ruleByte_10 : decode cX11_ruleByte 10 = .ok (.iconst (-1), 1) := by decide +kernel
theorem dX11_ruleByte_11 : decode cX11_ruleByte 11 = .ok (.goto 8, 3) := by decide +kernel
theorem dX11_ruleByte_14 : decode cX11_ruleByte 14 = .ok (.aload_n 3, 1) := by decide +kernel
theorem dX11_ruleByte_15 : decode cX11_ruleByte 15 = .ok (.iload_n 2, 1) := by decide +kernel
theorem dX11_ruleByte_16 : decode cX11_ruleByte 16 = .ok (.invokevirtual 121, 3) := by decide +kernel
theorem dX11_ruleByte_19 : decode cX11_ruleByte 19 = .ok (.ireturn, 1) := by decide +kernel
theorem dX11_ruleAt_0 : decode cX11_ruleAt 0 = .ok (.iload_n 1, 1) := by decide +kernel
theorem dX11_ruleAt_1 : decode cX11_ruleAt 1 = .ok (.ifCond .lt 29, 3) := by decide +kernel
theorem dX11_ruleAt_4 : decode cX11_ruleAt 4 = .ok (.iload_n 1, 1) := by decide +kernel
theorem dX11_ruleAt_5 : decode cX11_ruleAt 5 = .ok (.aload_n 0, 1) := by decide +kernel
theorem dX11_ruleAt_6 : decode cX11_ruleAt 6 = .ok (.getfield 102, 3) := by decide +kernel
theorem dX11_ruleAt_9 : decode cX11_ruleAt 9 = .ok (.if_icmp .ge 21, 3) := by decide +kernel
theorem dX11_ruleAt_12 : decode cX11_ruleAt 12 = .ok (.iload_n 1, 1) := by decide +kernel
theorem dX11_ruleAt_13 : decode cX11_ruleAt 13 = .ok (.aload_n 0, 1) := by decide +kernel
theorem dX11_ruleAt_14 : decode cX11_ruleAt 14 = .ok (.getfield 39, 3) := by decide +kernel
theorem dX11_ruleAt_17 : decode cX11_ruleAt 17 = .ok (.arraylength, 1) := by decide +kernel
theorem dX11_ruleAt_18 : decode cX11_ruleAt 18 = .ok (.if_icmp .ge 12, 3) := by decide +kernel
theorem dX11_ruleAt_21 : decode cX11_ruleAt 21 = .ok (.aload_n 0, 1) := by decide +kernel
theorem dX11_ruleAt_22 : decode cX11_ruleAt 22 = .ok (.getfield 39, 3) := by decide +kernel
theorem dX11_ruleAt_25 : decode cX11_ruleAt 25 = .ok (.iload_n 1, 1) := by decide +kernel
theorem dX11_ruleAt_26 : decode cX11_ruleAt 26 = .ok (.aaload, 1) := by decide +kernel
theorem dX11_ruleAt_27 : decode cX11_ruleAt 27 = .ok (.goto 4, 3) := by decide +kernel
theorem dX11_ruleAt_30 : decode cX11_ruleAt 30 = .ok (.aconst_null, 1) := by decide +kernel
theorem dX11_ruleAt_31 : decode cX11_ruleAt 31 = .ok (.areturn, 1) := by decide +kernel
theorem dX11_fieldAt_0 : decode cX11_fieldAt 0 = .ok (.iload_n 1, 1) := by decide +kernel
theorem dX11_fieldAt_1 : decode cX11_fieldAt 1 = .ok (.ifCond .lt 29, 3) := by decide +kernel
theorem dX11_fieldAt_4 : decode cX11_fieldAt 4 = .ok (.iload_n 1, 1) := by decide +kernel
theorem dX11_fieldAt_5 : decode cX11_fieldAt 5 = .ok (.aload_n 0, 1) := by decide +kernel
theorem dX11_fieldAt_6 : decode cX11_fieldAt 6 = .ok (.getfield 125, 3) := by decide +kernel
theorem dX11_fieldAt_9 : decode cX11_fieldAt 9 = .ok (.if_icmp .ge 21, 3) := by decide +kernel
theorem dX11_fieldAt_12 : decode cX11_fieldAt 12 = .ok (.iload_n 1, 1) := by decide +kernel
theorem dX11_fieldAt_13 : decode cX11_fieldAt 13 = .ok (.aload_n 0, 1) := by decide +kernel
theorem dX11_fieldAt_14 : decode cX11_fieldAt 14 = .ok (.getfield 45, 3) := by decide +kernel
theorem dX11_fieldAt_17 : decode cX11_fieldAt 17 = .ok (.arraylength, 1) := by decide +kernel
theorem dX11_fieldAt_18 : decode cX11_fieldAt 18 = .ok (.if_icmp .ge 12, 3) := by decide +kernel
theorem dX11_fieldAt_21 : decode cX11_fieldAt 21 = .ok (.aload_n 0, 1) := by decide +kernel
theorem dX11_fieldAt_22 : decode cX11_fieldAt 22 = .ok (.getfield 45, 3) := by decide +kernel
theorem dX11_fieldAt_25 : decode cX11_fieldAt 25 = .ok (.iload_n 1, 1) := by decide +kernel
theorem dX11_fieldAt_26 : decode cX11_fieldAt 26 = .ok (.aaload, 1) := by decide +kernel
theorem dX11_fieldAt_27 : decode cX11_fieldAt 27 = .ok (.goto 4, 3) := by decide +kernel
theorem dX11_fieldAt_30 : decode cX11_fieldAt 30 = .ok (.aconst_null, 1) := by decide +kernel
theorem dX11_fieldAt_31 : decode cX11_fieldAt 31 = .ok (.areturn, 1) := by decide +kernel
theorem dX11_gridAt_0 : decode cX11_gridAt 0 = .ok (.iload_n 1, 1) := by decide +kernel
theorem dX11_gridAt_1 : decode cX11_gridAt 1 = .ok (.ifCond .lt 29, 3) := by decide +kernel
theorem dX11_gridAt_4 : decode cX11_gridAt 4 = .ok (.iload_n 1, 1) := by decide +kernel
theorem dX11_gridAt_5 : decode cX11_gridAt 5 = .ok (.aload_n 0, 1) := by decide +kernel
theorem dX11_gridAt_6 : decode cX11_gridAt 6 = .ok (.getfield 128, 3) := by decide +kernel
theorem dX11_gridAt_9 : decode cX11_gridAt 9 = .ok (.if_icmp .ge 21, 3) := by decide +kernel
theorem dX11_gridAt_12 : decode cX11_gridAt 12 = .ok (.iload_n 1, 1) := by decide +kernel
theorem dX11_gridAt_13 : decode cX11_gridAt 13 = .ok (.aload_n 0, 1) := by decide +kernel
theorem dX11_gridAt_14 : decode cX11_gridAt 14 = .ok (.getfield 51, 3) := by decide +kernel
theorem dX11_gridAt_17 : decode cX11_gridAt 17 = .ok (.arraylength, 1) := by decide +kernel
theorem dX11_gridAt_18 : decode cX11_gridAt 18 = .ok (.if_icmp .ge 12, 3) := by decide +kernel
theorem dX11_gridAt_21 : decode cX11_gridAt 21 = .ok (.aload_n 0, 1) := by decide +kernel
theorem dX11_gridAt_22 : decode cX11_gridAt 22 = .ok (.getfield 51, 3) := by decide +kernel
theorem dX11_gridAt_25 : decode cX11_gridAt 25 = .ok (.iload_n 1, 1) := by decide +kernel
theorem dX11_gridAt_26 : decode cX11_gridAt 26 = .ok (.aaload, 1) := by decide +kernel
theorem dX11_gridAt_27 : decode cX11_gridAt 27 = .ok (.goto 4, 3) := by decide +kernel
theorem dX11_gridAt_30 : decode cX11_gridAt 30 = .ok (.aconst_null, 1) := by decide +kernel
theorem dX11_gridAt_31 : decode cX11_gridAt 31 = .ok (.areturn, 1) := by decide +kernel
theorem dX11_isPlace_0 : decode cX11_isPlace 0 = .ok (.iload_n 0, 1) := by decide +kernel
theorem dX11_isPlace_1 : decode cX11_isPlace 1 = .ok (.bipush (-128), 2) := by decide +kernel
theorem dX11_isPlace_3 : decode cX11_isPlace 3 = .ok (.if_icmp .lt 25, 3) := by decide +kernel
theorem dX11_isPlace_6 : decode cX11_isPlace 6 = .ok (.iload_n 0, 1) := by decide +kernel
theorem dX11_isPlace_7 : decode cX11_isPlace 7 = .ok (.bipush 127, 2) := by decide +kernel
theorem dX11_isPlace_9 : decode cX11_isPlace 9 = .ok (.if_icmp .gt 19, 3) := by decide +kernel
theorem dX11_isPlace_12 : decode cX11_isPlace 12 = .ok (.iload_n 1, 1) := by decide +kernel
theorem dX11_isPlace_13 : decode cX11_isPlace 13 = .ok (.bipush (-128), 2) := by decide +kernel
theorem dX11_isPlace_15 : decode cX11_isPlace 15 = .ok (.if_icmp .lt 13, 3) := by decide +kernel
theorem dX11_isPlace_18 : decode cX11_isPlace 18 = .ok (.iload_n 1, 1) := by decide +kernel
theorem dX11_isPlace_19 : decode cX11_isPlace 19 = .ok (.bipush 127, 2) := by decide +kernel
theorem dX11_isPlace_21 : decode cX11_isPlace 21 = .ok (.if_icmp .gt 7, 3) := by decide +kernel
theorem dX11_isPlace_24 : decode cX11_isPlace 24 = .ok (.iconst 1, 1) := by decide +kernel
theorem dX11_isPlace_25 : decode cX11_isPlace 25 = .ok (.goto 4, 3) := by decide +kernel
theorem dX11_isPlace_28 : decode cX11_isPlace 28 = .ok (.iconst 0, 1) := by decide +kernel
theorem dX11_isPlace_29 : decode cX11_isPlace 29 = .ok (.ireturn, 1) := by decide +kernel
theorem dX11_field_0 : decode cX11_field 0 = .ok (.aload_n 0, 1) := by decide +kernel
theorem dX11_field_1 : decode cX11_field 1 = .ok (.iload_n 1, 1) := by decide +kernel
theorem dX11_field_2 : decode cX11_field 2 = .ok (.invokevirtual 117, 3) := by decide +kernel
theorem dX11_field_5 : decode cX11_field 5 = .ok (.astore_n 2, 1) := by decide +kernel
theorem dX11_field_6 : decode cX11_field 6 = .ok (.aload_n 2, 1) := by decide +kernel
theorem dX11_field_7 : decode cX11_field 7 = .ok (.ifnonnull 5, 3) := by decide +kernel
theorem dX11_field_10 : decode cX11_field 10 = .ok (.iconst (-1), 1) := by decide +kernel
theorem dX11_field_11 : decode cX11_field 11 = .ok (.ireturn, 1) := by decide +kernel
theorem dX11_field_12 : decode cX11_field 12 = .ok (.aload_n 2, 1) := by decide +kernel
theorem dX11_field_13 : decode cX11_field 13 = .ok (.invokevirtual 131, 3) := by decide +kernel
theorem dX11_field_16 : decode cX11_field 16 = .ok (.ifCond .ne 6, 3) := by decide +kernel
theorem dX11_field_19 : decode cX11_field 19 = .ok (.bipush (-2), 2) := by decide +kernel
theorem dX11_field_21 : decode cX11_field 21 = .ok (.ireturn, 1) := by decide +kernel
theorem dX11_field_22 : decode cX11_field 22 = .ok (.aload_n 0, 1) := by decide +kernel
theorem dX11_field_23 : decode cX11_field 23 = .ok (.getfield 125, 3) := by decide +kernel
theorem dX11_field_26 : decode cX11_field 26 = .ok (.bipush 8, 2) := by decide +kernel
theorem dX11_field_28 : decode cX11_field 28 = .ok (.if_icmp .lt 6, 3) := by decide +kernel
theorem dX11_field_31 : decode cX11_field 31 = .ok (.bipush (-3), 2) := by decide +kernel
theorem dX11_field_33 : decode cX11_field 33 = .ok (.ireturn, 1) := by decide +kernel
theorem dX11_field_34 : decode cX11_field 34 = .ok (.aload_n 0, 1) := by decide +kernel
theorem dX11_field_35 : decode cX11_field 35 = .ok (.getfield 45, 3) := by decide +kernel
theorem dX11_field_38 : decode cX11_field 38 = .ok (.aload_n 0, 1) := by decide +kernel
theorem dX11_field_39 : decode cX11_field 39 = .ok (.getfield 125, 3) := by decide +kernel
theorem dX11_field_42 : decode cX11_field 42 = .ok (.aaload, 1) := by decide +kernel
theorem dX11_field_43 : decode cX11_field 43 = .ok (.astore_n 3, 1) := by decide +kernel
theorem dX11_field_44 : decode cX11_field 44 = .ok (.aload_n 3, 1) := by decide +kernel
theorem dX11_field_45 : decode cX11_field 45 = .ok (.ifnonnull 21, 3) := by decide +kernel
theorem dX11_field_48 : decode cX11_field 48 = .ok (.new 43, 3) := by decide +kernel
theorem dX11_field_51 : decode cX11_field 51 = .ok (.dup, 1) := by decide +kernel
theorem dX11_field_52 : decode cX11_field 52 = .ok (.invokespecial 62, 3) := by decide +kernel
theorem dX11_field_55 : decode cX11_field 55 = .ok (.astore_n 3, 1) := by decide +kernel
theorem dX11_field_56 : decode cX11_field 56 = .ok (.aload_n 0, 1) := by decide +kernel
theorem dX11_field_57 : decode cX11_field 57 = .ok (.getfield 45, 3) := by decide +kernel
theorem dX11_field_60 : decode cX11_field 60 = .ok (.aload_n 0, 1) := by decide +kernel
theorem dX11_field_61 : decode cX11_field 61 = .ok (.getfield 125, 3) := by decide +kernel
theorem dX11_field_64 : decode cX11_field 64 = .ok (.aload_n 3, 1) := by decide +kernel
theorem dX11_field_65 : decode cX11_field 65 = .ok (.aastore, 1) := by decide +kernel
theorem dX11_field_66 : decode cX11_field 66 = .ok (.aload_n 3, 1) := by decide +kernel
theorem dX11_field_67 : decode cX11_field 67 = .ok (.aload_n 2, 1) := by decide +kernel
theorem dX11_field_68 : decode cX11_field 68 = .ok (.iload_n 1, 1) := by decide +kernel
theorem dX11_field_69 : decode cX11_field 69 = .ok (.invokevirtual 135, 3) := by decide +kernel
theorem dX11_field_72 : decode cX11_field 72 = .ok (.aload_n 0, 1) := by decide +kernel
theorem dX11_field_73 : decode cX11_field 73 = .ok (.dup, 1) := by decide +kernel
theorem dX11_field_74 : decode cX11_field 74 = .ok (.getfield 125, 3) := by decide +kernel
theorem dX11_field_77 : decode cX11_field 77 = .ok (.iconst 1, 1) := by decide +kernel
theorem dX11_field_78 : decode cX11_field 78 = .ok (.iadd, 1) := by decide +kernel
theorem dX11_field_79 : decode cX11_field 79 = .ok (.putfield 125, 3) := by decide +kernel
theorem dX11_field_82 : decode cX11_field 82 = .ok (.aload_n 0, 1) := by decide +kernel
theorem dX11_field_83 : decode cX11_field 83 = .ok (.getfield 125, 3) := by decide +kernel
theorem dX11_field_86 : decode cX11_field 86 = .ok (.iconst 1, 1) := by decide +kernel
theorem dX11_field_87 : decode cX11_field 87 = .ok (.isub, 1) := by decide +kernel
theorem dX11_field_88 : decode cX11_field 88 = .ok (.ireturn, 1) := by decide +kernel
theorem dX11_put_0 : decode cX11_put 0 = .ok (.aload_n 0, 1) := by decide +kernel
theorem dX11_put_1 : decode cX11_put 1 = .ok (.iload_n 1, 1) := by decide +kernel
theorem dX11_put_2 : decode cX11_put 2 = .ok (.invokevirtual 139, 3) := by decide +kernel
theorem dX11_put_5 : decode cX11_put 5 = .ok (.astore 5, 2) := by decide +kernel
theorem dX11_put_7 : decode cX11_put 7 = .ok (.aload 5, 2) := by decide +kernel
theorem dX11_put_9 : decode cX11_put 9 = .ok (.ifnull 22, 3) := by decide +kernel
theorem dX11_put_12 : decode cX11_put 12 = .ok (.iload_n 2, 1) := by decide +kernel
theorem dX11_put_13 : decode cX11_put 13 = .ok (.iload_n 3, 1) := by decide +kernel
theorem dX11_put_14 : decode cX11_put 14 = .ok (.invokestatic 143, 3) := by decide +kernel
theorem dX11_put_17 : decode cX11_put 17 = .ok (.ifCond .eq 14, 3) := by decide +kernel
theorem dX11_put_20 : decode cX11_put 20 = .ok (.iload 4, 2) := by decide +kernel
theorem dX11_put_22 : decode cX11_put 22 = .ok (.ifCond .lt 9, 3) := by decide +kernel
theorem dX11_put_25 : decode cX11_put 25 = .ok (.iload 4, 2) := by decide +kernel
theorem dX11_put_27 : decode cX11_put 27 = .ok (.iconst 1, 1) := by decide +kernel
theorem dX11_put_28 : decode cX11_put 28 = .ok (.if_icmp .le 5, 3) := by decide +kernel
theorem dX11_put_31 : decode cX11_put 31 = .ok (.iconst (-1), 1) := by decide +kernel
theorem dX11_put_32 : decode cX11_put 32 = .ok (.ireturn, 1) := by decide +kernel
theorem dX11_put_33 : decode cX11_put 33 = .ok (.aload 5, 2) := by decide +kernel
theorem dX11_put_35 : decode cX11_put 35 = .ok (.iload_n 2, 1) := by decide +kernel
theorem dX11_put_36 : decode cX11_put 36 = .ok (.bipush (-128), 2) := by decide +kernel
theorem dX11_put_38 : decode cX11_put 38 = .ok (.isub, 1) := by decide +kernel
theorem dX11_put_39 : decode cX11_put 39 = .ok (.iload_n 3, 1) := by decide +kernel
theorem dX11_put_40 : decode cX11_put 40 = .ok (.bipush (-128), 2) := by decide +kernel
theorem dX11_put_42 : decode cX11_put 42 = .ok (.isub, 1) := by decide +kernel
theorem dX11_put_43 : decode cX11_put 43 = .ok (.iload 4, 2) := by decide +kernel
theorem dX11_put_45 : decode cX11_put 45 = .ok (.invokevirtual 147, 3) := by decide +kernel
theorem dX11_put_48 : decode cX11_put 48 = .ok (.ireturn, 1) := by decide +kernel
theorem dX11_at_0 : decode cX11_at 0 = .ok (.aload_n 0, 1) := by decide +kernel
theorem dX11_at_1 : decode cX11_at 1 = .ok (.iload_n 1, 1) := by decide +kernel
theorem dX11_at_2 : decode cX11_at 2 = .ok (.invokevirtual 139, 3) := by decide +kernel
theorem dX11_at_5 : decode cX11_at 5 = .ok (.astore 4, 2) := by decide +kernel
theorem dX11_at_7 : decode cX11_at 7 = .ok (.aload 4, 2) := by decide +kernel
theorem dX11_at_9 : decode cX11_at 9 = .ok (.ifnull 11, 3) := by decide +kernel
theorem dX11_at_12 : decode cX11_at 12 = .ok (.iload_n 2, 1) := by decide +kernel
theorem dX11_at_13 : decode cX11_at 13 = .ok (.iload_n 3, 1) := by decide +kernel
theorem dX11_at_14 : decode cX11_at 14 = .ok (.invokestatic 143, 3) := by decide +kernel
theorem dX11_at_17 : decode cX11_at 17 = .ok (.ifCond .ne 5, 3) := by decide +kernel
theorem dX11_at_20 : decode cX11_at 20 = .ok (.iconst (-1), 1) := by decide +kernel
theorem dX11_at_21 : decode cX11_at 21 = .ok (.ireturn, 1) := by decide +kernel
theorem dX11_at_22 : decode cX11_at 22 = .ok (.aload 4, 2) := by decide +kernel
theorem dX11_at_24 : decode cX11_at 24 = .ok (.iload_n 2, 1) := by decide +kernel
theorem dX11_at_25 : decode cX11_at 25 = .ok (.bipush (-128), 2) := by decide +kernel
theorem dX11_at_27 : decode cX11_at 27 = .ok (.isub, 1) := by decide +kernel
theorem dX11_at_28 : decode cX11_at 28 = .ok (.iload_n 3, 1) := by decide +kernel
theorem dX11_at_29 : decode cX11_at 29 = .ok (.bipush (-128), 2) := by decide +kernel
theorem dX11_at_31 : decode cX11_at 31 = .ok (.isub, 1) := by decide +kernel
theorem dX11_at_32 : decode cX11_at 32 = .ok (.invokevirtual 151, 3) := by decide +kernel
theorem dX11_at_35 : decode cX11_at 35 = .ok (.ireturn, 1) := by decide +kernel
theorem dX11_read_0 : decode cX11_read 0 = .ok (.aload_n 0, 1) := by decide +kernel
theorem dX11_read_1 : decode cX11_read 1 = .ok (.iload_n 1, 1) := by decide +kernel
theorem dX11_read_2 : decode cX11_read 2 = .ok (.iload_n 2, 1) := by decide +kernel
theorem dX11_read_3 : decode cX11_read 3 = .ok (.iload_n 3, 1) := by decide +kernel
theorem dX11_read_4 : decode cX11_read 4 = .ok (.invokevirtual 155, 3) := by decide +kernel
theorem dX11_read_7 : decode cX11_read 7 = .ok (.istore 4, 2) := by decide +kernel
theorem dX11_read_9 : decode cX11_read 9 = .ok (.aload_n 0, 1) := by decide +kernel
theorem dX11_read_10 : decode cX11_read 10 = .ok (.getfield 10, 3) := by decide +kernel
theorem dX11_read_13 : decode cX11_read 13 = .ok (.iconst 0, 1) := by decide +kernel
theorem dX11_read_14 : decode cX11_read 14 = .ok (.invokevirtual 96, 3) := by decide +kernel
theorem dX11_read_17 : decode cX11_read 17 = .ok (.iload 4, 2) := by decide +kernel
theorem dX11_read_19 : decode cX11_read 19 = .ok (.ireturn, 1) := by decide +kernel
theorem dX11_readRuns_0 : decode cX11_readRuns 0 = .ok (.aload_n 0, 1) := by decide +kernel
theorem dX11_readRuns_1 : decode cX11_readRuns 1 = .ok (.iload_n 1, 1) := by decide +kernel
theorem dX11_readRuns_2 : decode cX11_readRuns 2 = .ok (.invokevirtual 139, 3) := by decide +kernel
theorem dX11_readRuns_5 : decode cX11_readRuns 5 = .ok (.astore 4, 2) := by decide +kernel
theorem dX11_readRuns_7 : decode cX11_readRuns 7 = .ok (.aload 4, 2) := by decide +kernel
theorem dX11_readRuns_9 : decode cX11_readRuns 9 = .ok (.ifnull 11, 3) := by decide +kernel
theorem dX11_readRuns_12 : decode cX11_readRuns 12 = .ok (.iload_n 2, 1) := by decide +kernel
theorem dX11_readRuns_13 : decode cX11_readRuns 13 = .ok (.iload_n 3, 1) := by decide +kernel
theorem dX11_readRuns_14 : decode cX11_readRuns 14 = .ok (.invokestatic 143, 3) := by decide +kernel
theorem dX11_readRuns_17 : decode cX11_readRuns 17 = .ok (.ifCond .ne 5, 3) := by decide +kernel
theorem dX11_readRuns_20 : decode cX11_readRuns 20 = .ok (.iconst (-1), 1) := by decide +kernel
theorem dX11_readRuns_21 : decode cX11_readRuns 21 = .ok (.ireturn, 1) := by decide +kernel
theorem dX11_readRuns_22 : decode cX11_readRuns 22 = .ok (.aload_n 0, 1) := by decide +kernel
theorem dX11_readRuns_23 : decode cX11_readRuns 23 = .ok (.getfield 26, 3) := by decide +kernel
theorem dX11_readRuns_26 : decode cX11_readRuns 26 = .ok (.aload_n 0, 1) := by decide +kernel
theorem dX11_readRuns_27 : decode cX11_readRuns 27 = .ok (.getfield 10, 3) := by decide +kernel
theorem dX11_readRuns_30 : decode cX11_readRuns 30 = .ok (.invokevirtual 158, 3) := by decide +kernel
theorem dX11_readRuns_33 : decode cX11_readRuns 33 = .ok (.istore 5, 2) := by decide +kernel
theorem dX11_readRuns_35 : decode cX11_readRuns 35 = .ok (.iload 5, 2) := by decide +kernel
theorem dX11_readRuns_37 : decode cX11_readRuns 37 = .ok (.ifCond .lt 9, 3) := by decide +kernel
theorem dX11_readRuns_40 : decode cX11_readRuns 40 = .ok (.bipush (-10), 2) := by decide +kernel
theorem dX11_readRuns_42 : decode cX11_readRuns 42 = .ok (.iload 5, 2) := by decide +kernel
theorem dX11_readRuns_44 : decode cX11_readRuns 44 = .ok (.isub, 1) := by decide +kernel
theorem dX11_readRuns_45 : decode cX11_readRuns 45 = .ok (.ireturn, 1) := by decide +kernel
theorem dX11_readRuns_46 : decode cX11_readRuns 46 = .ok (.iload_n 2, 1) := by decide +kernel
theorem dX11_readRuns_47 : decode cX11_readRuns 47 = .ok (.bipush (-128), 2) := by decide +kernel
theorem dX11_readRuns_49 : decode cX11_readRuns 49 = .ok (.isub, 1) := by decide +kernel
theorem dX11_readRuns_50 : decode cX11_readRuns 50 = .ok (.istore 6, 2) := by decide +kernel
theorem dX11_readRuns_52 : decode cX11_readRuns 52 = .ok (.iload_n 3, 1) := by decide +kernel
theorem dX11_readRuns_53 : decode cX11_readRuns 53 = .ok (.bipush (-128), 2) := by decide +kernel
theorem dX11_readRuns_55 : decode cX11_readRuns 55 = .ok (.isub, 1) := by decide +kernel
theorem dX11_readRuns_56 : decode cX11_readRuns 56 = .ok (.istore 7, 2) := by decide +kernel
theorem dX11_readRuns_58 : decode cX11_readRuns 58 = .ok (.aload_n 0, 1) := by decide +kernel
theorem dX11_readRuns_59 : decode cX11_readRuns 59 = .ok (.getfield 26, 3) := by decide +kernel
theorem dX11_readRuns_62 : decode cX11_readRuns 62 = .ok (.aload_n 0, 1) := by decide +kernel
theorem dX11_readRuns_63 : decode cX11_readRuns 63 = .ok (.getfield 10, 3) := by decide +kernel
theorem dX11_readRuns_66 : decode cX11_readRuns 66 = .ok (.iload 6, 2) := by decide +kernel
theorem dX11_readRuns_68 : decode cX11_readRuns 68 = .ok (.iload 7, 2) := by decide +kernel
theorem dX11_readRuns_70 : decode cX11_readRuns 70 = .ok (.invokevirtual 159, 3) := by decide +kernel
theorem dX11_readRuns_73 : decode cX11_readRuns 73 = .ok (.ifCond .ne 6, 3) := by decide +kernel
theorem dX11_readRuns_76 : decode cX11_readRuns 76 = .ok (.bipush (-2), 2) := by decide +kernel
theorem dX11_readRuns_78 : decode cX11_readRuns 78 = .ok (.ireturn, 1) := by decide +kernel
theorem dX11_readRuns_79 : decode cX11_readRuns 79 = .ok (.aload_n 0, 1) := by decide +kernel
theorem dX11_readRuns_80 : decode cX11_readRuns 80 = .ok (.getfield 26, 3) := by decide +kernel
theorem dX11_readRuns_83 : decode cX11_readRuns 83 = .ok (.aload_n 0, 1) := by decide +kernel
theorem dX11_readRuns_84 : decode cX11_readRuns 84 = .ok (.getfield 10, 3) := by decide +kernel
theorem dX11_readRuns_87 : decode cX11_readRuns 87 = .ok (.aload 4, 2) := by decide +kernel
theorem dX11_readRuns_89 : decode cX11_readRuns 89 = .ok (.iload 6, 2) := by decide +kernel
theorem dX11_readRuns_91 : decode cX11_readRuns 91 = .ok (.iload 7, 2) := by decide +kernel
theorem dX11_readRuns_93 : decode cX11_readRuns 93 = .ok (.invokevirtual 163, 3) := by decide +kernel
theorem dX11_readRuns_96 : decode cX11_readRuns 96 = .ok (.ireturn, 1) := by decide +kernel
theorem dX11_textByte_0 : decode cX11_textByte 0 = .ok (.aload_n 0, 1) := by decide +kernel
theorem dX11_textByte_1 : decode cX11_textByte 1 = .ok (.iload_n 1, 1) := by decide +kernel
theorem dX11_textByte_2 : decode cX11_textByte 2 = .ok (.invokevirtual 139, 3) := by decide +kernel
theorem dX11_textByte_5 : decode cX11_textByte 5 = .ok (.astore_n 3, 1) := by decide +kernel
theorem dX11_textByte_6 : decode cX11_textByte 6 = .ok (.aload_n 3, 1) := by decide +kernel
theorem dX11_textByte_7 : decode cX11_textByte 7 = .ok (.ifnonnull 7, 3) := by decide +kernel
theorem dX11_textByte_10 : decode cX11_textByte 10 = .ok (.iconst (-1), 1) := by decide +kernel
theorem dX11_textByte_11 : decode cX11_textByte 11 = .ok (.goto 12, 3) := by decide +kernel
theorem dX11_textByte_14 : decode cX11_textByte 14 = .ok (.aload_n 0, 1) := by decide +kernel
theorem dX11_textByte_15 : decode cX11_textByte 15 = .ok (.getfield 77, 3) := by decide +kernel
theorem dX11_textByte_18 : decode cX11_textByte 18 = .ok (.aload_n 3, 1) := by decide +kernel
theorem dX11_textByte_19 : decode cX11_textByte 19 = .ok (.iload_n 2, 1) := by decide +kernel
theorem dX11_textByte_20 : decode cX11_textByte 20 = .ok (.invokevirtual 167, 3) := by decide +kernel
theorem dX11_textByte_23 : decode cX11_textByte 23 = .ok (.ireturn, 1) := by decide +kernel
theorem dX11_steps_0 : decode cX11_steps 0 = .ok (.aload_n 0, 1) := by decide +kernel
theorem dX11_steps_1 : decode cX11_steps 1 = .ok (.iload_n 1, 1) := by decide +kernel
theorem dX11_steps_2 : decode cX11_steps 2 = .ok (.invokevirtual 139, 3) := by decide +kernel
theorem dX11_steps_5 : decode cX11_steps 5 = .ok (.astore_n 3, 1) := by decide +kernel
theorem dX11_steps_6 : decode cX11_steps 6 = .ok (.aload_n 3, 1) := by decide +kernel
theorem dX11_steps_7 : decode cX11_steps 7 = .ok (.ifnull 13, 3) := by decide +kernel
theorem dX11_steps_10 : decode cX11_steps 10 = .ok (.iload_n 2, 1) := by decide +kernel
theorem dX11_steps_11 : decode cX11_steps 11 = .ok (.ifCond .lt 9, 3) := by decide +kernel
theorem dX11_steps_14 : decode cX11_steps 14 = .ok (.iload_n 2, 1) := by decide +kernel
theorem dX11_steps_15 : decode cX11_steps 15 = .ok (.bipush 64, 2) := by decide +kernel
theorem dX11_steps_17 : decode cX11_steps 17 = .ok (.if_icmp .le 5, 3) := by decide +kernel
theorem dX11_steps_20 : decode cX11_steps 20 = .ok (.iconst (-1), 1) := by decide +kernel
theorem dX11_steps_21 : decode cX11_steps 21 = .ok (.ireturn, 1) := by decide +kernel
theorem dX11_steps_22 : decode cX11_steps 22 = .ok (.aload_n 0, 1) := by decide +kernel
theorem dX11_steps_23 : decode cX11_steps 23 = .ok (.aload_n 3, 1) := by decide +kernel
theorem dX11_steps_24 : decode cX11_steps 24 = .ok (.iload_n 2, 1) := by decide +kernel
theorem dX11_steps_25 : decode cX11_steps 25 = .ok (.invokevirtual 171, 3) := by decide +kernel
theorem dX11_steps_28 : decode cX11_steps 28 = .ok (.ireturn, 1) := by decide +kernel
theorem dX11_jump_0 : decode cX11_jump 0 = .ok (.aload_n 0, 1) := by decide +kernel
theorem dX11_jump_1 : decode cX11_jump 1 = .ok (.iload_n 1, 1) := by decide +kernel
theorem dX11_jump_2 : decode cX11_jump 2 = .ok (.invokevirtual 139, 3) := by decide +kernel
theorem dX11_jump_5 : decode cX11_jump 5 = .ok (.astore_n 3, 1) := by decide +kernel
theorem dX11_jump_6 : decode cX11_jump 6 = .ok (.aload_n 3, 1) := by decide +kernel
theorem dX11_jump_7 : decode cX11_jump 7 = .ok (.ifnull 13, 3) := by decide +kernel
theorem dX11_jump_10 : decode cX11_jump 10 = .ok (.iload_n 2, 1) := by decide +kernel
theorem dX11_jump_11 : decode cX11_jump 11 = .ok (.ifCond .lt 9, 3) := by decide +kernel
theorem dX11_jump_14 : decode cX11_jump 14 = .ok (.iload_n 2, 1) := by decide +kernel
theorem dX11_jump_15 : decode cX11_jump 15 = .ok (.bipush 6, 2) := by decide +kernel
theorem dX11_jump_17 : decode cX11_jump 17 = .ok (.if_icmp .le 5, 3) := by decide +kernel
theorem dX11_jump_20 : decode cX11_jump 20 = .ok (.iconst (-1), 1) := by decide +kernel
theorem dX11_jump_21 : decode cX11_jump 21 = .ok (.ireturn, 1) := by decide +kernel
theorem dX11_jump_22 : decode cX11_jump 22 = .ok (.aload_n 0, 1) := by decide +kernel
theorem dX11_jump_23 : decode cX11_jump 23 = .ok (.aload_n 3, 1) := by decide +kernel
theorem dX11_jump_24 : decode cX11_jump 24 = .ok (.iconst 1, 1) := by decide +kernel
theorem dX11_jump_25 : decode cX11_jump 25 = .ok (.iload_n 2, 1) := by decide +kernel
theorem dX11_jump_26 : decode cX11_jump 26 = .ok (.ishl, 1) := by decide +kernel
theorem dX11_jump_27 : decode cX11_jump 27 = .ok (.invokevirtual 171, 3) := by decide +kernel
theorem dX11_jump_30 : decode cX11_jump 30 = .ok (.ireturn, 1) := by decide +kernel
theorem dX11_advance_0 : decode cX11_advance 0 = .ok (.aload_n 1, 1) := by decide +kernel
theorem dX11_advance_1 : decode cX11_advance 1 = .ok (.iload_n 2, 1) := by decide +kernel
theorem dX11_advance_2 : decode cX11_advance 2 = .ok (.invokevirtual 174, 3) := by decide +kernel
theorem dX11_advance_5 : decode cX11_advance 5 = .ok (.ifCond .ne 6, 3) := by decide +kernel
theorem dX11_advance_8 : decode cX11_advance 8 = .ok (.bipush (-2), 2) := by decide +kernel
theorem dX11_advance_10 : decode cX11_advance 10 = .ok (.ireturn, 1) := by decide +kernel
theorem dX11_advance_11 : decode cX11_advance 11 = .ok (.iconst 0, 1) := by decide +kernel
theorem dX11_advance_12 : decode cX11_advance 12 = .ok (.istore_n 3, 1) := by decide +kernel
theorem dX11_advance_13 : decode cX11_advance 13 = .ok (.iload_n 3, 1) := by decide +kernel
theorem dX11_advance_14 : decode cX11_advance 14 = .ok (.iload_n 2, 1) := by decide +kernel
theorem dX11_advance_15 : decode cX11_advance 15 = .ok (.if_icmp .ge 17, 3) := by decide +kernel
theorem dX11_advance_18 : decode cX11_advance 18 = .ok (.aload_n 0, 1) := by decide +kernel
theorem dX11_advance_19 : decode cX11_advance 19 = .ok (.getfield 58, 3) := by decide +kernel
theorem dX11_advance_22 : decode cX11_advance 22 = .ok (.aload_n 1, 1) := by decide +kernel
theorem dX11_advance_23 : decode cX11_advance 23 = .ok (.invokevirtual 178, 3) := by decide +kernel
theorem dX11_advance_26 : decode cX11_advance 26 = .ok (.iinc 3 1, 3) := by decide +kernel
theorem dX11_advance_29 : decode cX11_advance 29 = .ok (.goto (-16), 3) := by decide +kernel
theorem dX11_advance_32 : decode cX11_advance 32 = .ok (.aload_n 1, 1) := by decide +kernel
theorem dX11_advance_33 : decode cX11_advance 33 = .ok (.iload_n 2, 1) := by decide +kernel
theorem dX11_advance_34 : decode cX11_advance 34 = .ok (.invokevirtual 182, 3) := by decide +kernel
theorem dX11_advance_37 : decode cX11_advance 37 = .ok (.ireturn, 1) := by decide +kernel
theorem dX11_about_0 : decode cX11_about 0 = .ok (.aload_n 0, 1) := by decide +kernel
theorem dX11_about_1 : decode cX11_about 1 = .ok (.iload_n 1, 1) := by decide +kernel
theorem dX11_about_2 : decode cX11_about 2 = .ok (.invokevirtual 139, 3) := by decide +kernel
theorem dX11_about_5 : decode cX11_about 5 = .ok (.astore_n 3, 1) := by decide +kernel
theorem dX11_about_6 : decode cX11_about 6 = .ok (.aload_n 3, 1) := by decide +kernel
theorem dX11_about_7 : decode cX11_about 7 = .ok (.ifnonnull 5, 3) := by decide +kernel
theorem dX11_about_10 : decode cX11_about 10 = .ok (.iconst (-1), 1) := by decide +kernel
theorem dX11_about_11 : decode cX11_about 11 = .ok (.ireturn, 1) := by decide +kernel
theorem dX11_about_12 : decode cX11_about 12 = .ok (.iload_n 2, 1) := by decide +kernel
theorem dX11_about_13 : decode cX11_about 13 = .ok (.tableswitch 107 0 7 #[47, 52, 61, 70, 79, 88, 93, 98], 47) := by decide +kernel
theorem dX11_about_60 : decode cX11_about 60 = .ok (.aload_n 3, 1) := by decide +kernel
theorem dX11_about_61 : decode cX11_about 61 = .ok (.getfield 185, 3) := by decide +kernel
theorem dX11_about_64 : decode cX11_about 64 = .ok (.ireturn, 1) := by decide +kernel
theorem dX11_about_65 : decode cX11_about 65 = .ok (.aload_n 3, 1) := by decide +kernel
theorem dX11_about_66 : decode cX11_about 66 = .ok (.aload_n 3, 1) := by decide +kernel
theorem dX11_about_67 : decode cX11_about 67 = .ok (.getfield 188, 3) := by decide +kernel
theorem dX11_about_70 : decode cX11_about 70 = .ok (.invokestatic 191, 3) := by decide +kernel
theorem dX11_about_73 : decode cX11_about 73 = .ok (.ireturn, 1) := by decide +kernel
theorem dX11_about_74 : decode cX11_about 74 = .ok (.aload_n 3, 1) := by decide +kernel
theorem dX11_about_75 : decode cX11_about 75 = .ok (.aload_n 3, 1) := by decide +kernel
theorem dX11_about_76 : decode cX11_about 76 = .ok (.getfield 194, 3) := by decide +kernel
theorem dX11_about_79 : decode cX11_about 79 = .ok (.invokestatic 191, 3) := by decide +kernel
theorem dX11_about_82 : decode cX11_about 82 = .ok (.ireturn, 1) := by decide +kernel
theorem dX11_about_83 : decode cX11_about 83 = .ok (.aload_n 3, 1) := by decide +kernel
theorem dX11_about_84 : decode cX11_about 84 = .ok (.aload_n 3, 1) := by decide +kernel
theorem dX11_about_85 : decode cX11_about 85 = .ok (.getfield 197, 3) := by decide +kernel
theorem dX11_about_88 : decode cX11_about 88 = .ok (.invokestatic 191, 3) := by decide +kernel
theorem dX11_about_91 : decode cX11_about 91 = .ok (.ireturn, 1) := by decide +kernel
theorem dX11_about_92 : decode cX11_about 92 = .ok (.aload_n 3, 1) := by decide +kernel
theorem dX11_about_93 : decode cX11_about 93 = .ok (.aload_n 3, 1) := by decide +kernel
theorem dX11_about_94 : decode cX11_about 94 = .ok (.getfield 200, 3) := by decide +kernel
theorem dX11_about_97 : decode cX11_about 97 = .ok (.invokestatic 191, 3) := by decide +kernel
theorem dX11_about_100 : decode cX11_about 100 = .ok (.ireturn, 1) := by decide +kernel
theorem dX11_about_101 : decode cX11_about 101 = .ok (.aload_n 3, 1) := by decide +kernel
theorem dX11_about_102 : decode cX11_about 102 = .ok (.getfield 203, 3) := by decide +kernel
theorem dX11_about_105 : decode cX11_about 105 = .ok (.ireturn, 1) := by decide +kernel
theorem dX11_about_106 : decode cX11_about 106 = .ok (.aload_n 3, 1) := by decide +kernel
theorem dX11_about_107 : decode cX11_about 107 = .ok (.getfield 206, 3) := by decide +kernel
theorem dX11_about_110 : decode cX11_about 110 = .ok (.ireturn, 1) := by decide +kernel
theorem dX11_about_111 : decode cX11_about 111 = .ok (.aload_n 0, 1) := by decide +kernel
theorem dX11_about_112 : decode cX11_about 112 = .ok (.getfield 70, 3) := by decide +kernel
theorem dX11_about_115 : decode cX11_about 115 = .ok (.aload_n 3, 1) := by decide +kernel
theorem dX11_about_116 : decode cX11_about 116 = .ok (.invokevirtual 209, 3) := by decide +kernel
theorem dX11_about_119 : decode cX11_about 119 = .ok (.ireturn, 1) := by decide +kernel
theorem dX11_about_120 : decode cX11_about 120 = .ok (.iconst (-1), 1) := by decide +kernel
theorem dX11_about_121 : decode cX11_about 121 = .ok (.ireturn, 1) := by decide +kernel
theorem dX11_placeOf_0 : decode cX11_placeOf 0 = .ok (.aload_n 0, 1) := by decide +kernel
theorem dX11_placeOf_1 : decode cX11_placeOf 1 = .ok (.getfield 185, 3) := by decide +kernel
theorem dX11_placeOf_4 : decode cX11_placeOf 4 = .ok (.ifCond .ne 7, 3) := by decide +kernel
theorem dX11_placeOf_7 : decode cX11_placeOf 7 = .ok (.iconst 0, 1) := by decide +kernel
theorem dX11_placeOf_8 : decode cX11_placeOf 8 = .ok (.goto 7, 3) := by decide +kernel
theorem dX11_placeOf_11 : decode cX11_placeOf 11 = .ok (.iload_n 1, 1) := by decide +kernel
theorem dX11_placeOf_12 : decode cX11_placeOf 12 = .ok (.bipush (-128), 2) := by decide +kernel
theorem dX11_placeOf_14 : decode cX11_placeOf 14 = .ok (.iadd, 1) := by decide +kernel
theorem dX11_placeOf_15 : decode cX11_placeOf 15 = .ok (.ireturn, 1) := by decide +kernel
theorem dX11_period_0 : decode cX11_period 0 = .ok (.aload_n 0, 1) := by decide +kernel
theorem dX11_period_1 : decode cX11_period 1 = .ok (.iload_n 1, 1) := by decide +kernel
theorem dX11_period_2 : decode cX11_period 2 = .ok (.invokevirtual 139, 3) := by decide +kernel
theorem dX11_period_5 : decode cX11_period 5 = .ok (.astore_n 3, 1) := by decide +kernel
theorem dX11_period_6 : decode cX11_period 6 = .ok (.aload_n 3, 1) := by decide +kernel
theorem dX11_period_7 : decode cX11_period 7 = .ok (.ifnull 14, 3) := by decide +kernel
theorem dX11_period_10 : decode cX11_period 10 = .ok (.iload_n 2, 1) := by decide +kernel
theorem dX11_period_11 : decode cX11_period 11 = .ok (.iconst 1, 1) := by decide +kernel
theorem dX11_period_12 : decode cX11_period 12 = .ok (.if_icmp .lt 9, 3) := by decide +kernel
theorem dX11_period_15 : decode cX11_period 15 = .ok (.iload_n 2, 1) := by decide +kernel
theorem dX11_period_16 : decode cX11_period 16 = .ok (.bipush 60, 2) := by decide +kernel
theorem dX11_period_18 : decode cX11_period 18 = .ok (.if_icmp .le 5, 3) := by decide +kernel
theorem dX11_period_21 : decode cX11_period 21 = .ok (.iconst (-1), 1) := by decide +kernel
theorem dX11_period_22 : decode cX11_period 22 = .ok (.ireturn, 1) := by decide +kernel
theorem dX11_period_23 : decode cX11_period 23 = .ok (.aload_n 3, 1) := by decide +kernel
theorem dX11_period_24 : decode cX11_period 24 = .ok (.iload_n 2, 1) := by decide +kernel
theorem dX11_period_25 : decode cX11_period 25 = .ok (.invokevirtual 174, 3) := by decide +kernel
theorem dX11_period_28 : decode cX11_period 28 = .ok (.ifCond .ne 6, 3) := by decide +kernel
theorem dX11_period_31 : decode cX11_period 31 = .ok (.bipush (-2), 2) := by decide +kernel
theorem dX11_period_33 : decode cX11_period 33 = .ok (.ireturn, 1) := by decide +kernel
theorem dX11_period_34 : decode cX11_period 34 = .ok (.aload_n 0, 1) := by decide +kernel
theorem dX11_period_35 : decode cX11_period 35 = .ok (.getfield 63, 3) := by decide +kernel
theorem dX11_period_38 : decode cX11_period 38 = .ok (.aload_n 3, 1) := by decide +kernel
theorem dX11_period_39 : decode cX11_period 39 = .ok (.invokevirtual 213, 3) := by decide +kernel
theorem dX11_period_42 : decode cX11_period 42 = .ok (.iconst 1, 1) := by decide +kernel
theorem dX11_period_43 : decode cX11_period 43 = .ok (.istore 4, 2) := by decide +kernel
theorem dX11_period_45 : decode cX11_period 45 = .ok (.iload 4, 2) := by decide +kernel
theorem dX11_period_47 : decode cX11_period 47 = .ok (.iload_n 2, 1) := by decide +kernel
theorem dX11_period_48 : decode cX11_period 48 = .ok (.if_icmp .gt 66, 3) := by decide +kernel
theorem dX11_period_51 : decode cX11_period 51 = .ok (.aload_n 0, 1) := by decide +kernel
theorem dX11_period_52 : decode cX11_period 52 = .ok (.getfield 58, 3) := by decide +kernel
theorem dX11_period_55 : decode cX11_period 55 = .ok (.aload_n 0, 1) := by decide +kernel
theorem dX11_period_56 : decode cX11_period 56 = .ok (.getfield 63, 3) := by decide +kernel
theorem dX11_period_59 : decode cX11_period 59 = .ok (.invokevirtual 178, 3) := by decide +kernel
theorem dX11_period_62 : decode cX11_period 62 = .ok (.aload_n 0, 1) := by decide +kernel
theorem dX11_period_63 : decode cX11_period 63 = .ok (.getfield 63, 3) := by decide +kernel
theorem dX11_period_66 : decode cX11_period 66 = .ok (.aload_n 3, 1) := by decide +kernel
theorem dX11_period_67 : decode cX11_period 67 = .ok (.invokevirtual 216, 3) := by decide +kernel
theorem dX11_period_70 : decode cX11_period 70 = .ok (.ifCond .eq 38, 3) := by decide +kernel
theorem dX11_period_73 : decode cX11_period 73 = .ok (.aload_n 0, 1) := by decide +kernel
theorem dX11_period_74 : decode cX11_period 74 = .ok (.aload_n 0, 1) := by decide +kernel
theorem dX11_period_75 : decode cX11_period 75 = .ok (.getfield 63, 3) := by decide +kernel
theorem dX11_period_78 : decode cX11_period 78 = .ok (.getfield 188, 3) := by decide +kernel
theorem dX11_period_81 : decode cX11_period 81 = .ok (.aload_n 3, 1) := by decide +kernel
theorem dX11_period_82 : decode cX11_period 82 = .ok (.getfield 188, 3) := by decide +kernel
theorem dX11_period_85 : decode cX11_period 85 = .ok (.isub, 1) := by decide +kernel
theorem dX11_period_86 : decode cX11_period 86 = .ok (.putfield 220, 3) := by decide +kernel
theorem dX11_period_89 : decode cX11_period 89 = .ok (.aload_n 0, 1) := by decide +kernel
theorem dX11_period_90 : decode cX11_period 90 = .ok (.aload_n 0, 1) := by decide +kernel
theorem dX11_period_91 : decode cX11_period 91 = .ok (.getfield 63, 3) := by decide +kernel
theorem dX11_period_94 : decode cX11_period 94 = .ok (.getfield 194, 3) := by decide +kernel
theorem dX11_period_97 : decode cX11_period 97 = .ok (.aload_n 3, 1) := by decide +kernel
theorem dX11_period_98 : decode cX11_period 98 = .ok (.getfield 194, 3) := by decide +kernel
theorem dX11_period_101 : decode cX11_period 101 = .ok (.isub, 1) := by decide +kernel
theorem dX11_period_102 : decode cX11_period 102 = .ok (.putfield 223, 3) := by decide +kernel
theorem dX11_period_105 : decode cX11_period 105 = .ok (.iload 4, 2) := by decide +kernel
theorem dX11_period_107 : decode cX11_period 107 = .ok (.ireturn, 1) := by decide +kernel
theorem dX11_period_108 : decode cX11_period 108 = .ok (.iinc 4 1, 3) := by decide +kernel
theorem dX11_period_111 : decode cX11_period 111 = .ok (.goto (-66), 3) := by decide +kernel
theorem dX11_period_114 : decode cX11_period 114 = .ok (.iconst 0, 1) := by decide +kernel
theorem dX11_period_115 : decode cX11_period 115 = .ok (.ireturn, 1) := by decide +kernel
theorem dX11_shift_0 : decode cX11_shift 0 = .ok (.iload_n 1, 1) := by decide +kernel
theorem dX11_shift_1 : decode cX11_shift 1 = .ok (.ifCond .ne 8, 3) := by decide +kernel
theorem dX11_shift_4 : decode cX11_shift 4 = .ok (.aload_n 0, 1) := by decide +kernel
theorem dX11_shift_5 : decode cX11_shift 5 = .ok (.getfield 220, 3) := by decide +kernel
theorem dX11_shift_8 : decode cX11_shift 8 = .ok (.ireturn, 1) := by decide +kernel
theorem dX11_shift_9 : decode cX11_shift 9 = .ok (.iload_n 1, 1) := by decide +kernel
theorem dX11_shift_10 : decode cX11_shift 10 = .ok (.iconst 1, 1) := by decide +kernel
theorem dX11_shift_11 : decode cX11_shift 11 = .ok (.if_icmp .ne 10, 3) := by decide +kernel
theorem dX11_shift_14 : decode cX11_shift 14 = .ok (.aload_n 0, 1) := by decide +kernel
theorem dX11_shift_15 : decode cX11_shift 15 = .ok (.getfield 223, 3) := by decide +kernel
theorem dX11_shift_18 : decode cX11_shift 18 = .ok (.goto 4, 3) := by decide +kernel
theorem dX11_shift_21 : decode cX11_shift 21 = .ok (.iconst (-1), 1) := by decide +kernel
theorem dX11_shift_22 : decode cX11_shift 22 = .ok (.ireturn, 1) := by decide +kernel
theorem dX11_congruent_0 : decode cX11_congruent 0 = .ok (.aload_n 0, 1) := by decide +kernel
theorem dX11_congruent_1 : decode cX11_congruent 1 = .ok (.iload_n 1, 1) := by decide +kernel
theorem dX11_congruent_2 : decode cX11_congruent 2 = .ok (.invokevirtual 139, 3) := by decide +kernel
theorem dX11_congruent_5 : decode cX11_congruent 5 = .ok (.astore_n 3, 1) := by decide +kernel
theorem dX11_congruent_6 : decode cX11_congruent 6 = .ok (.aload_n 0, 1) := by decide +kernel
theorem dX11_congruent_7 : decode cX11_congruent 7 = .ok (.iload_n 2, 1) := by decide +kernel
theorem dX11_congruent_8 : decode cX11_congruent 8 = .ok (.invokevirtual 139, 3) := by decide +kernel
theorem dX11_congruent_11 : decode cX11_congruent 11 = .ok (.astore 4, 2) := by decide +kernel
theorem dX11_congruent_13 : decode cX11_congruent 13 = .ok (.aload_n 3, 1) := by decide +kernel
theorem dX11_congruent_14 : decode cX11_congruent 14 = .ok (.ifnull 8, 3) := by decide +kernel
theorem dX11_congruent_17 : decode cX11_congruent 17 = .ok (.aload 4, 2) := by decide +kernel
theorem dX11_congruent_19 : decode cX11_congruent 19 = .ok (.ifnonnull 5, 3) := by decide +kernel
theorem dX11_congruent_22 : decode cX11_congruent 22 = .ok (.iconst (-1), 1) := by decide +kernel
theorem dX11_congruent_23 : decode cX11_congruent 23 = .ok (.ireturn, 1) := by decide +kernel
theorem dX11_congruent_24 : decode cX11_congruent 24 = .ok (.aload_n 3, 1) := by decide +kernel
theorem dX11_congruent_25 : decode cX11_congruent 25 = .ok (.getfield 185, 3) := by decide +kernel
theorem dX11_congruent_28 : decode cX11_congruent 28 = .ok (.aload 4, 2) := by decide +kernel
theorem dX11_congruent_30 : decode cX11_congruent 30 = .ok (.getfield 185, 3) := by decide +kernel
theorem dX11_congruent_33 : decode cX11_congruent 33 = .ok (.if_icmp .eq 5, 3) := by decide +kernel
theorem dX11_congruent_36 : decode cX11_congruent 36 = .ok (.iconst 0, 1) := by decide +kernel
theorem dX11_congruent_37 : decode cX11_congruent 37 = .ok (.ireturn, 1) := by decide +kernel
theorem dX11_congruent_38 : decode cX11_congruent 38 = .ok (.iconst 0, 1) := by decide +kernel
theorem dX11_congruent_39 : decode cX11_congruent 39 = .ok (.istore 5, 2) := by decide +kernel
theorem dX11_congruent_41 : decode cX11_congruent 41 = .ok (.iload 5, 2) := by decide +kernel
theorem dX11_congruent_43 : decode cX11_congruent 43 = .ok (.bipush 8, 2) := by decide +kernel
theorem dX11_congruent_45 : decode cX11_congruent 45 = .ok (.if_icmp .ge 22, 3) := by decide +kernel
theorem dX11_congruent_48 : decode cX11_congruent 48 = .ok (.aload_n 3, 1) := by decide +kernel
theorem dX11_congruent_49 : decode cX11_congruent 49 = .ok (.aload 4, 2) := by decide +kernel
theorem dX11_congruent_51 : decode cX11_congruent 51 = .ok (.iload 5, 2) := by decide +kernel
theorem dX11_congruent_53 : decode cX11_congruent 53 = .ok (.invokevirtual 226, 3) := by decide +kernel
theorem dX11_congruent_56 : decode cX11_congruent 56 = .ok (.ifCond .eq 5, 3) := by decide +kernel
theorem dX11_congruent_59 : decode cX11_congruent 59 = .ok (.iconst 1, 1) := by decide +kernel
theorem dX11_congruent_60 : decode cX11_congruent 60 = .ok (.ireturn, 1) := by decide +kernel
theorem dX11_congruent_61 : decode cX11_congruent 61 = .ok (.iinc 5 1, 3) := by decide +kernel
theorem dX11_congruent_64 : decode cX11_congruent 64 = .ok (.goto (-23), 3) := by decide +kernel
theorem dX11_congruent_67 : decode cX11_congruent 67 = .ok (.iconst 0, 1) := by decide +kernel
theorem dX11_congruent_68 : decode cX11_congruent 68 = .ok (.ireturn, 1) := by decide +kernel
theorem dX11_empty_0 : decode cX11_empty 0 = .ok (.aload_n 0, 1) := by decide +kernel
theorem dX11_empty_1 : decode cX11_empty 1 = .ok (.iload_n 1, 1) := by decide +kernel
theorem dX11_empty_2 : decode cX11_empty 2 = .ok (.invokevirtual 139, 3) := by decide +kernel
theorem dX11_empty_5 : decode cX11_empty 5 = .ok (.astore_n 2, 1) := by decide +kernel
theorem dX11_empty_6 : decode cX11_empty 6 = .ok (.aload_n 2, 1) := by decide +kernel
theorem dX11_empty_7 : decode cX11_empty 7 = .ok (.ifnonnull 5, 3) := by decide +kernel
theorem dX11_empty_10 : decode cX11_empty 10 = .ok (.iconst (-1), 1) := by decide +kernel
theorem dX11_empty_11 : decode cX11_empty 11 = .ok (.ireturn, 1) := by decide +kernel
theorem dX11_empty_12 : decode cX11_empty 12 = .ok (.aload_n 2, 1) := by decide +kernel
theorem dX11_empty_13 : decode cX11_empty 13 = .ok (.getfield 185, 3) := by decide +kernel
theorem dX11_empty_16 : decode cX11_empty 16 = .ok (.istore_n 3, 1) := by decide +kernel
theorem dX11_empty_17 : decode cX11_empty 17 = .ok (.aload_n 2, 1) := by decide +kernel
theorem dX11_empty_18 : decode cX11_empty 18 = .ok (.invokevirtual 230, 3) := by decide +kernel
theorem dX11_empty_21 : decode cX11_empty 21 = .ok (.iload_n 3, 1) := by decide +kernel
theorem dX11_empty_22 : decode cX11_empty 22 = .ok (.ireturn, 1) := by decide +kernel
theorem dX11_still_0 : decode cX11_still 0 = .ok (.aload_n 0, 1) := by decide +kernel
theorem dX11_still_1 : decode cX11_still 1 = .ok (.iload_n 1, 1) := by decide +kernel
theorem dX11_still_2 : decode cX11_still 2 = .ok (.invokevirtual 117, 3) := by decide +kernel
theorem dX11_still_5 : decode cX11_still 5 = .ok (.astore 4, 2) := by decide +kernel
theorem dX11_still_7 : decode cX11_still 7 = .ok (.aload 4, 2) := by decide +kernel
theorem dX11_still_9 : decode cX11_still 9 = .ok (.ifnull 14, 3) := by decide +kernel
theorem dX11_still_12 : decode cX11_still 12 = .ok (.iload_n 2, 1) := by decide +kernel
theorem dX11_still_13 : decode cX11_still 13 = .ok (.iload_n 3, 1) := by decide +kernel
theorem dX11_still_14 : decode cX11_still 14 = .ok (.iconst 0, 1) := by decide +kernel
theorem dX11_still_15 : decode cX11_still 15 = .ok (.bipush 16, 2) := by decide +kernel
theorem dX11_still_17 : decode cX11_still 17 = .ok (.invokestatic 233, 3) := by decide +kernel
theorem dX11_still_20 : decode cX11_still 20 = .ok (.ifCond .ne 5, 3) := by decide +kernel
theorem dX11_still_23 : decode cX11_still 23 = .ok (.iconst (-1), 1) := by decide +kernel
theorem dX11_still_24 : decode cX11_still 24 = .ok (.ireturn, 1) := by decide +kernel
theorem dX11_still_25 : decode cX11_still 25 = .ok (.aload_n 0, 1) := by decide +kernel
theorem dX11_still_26 : decode cX11_still 26 = .ok (.aload 4, 2) := by decide +kernel
theorem dX11_still_28 : decode cX11_still 28 = .ok (.invokevirtual 237, 3) := by decide +kernel
theorem dX11_still_31 : decode cX11_still 31 = .ok (.ifCond .ne 9, 3) := by decide +kernel
theorem dX11_still_34 : decode cX11_still 34 = .ok (.aload 4, 2) := by decide +kernel
theorem dX11_still_36 : decode cX11_still 36 = .ok (.invokestatic 241, 3) := by decide +kernel
theorem dX11_still_39 : decode cX11_still 39 = .ok (.ireturn, 1) := by decide +kernel
theorem dX11_still_40 : decode cX11_still 40 = .ok (.aload_n 0, 1) := by decide +kernel
theorem dX11_still_41 : decode cX11_still 41 = .ok (.dup, 1) := by decide +kernel
theorem dX11_still_42 : decode cX11_still 42 = .ok (.getfield 245, 3) := by decide +kernel
theorem dX11_still_45 : decode cX11_still 45 = .ok (.iconst 1, 1) := by decide +kernel
theorem dX11_still_46 : decode cX11_still 46 = .ok (.iadd, 1) := by decide +kernel
theorem dX11_still_47 : decode cX11_still 47 = .ok (.putfield 245, 3) := by decide +kernel
theorem dX11_still_50 : decode cX11_still 50 = .ok (.aload_n 0, 1) := by decide +kernel
theorem dX11_still_51 : decode cX11_still 51 = .ok (.getfield 84, 3) := by decide +kernel
theorem dX11_still_54 : decode cX11_still 54 = .ok (.aload 4, 2) := by decide +kernel
theorem dX11_still_56 : decode cX11_still 56 = .ok (.iload_n 2, 1) := by decide +kernel
theorem dX11_still_57 : decode cX11_still 57 = .ok (.iload_n 3, 1) := by decide +kernel
theorem dX11_still_58 : decode cX11_still 58 = .ok (.invokevirtual 248, 3) := by decide +kernel
theorem dX11_still_61 : decode cX11_still 61 = .ok (.ireturn, 1) := by decide +kernel
theorem dX11_oscillators_0 : decode cX11_oscillators 0 = .ok (.aload_n 0, 1) := by decide +kernel
theorem dX11_oscillators_1 : decode cX11_oscillators 1 = .ok (.iload_n 1, 1) := by decide +kernel
theorem dX11_oscillators_2 : decode cX11_oscillators 2 = .ok (.invokevirtual 117, 3) := by decide +kernel
theorem dX11_oscillators_5 : decode cX11_oscillators 5 = .ok (.astore 5, 2) := by decide +kernel
theorem dX11_oscillators_7 : decode cX11_oscillators 7 = .ok (.aload 5, 2) := by decide +kernel
theorem dX11_oscillators_9 : decode cX11_oscillators 9 = .ok (.ifnull 27, 3) := by decide +kernel
theorem dX11_oscillators_12 : decode cX11_oscillators 12 = .ok (.iload_n 2, 1) := by decide +kernel
theorem dX11_oscillators_13 : decode cX11_oscillators 13 = .ok (.iload_n 3, 1) := by decide +kernel
theorem dX11_oscillators_14 : decode cX11_oscillators 14 = .ok (.iconst 0, 1) := by decide +kernel
theorem dX11_oscillators_15 : decode cX11_oscillators 15 = .ok (.bipush 12, 2) := by decide +kernel
theorem dX11_oscillators_17 : decode cX11_oscillators 17 = .ok (.invokestatic 233, 3) := by decide +kernel
theorem dX11_oscillators_20 : decode cX11_oscillators 20 = .ok (.ifCond .eq 16, 3) := by decide +kernel
theorem dX11_oscillators_23 : decode cX11_oscillators 23 = .ok (.iload 4, 2) := by decide +kernel
theorem dX11_oscillators_25 : decode cX11_oscillators 25 = .ok (.iconst 2, 1) := by decide +kernel
theorem dX11_oscillators_26 : decode cX11_oscillators 26 = .ok (.if_icmp .lt 10, 3) := by decide +kernel
theorem dX11_oscillators_29 : decode cX11_oscillators 29 = .ok (.iload 4, 2) := by decide +kernel
theorem dX11_oscillators_31 : decode cX11_oscillators 31 = .ok (.bipush 6, 2) := by decide +kernel
theorem dX11_oscillators_33 : decode cX11_oscillators 33 = .ok (.if_icmp .le 5, 3) := by decide +kernel
theorem dX11_oscillators_36 : decode cX11_oscillators 36 = .ok (.iconst (-1), 1) := by decide +kernel
theorem dX11_oscillators_37 : decode cX11_oscillators 37 = .ok (.ireturn, 1) := by decide +kernel
theorem dX11_oscillators_38 : decode cX11_oscillators 38 = .ok (.aload_n 0, 1) := by decide +kernel
theorem dX11_oscillators_39 : decode cX11_oscillators 39 = .ok (.aload 5, 2) := by decide +kernel
theorem dX11_oscillators_41 : decode cX11_oscillators 41 = .ok (.invokevirtual 237, 3) := by decide +kernel
theorem dX11_oscillators_44 : decode cX11_oscillators 44 = .ok (.ifCond .ne 9, 3) := by decide +kernel
theorem dX11_oscillators_47 : decode cX11_oscillators 47 = .ok (.aload 5, 2) := by decide +kernel
theorem dX11_oscillators_49 : decode cX11_oscillators 49 = .ok (.invokestatic 241, 3) := by decide +kernel
theorem dX11_oscillators_52 : decode cX11_oscillators 52 = .ok (.ireturn, 1) := by decide +kernel
theorem dX11_oscillators_53 : decode cX11_oscillators 53 = .ok (.aload_n 0, 1) := by decide +kernel
theorem dX11_oscillators_54 : decode cX11_oscillators 54 = .ok (.dup, 1) := by decide +kernel
theorem dX11_oscillators_55 : decode cX11_oscillators 55 = .ok (.getfield 245, 3) := by decide +kernel
theorem dX11_oscillators_58 : decode cX11_oscillators 58 = .ok (.iconst 1, 1) := by decide +kernel
theorem dX11_oscillators_59 : decode cX11_oscillators 59 = .ok (.iadd, 1) := by decide +kernel
theorem dX11_oscillators_60 : decode cX11_oscillators 60 = .ok (.putfield 245, 3) := by decide +kernel
theorem dX11_oscillators_63 : decode cX11_oscillators 63 = .ok (.aload_n 0, 1) := by decide +kernel
theorem dX11_oscillators_64 : decode cX11_oscillators 64 = .ok (.getfield 84, 3) := by decide +kernel
theorem dX11_oscillators_67 : decode cX11_oscillators 67 = .ok (.aload 5, 2) := by decide +kernel
theorem dX11_oscillators_69 : decode cX11_oscillators 69 = .ok (.iload_n 2, 1) := by decide +kernel
theorem dX11_oscillators_70 : decode cX11_oscillators 70 = .ok (.iload_n 3, 1) := by decide +kernel
theorem dX11_oscillators_71 : decode cX11_oscillators 71 = .ok (.iload 4, 2) := by decide +kernel
theorem dX11_oscillators_73 : decode cX11_oscillators 73 = .ok (.invokevirtual 252, 3) := by decide +kernel
theorem dX11_oscillators_76 : decode cX11_oscillators 76 = .ok (.ireturn, 1) := by decide +kernel
theorem dX11_ancestors_0 : decode cX11_ancestors 0 = .ok (.aload_n 0, 1) := by decide +kernel
theorem dX11_ancestors_1 : decode cX11_ancestors 1 = .ok (.iload_n 1, 1) := by decide +kernel
theorem dX11_ancestors_2 : decode cX11_ancestors 2 = .ok (.invokevirtual 117, 3) := by decide +kernel
theorem dX11_ancestors_5 : decode cX11_ancestors 5 = .ok (.astore 5, 2) := by decide +kernel
theorem dX11_ancestors_7 : decode cX11_ancestors 7 = .ok (.aload 5, 2) := by decide +kernel
theorem dX11_ancestors_9 : decode cX11_ancestors 9 = .ok (.ifnull 29, 3) := by decide +kernel
theorem dX11_ancestors_12 : decode cX11_ancestors 12 = .ok (.iload_n 2, 1) := by decide +kernel
theorem dX11_ancestors_13 : decode cX11_ancestors 13 = .ok (.iload_n 3, 1) := by decide +kernel
theorem dX11_ancestors_14 : decode cX11_ancestors 14 = .ok (.iconst 2, 1) := by decide +kernel
theorem dX11_ancestors_15 : decode cX11_ancestors 15 = .ok (.bipush 16, 2) := by decide +kernel
theorem dX11_ancestors_17 : decode cX11_ancestors 17 = .ok (.invokestatic 233, 3) := by decide +kernel
theorem dX11_ancestors_20 : decode cX11_ancestors 20 = .ok (.ifCond .eq 18, 3) := by decide +kernel
theorem dX11_ancestors_23 : decode cX11_ancestors 23 = .ok (.iload 4, 2) := by decide +kernel
theorem dX11_ancestors_25 : decode cX11_ancestors 25 = .ok (.ifCond .lt 13, 3) := by decide +kernel
theorem dX11_ancestors_28 : decode cX11_ancestors 28 = .ok (.iload 4, 2) := by decide +kernel
theorem dX11_ancestors_30 : decode cX11_ancestors 30 = .ok (.iconst 1, 1) := by decide +kernel
theorem dX11_ancestors_31 : decode cX11_ancestors 31 = .ok (.iload_n 2, 1) := by decide +kernel
theorem dX11_ancestors_32 : decode cX11_ancestors 32 = .ok (.iload_n 3, 1) := by decide +kernel
theorem dX11_ancestors_33 : decode cX11_ancestors 33 = .ok (.imul, 1) := by decide +kernel
theorem dX11_ancestors_34 : decode cX11_ancestors 34 = .ok (.ishl, 1) := by decide +kernel
theorem dX11_ancestors_35 : decode cX11_ancestors 35 = .ok (.if_icmp .lt 5, 3) := by decide +kernel
theorem dX11_ancestors_38 : decode cX11_ancestors 38 = .ok (.iconst (-1), 1) := by decide +kernel
theorem dX11_ancestors_39 : decode cX11_ancestors 39 = .ok (.ireturn, 1) := by decide +kernel
theorem dX11_ancestors_40 : decode cX11_ancestors 40 = .ok (.aload_n 0, 1) := by decide +kernel
theorem dX11_ancestors_41 : decode cX11_ancestors 41 = .ok (.aload 5, 2) := by decide +kernel
theorem dX11_ancestors_43 : decode cX11_ancestors 43 = .ok (.invokevirtual 237, 3) := by decide +kernel
theorem dX11_ancestors_46 : decode cX11_ancestors 46 = .ok (.ifCond .ne 9, 3) := by decide +kernel
theorem dX11_ancestors_49 : decode cX11_ancestors 49 = .ok (.aload 5, 2) := by decide +kernel
theorem dX11_ancestors_51 : decode cX11_ancestors 51 = .ok (.invokestatic 241, 3) := by decide +kernel
theorem dX11_ancestors_54 : decode cX11_ancestors 54 = .ok (.ireturn, 1) := by decide +kernel
theorem dX11_ancestors_55 : decode cX11_ancestors 55 = .ok (.aload_n 0, 1) := by decide +kernel
theorem dX11_ancestors_56 : decode cX11_ancestors 56 = .ok (.dup, 1) := by decide +kernel
theorem dX11_ancestors_57 : decode cX11_ancestors 57 = .ok (.getfield 245, 3) := by decide +kernel
theorem dX11_ancestors_60 : decode cX11_ancestors 60 = .ok (.iconst 1, 1) := by decide +kernel
theorem dX11_ancestors_61 : decode cX11_ancestors 61 = .ok (.iadd, 1) := by decide +kernel
theorem dX11_ancestors_62 : decode cX11_ancestors 62 = .ok (.putfield 245, 3) := by decide +kernel
theorem dX11_ancestors_65 : decode cX11_ancestors 65 = .ok (.aload_n 0, 1) := by decide +kernel
theorem dX11_ancestors_66 : decode cX11_ancestors 66 = .ok (.getfield 84, 3) := by decide +kernel
theorem dX11_ancestors_69 : decode cX11_ancestors 69 = .ok (.aload 5, 2) := by decide +kernel
theorem dX11_ancestors_71 : decode cX11_ancestors 71 = .ok (.iload_n 2, 1) := by decide +kernel
theorem dX11_ancestors_72 : decode cX11_ancestors 72 = .ok (.iload_n 3, 1) := by decide +kernel
theorem dX11_ancestors_73 : decode cX11_ancestors 73 = .ok (.iload 4, 2) := by decide +kernel
theorem dX11_ancestors_75 : decode cX11_ancestors 75 = .ok (.ldc_w 256, 3) := by decide +kernel
theorem dX11_ancestors_78 : decode cX11_ancestors 78 = .ok (.invokevirtual 257, 3) := by decide +kernel
theorem dX11_ancestors_81 : decode cX11_ancestors 81 = .ok (.ireturn, 1) := by decide +kernel
theorem dX11_garden_0 : decode cX11_garden 0 = .ok (.aload_n 0, 1) := by decide +kernel
theorem dX11_garden_1 : decode cX11_garden 1 = .ok (.iload_n 1, 1) := by decide +kernel
theorem dX11_garden_2 : decode cX11_garden 2 = .ok (.invokevirtual 117, 3) := by decide +kernel
theorem dX11_garden_5 : decode cX11_garden 5 = .ok (.astore 4, 2) := by decide +kernel
theorem dX11_garden_7 : decode cX11_garden 7 = .ok (.aload 4, 2) := by decide +kernel
theorem dX11_garden_9 : decode cX11_garden 9 = .ok (.ifnull 14, 3) := by decide +kernel
theorem dX11_garden_12 : decode cX11_garden 12 = .ok (.iload_n 2, 1) := by decide +kernel
theorem dX11_garden_13 : decode cX11_garden 13 = .ok (.iload_n 3, 1) := by decide +kernel
theorem dX11_garden_14 : decode cX11_garden 14 = .ok (.iconst 2, 1) := by decide +kernel
theorem dX11_garden_15 : decode cX11_garden 15 = .ok (.bipush 16, 2) := by decide +kernel
theorem dX11_garden_17 : decode cX11_garden 17 = .ok (.invokestatic 233, 3) := by decide +kernel
theorem dX11_garden_20 : decode cX11_garden 20 = .ok (.ifCond .ne 5, 3) := by decide +kernel
theorem dX11_garden_23 : decode cX11_garden 23 = .ok (.iconst (-1), 1) := by decide +kernel
theorem dX11_garden_24 : decode cX11_garden 24 = .ok (.ireturn, 1) := by decide +kernel
theorem dX11_garden_25 : decode cX11_garden 25 = .ok (.aload_n 0, 1) := by decide +kernel
theorem dX11_garden_26 : decode cX11_garden 26 = .ok (.aload 4, 2) := by decide +kernel
theorem dX11_garden_28 : decode cX11_garden 28 = .ok (.invokevirtual 237, 3) := by decide +kernel
theorem dX11_garden_31 : decode cX11_garden 31 = .ok (.ifCond .ne 9, 3) := by decide +kernel
theorem dX11_garden_34 : decode cX11_garden 34 = .ok (.aload 4, 2) := by decide +kernel
theorem dX11_garden_36 : decode cX11_garden 36 = .ok (.invokestatic 241, 3) := by decide +kernel
theorem dX11_garden_39 : decode cX11_garden 39 = .ok (.ireturn, 1) := by decide +kernel
theorem dX11_garden_40 : decode cX11_garden 40 = .ok (.aload_n 0, 1) := by decide +kernel
theorem dX11_garden_41 : decode cX11_garden 41 = .ok (.dup, 1) := by decide +kernel
theorem dX11_garden_42 : decode cX11_garden 42 = .ok (.getfield 245, 3) := by decide +kernel
theorem dX11_garden_45 : decode cX11_garden 45 = .ok (.iconst 1, 1) := by decide +kernel
theorem dX11_garden_46 : decode cX11_garden 46 = .ok (.iadd, 1) := by decide +kernel
theorem dX11_garden_47 : decode cX11_garden 47 = .ok (.putfield 245, 3) := by decide +kernel
theorem dX11_garden_50 : decode cX11_garden 50 = .ok (.aload_n 0, 1) := by decide +kernel
theorem dX11_garden_51 : decode cX11_garden 51 = .ok (.getfield 84, 3) := by decide +kernel
theorem dX11_garden_54 : decode cX11_garden 54 = .ok (.aload 4, 2) := by decide +kernel
theorem dX11_garden_56 : decode cX11_garden 56 = .ok (.iload_n 2, 1) := by decide +kernel
theorem dX11_garden_57 : decode cX11_garden 57 = .ok (.iload_n 3, 1) := by decide +kernel
theorem dX11_garden_58 : decode cX11_garden 58 = .ok (.invokevirtual 261, 3) := by decide +kernel
theorem dX11_garden_61 : decode cX11_garden 61 = .ok (.ireturn, 1) := by decide +kernel
theorem dX11_found_0 : decode cX11_found 0 = .ok (.iload_n 1, 1) := by decide +kernel
theorem dX11_found_1 : decode cX11_found 1 = .ok (.ifCond .lt 25, 3) := by decide +kernel
theorem dX11_found_4 : decode cX11_found 4 = .ok (.iload_n 1, 1) := by decide +kernel
theorem dX11_found_5 : decode cX11_found 5 = .ok (.aload_n 0, 1) := by decide +kernel
theorem dX11_found_6 : decode cX11_found 6 = .ok (.getfield 84, 3) := by decide +kernel
theorem dX11_found_9 : decode cX11_found 9 = .ok (.getfield 264, 3) := by decide +kernel
theorem dX11_found_12 : decode cX11_found 12 = .ok (.if_icmp .ge 14, 3) := by decide +kernel
theorem dX11_found_15 : decode cX11_found 15 = .ok (.aload_n 0, 1) := by decide +kernel
theorem dX11_found_16 : decode cX11_found 16 = .ok (.getfield 84, 3) := by decide +kernel
theorem dX11_found_19 : decode cX11_found 19 = .ok (.iload_n 1, 1) := by decide +kernel
theorem dX11_found_20 : decode cX11_found 20 = .ok (.invokevirtual 267, 3) := by decide +kernel
theorem dX11_found_23 : decode cX11_found 23 = .ok (.goto 4, 3) := by decide +kernel
theorem dX11_found_26 : decode cX11_found 26 = .ok (.iconst (-1), 1) := by decide +kernel
theorem dX11_found_27 : decode cX11_found 27 = .ok (.ireturn, 1) := by decide +kernel
theorem dX11_isBox_0 : decode cX11_isBox 0 = .ok (.iload_n 0, 1) := by decide +kernel
theorem dX11_isBox_1 : decode cX11_isBox 1 = .ok (.iconst 1, 1) := by decide +kernel
theorem dX11_isBox_2 : decode cX11_isBox 2 = .ok (.if_icmp .lt 35, 3) := by decide +kernel
theorem dX11_isBox_5 : decode cX11_isBox 5 = .ok (.iload_n 0, 1) := by decide +kernel
theorem dX11_isBox_6 : decode cX11_isBox 6 = .ok (.bipush 16, 2) := by decide +kernel
theorem dX11_isBox_8 : decode cX11_isBox 8 = .ok (.if_icmp .gt 29, 3) := by decide +kernel
theorem dX11_isBox_11 : decode cX11_isBox 11 = .ok (.iload_n 1, 1) := by decide +kernel
theorem dX11_isBox_12 : decode cX11_isBox 12 = .ok (.iconst 1, 1) := by decide +kernel
theorem dX11_isBox_13 : decode cX11_isBox 13 = .ok (.if_icmp .lt 24, 3) := by decide +kernel
theorem dX11_isBox_16 : decode cX11_isBox 16 = .ok (.iload_n 1, 1) := by decide +kernel
theorem dX11_isBox_17 : decode cX11_isBox 17 = .ok (.bipush 16, 2) := by decide +kernel
theorem dX11_isBox_19 : decode cX11_isBox 19 = .ok (.if_icmp .gt 18, 3) := by decide +kernel
theorem dX11_isBox_22 : decode cX11_isBox 22 = .ok (.iload_n 0, 1) := by decide +kernel
theorem dX11_isBox_23 : decode cX11_isBox 23 = .ok (.iload_n 2, 1) := by decide +kernel
theorem dX11_isBox_24 : decode cX11_isBox 24 = .ok (.iadd, 1) := by decide +kernel
theorem dX11_isBox_25 : decode cX11_isBox 25 = .ok (.iload_n 1, 1) := by decide +kernel
theorem dX11_isBox_26 : decode cX11_isBox 26 = .ok (.iload_n 2, 1) := by decide +kernel
theorem dX11_isBox_27 : decode cX11_isBox 27 = .ok (.iadd, 1) := by decide +kernel
theorem dX11_isBox_28 : decode cX11_isBox 28 = .ok (.imul, 1) := by decide +kernel
theorem dX11_isBox_29 : decode cX11_isBox 29 = .ok (.iload_n 3, 1) := by decide +kernel
theorem dX11_isBox_30 : decode cX11_isBox 30 = .ok (.if_icmp .gt 7, 3) := by decide +kernel
theorem dX11_isBox_33 : decode cX11_isBox 33 = .ok (.iconst 1, 1) := by decide +kernel
theorem dX11_isBox_34 : decode cX11_isBox 34 = .ok (.goto 4, 3) := by decide +kernel
theorem dX11_isBox_37 : decode cX11_isBox 37 = .ok (.iconst 0, 1) := by decide +kernel
theorem dX11_isBox_38 : decode cX11_isBox 38 = .ok (.ireturn, 1) := by decide +kernel
theorem dX11_maySearch_0 : decode cX11_maySearch 0 = .ok (.aload_n 1, 1) := by decide +kernel
theorem dX11_maySearch_1 : decode cX11_maySearch 1 = .ok (.invokevirtual 131, 3) := by decide +kernel
theorem dX11_maySearch_4 : decode cX11_maySearch 4 = .ok (.ifCond .eq 16, 3) := by decide +kernel
theorem dX11_maySearch_7 : decode cX11_maySearch 7 = .ok (.aload_n 0, 1) := by decide +kernel
theorem dX11_maySearch_8 : decode cX11_maySearch 8 = .ok (.getfield 245, 3) := by decide +kernel
theorem dX11_maySearch_11 : decode cX11_maySearch 11 = .ok (.bipush 30, 2) := by decide +kernel
theorem dX11_maySearch_13 : decode cX11_maySearch 13 = .ok (.if_icmp .ge 7, 3) := by decide +kernel
theorem dX11_maySearch_16 : decode cX11_maySearch 16 = .ok (.iconst 1, 1) := by decide +kernel
theorem dX11_maySearch_17 : decode cX11_maySearch 17 = .ok (.goto 4, 3) := by decide +kernel
theorem dX11_maySearch_20 : decode cX11_maySearch 20 = .ok (.iconst 0, 1) := by decide +kernel
theorem dX11_maySearch_21 : decode cX11_maySearch 21 = .ok (.ireturn, 1) := by decide +kernel
theorem dX11_whyNoSearch_0 : decode cX11_whyNoSearch 0 = .ok (.aload_n 0, 1) := by decide +kernel
theorem dX11_whyNoSearch_1 : decode cX11_whyNoSearch 1 = .ok (.invokevirtual 131, 3) := by decide +kernel
theorem dX11_whyNoSearch_4 : decode cX11_whyNoSearch 4 = .ok (.ifCond .eq 8, 3) := by decide +kernel
theorem dX11_whyNoSearch_7 : decode cX11_whyNoSearch 7 = .ok (.bipush (-3), 2) := by decide +kernel
theorem dX11_whyNoSearch_9 : decode cX11_whyNoSearch 9 = .ok (.goto 5, 3) := by decide +kernel
theorem dX11_whyNoSearch_12 : decode cX11_whyNoSearch 12 = .ok (.bipush (-2), 2) := by decide +kernel
theorem dX11_whyNoSearch_14 : decode cX11_whyNoSearch 14 = .ok (.ireturn, 1) := by decide +kernel
theorem dX11_grid_0 : decode cX11_grid 0 = .ok (.aload_n 0, 1) := by decide +kernel
theorem dX11_grid_1 : decode cX11_grid 1 = .ok (.iload_n 1, 1) := by decide +kernel
theorem dX11_grid_2 : decode cX11_grid 2 = .ok (.invokevirtual 117, 3) := by decide +kernel
theorem dX11_grid_5 : decode cX11_grid 5 = .ok (.astore 4, 2) := by decide +kernel
theorem dX11_grid_7 : decode cX11_grid 7 = .ok (.aload 4, 2) := by decide +kernel
theorem dX11_grid_9 : decode cX11_grid 9 = .ok (.ifnull 17, 3) := by decide +kernel
theorem dX11_grid_12 : decode cX11_grid 12 = .ok (.iload_n 2, 1) := by decide +kernel
theorem dX11_grid_13 : decode cX11_grid 13 = .ok (.invokestatic 270, 3) := by decide +kernel
theorem dX11_grid_16 : decode cX11_grid 16 = .ok (.ifCond .eq 10, 3) := by decide +kernel
theorem dX11_grid_19 : decode cX11_grid 19 = .ok (.iload_n 3, 1) := by decide +kernel
theorem dX11_grid_20 : decode cX11_grid 20 = .ok (.invokestatic 270, 3) := by decide +kernel
theorem dX11_grid_23 : decode cX11_grid 23 = .ok (.ifCond .ne 5, 3) := by decide +kernel
theorem dX11_grid_26 : decode cX11_grid 26 = .ok (.iconst (-1), 1) := by decide +kernel
theorem dX11_grid_27 : decode cX11_grid 27 = .ok (.ireturn, 1) := by decide +kernel
theorem dX11_grid_28 : decode cX11_grid 28 = .ok (.aload 4, 2) := by decide +kernel
theorem dX11_grid_30 : decode cX11_grid 30 = .ok (.invokevirtual 273, 3) := by decide +kernel
theorem dX11_grid_33 : decode cX11_grid 33 = .ok (.ifCond .ne 6, 3) := by decide +kernel
theorem dX11_grid_36 : decode cX11_grid 36 = .ok (.bipush (-2), 2) := by decide +kernel
theorem dX11_grid_38 : decode cX11_grid 38 = .ok (.ireturn, 1) := by decide +kernel
theorem dX11_grid_39 : decode cX11_grid 39 = .ok (.aload_n 0, 1) := by decide +kernel
theorem dX11_grid_40 : decode cX11_grid 40 = .ok (.getfield 128, 3) := by decide +kernel
theorem dX11_grid_43 : decode cX11_grid 43 = .ok (.bipush 8, 2) := by decide +kernel
theorem dX11_grid_45 : decode cX11_grid 45 = .ok (.if_icmp .lt 6, 3) := by decide +kernel
theorem dX11_grid_48 : decode cX11_grid 48 = .ok (.bipush (-3), 2) := by decide +kernel
theorem dX11_grid_50 : decode cX11_grid 50 = .ok (.ireturn, 1) := by decide +kernel
theorem dX11_grid_51 : decode cX11_grid 51 = .ok (.aload_n 0, 1) := by decide +kernel
theorem dX11_grid_52 : decode cX11_grid 52 = .ok (.getfield 51, 3) := by decide +kernel
theorem dX11_grid_55 : decode cX11_grid 55 = .ok (.aload_n 0, 1) := by decide +kernel
theorem dX11_grid_56 : decode cX11_grid 56 = .ok (.getfield 128, 3) := by decide +kernel
theorem dX11_grid_59 : decode cX11_grid 59 = .ok (.aaload, 1) := by decide +kernel
theorem dX11_grid_60 : decode cX11_grid 60 = .ok (.astore 5, 2) := by decide +kernel
theorem dX11_grid_62 : decode cX11_grid 62 = .ok (.aload 5, 2) := by decide +kernel
theorem dX11_grid_64 : decode cX11_grid 64 = .ok (.ifnonnull 23, 3) := by decide +kernel
theorem dX11_grid_67 : decode cX11_grid 67 = .ok (.new 49, 3) := by decide +kernel
theorem dX11_grid_70 : decode cX11_grid 70 = .ok (.dup, 1) := by decide +kernel
theorem dX11_grid_71 : decode cX11_grid 71 = .ok (.invokespecial 276, 3) := by decide +kernel
theorem dX11_grid_74 : decode cX11_grid 74 = .ok (.astore 5, 2) := by decide +kernel
theorem dX11_grid_76 : decode cX11_grid 76 = .ok (.aload_n 0, 1) := by decide +kernel
theorem dX11_grid_77 : decode cX11_grid 77 = .ok (.getfield 51, 3) := by decide +kernel
theorem dX11_grid_80 : decode cX11_grid 80 = .ok (.aload_n 0, 1) := by decide +kernel
theorem dX11_grid_81 : decode cX11_grid 81 = .ok (.getfield 128, 3) := by decide +kernel
theorem dX11_grid_84 : decode cX11_grid 84 = .ok (.aload 5, 2) := by decide +kernel
theorem dX11_grid_86 : decode cX11_grid 86 = .ok (.aastore, 1) := by decide +kernel
theorem dX11_grid_87 : decode cX11_grid 87 = .ok (.aload 5, 2) := by decide +kernel
theorem dX11_grid_89 : decode cX11_grid 89 = .ok (.aload 4, 2) := by decide +kernel
theorem dX11_grid_91 : decode cX11_grid 91 = .ok (.iload_n 2, 1) := by decide +kernel
theorem dX11_grid_92 : decode cX11_grid 92 = .ok (.iload_n 3, 1) := by decide +kernel
theorem dX11_grid_93 : decode cX11_grid 93 = .ok (.invokevirtual 277, 3) := by decide +kernel
theorem dX11_grid_96 : decode cX11_grid 96 = .ok (.aload_n 0, 1) := by decide +kernel
theorem dX11_grid_97 : decode cX11_grid 97 = .ok (.dup, 1) := by decide +kernel
theorem dX11_grid_98 : decode cX11_grid 98 = .ok (.getfield 128, 3) := by decide +kernel
theorem dX11_grid_101 : decode cX11_grid 101 = .ok (.iconst 1, 1) := by decide +kernel
theorem dX11_grid_102 : decode cX11_grid 102 = .ok (.iadd, 1) := by decide +kernel
theorem dX11_grid_103 : decode cX11_grid 103 = .ok (.putfield 128, 3) := by decide +kernel
theorem dX11_grid_106 : decode cX11_grid 106 = .ok (.aload_n 0, 1) := by decide +kernel
theorem dX11_grid_107 : decode cX11_grid 107 = .ok (.getfield 128, 3) := by decide +kernel
theorem dX11_grid_110 : decode cX11_grid 110 = .ok (.iconst 1, 1) := by decide +kernel
theorem dX11_grid_111 : decode cX11_grid 111 = .ok (.isub, 1) := by decide +kernel
theorem dX11_grid_112 : decode cX11_grid 112 = .ok (.ireturn, 1) := by decide +kernel
theorem dX11_isEvenSide_0 : decode cX11_isEvenSide 0 = .ok (.iload_n 0, 1) := by decide +kernel
theorem dX11_isEvenSide_1 : decode cX11_isEvenSide 1 = .ok (.iconst 2, 1) := by decide +kernel
theorem dX11_isEvenSide_2 : decode cX11_isEvenSide 2 = .ok (.if_icmp .lt 19, 3) := by decide +kernel
theorem dX11_isEvenSide_5 : decode cX11_isEvenSide 5 = .ok (.iload_n 0, 1) := by decide +kernel
theorem dX11_isEvenSide_6 : decode cX11_isEvenSide 6 = .ok (.bipush 16, 2) := by decide +kernel
theorem dX11_isEvenSide_8 : decode cX11_isEvenSide 8 = .ok (.if_icmp .gt 13, 3) := by decide +kernel
theorem dX11_isEvenSide_11 : decode cX11_isEvenSide 11 = .ok (.iload_n 0, 1) := by decide +kernel
theorem dX11_isEvenSide_12 : decode cX11_isEvenSide 12 = .ok (.iconst 2, 1) := by decide +kernel
theorem dX11_isEvenSide_13 : decode cX11_isEvenSide 13 = .ok (.irem, 1) := by decide +kernel
theorem dX11_isEvenSide_14 : decode cX11_isEvenSide 14 = .ok (.ifCond .ne 7, 3) := by decide +kernel
theorem dX11_isEvenSide_17 : decode cX11_isEvenSide 17 = .ok (.iconst 1, 1) := by decide +kernel
theorem dX11_isEvenSide_18 : decode cX11_isEvenSide 18 = .ok (.goto 4, 3) := by decide +kernel
theorem dX11_isEvenSide_21 : decode cX11_isEvenSide 21 = .ok (.iconst 0, 1) := by decide +kernel
theorem dX11_isEvenSide_22 : decode cX11_isEvenSide 22 = .ok (.ireturn, 1) := by decide +kernel
theorem dX11_set_0 : decode cX11_set 0 = .ok (.aload_n 0, 1) := by decide +kernel
theorem dX11_set_1 : decode cX11_set 1 = .ok (.iload_n 1, 1) := by decide +kernel
theorem dX11_set_2 : decode cX11_set 2 = .ok (.invokevirtual 280, 3) := by decide +kernel
theorem dX11_set_5 : decode cX11_set 5 = .ok (.astore 5, 2) := by decide +kernel
theorem dX11_set_7 : decode cX11_set 7 = .ok (.aload 5, 2) := by decide +kernel
theorem dX11_set_9 : decode cX11_set 9 = .ok (.ifnull 23, 3) := by decide +kernel
theorem dX11_set_12 : decode cX11_set 12 = .ok (.aload 5, 2) := by decide +kernel
theorem dX11_set_14 : decode cX11_set 14 = .ok (.iload_n 2, 1) := by decide +kernel
theorem dX11_set_15 : decode cX11_set 15 = .ok (.iload_n 3, 1) := by decide +kernel
theorem dX11_set_16 : decode cX11_set 16 = .ok (.invokevirtual 284, 3) := by decide +kernel
theorem dX11_set_19 : decode cX11_set 19 = .ok (.ifCond .eq 13, 3) := by decide +kernel
theorem dX11_set_22 : decode cX11_set 22 = .ok (.aload 5, 2) := by decide +kernel
theorem dX11_set_24 : decode cX11_set 24 = .ok (.iload 4, 2) := by decide +kernel
theorem dX11_set_26 : decode cX11_set 26 = .ok (.invokevirtual 287, 3) := by decide +kernel
theorem dX11_set_29 : decode cX11_set 29 = .ok (.ifCond .ne 5, 3) := by decide +kernel
theorem dX11_set_32 : decode cX11_set 32 = .ok (.iconst (-1), 1) := by decide +kernel
theorem dX11_set_33 : decode cX11_set 33 = .ok (.ireturn, 1) := by decide +kernel
theorem dX11_set_34 : decode cX11_set 34 = .ok (.aload 5, 2) := by decide +kernel
theorem dX11_set_36 : decode cX11_set 36 = .ok (.iload_n 2, 1) := by decide +kernel
theorem dX11_set_37 : decode cX11_set 37 = .ok (.iload_n 3, 1) := by decide +kernel
theorem dX11_set_38 : decode cX11_set 38 = .ok (.iload 4, 2) := by decide +kernel
theorem dX11_set_40 : decode cX11_set 40 = .ok (.invokevirtual 290, 3) := by decide +kernel
theorem dX11_set_43 : decode cX11_set 43 = .ok (.ireturn, 1) := by decide +kernel
theorem dX11_cell_0 : decode cX11_cell 0 = .ok (.aload_n 0, 1) := by decide +kernel
theorem dX11_cell_1 : decode cX11_cell 1 = .ok (.iload_n 1, 1) := by decide +kernel
theorem dX11_cell_2 : decode cX11_cell 2 = .ok (.invokevirtual 280, 3) := by decide +kernel
theorem dX11_cell_5 : decode cX11_cell 5 = .ok (.astore 4, 2) := by decide +kernel
theorem dX11_cell_7 : decode cX11_cell 7 = .ok (.aload 4, 2) := by decide +kernel
theorem dX11_cell_9 : decode cX11_cell 9 = .ok (.ifnull 13, 3) := by decide +kernel
theorem dX11_cell_12 : decode cX11_cell 12 = .ok (.aload 4, 2) := by decide +kernel
theorem dX11_cell_14 : decode cX11_cell 14 = .ok (.iload_n 2, 1) := by decide +kernel
theorem dX11_cell_15 : decode cX11_cell 15 = .ok (.iload_n 3, 1) := by decide +kernel
theorem dX11_cell_16 : decode cX11_cell 16 = .ok (.invokevirtual 284, 3) := by decide +kernel
theorem dX11_cell_19 : decode cX11_cell 19 = .ok (.ifCond .ne 5, 3) := by decide +kernel
theorem dX11_cell_22 : decode cX11_cell 22 = .ok (.iconst (-1), 1) := by decide +kernel
theorem dX11_cell_23 : decode cX11_cell 23 = .ok (.ireturn, 1) := by decide +kernel
theorem dX11_cell_24 : decode cX11_cell 24 = .ok (.aload 4, 2) := by decide +kernel
theorem dX11_cell_26 : decode cX11_cell 26 = .ok (.iload_n 2, 1) := by decide +kernel
theorem dX11_cell_27 : decode cX11_cell 27 = .ok (.iload_n 3, 1) := by decide +kernel
theorem dX11_cell_28 : decode cX11_cell 28 = .ok (.invokevirtual 291, 3) := by decide +kernel
theorem dX11_cell_31 : decode cX11_cell 31 = .ok (.ireturn, 1) := by decide +kernel
theorem dX11_fill_0 : decode cX11_fill 0 = .ok (.aload_n 0, 1) := by decide +kernel
theorem dX11_fill_1 : decode cX11_fill 1 = .ok (.iload_n 1, 1) := by decide +kernel
theorem dX11_fill_2 : decode cX11_fill 2 = .ok (.invokevirtual 280, 3) := by decide +kernel
theorem dX11_fill_5 : decode cX11_fill 5 = .ok (.astore 4, 2) := by decide +kernel
theorem dX11_fill_7 : decode cX11_fill 7 = .ok (.aload 4, 2) := by decide +kernel
theorem dX11_fill_9 : decode cX11_fill 9 = .ok (.ifnull 13, 3) := by decide +kernel
theorem dX11_fill_12 : decode cX11_fill 12 = .ok (.iload_n 3, 1) := by decide +kernel
theorem dX11_fill_13 : decode cX11_fill 13 = .ok (.ifCond .lt 9, 3) := by decide +kernel
theorem dX11_fill_16 : decode cX11_fill 16 = .ok (.iload_n 3, 1) := by decide +kernel
theorem dX11_fill_17 : decode cX11_fill 17 = .ok (.bipush 100, 2) := by decide +kernel
theorem dX11_fill_19 : decode cX11_fill 19 = .ok (.if_icmp .le 5, 3) := by decide +kernel
theorem dX11_fill_22 : decode cX11_fill 22 = .ok (.iconst (-1), 1) := by decide +kernel
theorem dX11_fill_23 : decode cX11_fill 23 = .ok (.ireturn, 1) := by decide +kernel
theorem dX11_fill_24 : decode cX11_fill 24 = .ok (.aload 4, 2) := by decide +kernel
theorem dX11_fill_26 : decode cX11_fill 26 = .ok (.iload_n 2, 1) := by decide +kernel
theorem dX11_fill_27 : decode cX11_fill 27 = .ok (.iload_n 3, 1) := by decide +kernel
theorem dX11_fill_28 : decode cX11_fill 28 = .ok (.invokevirtual 292, 3) := by decide +kernel
theorem dX11_fill_31 : decode cX11_fill 31 = .ok (.ireturn, 1) := by decide +kernel
theorem dX11_go_0 : decode cX11_go 0 = .ok (.aload_n 0, 1) := by decide +kernel
theorem dX11_go_1 : decode cX11_go 1 = .ok (.iload_n 1, 1) := by decide +kernel
theorem dX11_go_2 : decode cX11_go 2 = .ok (.invokevirtual 280, 3) := by decide +kernel
theorem dX11_go_5 : decode cX11_go 5 = .ok (.astore_n 3, 1) := by decide +kernel
theorem dX11_go_6 : decode cX11_go 6 = .ok (.aload_n 3, 1) := by decide +kernel
theorem dX11_go_7 : decode cX11_go 7 = .ok (.ifnull 21, 3) := by decide +kernel
theorem dX11_go_10 : decode cX11_go 10 = .ok (.iload_n 2, 1) := by decide +kernel
theorem dX11_go_11 : decode cX11_go 11 = .ok (.ifCond .eq 17, 3) := by decide +kernel
theorem dX11_go_14 : decode cX11_go 14 = .ok (.iload_n 2, 1) := by decide +kernel
theorem dX11_go_15 : decode cX11_go 15 = .ok (.sipush (-1000), 3) := by decide +kernel
theorem dX11_go_18 : decode cX11_go 18 = .ok (.if_icmp .lt 10, 3) := by decide +kernel
theorem dX11_go_21 : decode cX11_go 21 = .ok (.iload_n 2, 1) := by decide +kernel
theorem dX11_go_22 : decode cX11_go 22 = .ok (.sipush 1000, 3) := by decide +kernel
theorem dX11_go_25 : decode cX11_go 25 = .ok (.if_icmp .le 5, 3) := by decide +kernel
theorem dX11_go_28 : decode cX11_go 28 = .ok (.iconst (-1), 1) := by decide +kernel
theorem dX11_go_29 : decode cX11_go 29 = .ok (.ireturn, 1) := by decide +kernel
theorem dX11_go_30 : decode cX11_go 30 = .ok (.iload_n 2, 1) := by decide +kernel
theorem dX11_go_31 : decode cX11_go 31 = .ok (.ifCond .le 9, 3) := by decide +kernel
theorem dX11_go_34 : decode cX11_go 34 = .ok (.aload_n 3, 1) := by decide +kernel
theorem dX11_go_35 : decode cX11_go 35 = .ok (.iload_n 2, 1) := by decide +kernel
theorem dX11_go_36 : decode cX11_go 36 = .ok (.invokevirtual 295, 3) := by decide +kernel
theorem dX11_go_39 : decode cX11_go 39 = .ok (.ireturn, 1) := by decide +kernel
theorem dX11_go_40 : decode cX11_go 40 = .ok (.aload_n 3, 1) := by decide +kernel
theorem dX11_go_41 : decode cX11_go 41 = .ok (.iload_n 2, 1) := by decide +kernel
theorem dX11_go_42 : decode cX11_go 42 = .ok (.ineg, 1) := by decide +kernel
theorem dX11_go_43 : decode cX11_go 43 = .ok (.invokevirtual 298, 3) := by decide +kernel
theorem dX11_go_46 : decode cX11_go 46 = .ok (.ifCond .eq 12, 3) := by decide +kernel
theorem dX11_go_49 : decode cX11_go 49 = .ok (.aload_n 3, 1) := by decide +kernel
theorem dX11_go_50 : decode cX11_go 50 = .ok (.iload_n 2, 1) := by decide +kernel
theorem dX11_go_51 : decode cX11_go 51 = .ok (.ineg, 1) := by decide +kernel
theorem dX11_go_52 : decode cX11_go 52 = .ok (.invokevirtual 301, 3) := by decide +kernel
theorem dX11_go_55 : decode cX11_go 55 = .ok (.goto 5, 3) := by decide +kernel
theorem dX11_go_58 : decode cX11_go 58 = .ok (.bipush (-2), 2) := by decide +kernel
theorem dX11_go_60 : decode cX11_go 60 = .ok (.ireturn, 1) := by decide +kernel
theorem dX11_amount_0 : decode cX11_amount 0 = .ok (.aload_n 0, 1) := by decide +kernel
theorem dX11_amount_1 : decode cX11_amount 1 = .ok (.iload_n 1, 1) := by decide +kernel
theorem dX11_amount_2 : decode cX11_amount 2 = .ok (.invokevirtual 280, 3) := by decide +kernel
theorem dX11_amount_5 : decode cX11_amount 5 = .ok (.astore_n 3, 1) := by decide +kernel
theorem dX11_amount_6 : decode cX11_amount 6 = .ok (.aload_n 3, 1) := by decide +kernel
theorem dX11_amount_7 : decode cX11_amount 7 = .ok (.ifnull 11, 3) := by decide +kernel
theorem dX11_amount_10 : decode cX11_amount 10 = .ok (.aload_n 3, 1) := by decide +kernel
theorem dX11_amount_11 : decode cX11_amount 11 = .ok (.iload_n 2, 1) := by decide +kernel
theorem dX11_amount_12 : decode cX11_amount 12 = .ok (.invokevirtual 287, 3) := by decide +kernel
theorem dX11_amount_15 : decode cX11_amount 15 = .ok (.ifCond .ne 5, 3) := by decide +kernel
theorem dX11_amount_18 : decode cX11_amount 18 = .ok (.iconst (-1), 1) := by decide +kernel
theorem dX11_amount_19 : decode cX11_amount 19 = .ok (.ireturn, 1) := by decide +kernel
theorem dX11_amount_20 : decode cX11_amount 20 = .ok (.aload_n 3, 1) := by decide +kernel
theorem dX11_amount_21 : decode cX11_amount 21 = .ok (.iload_n 2, 1) := by decide +kernel
theorem dX11_amount_22 : decode cX11_amount 22 = .ok (.invokevirtual 304, 3) := by decide +kernel
theorem dX11_amount_25 : decode cX11_amount 25 = .ok (.ireturn, 1) := by decide +kernel
theorem dX11_reversible_0 : decode cX11_reversible 0 = .ok (.aload_n 0, 1) := by decide +kernel
theorem dX11_reversible_1 : decode cX11_reversible 1 = .ok (.iload_n 1, 1) := by decide +kernel
theorem dX11_reversible_2 : decode cX11_reversible 2 = .ok (.invokevirtual 117, 3) := by decide +kernel
theorem dX11_reversible_5 : decode cX11_reversible 5 = .ok (.astore_n 2, 1) := by decide +kernel
theorem dX11_reversible_6 : decode cX11_reversible 6 = .ok (.aload_n 2, 1) := by decide +kernel
theorem dX11_reversible_7 : decode cX11_reversible 7 = .ok (.ifnonnull 5, 3) := by decide +kernel
theorem dX11_reversible_10 : decode cX11_reversible 10 = .ok (.iconst (-1), 1) := by decide +kernel
theorem dX11_reversible_11 : decode cX11_reversible 11 = .ok (.ireturn, 1) := by decide +kernel
theorem dX11_reversible_12 : decode cX11_reversible 12 = .ok (.aload_n 2, 1) := by decide +kernel
theorem dX11_reversible_13 : decode cX11_reversible 13 = .ok (.invokevirtual 273, 3) := by decide +kernel
theorem dX11_reversible_16 : decode cX11_reversible 16 = .ok (.ifCond .ne 6, 3) := by decide +kernel
theorem dX11_reversible_19 : decode cX11_reversible 19 = .ok (.bipush (-2), 2) := by decide +kernel
theorem dX11_reversible_21 : decode cX11_reversible 21 = .ok (.ireturn, 1) := by decide +kernel
theorem dX11_reversible_22 : decode cX11_reversible 22 = .ok (.aload_n 2, 1) := by decide +kernel
theorem dX11_reversible_23 : decode cX11_reversible 23 = .ok (.invokevirtual 307, 3) := by decide +kernel
theorem dX11_reversible_26 : decode cX11_reversible 26 = .ok (.ifCond .eq 7, 3) := by decide +kernel
theorem dX11_reversible_29 : decode cX11_reversible 29 = .ok (.iconst 1, 1) := by decide +kernel
theorem dX11_reversible_30 : decode cX11_reversible 30 = .ok (.goto 4, 3) := by decide +kernel
theorem dX11_reversible_33 : decode cX11_reversible 33 = .ok (.iconst 0, 1) := by decide +kernel
theorem dX11_reversible_34 : decode cX11_reversible 34 = .ok (.ireturn, 1) := by decide +kernel
theorem dX11_clash_0 : decode cX11_clash 0 = .ok (.aload_n 0, 1) := by decide +kernel
theorem dX11_clash_1 : decode cX11_clash 1 = .ok (.iload_n 1, 1) := by decide +kernel
theorem dX11_clash_2 : decode cX11_clash 2 = .ok (.invokevirtual 117, 3) := by decide +kernel
theorem dX11_clash_5 : decode cX11_clash 5 = .ok (.astore_n 3, 1) := by decide +kernel
theorem dX11_clash_6 : decode cX11_clash 6 = .ok (.aload_n 3, 1) := by decide +kernel
theorem dX11_clash_7 : decode cX11_clash 7 = .ok (.ifnull 12, 3) := by decide +kernel
theorem dX11_clash_10 : decode cX11_clash 10 = .ok (.iload_n 2, 1) := by decide +kernel
theorem dX11_clash_11 : decode cX11_clash 11 = .ok (.ifCond .lt 8, 3) := by decide +kernel
theorem dX11_clash_14 : decode cX11_clash 14 = .ok (.iload_n 2, 1) := by decide +kernel
theorem dX11_clash_15 : decode cX11_clash 15 = .ok (.iconst 1, 1) := by decide +kernel
theorem dX11_clash_16 : decode cX11_clash 16 = .ok (.if_icmp .le 5, 3) := by decide +kernel
theorem dX11_clash_19 : decode cX11_clash 19 = .ok (.iconst (-1), 1) := by decide +kernel
theorem dX11_clash_20 : decode cX11_clash 20 = .ok (.ireturn, 1) := by decide +kernel
theorem dX11_clash_21 : decode cX11_clash 21 = .ok (.aload_n 3, 1) := by decide +kernel
theorem dX11_clash_22 : decode cX11_clash 22 = .ok (.invokevirtual 273, 3) := by decide +kernel
theorem dX11_clash_25 : decode cX11_clash 25 = .ok (.ifCond .eq 10, 3) := by decide +kernel
theorem dX11_clash_28 : decode cX11_clash 28 = .ok (.aload_n 3, 1) := by decide +kernel
theorem dX11_clash_29 : decode cX11_clash 29 = .ok (.invokevirtual 307, 3) := by decide +kernel
theorem dX11_clash_32 : decode cX11_clash 32 = .ok (.ifCond .eq 6, 3) := by decide +kernel
theorem dX11_clash_35 : decode cX11_clash 35 = .ok (.bipush (-2), 2) := by decide +kernel
theorem dX11_clash_37 : decode cX11_clash 37 = .ok (.ireturn, 1) := by decide +kernel
theorem dX11_clash_38 : decode cX11_clash 38 = .ok (.iload_n 2, 1) := by decide +kernel
theorem dX11_clash_39 : decode cX11_clash 39 = .ok (.ifCond .ne 10, 3) := by decide +kernel
theorem dX11_clash_42 : decode cX11_clash 42 = .ok (.aload_n 3, 1) := by decide +kernel
theorem dX11_clash_43 : decode cX11_clash 43 = .ok (.getfield 310, 3) := by decide +kernel
theorem dX11_clash_46 : decode cX11_clash 46 = .ok (.goto 7, 3) := by decide +kernel
theorem dX11_clash_49 : decode cX11_clash 49 = .ok (.aload_n 3, 1) := by decide +kernel
theorem dX11_clash_50 : decode cX11_clash 50 = .ok (.getfield 313, 3) := by decide +kernel
theorem dX11_clash_53 : decode cX11_clash 53 = .ok (.ireturn, 1) := by decide +kernel
theorem dX11_weights_0 : decode cX11_weights 0 = .ok (.aload_n 0, 1) := by decide +kernel
theorem dX11_weights_1 : decode cX11_weights 1 = .ok (.iload_n 1, 1) := by decide +kernel
theorem dX11_weights_2 : decode cX11_weights 2 = .ok (.invokevirtual 117, 3) := by decide +kernel
theorem dX11_weights_5 : decode cX11_weights 5 = .ok (.astore_n 2, 1) := by decide +kernel
theorem dX11_weights_6 : decode cX11_weights 6 = .ok (.aload_n 2, 1) := by decide +kernel
theorem dX11_weights_7 : decode cX11_weights 7 = .ok (.ifnonnull 5, 3) := by decide +kernel
theorem dX11_weights_10 : decode cX11_weights 10 = .ok (.iconst (-1), 1) := by decide +kernel
theorem dX11_weights_11 : decode cX11_weights 11 = .ok (.ireturn, 1) := by decide +kernel
theorem dX11_weights_12 : decode cX11_weights 12 = .ok (.aload_n 2, 1) := by decide +kernel
theorem dX11_weights_13 : decode cX11_weights 13 = .ok (.invokevirtual 273, 3) := by decide +kernel
theorem dX11_weights_16 : decode cX11_weights 16 = .ok (.ifCond .eq 10, 3) := by decide +kernel
theorem dX11_weights_19 : decode cX11_weights 19 = .ok (.aload_n 2, 1) := by decide +kernel
theorem dX11_weights_20 : decode cX11_weights 20 = .ok (.getfield 316, 3) := by decide +kernel
theorem dX11_weights_23 : decode cX11_weights 23 = .ok (.goto 5, 3) := by decide +kernel
theorem dX11_weights_26 : decode cX11_weights 26 = .ok (.bipush (-2), 2) := by decide +kernel
theorem dX11_weights_28 : decode cX11_weights 28 = .ok (.ireturn, 1) := by decide +kernel
theorem dX11_weight_0 : decode cX11_weight 0 = .ok (.aload_n 0, 1) := by decide +kernel
theorem dX11_weight_1 : decode cX11_weight 1 = .ok (.iload_n 1, 1) := by decide +kernel
theorem dX11_weight_2 : decode cX11_weight 2 = .ok (.invokevirtual 117, 3) := by decide +kernel
theorem dX11_weight_5 : decode cX11_weight 5 = .ok (.astore 4, 2) := by decide +kernel
theorem dX11_weight_7 : decode cX11_weight 7 = .ok (.aload 4, 2) := by decide +kernel
theorem dX11_weight_9 : decode cX11_weight 9 = .ok (.ifnonnull 7, 3) := by decide +kernel
theorem dX11_weight_12 : decode cX11_weight 12 = .ok (.iconst 0, 1) := by decide +kernel
theorem dX11_weight_13 : decode cX11_weight 13 = .ok (.goto 10, 3) := by decide +kernel
theorem dX11_weight_16 : decode cX11_weight 16 = .ok (.aload 4, 2) := by decide +kernel
theorem dX11_weight_18 : decode cX11_weight 18 = .ok (.iload_n 2, 1) := by decide +kernel
theorem dX11_weight_19 : decode cX11_weight 19 = .ok (.iload_n 3, 1) := by decide +kernel
theorem dX11_weight_20 : decode cX11_weight 20 = .ok (.invokevirtual 319, 3) := by decide +kernel
theorem dX11_weight_23 : decode cX11_weight 23 = .ok (.ireturn, 1) := by decide +kernel
theorem dX11_count_0 : decode cX11_count 0 = .ok (.iload_n 1, 1) := by decide +kernel
theorem dX11_count_1 : decode cX11_count 1 = .ok (.tableswitch 75 0 5 #[39, 44, 49, 54, 59, 67], 39) := by decide +kernel
theorem dX11_count_40 : decode cX11_count 40 = .ok (.aload_n 0, 1) := by decide +kernel
theorem dX11_count_41 : decode cX11_count 41 = .ok (.getfield 102, 3) := by decide +kernel
theorem dX11_count_44 : decode cX11_count 44 = .ok (.ireturn, 1) := by decide +kernel
theorem dX11_count_45 : decode cX11_count 45 = .ok (.aload_n 0, 1) := by decide +kernel
theorem dX11_count_46 : decode cX11_count 46 = .ok (.getfield 125, 3) := by decide +kernel
theorem dX11_count_49 : decode cX11_count 49 = .ok (.ireturn, 1) := by decide +kernel
theorem dX11_count_50 : decode cX11_count 50 = .ok (.aload_n 0, 1) := by decide +kernel
theorem dX11_count_51 : decode cX11_count 51 = .ok (.getfield 128, 3) := by decide +kernel
theorem dX11_count_54 : decode cX11_count 54 = .ok (.ireturn, 1) := by decide +kernel
theorem dX11_count_55 : decode cX11_count 55 = .ok (.aload_n 0, 1) := by decide +kernel
theorem dX11_count_56 : decode cX11_count 56 = .ok (.getfield 245, 3) := by decide +kernel
theorem dX11_count_59 : decode cX11_count 59 = .ok (.ireturn, 1) := by decide +kernel
theorem dX11_count_60 : decode cX11_count 60 = .ok (.aload_n 0, 1) := by decide +kernel
theorem dX11_count_61 : decode cX11_count 61 = .ok (.getfield 84, 3) := by decide +kernel
theorem dX11_count_64 : decode cX11_count 64 = .ok (.getfield 264, 3) := by decide +kernel
theorem dX11_count_67 : decode cX11_count 67 = .ok (.ireturn, 1) := by decide +kernel
theorem dX11_count_68 : decode cX11_count 68 = .ok (.aload_n 0, 1) := by decide +kernel
theorem dX11_count_69 : decode cX11_count 69 = .ok (.getfield 10, 3) := by decide +kernel
theorem dX11_count_72 : decode cX11_count 72 = .ok (.invokevirtual 88, 3) := by decide +kernel
theorem dX11_count_75 : decode cX11_count 75 = .ok (.ireturn, 1) := by decide +kernel
theorem dX11_count_76 : decode cX11_count 76 = .ok (.iconst (-1), 1) := by decide +kernel
theorem dX11_count_77 : decode cX11_count 77 = .ok (.ireturn, 1) := by decide +kernel
theorem dX11_remove_0 : decode cX11_remove 0 = .ok (.iload_n 1, 1) := by decide +kernel
theorem dX11_remove_1 : decode cX11_remove 1 = .ok (.iconst 1, 1) := by decide +kernel
theorem dX11_remove_2 : decode cX11_remove 2 = .ok (.if_icmp .ne 28, 3) := by decide +kernel
theorem dX11_remove_5 : decode cX11_remove 5 = .ok (.aload_n 0, 1) := by decide +kernel
theorem dX11_remove_6 : decode cX11_remove 6 = .ok (.getfield 125, 3) := by decide +kernel
theorem dX11_remove_9 : decode cX11_remove 9 = .ok (.ifCond .ne 6, 3) := by decide +kernel
theorem dX11_remove_12 : decode cX11_remove 12 = .ok (.bipush (-2), 2) := by decide +kernel
theorem dX11_remove_14 : decode cX11_remove 14 = .ok (.ireturn, 1) := by decide +kernel
theorem dX11_remove_15 : decode cX11_remove 15 = .ok (.aload_n 0, 1) := by decide +kernel
theorem dX11_remove_16 : decode cX11_remove 16 = .ok (.dup, 1) := by decide +kernel
theorem dX11_remove_17 : decode cX11_remove 17 = .ok (.getfield 125, 3) := by decide +kernel
theorem dX11_remove_20 : decode cX11_remove 20 = .ok (.iconst 1, 1) := by decide +kernel
theorem dX11_remove_21 : decode cX11_remove 21 = .ok (.isub, 1) := by decide +kernel
theorem dX11_remove_22 : decode cX11_remove 22 = .ok (.putfield 125, 3) := by decide +kernel
theorem dX11_remove_25 : decode cX11_remove 25 = .ok (.aload_n 0, 1) := by decide +kernel
theorem dX11_remove_26 : decode cX11_remove 26 = .ok (.getfield 125, 3) := by decide +kernel
theorem dX11_remove_29 : decode cX11_remove 29 = .ok (.ireturn, 1) := by decide +kernel
theorem dX11_remove_30 : decode cX11_remove 30 = .ok (.iload_n 1, 1) := by decide +kernel
theorem dX11_remove_31 : decode cX11_remove 31 = .ok (.iconst 2, 1) := by decide +kernel
theorem dX11_remove_32 : decode cX11_remove 32 = .ok (.if_icmp .ne 28, 3) := by decide +kernel
theorem dX11_remove_35 : decode cX11_remove 35 = .ok (.aload_n 0, 1) := by decide +kernel
theorem dX11_remove_36 : decode cX11_remove 36 = .ok (.getfield 128, 3) := by decide +kernel
theorem dX11_remove_39 : decode cX11_remove 39 = .ok (.ifCond .ne 6, 3) := by decide +kernel
theorem dX11_remove_42 : decode cX11_remove 42 = .ok (.bipush (-2), 2) := by decide +kernel
theorem dX11_remove_44 : decode cX11_remove 44 = .ok (.ireturn, 1) := by decide +kernel
theorem dX11_remove_45 : decode cX11_remove 45 = .ok (.aload_n 0, 1) := by decide +kernel
theorem dX11_remove_46 : decode cX11_remove 46 = .ok (.dup, 1) := by decide +kernel
theorem dX11_remove_47 : decode cX11_remove 47 = .ok (.getfield 128, 3) := by decide +kernel
theorem dX11_remove_50 : decode cX11_remove 50 = .ok (.iconst 1, 1) := by decide +kernel
theorem dX11_remove_51 : decode cX11_remove 51 = .ok (.isub, 1) := by decide +kernel
theorem dX11_remove_52 : decode cX11_remove 52 = .ok (.putfield 128, 3) := by decide +kernel
theorem dX11_remove_55 : decode cX11_remove 55 = .ok (.aload_n 0, 1) := by decide +kernel
theorem dX11_remove_56 : decode cX11_remove 56 = .ok (.getfield 128, 3) := by decide +kernel
theorem dX11_remove_59 : decode cX11_remove 59 = .ok (.ireturn, 1) := by decide +kernel
theorem dX11_remove_60 : decode cX11_remove 60 = .ok (.iconst (-1), 1) := by decide +kernel
theorem dX11_remove_61 : decode cX11_remove 61 = .ok (.ireturn, 1) := by decide +kernel
theorem dX12_init_0 : decode cX12_init 0 = .ok (.aload_n 0, 1) := by decide +kernel
theorem dX12_init_1 : decode cX12_init 1 = .ok (.invokespecial 1, 3) := by decide +kernel
theorem dX12_init_4 : decode cX12_init 4 = .ok (.aload_n 0, 1) := by decide +kernel
theorem dX12_init_5 : decode cX12_init 5 = .ok (.sipush 2000, 3) := by decide +kernel
theorem dX12_init_8 : decode cX12_init 8 = .ok (.newarray .int, 2) := by decide +kernel
theorem dX12_init_10 : decode cX12_init 10 = .ok (.putfield 7, 3) := by decide +kernel
theorem dX12_init_13 : decode cX12_init 13 = .ok (.aload_n 0, 1) := by decide +kernel
theorem dX12_init_14 : decode cX12_init 14 = .ok (.sipush 32000, 3) := by decide +kernel
theorem dX12_init_17 : decode cX12_init 17 = .ok (.newarray .byte, 2) := by decide +kernel
theorem dX12_init_19 : decode cX12_init 19 = .ok (.putfield 13, 3) := by decide +kernel
theorem dX12_init_22 : decode cX12_init 22 = .ok (.aload_n 0, 1) := by decide +kernel
theorem dX12_init_23 : decode cX12_init 23 = .ok (.bipush 16, 2) := by decide +kernel
theorem dX12_init_25 : decode cX12_init 25 = .ok (.newarray .int, 2) := by decide +kernel
theorem dX12_init_27 : decode cX12_init 27 = .ok (.putfield 17, 3) := by decide +kernel
theorem dX12_init_30 : decode cX12_init 30 = .ok (.aload_n 0, 1) := by decide +kernel
theorem dX12_init_31 : decode cX12_init 31 = .ok (.bipush 16, 2) := by decide +kernel
theorem dX12_init_33 : decode cX12_init 33 = .ok (.newarray .int, 2) := by decide +kernel
theorem dX12_init_35 : decode cX12_init 35 = .ok (.putfield 20, 3) := by decide +kernel
theorem dX12_init_38 : decode cX12_init 38 = .ok (.aload_n 0, 1) := by decide +kernel
theorem dX12_init_39 : decode cX12_init 39 = .ok (.bipush 16, 2) := by decide +kernel
theorem dX12_init_41 : decode cX12_init 41 = .ok (.newarray .int, 2) := by decide +kernel
theorem dX12_init_43 : decode cX12_init 43 = .ok (.putfield 23, 3) := by decide +kernel
theorem dX12_init_46 : decode cX12_init 46 = .ok (.aload_n 0, 1) := by decide +kernel
theorem dX12_init_47 : decode cX12_init 47 = .ok (.bipush 16, 2) := by decide +kernel
theorem dX12_init_49 : decode cX12_init 49 = .ok (.newarray .int, 2) := by decide +kernel
theorem dX12_init_51 : decode cX12_init 51 = .ok (.putfield 26, 3) := by decide +kernel
theorem dX12_init_54 : decode cX12_init 54 = .ok (.aload_n 0, 1) := by decide +kernel
theorem dX12_init_55 : decode cX12_init 55 = .ok (.bipush 16, 2) := by decide +kernel
theorem dX12_init_57 : decode cX12_init 57 = .ok (.newarray .int, 2) := by decide +kernel
theorem dX12_init_59 : decode cX12_init 59 = .ok (.putfield 29, 3) := by decide +kernel
theorem dX12_init_62 : decode cX12_init 62 = .ok (.aload_n 0, 1) := by decide +kernel
theorem dX12_init_63 : decode cX12_init 63 = .ok (.sipush 4096, 3) := by decide +kernel
theorem dX12_init_66 : decode cX12_init 66 = .ok (.newarray .int, 2) := by decide +kernel
theorem dX12_init_68 : decode cX12_init 68 = .ok (.putfield 32, 3) := by decide +kernel
theorem dX12_init_71 : decode cX12_init 71 = .ok (.aload_n 0, 1) := by decide +kernel
theorem dX12_init_72 : decode cX12_init 72 = .ok (.ldc 35, 2) := by decide +kernel
theorem dX12_init_74 : decode cX12_init 74 = .ok (.newarray .byte, 2) := by decide +kernel
theorem dX12_init_76 : decode cX12_init 76 = .ok (.putfield 36, 3) := by decide +kernel
theorem dX12_init_79 : decode cX12_init 79 = .ok (.aload_n 0, 1) := by decide +kernel
theorem dX12_init_80 : decode cX12_init 80 = .ok (.bipush 8, 2) := by decide +kernel
theorem dX12_init_82 : decode cX12_init 82 = .ok (.newarray .int, 2) := by decide +kernel
theorem dX12_init_84 : decode cX12_init 84 = .ok (.putfield 39, 3) := by decide +kernel
theorem dX12_init_87 : decode cX12_init 87 = .ok (.aload_n 0, 1) := by decide +kernel
theorem dX12_init_88 : decode cX12_init 88 = .ok (.bipush 8, 2) := by decide +kernel
theorem dX12_init_90 : decode cX12_init 90 = .ok (.newarray .int, 2) := by decide +kernel
theorem dX12_init_92 : decode cX12_init 92 = .ok (.putfield 42, 3) := by decide +kernel
theorem dX12_init_95 : decode cX12_init 95 = .ok (.aload_n 0, 1) := by decide +kernel
theorem dX12_init_96 : decode cX12_init 96 = .ok (.ldc 45, 2) := by decide +kernel
theorem dX12_init_98 : decode cX12_init 98 = .ok (.newarray .byte, 2) := by decide +kernel
theorem dX12_init_100 : decode cX12_init 100 = .ok (.putfield 46, 3) := by decide +kernel
theorem dX12_init_103 : decode cX12_init 103 = .ok (.aload_n 0, 1) := by decide +kernel
theorem dX12_init_104 : decode cX12_init 104 = .ok (.ldc 45, 2) := by decide +kernel
theorem dX12_init_106 : decode cX12_init 106 = .ok (.newarray .byte, 2) := by decide +kernel
theorem dX12_init_108 : decode cX12_init 108 = .ok (.putfield 49, 3) := by decide +kernel
theorem dX12_init_111 : decode cX12_init 111 = .ok (.aload_n 0, 1) := by decide +kernel
theorem dX12_init_112 : decode cX12_init 112 = .ok (.sipush 2000, 3) := by decide +kernel
theorem dX12_init_115 : decode cX12_init 115 = .ok (.newarray .int, 2) := by decide +kernel
theorem dX12_init_117 : decode cX12_init 117 = .ok (.putfield 52, 3) := by decide +kernel
theorem dX12_init_120 : decode cX12_init 120 = .ok (.aload_n 0, 1) := by decide +kernel
theorem dX12_init_121 : decode cX12_init 121 = .ok (.sipush 2000, 3) := by decide +kernel
theorem dX12_init_124 : decode cX12_init 124 = .ok (.newarray .int, 2) := by decide +kernel
theorem dX12_init_126 : decode cX12_init 126 = .ok (.putfield 55, 3) := by decide +kernel
theorem dX12_init_129 : decode cX12_init 129 = .ok (.aload_n 0, 1) := by decide +kernel
theorem dX12_init_130 : decode cX12_init 130 = .ok (.ldc 58, 2) := by decide +kernel
theorem dX12_init_132 : decode cX12_init 132 = .ok (.newarray .byte, 2) := by decide +kernel
theorem dX12_init_134 : decode cX12_init 134 = .ok (.putfield 59, 3) := by decide +kernel
theorem dX12_init_137 : decode cX12_init 137 = .ok (.aload_n 0, 1) := by decide +kernel
theorem dX12_init_138 : decode cX12_init 138 = .ok (.sipush 16384, 3) := by decide +kernel
theorem dX12_init_141 : decode cX12_init 141 = .ok (.newarray .int, 2) := by decide +kernel
theorem dX12_init_143 : decode cX12_init 143 = .ok (.putfield 62, 3) := by decide +kernel
theorem dX12_init_146 : decode cX12_init 146 = .ok (.aload_n 0, 1) := by decide +kernel
theorem dX12_init_147 : decode cX12_init 147 = .ok (.sipush 4096, 3) := by decide +kernel
theorem dX12_init_150 : decode cX12_init 150 = .ok (.newarray .int, 2) := by decide +kernel
theorem dX12_init_152 : decode cX12_init 152 = .ok (.putfield 65, 3) := by decide +kernel
theorem dX12_init_155 : decode cX12_init 155 = .ok (.aload_n 0, 1) := by decide +kernel
theorem dX12_init_156 : decode cX12_init 156 = .ok (.sipush 16384, 3) := by decide +kernel
theorem dX12_init_159 : decode cX12_init 159 = .ok (.newarray .int, 2) := by decide +kernel
theorem dX12_init_161 : decode cX12_init 161 = .ok (.putfield 68, 3) := by decide +kernel
theorem dX12_init_164 : decode cX12_init 164 = .ok (.aload_n 0, 1) := by decide +kernel
theorem dX12_init_165 : decode cX12_init 165 = .ok (.sipush 16384, 3) := by decide +kernel
theorem dX12_init_168 : decode cX12_init 168 = .ok (.newarray .int, 2) := by decide +kernel
theorem dX12_init_170 : decode cX12_init 170 = .ok (.putfield 71, 3) := by decide +kernel
theorem dX12_init_173 : decode cX12_init 173 = .ok (.aload_n 0, 1) := by decide +kernel
theorem dX12_init_174 : decode cX12_init 174 = .ok (.sipush 16384, 3) := by decide +kernel
theorem dX12_init_177 : decode cX12_init 177 = .ok (.newarray .int, 2) := by decide +kernel
theorem dX12_init_179 : decode cX12_init 179 = .ok (.putfield 74, 3) := by decide +kernel
theorem dX12_init_182 : decode cX12_init 182 = .ok (.aload_n 0, 1) := by decide +kernel
theorem dX12_init_183 : decode cX12_init 183 = .ok (.sipush 16384, 3) := by decide +kernel
theorem dX12_init_186 : decode cX12_init 186 = .ok (.newarray .int, 2) := by decide +kernel
theorem dX12_init_188 : decode cX12_init 188 = .ok (.putfield 77, 3) := by decide +kernel
theorem dX12_init_191 : decode cX12_init 191 = .ok (.aload_n 0, 1) := by decide +kernel
theorem dX12_init_192 : decode cX12_init 192 = .ok (.sipush 400, 3) := by decide +kernel
theorem dX12_init_195 : decode cX12_init 195 = .ok (.newarray .byte, 2) := by decide +kernel
theorem dX12_init_197 : decode cX12_init 197 = .ok (.putfield 80, 3) := by decide +kernel
theorem dX12_init_200 : decode cX12_init 200 = .ok (.aload_n 0, 1) := by decide +kernel
theorem dX12_init_201 : decode cX12_init 201 = .ok (.sipush 400, 3) := by decide +kernel
theorem dX12_init_204 : decode cX12_init 204 = .ok (.newarray .byte, 2) := by decide +kernel
theorem dX12_init_206 : decode cX12_init 206 = .ok (.putfield 83, 3) := by decide +kernel
theorem dX12_init_209 : decode cX12_init 209 = .ok (.aload_n 0, 1) := by decide +kernel
theorem dX12_init_210 : decode cX12_init 210 = .ok (.ldc 45, 2) := by decide +kernel
theorem dX12_init_212 : decode cX12_init 212 = .ok (.newarray .int, 2) := by decide +kernel
theorem dX12_init_214 : decode cX12_init 214 = .ok (.putfield 86, 3) := by decide +kernel
theorem dX12_init_217 : decode cX12_init 217 = .ok (.aload_n 0, 1) := by decide +kernel
theorem dX12_init_218 : decode cX12_init 218 = .ok (.ldc 45, 2) := by decide +kernel
theorem dX12_init_220 : decode cX12_init 220 = .ok (.newarray .boolean, 2) := by decide +kernel
theorem dX12_init_222 : decode cX12_init 222 = .ok (.putfield 89, 3) := by decide +kernel
theorem dX12_init_225 : decode cX12_init 225 = .ok (.aload_n 0, 1) := by decide +kernel
theorem dX12_init_226 : decode cX12_init 226 = .ok (.bipush 8, 2) := by decide +kernel
theorem dX12_init_228 : decode cX12_init 228 = .ok (.newarray .int, 2) := by decide +kernel
theorem dX12_init_230 : decode cX12_init 230 = .ok (.putfield 93, 3) := by decide +kernel
theorem dX12_init_233 : decode cX12_init 233 = .ok (.aload_n 0, 1) := by decide +kernel
theorem dX12_init_234 : decode cX12_init 234 = .ok (.bipush 8, 2) := by decide +kernel
theorem dX12_init_236 : decode cX12_init 236 = .ok (.newarray .int, 2) := by decide +kernel
theorem dX12_init_238 : decode cX12_init 238 = .ok (.putfield 96, 3) := by decide +kernel
theorem dX12_init_241 : decode cX12_init 241 = .ok (.aload_n 0, 1) := by decide +kernel
theorem dX12_init_242 : decode cX12_init 242 = .ok (.bipush 8, 2) := by decide +kernel
theorem dX12_init_244 : decode cX12_init 244 = .ok (.newarray .int, 2) := by decide +kernel
theorem dX12_init_246 : decode cX12_init 246 = .ok (.putfield 99, 3) := by decide +kernel
theorem dX12_init_249 : decode cX12_init 249 = .ok (.aload_n 0, 1) := by decide +kernel
theorem dX12_init_250 : decode cX12_init 250 = .ok (.bipush 8, 2) := by decide +kernel
theorem dX12_init_252 : decode cX12_init 252 = .ok (.newarray .int, 2) := by decide +kernel
theorem dX12_init_254 : decode cX12_init 254 = .ok (.putfield 102, 3) := by decide +kernel
theorem dX12_init_257 : decode cX12_init 257 = .ok (.aload_n 0, 1) := by decide +kernel
theorem dX12_init_258 : decode cX12_init 258 = .ok (.sipush 2048, 3) := by decide +kernel
theorem dX12_init_261 : decode cX12_init 261 = .ok (.newarray .int, 2) := by decide +kernel
theorem dX12_init_263 : decode cX12_init 263 = .ok (.putfield 105, 3) := by decide +kernel
theorem dX12_init_266 : decode cX12_init 266 = .ok (.aload_n 0, 1) := by decide +kernel
theorem dX12_init_267 : decode cX12_init 267 = .ok (.sipush 256, 3) := by decide +kernel
theorem dX12_init_270 : decode cX12_init 270 = .ok (.newarray .int, 2) := by decide +kernel
theorem dX12_init_272 : decode cX12_init 272 = .ok (.putfield 108, 3) := by decide +kernel
theorem dX12_init_275 : decode cX12_init 275 = .ok (.aload_n 0, 1) := by decide +kernel
theorem dX12_init_276 : decode cX12_init 276 = .ok (.bipush 16, 2) := by decide +kernel
theorem dX12_init_278 : decode cX12_init 278 = .ok (.newarray .long, 2) := by decide +kernel
theorem dX12_init_280 : decode cX12_init 280 = .ok (.putfield 111, 3) := by decide +kernel
theorem dX12_init_283 : decode cX12_init 283 = .ok (.aload_n 0, 1) := by decide +kernel
theorem dX12_init_284 : decode cX12_init 284 = .ok (.iconst 4, 1) := by decide +kernel
theorem dX12_init_285 : decode cX12_init 285 = .ok (.newarray .int, 2) := by decide +kernel
theorem dX12_init_287 : decode cX12_init 287 = .ok (.putfield 115, 3) := by decide +kernel
theorem dX12_init_290 : decode cX12_init 290 = .ok (.aload_n 0, 1) := by decide +kernel
theorem dX12_init_291 : decode cX12_init 291 = .ok (.iconst 4, 1) := by decide +kernel
theorem dX12_init_292 : decode cX12_init 292 = .ok (.newarray .boolean, 2) := by decide +kernel
theorem dX12_init_294 : decode cX12_init 294 = .ok (.putfield 118, 3) := by decide +kernel
theorem dX12_init_297 : decode cX12_init 297 = .ok (.aload_n 0, 1) := by decide +kernel
theorem dX12_init_298 : decode cX12_init 298 = .ok (.iconst 4, 1) := by decide +kernel
theorem dX12_init_299 : decode cX12_init 299 = .ok (.newarray .long, 2) := by decide +kernel
theorem dX12_init_301 : decode cX12_init 301 = .ok (.putfield 121, 3) := by decide +kernel
theorem dX12_init_304 : decode cX12_init 304 = .ok (.return_, 1) := by decide +kernel
