theorem dX12_about_0 : decode cX12_about 0 = .ok (.aload_n 0, 1) := by decide +kernel
theorem dX12_about_1 : decode cX12_about 1 = .ok (.iload_n 1, 1) := by decide +kernel
theorem dX12_about_2 : decode cX12_about 2 = .ok (.invokevirtual 178, 3) := by decide +kernel
theorem dX12_about_5 : decode cX12_about 5 = .ok (.ifCond .eq 13, 3) := by decide +kernel
theorem dX12_about_8 : decode cX12_about 8 = .ok (.iload_n 2, 1) := by decide +kernel
theorem dX12_about_9 : decode cX12_about 9 = .ok (.ifCond .lt 9, 3) := by decide +kernel
theorem dX12_about_12 : decode cX12_about 12 = .ok (.iload_n 2, 1) := by decide +kernel
theorem dX12_about_13 : decode cX12_about 13 = .ok (.bipush 7, 2) := by decide +kernel
theorem dX12_about_15 : decode cX12_about 15 = .ok (.if_icmp .le 5, 3) := by decide +kernel
theorem dX12_about_18 : decode cX12_about 18 = .ok (.iconst (-1), 1) := by decide +kernel
theorem dX12_about_19 : decode cX12_about 19 = .ok (.ireturn, 1) := by decide +kernel
theorem dX12_about_20 : decode cX12_about 20 = .ok (.aload_n 0, 1) := by decide +kernel
theorem dX12_about_21 : decode cX12_about 21 = .ok (.aload_n 0, 1) := by decide +kernel
theorem dX12_about_22 : decode cX12_about 22 = .ok (.getfield 36, 3) := by decide +kernel
theorem dX12_about_25 : decode cX12_about 25 = .ok (.ldc 45, 2) := by decide +kernel
theorem dX12_about_27 : decode cX12_about 27 = .ok (.iload_n 1, 1) := by decide +kernel
theorem dX12_about_28 : decode cX12_about 28 = .ok (.imul, 1) := by decide +kernel
theorem dX12_about_29 : decode cX12_about 29 = .ok (.invokevirtual 204, 3) := by decide +kernel
theorem dX12_about_32 : decode cX12_about 32 = .ok (.iload_n 2, 1) := by decide +kernel
theorem dX12_about_33 : decode cX12_about 33 = .ok (.tableswitch 142 0 6 #[43, 48, 68, 88, 108, 128, 135], 43) := by decide +kernel
theorem dX12_about_76 : decode cX12_about 76 = .ok (.aload_n 0, 1) := by decide +kernel
theorem dX12_about_77 : decode cX12_about 77 = .ok (.getfield 201, 3) := by decide +kernel
theorem dX12_about_80 : decode cX12_about 80 = .ok (.ireturn, 1) := by decide +kernel
theorem dX12_about_81 : decode cX12_about 81 = .ok (.aload_n 0, 1) := by decide +kernel
theorem dX12_about_82 : decode cX12_about 82 = .ok (.getfield 201, 3) := by decide +kernel
theorem dX12_about_85 : decode cX12_about 85 = .ok (.ifCond .ne 7, 3) := by decide +kernel
theorem dX12_about_88 : decode cX12_about 88 = .ok (.iconst 0, 1) := by decide +kernel
theorem dX12_about_89 : decode cX12_about 89 = .ok (.goto 11, 3) := by decide +kernel
theorem dX12_about_92 : decode cX12_about 92 = .ok (.aload_n 0, 1) := by decide +kernel
theorem dX12_about_93 : decode cX12_about 93 = .ok (.getfield 189, 3) := by decide +kernel
theorem dX12_about_96 : decode cX12_about 96 = .ok (.sipush 128, 3) := by decide +kernel
theorem dX12_about_99 : decode cX12_about 99 = .ok (.isub, 1) := by decide +kernel
theorem dX12_about_100 : decode cX12_about 100 = .ok (.ireturn, 1) := by decide +kernel
theorem dX12_about_101 : decode cX12_about 101 = .ok (.aload_n 0, 1) := by decide +kernel
theorem dX12_about_102 : decode cX12_about 102 = .ok (.getfield 201, 3) := by decide +kernel
theorem dX12_about_105 : decode cX12_about 105 = .ok (.ifCond .ne 7, 3) := by decide +kernel
theorem dX12_about_108 : decode cX12_about 108 = .ok (.iconst 0, 1) := by decide +kernel
theorem dX12_about_109 : decode cX12_about 109 = .ok (.goto 11, 3) := by decide +kernel
theorem dX12_about_112 : decode cX12_about 112 = .ok (.aload_n 0, 1) := by decide +kernel
theorem dX12_about_113 : decode cX12_about 113 = .ok (.getfield 195, 3) := by decide +kernel
theorem dX12_about_116 : decode cX12_about 116 = .ok (.sipush 128, 3) := by decide +kernel
theorem dX12_about_119 : decode cX12_about 119 = .ok (.isub, 1) := by decide +kernel
theorem dX12_about_120 : decode cX12_about 120 = .ok (.ireturn, 1) := by decide +kernel
theorem dX12_about_121 : decode cX12_about 121 = .ok (.aload_n 0, 1) := by decide +kernel
theorem dX12_about_122 : decode cX12_about 122 = .ok (.getfield 201, 3) := by decide +kernel
theorem dX12_about_125 : decode cX12_about 125 = .ok (.ifCond .ne 7, 3) := by decide +kernel
theorem dX12_about_128 : decode cX12_about 128 = .ok (.iconst 0, 1) := by decide +kernel
theorem dX12_about_129 : decode cX12_about 129 = .ok (.goto 11, 3) := by decide +kernel
theorem dX12_about_132 : decode cX12_about 132 = .ok (.aload_n 0, 1) := by decide +kernel
theorem dX12_about_133 : decode cX12_about 133 = .ok (.getfield 192, 3) := by decide +kernel
theorem dX12_about_136 : decode cX12_about 136 = .ok (.sipush 128, 3) := by decide +kernel
theorem dX12_about_139 : decode cX12_about 139 = .ok (.isub, 1) := by decide +kernel
theorem dX12_about_140 : decode cX12_about 140 = .ok (.ireturn, 1) := by decide +kernel
theorem dX12_about_141 : decode cX12_about 141 = .ok (.aload_n 0, 1) := by decide +kernel
theorem dX12_about_142 : decode cX12_about 142 = .ok (.getfield 201, 3) := by decide +kernel
theorem dX12_about_145 : decode cX12_about 145 = .ok (.ifCond .ne 7, 3) := by decide +kernel
theorem dX12_about_148 : decode cX12_about 148 = .ok (.iconst 0, 1) := by decide +kernel
theorem dX12_about_149 : decode cX12_about 149 = .ok (.goto 11, 3) := by decide +kernel
theorem dX12_about_152 : decode cX12_about 152 = .ok (.aload_n 0, 1) := by decide +kernel
theorem dX12_about_153 : decode cX12_about 153 = .ok (.getfield 198, 3) := by decide +kernel
theorem dX12_about_156 : decode cX12_about 156 = .ok (.sipush 128, 3) := by decide +kernel
theorem dX12_about_159 : decode cX12_about 159 = .ok (.isub, 1) := by decide +kernel
theorem dX12_about_160 : decode cX12_about 160 = .ok (.ireturn, 1) := by decide +kernel
theorem dX12_about_161 : decode cX12_about 161 = .ok (.aload_n 0, 1) := by decide +kernel
theorem dX12_about_162 : decode cX12_about 162 = .ok (.getfield 42, 3) := by decide +kernel
theorem dX12_about_165 : decode cX12_about 165 = .ok (.iload_n 1, 1) := by decide +kernel
theorem dX12_about_166 : decode cX12_about 166 = .ok (.iaload, 1) := by decide +kernel
theorem dX12_about_167 : decode cX12_about 167 = .ok (.ireturn, 1) := by decide +kernel
theorem dX12_about_168 : decode cX12_about 168 = .ok (.aload_n 0, 1) := by decide +kernel
theorem dX12_about_169 : decode cX12_about 169 = .ok (.getfield 39, 3) := by decide +kernel
theorem dX12_about_172 : decode cX12_about 172 = .ok (.iload_n 1, 1) := by decide +kernel
theorem dX12_about_173 : decode cX12_about 173 = .ok (.iaload, 1) := by decide +kernel
theorem dX12_about_174 : decode cX12_about 174 = .ok (.ireturn, 1) := by decide +kernel
theorem dX12_about_175 : decode cX12_about 175 = .ok (.aload_n 0, 1) := by decide +kernel
theorem dX12_about_176 : decode cX12_about 176 = .ok (.iload_n 1, 1) := by decide +kernel
theorem dX12_about_177 : decode cX12_about 177 = .ok (.invokevirtual 261, 3) := by decide +kernel
theorem dX12_about_180 : decode cX12_about 180 = .ok (.ireturn, 1) := by decide +kernel
theorem dX12_period_0 : decode cX12_period 0 = .ok (.aload_n 0, 1) := by decide +kernel
theorem dX12_period_1 : decode cX12_period 1 = .ok (.iload_n 1, 1) := by decide +kernel
theorem dX12_period_2 : decode cX12_period 2 = .ok (.invokevirtual 178, 3) := by decide +kernel
theorem dX12_period_5 : decode cX12_period 5 = .ok (.ifCond .eq 14, 3) := by decide +kernel
theorem dX12_period_8 : decode cX12_period 8 = .ok (.iload_n 2, 1) := by decide +kernel
theorem dX12_period_9 : decode cX12_period 9 = .ok (.iconst 1, 1) := by decide +kernel
theorem dX12_period_10 : decode cX12_period 10 = .ok (.if_icmp .lt 9, 3) := by decide +kernel
theorem dX12_period_13 : decode cX12_period 13 = .ok (.iload_n 2, 1) := by decide +kernel
theorem dX12_period_14 : decode cX12_period 14 = .ok (.bipush 60, 2) := by decide +kernel
theorem dX12_period_16 : decode cX12_period 16 = .ok (.if_icmp .le 5, 3) := by decide +kernel
theorem dX12_period_19 : decode cX12_period 19 = .ok (.iconst (-1), 1) := by decide +kernel
theorem dX12_period_20 : decode cX12_period 20 = .ok (.ireturn, 1) := by decide +kernel
theorem dX12_period_21 : decode cX12_period 21 = .ok (.ldc 45, 2) := by decide +kernel
theorem dX12_period_23 : decode cX12_period 23 = .ok (.iload_n 1, 1) := by decide +kernel
theorem dX12_period_24 : decode cX12_period 24 = .ok (.imul, 1) := by decide +kernel
theorem dX12_period_25 : decode cX12_period 25 = .ok (.istore_n 3, 1) := by decide +kernel
theorem dX12_period_26 : decode cX12_period 26 = .ok (.aload_n 0, 1) := by decide +kernel
theorem dX12_period_27 : decode cX12_period 27 = .ok (.aload_n 0, 1) := by decide +kernel
theorem dX12_period_28 : decode cX12_period 28 = .ok (.getfield 36, 3) := by decide +kernel
theorem dX12_period_31 : decode cX12_period 31 = .ok (.iload_n 3, 1) := by decide +kernel
theorem dX12_period_32 : decode cX12_period 32 = .ok (.invokevirtual 204, 3) := by decide +kernel
theorem dX12_period_35 : decode cX12_period 35 = .ok (.aload_n 0, 1) := by decide +kernel
theorem dX12_period_36 : decode cX12_period 36 = .ok (.iload_n 2, 1) := by decide +kernel
theorem dX12_period_37 : decode cX12_period 37 = .ok (.invokevirtual 212, 3) := by decide +kernel
theorem dX12_period_40 : decode cX12_period 40 = .ok (.ifCond .ne 6, 3) := by decide +kernel
theorem dX12_period_43 : decode cX12_period 43 = .ok (.bipush (-2), 2) := by decide +kernel
theorem dX12_period_45 : decode cX12_period 45 = .ok (.ireturn, 1) := by decide +kernel
theorem dX12_period_46 : decode cX12_period 46 = .ok (.iconst 0, 1) := by decide +kernel
theorem dX12_period_47 : decode cX12_period 47 = .ok (.istore 4, 2) := by decide +kernel
theorem dX12_period_49 : decode cX12_period 49 = .ok (.iload 4, 2) := by decide +kernel
theorem dX12_period_51 : decode cX12_period 51 = .ok (.ldc 45, 2) := by decide +kernel
theorem dX12_period_53 : decode cX12_period 53 = .ok (.if_icmp .ge 25, 3) := by decide +kernel
theorem dX12_period_56 : decode cX12_period 56 = .ok (.aload_n 0, 1) := by decide +kernel
theorem dX12_period_57 : decode cX12_period 57 = .ok (.getfield 49, 3) := by decide +kernel
theorem dX12_period_60 : decode cX12_period 60 = .ok (.iload 4, 2) := by decide +kernel
theorem dX12_period_62 : decode cX12_period 62 = .ok (.aload_n 0, 1) := by decide +kernel
theorem dX12_period_63 : decode cX12_period 63 = .ok (.getfield 36, 3) := by decide +kernel
theorem dX12_period_66 : decode cX12_period 66 = .ok (.iload_n 3, 1) := by decide +kernel
theorem dX12_period_67 : decode cX12_period 67 = .ok (.iload 4, 2) := by decide +kernel
theorem dX12_period_69 : decode cX12_period 69 = .ok (.iadd, 1) := by decide +kernel
theorem dX12_period_70 : decode cX12_period 70 = .ok (.baload, 1) := by decide +kernel
theorem dX12_period_71 : decode cX12_period 71 = .ok (.bastore, 1) := by decide +kernel
theorem dX12_period_72 : decode cX12_period 72 = .ok (.iinc 4 1, 3) := by decide +kernel
theorem dX12_period_75 : decode cX12_period 75 = .ok (.goto (-26), 3) := by decide +kernel
theorem dX12_period_78 : decode cX12_period 78 = .ok (.iconst 1, 1) := by decide +kernel
theorem dX12_period_79 : decode cX12_period 79 = .ok (.istore 4, 2) := by decide +kernel
theorem dX12_period_81 : decode cX12_period 81 = .ok (.iload 4, 2) := by decide +kernel
theorem dX12_period_83 : decode cX12_period 83 = .ok (.iload_n 2, 1) := by decide +kernel
theorem dX12_period_84 : decode cX12_period 84 = .ok (.if_icmp .gt 38, 3) := by decide +kernel
theorem dX12_period_87 : decode cX12_period 87 = .ok (.aload_n 0, 1) := by decide +kernel
theorem dX12_period_88 : decode cX12_period 88 = .ok (.aload_n 0, 1) := by decide +kernel
theorem dX12_period_89 : decode cX12_period 89 = .ok (.getfield 39, 3) := by decide +kernel
theorem dX12_period_92 : decode cX12_period 92 = .ok (.iload_n 1, 1) := by decide +kernel
theorem dX12_period_93 : decode cX12_period 93 = .ok (.iaload, 1) := by decide +kernel
theorem dX12_period_94 : decode cX12_period 94 = .ok (.aload_n 0, 1) := by decide +kernel
theorem dX12_period_95 : decode cX12_period 95 = .ok (.getfield 49, 3) := by decide +kernel
theorem dX12_period_98 : decode cX12_period 98 = .ok (.iconst 0, 1) := by decide +kernel
theorem dX12_period_99 : decode cX12_period 99 = .ok (.invokevirtual 215, 3) := by decide +kernel
theorem dX12_period_102 : decode cX12_period 102 = .ok (.aload_n 0, 1) := by decide +kernel
theorem dX12_period_103 : decode cX12_period 103 = .ok (.iload_n 3, 1) := by decide +kernel
theorem dX12_period_104 : decode cX12_period 104 = .ok (.invokevirtual 264, 3) := by decide +kernel
theorem dX12_period_107 : decode cX12_period 107 = .ok (.ifCond .ne 6, 3) := by decide +kernel
theorem dX12_period_110 : decode cX12_period 110 = .ok (.goto 6, 3) := by decide +kernel
theorem dX12_period_113 : decode cX12_period 113 = .ok (.iload 4, 2) := by decide +kernel
theorem dX12_period_115 : decode cX12_period 115 = .ok (.ireturn, 1) := by decide +kernel
theorem dX12_period_116 : decode cX12_period 116 = .ok (.iinc 4 1, 3) := by decide +kernel
theorem dX12_period_119 : decode cX12_period 119 = .ok (.goto (-38), 3) := by decide +kernel
theorem dX12_period_122 : decode cX12_period 122 = .ok (.iconst 0, 1) := by decide +kernel
theorem dX12_period_123 : decode cX12_period 123 = .ok (.ireturn, 1) := by decide +kernel
theorem dX12_isMoved_0 : decode cX12_isMoved 0 = .ok (.aload_n 0, 1) := by decide +kernel
theorem dX12_isMoved_1 : decode cX12_isMoved 1 = .ok (.aload_n 0, 1) := by decide +kernel
theorem dX12_isMoved_2 : decode cX12_isMoved 2 = .ok (.getfield 49, 3) := by decide +kernel
theorem dX12_isMoved_5 : decode cX12_isMoved 5 = .ok (.iconst 0, 1) := by decide +kernel
theorem dX12_isMoved_6 : decode cX12_isMoved 6 = .ok (.invokevirtual 204, 3) := by decide +kernel
theorem dX12_isMoved_9 : decode cX12_isMoved 9 = .ok (.aload_n 0, 1) := by decide +kernel
theorem dX12_isMoved_10 : decode cX12_isMoved 10 = .ok (.getfield 189, 3) := by decide +kernel
theorem dX12_isMoved_13 : decode cX12_isMoved 13 = .ok (.istore_n 2, 1) := by decide +kernel
theorem dX12_isMoved_14 : decode cX12_isMoved 14 = .ok (.aload_n 0, 1) := by decide +kernel
theorem dX12_isMoved_15 : decode cX12_isMoved 15 = .ok (.getfield 195, 3) := by decide +kernel
theorem dX12_isMoved_18 : decode cX12_isMoved 18 = .ok (.istore_n 3, 1) := by decide +kernel
theorem dX12_isMoved_19 : decode cX12_isMoved 19 = .ok (.aload_n 0, 1) := by decide +kernel
theorem dX12_isMoved_20 : decode cX12_isMoved 20 = .ok (.getfield 192, 3) := by decide +kernel
theorem dX12_isMoved_23 : decode cX12_isMoved 23 = .ok (.aload_n 0, 1) := by decide +kernel
theorem dX12_isMoved_24 : decode cX12_isMoved 24 = .ok (.getfield 189, 3) := by decide +kernel
theorem dX12_isMoved_27 : decode cX12_isMoved 27 = .ok (.isub, 1) := by decide +kernel
theorem dX12_isMoved_28 : decode cX12_isMoved 28 = .ok (.istore 4, 2) := by decide +kernel
theorem dX12_isMoved_30 : decode cX12_isMoved 30 = .ok (.aload_n 0, 1) := by decide +kernel
theorem dX12_isMoved_31 : decode cX12_isMoved 31 = .ok (.getfield 198, 3) := by decide +kernel
theorem dX12_isMoved_34 : decode cX12_isMoved 34 = .ok (.aload_n 0, 1) := by decide +kernel
theorem dX12_isMoved_35 : decode cX12_isMoved 35 = .ok (.getfield 195, 3) := by decide +kernel
theorem dX12_isMoved_38 : decode cX12_isMoved 38 = .ok (.isub, 1) := by decide +kernel
theorem dX12_isMoved_39 : decode cX12_isMoved 39 = .ok (.istore 5, 2) := by decide +kernel
theorem dX12_isMoved_41 : decode cX12_isMoved 41 = .ok (.aload_n 0, 1) := by decide +kernel
theorem dX12_isMoved_42 : decode cX12_isMoved 42 = .ok (.getfield 201, 3) := by decide +kernel
theorem dX12_isMoved_45 : decode cX12_isMoved 45 = .ok (.istore 6, 2) := by decide +kernel
theorem dX12_isMoved_47 : decode cX12_isMoved 47 = .ok (.aload_n 0, 1) := by decide +kernel
theorem dX12_isMoved_48 : decode cX12_isMoved 48 = .ok (.aload_n 0, 1) := by decide +kernel
theorem dX12_isMoved_49 : decode cX12_isMoved 49 = .ok (.getfield 36, 3) := by decide +kernel
theorem dX12_isMoved_52 : decode cX12_isMoved 52 = .ok (.iload_n 1, 1) := by decide +kernel
theorem dX12_isMoved_53 : decode cX12_isMoved 53 = .ok (.invokevirtual 204, 3) := by decide +kernel
theorem dX12_isMoved_56 : decode cX12_isMoved 56 = .ok (.aload_n 0, 1) := by decide +kernel
theorem dX12_isMoved_57 : decode cX12_isMoved 57 = .ok (.getfield 201, 3) := by decide +kernel
theorem dX12_isMoved_60 : decode cX12_isMoved 60 = .ok (.iload 6, 2) := by decide +kernel
theorem dX12_isMoved_62 : decode cX12_isMoved 62 = .ok (.if_icmp .eq 5, 3) := by decide +kernel
theorem dX12_isMoved_65 : decode cX12_isMoved 65 = .ok (.iconst 0, 1) := by decide +kernel
theorem dX12_isMoved_66 : decode cX12_isMoved 66 = .ok (.ireturn, 1) := by decide +kernel
theorem dX12_isMoved_67 : decode cX12_isMoved 67 = .ok (.iload 6, 2) := by decide +kernel
theorem dX12_isMoved_69 : decode cX12_isMoved 69 = .ok (.ifCond .ne 15, 3) := by decide +kernel
theorem dX12_isMoved_72 : decode cX12_isMoved 72 = .ok (.aload_n 0, 1) := by decide +kernel
theorem dX12_isMoved_73 : decode cX12_isMoved 73 = .ok (.iconst 0, 1) := by decide +kernel
theorem dX12_isMoved_74 : decode cX12_isMoved 74 = .ok (.putfield 267, 3) := by decide +kernel
theorem dX12_isMoved_77 : decode cX12_isMoved 77 = .ok (.aload_n 0, 1) := by decide +kernel
theorem dX12_isMoved_78 : decode cX12_isMoved 78 = .ok (.iconst 0, 1) := by decide +kernel
theorem dX12_isMoved_79 : decode cX12_isMoved 79 = .ok (.putfield 270, 3) := by decide +kernel
theorem dX12_isMoved_82 : decode cX12_isMoved 82 = .ok (.iconst 1, 1) := by decide +kernel
theorem dX12_isMoved_83 : decode cX12_isMoved 83 = .ok (.ireturn, 1) := by decide +kernel
theorem dX12_isMoved_84 : decode cX12_isMoved 84 = .ok (.aload_n 0, 1) := by decide +kernel
theorem dX12_isMoved_85 : decode cX12_isMoved 85 = .ok (.getfield 192, 3) := by decide +kernel
theorem dX12_isMoved_88 : decode cX12_isMoved 88 = .ok (.aload_n 0, 1) := by decide +kernel
theorem dX12_isMoved_89 : decode cX12_isMoved 89 = .ok (.getfield 189, 3) := by decide +kernel
theorem dX12_isMoved_92 : decode cX12_isMoved 92 = .ok (.isub, 1) := by decide +kernel
theorem dX12_isMoved_93 : decode cX12_isMoved 93 = .ok (.iload 4, 2) := by decide +kernel
theorem dX12_isMoved_95 : decode cX12_isMoved 95 = .ok (.if_icmp .ne 17, 3) := by decide +kernel
theorem dX12_isMoved_98 : decode cX12_isMoved 98 = .ok (.aload_n 0, 1) := by decide +kernel
theorem dX12_isMoved_99 : decode cX12_isMoved 99 = .ok (.getfield 198, 3) := by decide +kernel
theorem dX12_isMoved_102 : decode cX12_isMoved 102 = .ok (.aload_n 0, 1) := by decide +kernel
theorem dX12_isMoved_103 : decode cX12_isMoved 103 = .ok (.getfield 195, 3) := by decide +kernel
theorem dX12_isMoved_106 : decode cX12_isMoved 106 = .ok (.isub, 1) := by decide +kernel
theorem dX12_isMoved_107 : decode cX12_isMoved 107 = .ok (.iload 5, 2) := by decide +kernel
theorem dX12_isMoved_109 : decode cX12_isMoved 109 = .ok (.if_icmp .eq 5, 3) := by decide +kernel
theorem dX12_isMoved_112 : decode cX12_isMoved 112 = .ok (.iconst 0, 1) := by decide +kernel
theorem dX12_isMoved_113 : decode cX12_isMoved 113 = .ok (.ireturn, 1) := by decide +kernel
theorem dX12_isMoved_114 : decode cX12_isMoved 114 = .ok (.iconst 0, 1) := by decide +kernel
theorem dX12_isMoved_115 : decode cX12_isMoved 115 = .ok (.istore 7, 2) := by decide +kernel
theorem dX12_isMoved_117 : decode cX12_isMoved 117 = .ok (.iload 7, 2) := by decide +kernel
theorem dX12_isMoved_119 : decode cX12_isMoved 119 = .ok (.iload 5, 2) := by decide +kernel
theorem dX12_isMoved_121 : decode cX12_isMoved 121 = .ok (.if_icmp .gt 74, 3) := by decide +kernel
theorem dX12_isMoved_124 : decode cX12_isMoved 124 = .ok (.iconst 0, 1) := by decide +kernel
theorem dX12_isMoved_125 : decode cX12_isMoved 125 = .ok (.istore 8, 2) := by decide +kernel
theorem dX12_isMoved_127 : decode cX12_isMoved 127 = .ok (.iload 8, 2) := by decide +kernel
theorem dX12_isMoved_129 : decode cX12_isMoved 129 = .ok (.iload 4, 2) := by decide +kernel
theorem dX12_isMoved_131 : decode cX12_isMoved 131 = .ok (.if_icmp .gt 58, 3) := by decide +kernel
theorem dX12_isMoved_134 : decode cX12_isMoved 134 = .ok (.aload_n 0, 1) := by decide +kernel
theorem dX12_isMoved_135 : decode cX12_isMoved 135 = .ok (.getfield 49, 3) := by decide +kernel
theorem dX12_isMoved_138 : decode cX12_isMoved 138 = .ok (.sipush 256, 3) := by decide +kernel
theorem dX12_isMoved_141 : decode cX12_isMoved 141 = .ok (.iload_n 3, 1) := by decide +kernel
theorem dX12_isMoved_142 : decode cX12_isMoved 142 = .ok (.iload 7, 2) := by decide +kernel
theorem dX12_isMoved_144 : decode cX12_isMoved 144 = .ok (.iadd, 1) := by decide +kernel
theorem dX12_isMoved_145 : decode cX12_isMoved 145 = .ok (.imul, 1) := by decide +kernel
theorem dX12_isMoved_146 : decode cX12_isMoved 146 = .ok (.iload_n 2, 1) := by decide +kernel
theorem dX12_isMoved_147 : decode cX12_isMoved 147 = .ok (.iadd, 1) := by decide +kernel
theorem dX12_isMoved_148 : decode cX12_isMoved 148 = .ok (.iload 8, 2) := by decide +kernel
theorem dX12_isMoved_150 : decode cX12_isMoved 150 = .ok (.iadd, 1) := by decide +kernel
theorem dX12_isMoved_151 : decode cX12_isMoved 151 = .ok (.baload, 1) := by decide +kernel
theorem dX12_isMoved_152 : decode cX12_isMoved 152 = .ok (.aload_n 0, 1) := by decide +kernel
theorem dX12_isMoved_153 : decode cX12_isMoved 153 = .ok (.getfield 36, 3) := by decide +kernel
theorem dX12_isMoved_156 : decode cX12_isMoved 156 = .ok (.iload_n 1, 1) := by decide +kernel
theorem dX12_isMoved_157 : decode cX12_isMoved 157 = .ok (.sipush 256, 3) := by decide +kernel
theorem dX12_isMoved_160 : decode cX12_isMoved 160 = .ok (.aload_n 0, 1) := by decide +kernel
theorem dX12_isMoved_161 : decode cX12_isMoved 161 = .ok (.getfield 195, 3) := by decide +kernel
theorem dX12_isMoved_164 : decode cX12_isMoved 164 = .ok (.iload 7, 2) := by decide +kernel
theorem dX12_isMoved_166 : decode cX12_isMoved 166 = .ok (.iadd, 1) := by decide +kernel
theorem dX12_isMoved_167 : decode cX12_isMoved 167 = .ok (.imul, 1) := by decide +kernel
theorem dX12_isMoved_168 : decode cX12_isMoved 168 = .ok (.iadd, 1) := by decide +kernel
theorem dX12_isMoved_169 : decode cX12_isMoved 169 = .ok (.aload_n 0, 1) := by decide +kernel
theorem dX12_isMoved_170 : decode cX12_isMoved 170 = .ok (.getfield 189, 3) := by decide +kernel
theorem dX12_isMoved_173 : decode cX12_isMoved 173 = .ok (.iadd, 1) := by decide +kernel
theorem dX12_isMoved_174 : decode cX12_isMoved 174 = .ok (.iload 8, 2) := by decide +kernel
theorem dX12_isMoved_176 : decode cX12_isMoved 176 = .ok (.iadd, 1) := by decide +kernel
theorem dX12_isMoved_177 : decode cX12_isMoved 177 = .ok (.baload, 1) := by decide +kernel
theorem dX12_isMoved_178 : decode cX12_isMoved 178 = .ok (.if_icmp .eq 5, 3) := by decide +kernel
theorem dX12_isMoved_181 : decode cX12_isMoved 181 = .ok (.iconst 0, 1) := by decide +kernel
theorem dX12_isMoved_182 : decode cX12_isMoved 182 = .ok (.ireturn, 1) := by decide +kernel
theorem dX12_isMoved_183 : decode cX12_isMoved 183 = .ok (.iinc 8 1, 3) := by decide +kernel
theorem dX12_isMoved_186 : decode cX12_isMoved 186 = .ok (.goto (-59), 3) := by decide +kernel
theorem dX12_isMoved_189 : decode cX12_isMoved 189 = .ok (.iinc 7 1, 3) := by decide +kernel
theorem dX12_isMoved_192 : decode cX12_isMoved 192 = .ok (.goto (-75), 3) := by decide +kernel
theorem dX12_isMoved_195 : decode cX12_isMoved 195 = .ok (.aload_n 0, 1) := by decide +kernel
theorem dX12_isMoved_196 : decode cX12_isMoved 196 = .ok (.iload_n 2, 1) := by decide +kernel
theorem dX12_isMoved_197 : decode cX12_isMoved 197 = .ok (.aload_n 0, 1) := by decide +kernel
theorem dX12_isMoved_198 : decode cX12_isMoved 198 = .ok (.getfield 189, 3) := by decide +kernel
theorem dX12_isMoved_201 : decode cX12_isMoved 201 = .ok (.isub, 1) := by decide +kernel
theorem dX12_isMoved_202 : decode cX12_isMoved 202 = .ok (.putfield 267, 3) := by decide +kernel
theorem dX12_isMoved_205 : decode cX12_isMoved 205 = .ok (.aload_n 0, 1) := by decide +kernel
theorem dX12_isMoved_206 : decode cX12_isMoved 206 = .ok (.iload_n 3, 1) := by decide +kernel
theorem dX12_isMoved_207 : decode cX12_isMoved 207 = .ok (.aload_n 0, 1) := by decide +kernel
theorem dX12_isMoved_208 : decode cX12_isMoved 208 = .ok (.getfield 195, 3) := by decide +kernel
theorem dX12_isMoved_211 : decode cX12_isMoved 211 = .ok (.isub, 1) := by decide +kernel
theorem dX12_isMoved_212 : decode cX12_isMoved 212 = .ok (.putfield 270, 3) := by decide +kernel
theorem dX12_isMoved_215 : decode cX12_isMoved 215 = .ok (.iconst 1, 1) := by decide +kernel
theorem dX12_isMoved_216 : decode cX12_isMoved 216 = .ok (.ireturn, 1) := by decide +kernel
theorem dX12_shift_0 : decode cX12_shift 0 = .ok (.iload_n 1, 1) := by decide +kernel
theorem dX12_shift_1 : decode cX12_shift 1 = .ok (.ifCond .ne 10, 3) := by decide +kernel
theorem dX12_shift_4 : decode cX12_shift 4 = .ok (.aload_n 0, 1) := by decide +kernel
theorem dX12_shift_5 : decode cX12_shift 5 = .ok (.getfield 267, 3) := by decide +kernel
theorem dX12_shift_8 : decode cX12_shift 8 = .ok (.goto 16, 3) := by decide +kernel
theorem dX12_shift_11 : decode cX12_shift 11 = .ok (.iload_n 1, 1) := by decide +kernel
theorem dX12_shift_12 : decode cX12_shift 12 = .ok (.iconst 1, 1) := by decide +kernel
theorem dX12_shift_13 : decode cX12_shift 13 = .ok (.if_icmp .ne 10, 3) := by decide +kernel
theorem dX12_shift_16 : decode cX12_shift 16 = .ok (.aload_n 0, 1) := by decide +kernel
theorem dX12_shift_17 : decode cX12_shift 17 = .ok (.getfield 270, 3) := by decide +kernel
theorem dX12_shift_20 : decode cX12_shift 20 = .ok (.goto 4, 3) := by decide +kernel
theorem dX12_shift_23 : decode cX12_shift 23 = .ok (.iconst (-1), 1) := by decide +kernel
theorem dX12_shift_24 : decode cX12_shift 24 = .ok (.ireturn, 1) := by decide +kernel
theorem dX12_congruent_0 : decode cX12_congruent 0 = .ok (.aload_n 0, 1) := by decide +kernel
theorem dX12_congruent_1 : decode cX12_congruent 1 = .ok (.iload_n 1, 1) := by decide +kernel
theorem dX12_congruent_2 : decode cX12_congruent 2 = .ok (.invokevirtual 178, 3) := by decide +kernel
theorem dX12_congruent_5 : decode cX12_congruent 5 = .ok (.ifCond .eq 11, 3) := by decide +kernel
theorem dX12_congruent_8 : decode cX12_congruent 8 = .ok (.aload_n 0, 1) := by decide +kernel
theorem dX12_congruent_9 : decode cX12_congruent 9 = .ok (.iload_n 2, 1) := by decide +kernel
theorem dX12_congruent_10 : decode cX12_congruent 10 = .ok (.invokevirtual 178, 3) := by decide +kernel
theorem dX12_congruent_13 : decode cX12_congruent 13 = .ok (.ifCond .ne 5, 3) := by decide +kernel
theorem dX12_congruent_16 : decode cX12_congruent 16 = .ok (.iconst (-1), 1) := by decide +kernel
theorem dX12_congruent_17 : decode cX12_congruent 17 = .ok (.ireturn, 1) := by decide +kernel
theorem dX12_congruent_18 : decode cX12_congruent 18 = .ok (.aload_n 0, 1) := by decide +kernel
theorem dX12_congruent_19 : decode cX12_congruent 19 = .ok (.aload_n 0, 1) := by decide +kernel
theorem dX12_congruent_20 : decode cX12_congruent 20 = .ok (.getfield 36, 3) := by decide +kernel
theorem dX12_congruent_23 : decode cX12_congruent 23 = .ok (.ldc 45, 2) := by decide +kernel
theorem dX12_congruent_25 : decode cX12_congruent 25 = .ok (.iload_n 1, 1) := by decide +kernel
theorem dX12_congruent_26 : decode cX12_congruent 26 = .ok (.imul, 1) := by decide +kernel
theorem dX12_congruent_27 : decode cX12_congruent 27 = .ok (.invokevirtual 204, 3) := by decide +kernel
theorem dX12_congruent_30 : decode cX12_congruent 30 = .ok (.aload_n 0, 1) := by decide +kernel
theorem dX12_congruent_31 : decode cX12_congruent 31 = .ok (.getfield 189, 3) := by decide +kernel
theorem dX12_congruent_34 : decode cX12_congruent 34 = .ok (.istore_n 3, 1) := by decide +kernel
theorem dX12_congruent_35 : decode cX12_congruent 35 = .ok (.aload_n 0, 1) := by decide +kernel
theorem dX12_congruent_36 : decode cX12_congruent 36 = .ok (.getfield 195, 3) := by decide +kernel
theorem dX12_congruent_39 : decode cX12_congruent 39 = .ok (.istore 4, 2) := by decide +kernel
theorem dX12_congruent_41 : decode cX12_congruent 41 = .ok (.aload_n 0, 1) := by decide +kernel
theorem dX12_congruent_42 : decode cX12_congruent 42 = .ok (.getfield 192, 3) := by decide +kernel
theorem dX12_congruent_45 : decode cX12_congruent 45 = .ok (.aload_n 0, 1) := by decide +kernel
theorem dX12_congruent_46 : decode cX12_congruent 46 = .ok (.getfield 189, 3) := by decide +kernel
theorem dX12_congruent_49 : decode cX12_congruent 49 = .ok (.isub, 1) := by decide +kernel
theorem dX12_congruent_50 : decode cX12_congruent 50 = .ok (.istore 5, 2) := by decide +kernel
theorem dX12_congruent_52 : decode cX12_congruent 52 = .ok (.aload_n 0, 1) := by decide +kernel
theorem dX12_congruent_53 : decode cX12_congruent 53 = .ok (.getfield 198, 3) := by decide +kernel
theorem dX12_congruent_56 : decode cX12_congruent 56 = .ok (.aload_n 0, 1) := by decide +kernel
theorem dX12_congruent_57 : decode cX12_congruent 57 = .ok (.getfield 195, 3) := by decide +kernel
theorem dX12_congruent_60 : decode cX12_congruent 60 = .ok (.isub, 1) := by decide +kernel
theorem dX12_congruent_61 : decode cX12_congruent 61 = .ok (.istore 6, 2) := by decide +kernel
theorem dX12_congruent_63 : decode cX12_congruent 63 = .ok (.aload_n 0, 1) := by decide +kernel
theorem dX12_congruent_64 : decode cX12_congruent 64 = .ok (.getfield 201, 3) := by decide +kernel
theorem dX12_congruent_67 : decode cX12_congruent 67 = .ok (.istore 7, 2) := by decide +kernel
theorem dX12_congruent_69 : decode cX12_congruent 69 = .ok (.aload_n 0, 1) := by decide +kernel
theorem dX12_congruent_70 : decode cX12_congruent 70 = .ok (.aload_n 0, 1) := by decide +kernel
theorem dX12_congruent_71 : decode cX12_congruent 71 = .ok (.getfield 36, 3) := by decide +kernel
theorem dX12_congruent_74 : decode cX12_congruent 74 = .ok (.ldc 45, 2) := by decide +kernel
theorem dX12_congruent_76 : decode cX12_congruent 76 = .ok (.iload_n 2, 1) := by decide +kernel
theorem dX12_congruent_77 : decode cX12_congruent 77 = .ok (.imul, 1) := by decide +kernel
theorem dX12_congruent_78 : decode cX12_congruent 78 = .ok (.invokevirtual 204, 3) := by decide +kernel
theorem dX12_congruent_81 : decode cX12_congruent 81 = .ok (.aload_n 0, 1) := by decide +kernel
theorem dX12_congruent_82 : decode cX12_congruent 82 = .ok (.getfield 201, 3) := by decide +kernel
theorem dX12_congruent_85 : decode cX12_congruent 85 = .ok (.iload 7, 2) := by decide +kernel
theorem dX12_congruent_87 : decode cX12_congruent 87 = .ok (.if_icmp .eq 5, 3) := by decide +kernel
theorem dX12_congruent_90 : decode cX12_congruent 90 = .ok (.iconst 0, 1) := by decide +kernel
theorem dX12_congruent_91 : decode cX12_congruent 91 = .ok (.ireturn, 1) := by decide +kernel
theorem dX12_congruent_92 : decode cX12_congruent 92 = .ok (.iload 7, 2) := by decide +kernel
theorem dX12_congruent_94 : decode cX12_congruent 94 = .ok (.ifCond .ne 5, 3) := by decide +kernel
theorem dX12_congruent_97 : decode cX12_congruent 97 = .ok (.iconst 1, 1) := by decide +kernel
theorem dX12_congruent_98 : decode cX12_congruent 98 = .ok (.ireturn, 1) := by decide +kernel
theorem dX12_congruent_99 : decode cX12_congruent 99 = .ok (.iconst 0, 1) := by decide +kernel
theorem dX12_congruent_100 : decode cX12_congruent 100 = .ok (.istore 8, 2) := by decide +kernel
theorem dX12_congruent_102 : decode cX12_congruent 102 = .ok (.iload 8, 2) := by decide +kernel
theorem dX12_congruent_104 : decode cX12_congruent 104 = .ok (.bipush 8, 2) := by decide +kernel
theorem dX12_congruent_106 : decode cX12_congruent 106 = .ok (.if_icmp .ge 255, 3) := by decide +kernel
theorem dX12_congruent_109 : decode cX12_congruent 109 = .ok (.iload 8, 2) := by decide +kernel
theorem dX12_congruent_111 : decode cX12_congruent 111 = .ok (.iconst 4, 1) := by decide +kernel
theorem dX12_congruent_112 : decode cX12_congruent 112 = .ok (.iand, 1) := by decide +kernel
theorem dX12_congruent_113 : decode cX12_congruent 113 = .ok (.ifCond .eq 7, 3) := by decide +kernel
theorem dX12_congruent_116 : decode cX12_congruent 116 = .ok (.iconst 1, 1) := by decide +kernel
theorem dX12_congruent_117 : decode cX12_congruent 117 = .ok (.goto 4, 3) := by decide +kernel
theorem dX12_congruent_120 : decode cX12_congruent 120 = .ok (.iconst 0, 1) := by decide +kernel
theorem dX12_congruent_121 : decode cX12_congruent 121 = .ok (.istore 9, 2) := by decide +kernel
theorem dX12_congruent_123 : decode cX12_congruent 123 = .ok (.aload_n 0, 1) := by decide +kernel
theorem dX12_congruent_124 : decode cX12_congruent 124 = .ok (.getfield 192, 3) := by decide +kernel
theorem dX12_congruent_127 : decode cX12_congruent 127 = .ok (.aload_n 0, 1) := by decide +kernel
theorem dX12_congruent_128 : decode cX12_congruent 128 = .ok (.getfield 189, 3) := by decide +kernel
theorem dX12_congruent_131 : decode cX12_congruent 131 = .ok (.isub, 1) := by decide +kernel
theorem dX12_congruent_132 : decode cX12_congruent 132 = .ok (.iload 9, 2) := by decide +kernel
theorem dX12_congruent_134 : decode cX12_congruent 134 = .ok (.ifCond .eq 8, 3) := by decide +kernel
theorem dX12_congruent_137 : decode cX12_congruent 137 = .ok (.iload 6, 2) := by decide +kernel
theorem dX12_congruent_139 : decode cX12_congruent 139 = .ok (.goto 5, 3) := by decide +kernel
theorem dX12_congruent_142 : decode cX12_congruent 142 = .ok (.iload 5, 2) := by decide +kernel
theorem dX12_congruent_144 : decode cX12_congruent 144 = .ok (.if_icmp .ne 211, 3) := by decide +kernel
theorem dX12_congruent_147 : decode cX12_congruent 147 = .ok (.aload_n 0, 1) := by decide +kernel
theorem dX12_congruent_148 : decode cX12_congruent 148 = .ok (.getfield 198, 3) := by decide +kernel
theorem dX12_congruent_151 : decode cX12_congruent 151 = .ok (.aload_n 0, 1) := by decide +kernel
theorem dX12_congruent_152 : decode cX12_congruent 152 = .ok (.getfield 195, 3) := by decide +kernel
theorem dX12_congruent_155 : decode cX12_congruent 155 = .ok (.isub, 1) := by decide +kernel
theorem dX12_congruent_156 : decode cX12_congruent 156 = .ok (.iload 9, 2) := by decide +kernel
theorem dX12_congruent_158 : decode cX12_congruent 158 = .ok (.ifCond .eq 8, 3) := by decide +kernel
theorem dX12_congruent_161 : decode cX12_congruent 161 = .ok (.iload 5, 2) := by decide +kernel
theorem dX12_congruent_163 : decode cX12_congruent 163 = .ok (.goto 5, 3) := by decide +kernel
theorem dX12_congruent_166 : decode cX12_congruent 166 = .ok (.iload 6, 2) := by decide +kernel
theorem dX12_congruent_168 : decode cX12_congruent 168 = .ok (.if_icmp .eq 6, 3) := by decide +kernel
theorem dX12_congruent_171 : decode cX12_congruent 171 = .ok (.goto 184, 3) := by decide +kernel
theorem dX12_congruent_174 : decode cX12_congruent 174 = .ok (.iconst 1, 1) := by decide +kernel
theorem dX12_congruent_175 : decode cX12_congruent 175 = .ok (.istore 10, 2) := by decide +kernel
theorem dX12_congruent_177 : decode cX12_congruent 177 = .ok (.iconst 0, 1) := by decide +kernel
theorem dX12_congruent_178 : decode cX12_congruent 178 = .ok (.istore 11, 2) := by decide +kernel
theorem dX12_congruent_180 : decode cX12_congruent 180 = .ok (.iload 11, 2) := by decide +kernel
theorem dX12_congruent_182 : decode cX12_congruent 182 = .ok (.iload 6, 2) := by decide +kernel
theorem dX12_congruent_184 : decode cX12_congruent 184 = .ok (.if_icmp .gt 164, 3) := by decide +kernel
theorem dX12_congruent_187 : decode cX12_congruent 187 = .ok (.iload 10, 2) := by decide +kernel
theorem dX12_congruent_189 : decode cX12_congruent 189 = .ok (.ifCond .eq 159, 3) := by decide +kernel
theorem dX12_congruent_192 : decode cX12_congruent 192 = .ok (.iconst 0, 1) := by decide +kernel
theorem dX12_congruent_193 : decode cX12_congruent 193 = .ok (.istore 12, 2) := by decide +kernel
theorem dX12_congruent_195 : decode cX12_congruent 195 = .ok (.iload 12, 2) := by decide +kernel
theorem dX12_congruent_197 : decode cX12_congruent 197 = .ok (.iload 5, 2) := by decide +kernel
theorem dX12_congruent_199 : decode cX12_congruent 199 = .ok (.if_icmp .gt 143, 3) := by decide +kernel
theorem dX12_congruent_202 : decode cX12_congruent 202 = .ok (.iload 10, 2) := by decide +kernel
theorem dX12_congruent_204 : decode cX12_congruent 204 = .ok (.ifCond .eq 138, 3) := by decide +kernel
theorem dX12_congruent_207 : decode cX12_congruent 207 = .ok (.iload 8, 2) := by decide +kernel
theorem dX12_congruent_209 : decode cX12_congruent 209 = .ok (.iconst 1, 1) := by decide +kernel
theorem dX12_congruent_210 : decode cX12_congruent 210 = .ok (.iand, 1) := by decide +kernel
theorem dX12_congruent_211 : decode cX12_congruent 211 = .ok (.ifCond .eq 11, 3) := by decide +kernel
theorem dX12_congruent_214 : decode cX12_congruent 214 = .ok (.iload 5, 2) := by decide +kernel
theorem dX12_congruent_216 : decode cX12_congruent 216 = .ok (.iload 12, 2) := by decide +kernel
theorem dX12_congruent_218 : decode cX12_congruent 218 = .ok (.isub, 1) := by decide +kernel
theorem dX12_congruent_219 : decode cX12_congruent 219 = .ok (.goto 5, 3) := by decide +kernel
theorem dX12_congruent_222 : decode cX12_congruent 222 = .ok (.iload 12, 2) := by decide +kernel
theorem dX12_congruent_224 : decode cX12_congruent 224 = .ok (.istore 13, 2) := by decide +kernel
theorem dX12_congruent_226 : decode cX12_congruent 226 = .ok (.iload 8, 2) := by decide +kernel
theorem dX12_congruent_228 : decode cX12_congruent 228 = .ok (.iconst 2, 1) := by decide +kernel
theorem dX12_congruent_229 : decode cX12_congruent 229 = .ok (.iand, 1) := by decide +kernel
theorem dX12_congruent_230 : decode cX12_congruent 230 = .ok (.ifCond .eq 11, 3) := by decide +kernel
theorem dX12_congruent_233 : decode cX12_congruent 233 = .ok (.iload 6, 2) := by decide +kernel
theorem dX12_congruent_235 : decode cX12_congruent 235 = .ok (.iload 11, 2) := by decide +kernel
theorem dX12_congruent_237 : decode cX12_congruent 237 = .ok (.isub, 1) := by decide +kernel
theorem dX12_congruent_238 : decode cX12_congruent 238 = .ok (.goto 5, 3) := by decide +kernel
theorem dX12_congruent_241 : decode cX12_congruent 241 = .ok (.iload 11, 2) := by decide +kernel
theorem dX12_congruent_243 : decode cX12_congruent 243 = .ok (.istore 14, 2) := by decide +kernel
theorem dX12_congruent_245 : decode cX12_congruent 245 = .ok (.iload 9, 2) := by decide +kernel
theorem dX12_congruent_247 : decode cX12_congruent 247 = .ok (.ifCond .eq 8, 3) := by decide +kernel
theorem dX12_congruent_250 : decode cX12_congruent 250 = .ok (.iload 14, 2) := by decide +kernel
theorem dX12_congruent_252 : decode cX12_congruent 252 = .ok (.goto 5, 3) := by decide +kernel
theorem dX12_congruent_255 : decode cX12_congruent 255 = .ok (.iload 13, 2) := by decide +kernel
theorem dX12_congruent_257 : decode cX12_congruent 257 = .ok (.istore 15, 2) := by decide +kernel
theorem dX12_congruent_259 : decode cX12_congruent 259 = .ok (.iload 9, 2) := by decide +kernel
theorem dX12_congruent_261 : decode cX12_congruent 261 = .ok (.ifCond .eq 8, 3) := by decide +kernel
theorem dX12_congruent_264 : decode cX12_congruent 264 = .ok (.iload 13, 2) := by decide +kernel
theorem dX12_congruent_266 : decode cX12_congruent 266 = .ok (.goto 5, 3) := by decide +kernel
theorem dX12_congruent_269 : decode cX12_congruent 269 = .ok (.iload 14, 2) := by decide +kernel
theorem dX12_congruent_271 : decode cX12_congruent 271 = .ok (.istore 16, 2) := by decide +kernel
theorem dX12_congruent_273 : decode cX12_congruent 273 = .ok (.aload_n 0, 1) := by decide +kernel
theorem dX12_congruent_274 : decode cX12_congruent 274 = .ok (.getfield 36, 3) := by decide +kernel
theorem dX12_congruent_277 : decode cX12_congruent 277 = .ok (.ldc 45, 2) := by decide +kernel
theorem dX12_congruent_279 : decode cX12_congruent 279 = .ok (.iload_n 1, 1) := by decide +kernel
theorem dX12_congruent_280 : decode cX12_congruent 280 = .ok (.imul, 1) := by decide +kernel
theorem dX12_congruent_281 : decode cX12_congruent 281 = .ok (.sipush 256, 3) := by decide +kernel
theorem dX12_congruent_284 : decode cX12_congruent 284 = .ok (.iload 4, 2) := by decide +kernel
theorem dX12_congruent_286 : decode cX12_congruent 286 = .ok (.iload 11, 2) := by decide +kernel
theorem dX12_congruent_288 : decode cX12_congruent 288 = .ok (.iadd, 1) := by decide +kernel
theorem dX12_congruent_289 : decode cX12_congruent 289 = .ok (.imul, 1) := by decide +kernel
theorem dX12_congruent_290 : decode cX12_congruent 290 = .ok (.iadd, 1) := by decide +kernel
theorem dX12_congruent_291 : decode cX12_congruent 291 = .ok (.iload_n 3, 1) := by decide +kernel
theorem dX12_congruent_292 : decode cX12_congruent 292 = .ok (.iadd, 1) := by decide +kernel
theorem dX12_congruent_293 : decode cX12_congruent 293 = .ok (.iload 12, 2) := by decide +kernel
theorem dX12_congruent_295 : decode cX12_congruent 295 = .ok (.iadd, 1) := by decide +kernel
theorem dX12_congruent_296 : decode cX12_congruent 296 = .ok (.baload, 1) := by decide +kernel
theorem dX12_congruent_297 : decode cX12_congruent 297 = .ok (.aload_n 0, 1) := by decide +kernel
theorem dX12_congruent_298 : decode cX12_congruent 298 = .ok (.getfield 36, 3) := by decide +kernel
theorem dX12_congruent_301 : decode cX12_congruent 301 = .ok (.ldc 45, 2) := by decide +kernel
theorem dX12_congruent_303 : decode cX12_congruent 303 = .ok (.iload_n 2, 1) := by decide +kernel
theorem dX12_congruent_304 : decode cX12_congruent 304 = .ok (.imul, 1) := by decide +kernel
theorem dX12_congruent_305 : decode cX12_congruent 305 = .ok (.sipush 256, 3) := by decide +kernel
theorem dX12_congruent_308 : decode cX12_congruent 308 = .ok (.aload_n 0, 1) := by decide +kernel
theorem dX12_congruent_309 : decode cX12_congruent 309 = .ok (.getfield 195, 3) := by decide +kernel
theorem dX12_congruent_312 : decode cX12_congruent 312 = .ok (.iload 16, 2) := by decide +kernel
theorem dX12_congruent_314 : decode cX12_congruent 314 = .ok (.iadd, 1) := by decide +kernel
theorem dX12_congruent_315 : decode cX12_congruent 315 = .ok (.imul, 1) := by decide +kernel
theorem dX12_congruent_316 : decode cX12_congruent 316 = .ok (.iadd, 1) := by decide +kernel
theorem dX12_congruent_317 : decode cX12_congruent 317 = .ok (.aload_n 0, 1) := by decide +kernel
theorem dX12_congruent_318 : decode cX12_congruent 318 = .ok (.getfield 189, 3) := by decide +kernel
theorem dX12_congruent_321 : decode cX12_congruent 321 = .ok (.iadd, 1) := by decide +kernel
theorem dX12_congruent_322 : decode cX12_congruent 322 = .ok (.iload 15, 2) := by decide +kernel
theorem dX12_congruent_324 : decode cX12_congruent 324 = .ok (.iadd, 1) := by decide +kernel
theorem dX12_congruent_325 : decode cX12_congruent 325 = .ok (.baload, 1) := by decide +kernel
theorem dX12_congruent_326 : decode cX12_congruent 326 = .ok (.if_icmp .ne 7, 3) := by decide +kernel
theorem dX12_congruent_329 : decode cX12_congruent 329 = .ok (.iconst 1, 1) := by decide +kernel
theorem dX12_congruent_330 : decode cX12_congruent 330 = .ok (.goto 4, 3) := by decide +kernel
theorem dX12_congruent_333 : decode cX12_congruent 333 = .ok (.iconst 0, 1) := by decide +kernel
theorem dX12_congruent_334 : decode cX12_congruent 334 = .ok (.istore 10, 2) := by decide +kernel
theorem dX12_congruent_336 : decode cX12_congruent 336 = .ok (.iinc 12 1, 3) := by decide +kernel
theorem dX12_congruent_339 : decode cX12_congruent 339 = .ok (.goto (-144), 3) := by decide +kernel
theorem dX12_congruent_342 : decode cX12_congruent 342 = .ok (.iinc 11 1, 3) := by decide +kernel
theorem dX12_congruent_345 : decode cX12_congruent 345 = .ok (.goto (-165), 3) := by decide +kernel
theorem dX12_congruent_348 : decode cX12_congruent 348 = .ok (.iload 10, 2) := by decide +kernel
theorem dX12_congruent_350 : decode cX12_congruent 350 = .ok (.ifCond .eq 5, 3) := by decide +kernel
theorem dX12_congruent_353 : decode cX12_congruent 353 = .ok (.iconst 1, 1) := by decide +kernel
theorem dX12_congruent_354 : decode cX12_congruent 354 = .ok (.ireturn, 1) := by decide +kernel
theorem dX12_congruent_355 : decode cX12_congruent 355 = .ok (.iinc 8 1, 3) := by decide +kernel
theorem dX12_congruent_358 : decode cX12_congruent 358 = .ok (.goto (-256), 3) := by decide +kernel
theorem dX12_congruent_361 : decode cX12_congruent 361 = .ok (.iconst 0, 1) := by decide +kernel
theorem dX12_congruent_362 : decode cX12_congruent 362 = .ok (.ireturn, 1) := by decide +kernel
theorem dX12_empty_0 : decode cX12_empty 0 = .ok (.aload_n 0, 1) := by decide +kernel
theorem dX12_empty_1 : decode cX12_empty 1 = .ok (.iload_n 1, 1) := by decide +kernel
theorem dX12_empty_2 : decode cX12_empty 2 = .ok (.invokevirtual 178, 3) := by decide +kernel
theorem dX12_empty_5 : decode cX12_empty 5 = .ok (.ifCond .ne 5, 3) := by decide +kernel
theorem dX12_empty_8 : decode cX12_empty 8 = .ok (.iconst (-1), 1) := by decide +kernel
theorem dX12_empty_9 : decode cX12_empty 9 = .ok (.ireturn, 1) := by decide +kernel
theorem dX12_empty_10 : decode cX12_empty 10 = .ok (.aload_n 0, 1) := by decide +kernel
theorem dX12_empty_11 : decode cX12_empty 11 = .ok (.aload_n 0, 1) := by decide +kernel
theorem dX12_empty_12 : decode cX12_empty 12 = .ok (.getfield 36, 3) := by decide +kernel
theorem dX12_empty_15 : decode cX12_empty 15 = .ok (.ldc 45, 2) := by decide +kernel
theorem dX12_empty_17 : decode cX12_empty 17 = .ok (.iload_n 1, 1) := by decide +kernel
theorem dX12_empty_18 : decode cX12_empty 18 = .ok (.imul, 1) := by decide +kernel
theorem dX12_empty_19 : decode cX12_empty 19 = .ok (.invokevirtual 204, 3) := by decide +kernel
theorem dX12_empty_22 : decode cX12_empty 22 = .ok (.iconst 0, 1) := by decide +kernel
theorem dX12_empty_23 : decode cX12_empty 23 = .ok (.istore_n 2, 1) := by decide +kernel
theorem dX12_empty_24 : decode cX12_empty 24 = .ok (.iload_n 2, 1) := by decide +kernel
theorem dX12_empty_25 : decode cX12_empty 25 = .ok (.ldc 45, 2) := by decide +kernel
theorem dX12_empty_27 : decode cX12_empty 27 = .ok (.if_icmp .ge 21, 3) := by decide +kernel
theorem dX12_empty_30 : decode cX12_empty 30 = .ok (.aload_n 0, 1) := by decide +kernel
theorem dX12_empty_31 : decode cX12_empty 31 = .ok (.getfield 36, 3) := by decide +kernel
theorem dX12_empty_34 : decode cX12_empty 34 = .ok (.ldc 45, 2) := by decide +kernel
theorem dX12_empty_36 : decode cX12_empty 36 = .ok (.iload_n 1, 1) := by decide +kernel
theorem dX12_empty_37 : decode cX12_empty 37 = .ok (.imul, 1) := by decide +kernel
theorem dX12_empty_38 : decode cX12_empty 38 = .ok (.iload_n 2, 1) := by decide +kernel
theorem dX12_empty_39 : decode cX12_empty 39 = .ok (.iadd, 1) := by decide +kernel
theorem dX12_empty_40 : decode cX12_empty 40 = .ok (.iconst 0, 1) := by decide +kernel
theorem dX12_empty_41 : decode cX12_empty 41 = .ok (.bastore, 1) := by decide +kernel
theorem dX12_empty_42 : decode cX12_empty 42 = .ok (.iinc 2 1, 3) := by decide +kernel
theorem dX12_empty_45 : decode cX12_empty 45 = .ok (.goto (-21), 3) := by decide +kernel
theorem dX12_empty_48 : decode cX12_empty 48 = .ok (.aload_n 0, 1) := by decide +kernel
theorem dX12_empty_49 : decode cX12_empty 49 = .ok (.getfield 42, 3) := by decide +kernel
theorem dX12_empty_52 : decode cX12_empty 52 = .ok (.iload_n 1, 1) := by decide +kernel
theorem dX12_empty_53 : decode cX12_empty 53 = .ok (.iconst 0, 1) := by decide +kernel
theorem dX12_empty_54 : decode cX12_empty 54 = .ok (.iastore, 1) := by decide +kernel
theorem dX12_empty_55 : decode cX12_empty 55 = .ok (.aload_n 0, 1) := by decide +kernel
theorem dX12_empty_56 : decode cX12_empty 56 = .ok (.getfield 201, 3) := by decide +kernel
theorem dX12_empty_59 : decode cX12_empty 59 = .ok (.ireturn, 1) := by decide +kernel
theorem dX12_lay_0 : decode cX12_lay 0 = .ok (.aload_n 0, 1) := by decide +kernel
theorem dX12_lay_1 : decode cX12_lay 1 = .ok (.iload_n 2, 1) := by decide +kernel
theorem dX12_lay_2 : decode cX12_lay 2 = .ok (.iconst 4, 1) := by decide +kernel
theorem dX12_lay_3 : decode cX12_lay 3 = .ok (.iadd, 1) := by decide +kernel
theorem dX12_lay_4 : decode cX12_lay 4 = .ok (.putfield 273, 3) := by decide +kernel
theorem dX12_lay_7 : decode cX12_lay 7 = .ok (.aload_n 0, 1) := by decide +kernel
theorem dX12_lay_8 : decode cX12_lay 8 = .ok (.iload_n 1, 1) := by decide +kernel
theorem dX12_lay_9 : decode cX12_lay 9 = .ok (.iconst 4, 1) := by decide +kernel
theorem dX12_lay_10 : decode cX12_lay 10 = .ok (.iadd, 1) := by decide +kernel
theorem dX12_lay_11 : decode cX12_lay 11 = .ok (.putfield 276, 3) := by decide +kernel
theorem dX12_lay_14 : decode cX12_lay 14 = .ok (.iconst 0, 1) := by decide +kernel
theorem dX12_lay_15 : decode cX12_lay 15 = .ok (.istore 4, 2) := by decide +kernel
theorem dX12_lay_17 : decode cX12_lay 17 = .ok (.iload 4, 2) := by decide +kernel
theorem dX12_lay_19 : decode cX12_lay 19 = .ok (.aload_n 0, 1) := by decide +kernel
theorem dX12_lay_20 : decode cX12_lay 20 = .ok (.getfield 273, 3) := by decide +kernel
theorem dX12_lay_23 : decode cX12_lay 23 = .ok (.aload_n 0, 1) := by decide +kernel
theorem dX12_lay_24 : decode cX12_lay 24 = .ok (.getfield 276, 3) := by decide +kernel
theorem dX12_lay_27 : decode cX12_lay 27 = .ok (.imul, 1) := by decide +kernel
theorem dX12_lay_28 : decode cX12_lay 28 = .ok (.if_icmp .ge 17, 3) := by decide +kernel
theorem dX12_lay_31 : decode cX12_lay 31 = .ok (.aload_n 0, 1) := by decide +kernel
theorem dX12_lay_32 : decode cX12_lay 32 = .ok (.getfield 80, 3) := by decide +kernel
theorem dX12_lay_35 : decode cX12_lay 35 = .ok (.iload 4, 2) := by decide +kernel
theorem dX12_lay_37 : decode cX12_lay 37 = .ok (.iconst 0, 1) := by decide +kernel
theorem dX12_lay_38 : decode cX12_lay 38 = .ok (.bastore, 1) := by decide +kernel
theorem dX12_lay_39 : decode cX12_lay 39 = .ok (.iinc 4 1, 3) := by decide +kernel
theorem dX12_lay_42 : decode cX12_lay 42 = .ok (.goto (-25), 3) := by decide +kernel
theorem dX12_lay_45 : decode cX12_lay 45 = .ok (.iconst 0, 1) := by decide +kernel
theorem dX12_lay_46 : decode cX12_lay 46 = .ok (.istore 4, 2) := by decide +kernel
theorem dX12_lay_48 : decode cX12_lay 48 = .ok (.iload 4, 2) := by decide +kernel
theorem dX12_lay_50 : decode cX12_lay 50 = .ok (.iload_n 1, 1) := by decide +kernel
theorem dX12_lay_51 : decode cX12_lay 51 = .ok (.if_icmp .ge 55, 3) := by decide +kernel
theorem dX12_lay_54 : decode cX12_lay 54 = .ok (.iconst 0, 1) := by decide +kernel
theorem dX12_lay_55 : decode cX12_lay 55 = .ok (.istore 5, 2) := by decide +kernel
theorem dX12_lay_57 : decode cX12_lay 57 = .ok (.iload 5, 2) := by decide +kernel
theorem dX12_lay_59 : decode cX12_lay 59 = .ok (.iload_n 2, 1) := by decide +kernel
theorem dX12_lay_60 : decode cX12_lay 60 = .ok (.if_icmp .ge 40, 3) := by decide +kernel
theorem dX12_lay_63 : decode cX12_lay 63 = .ok (.aload_n 0, 1) := by decide +kernel
theorem dX12_lay_64 : decode cX12_lay 64 = .ok (.getfield 80, 3) := by decide +kernel
theorem dX12_lay_67 : decode cX12_lay 67 = .ok (.aload_n 0, 1) := by decide +kernel
theorem dX12_lay_68 : decode cX12_lay 68 = .ok (.getfield 273, 3) := by decide +kernel
theorem dX12_lay_71 : decode cX12_lay 71 = .ok (.iload 4, 2) := by decide +kernel
theorem dX12_lay_73 : decode cX12_lay 73 = .ok (.iconst 2, 1) := by decide +kernel
theorem dX12_lay_74 : decode cX12_lay 74 = .ok (.iadd, 1) := by decide +kernel
theorem dX12_lay_75 : decode cX12_lay 75 = .ok (.imul, 1) := by decide +kernel
theorem dX12_lay_76 : decode cX12_lay 76 = .ok (.iload 5, 2) := by decide +kernel
theorem dX12_lay_78 : decode cX12_lay 78 = .ok (.iadd, 1) := by decide +kernel
theorem dX12_lay_79 : decode cX12_lay 79 = .ok (.iconst 2, 1) := by decide +kernel
theorem dX12_lay_80 : decode cX12_lay 80 = .ok (.iadd, 1) := by decide +kernel
theorem dX12_lay_81 : decode cX12_lay 81 = .ok (.iload_n 3, 1) := by decide +kernel
theorem dX12_lay_82 : decode cX12_lay 82 = .ok (.iload 4, 2) := by decide +kernel
theorem dX12_lay_84 : decode cX12_lay 84 = .ok (.iload_n 2, 1) := by decide +kernel
theorem dX12_lay_85 : decode cX12_lay 85 = .ok (.imul, 1) := by decide +kernel
theorem dX12_lay_86 : decode cX12_lay 86 = .ok (.iload 5, 2) := by decide +kernel
theorem dX12_lay_88 : decode cX12_lay 88 = .ok (.iadd, 1) := by decide +kernel
theorem dX12_lay_89 : decode cX12_lay 89 = .ok (.ishr, 1) := by decide +kernel
theorem dX12_lay_90 : decode cX12_lay 90 = .ok (.iconst 1, 1) := by decide +kernel
theorem dX12_lay_91 : decode cX12_lay 91 = .ok (.iand, 1) := by decide +kernel
theorem dX12_lay_92 : decode cX12_lay 92 = .ok (.i2b, 1) := by decide +kernel
theorem dX12_lay_93 : decode cX12_lay 93 = .ok (.bastore, 1) := by decide +kernel
theorem dX12_lay_94 : decode cX12_lay 94 = .ok (.iinc 5 1, 3) := by decide +kernel
theorem dX12_lay_97 : decode cX12_lay 97 = .ok (.goto (-40), 3) := by decide +kernel
theorem dX12_lay_100 : decode cX12_lay 100 = .ok (.iinc 4 1, 3) := by decide +kernel
theorem dX12_lay_103 : decode cX12_lay 103 = .ok (.goto (-55), 3) := by decide +kernel
theorem dX12_lay_106 : decode cX12_lay 106 = .ok (.return_, 1) := by decide +kernel
theorem dX12_smallStep_0 : decode cX12_smallStep 0 = .ok (.iconst 0, 1) := by decide +kernel
theorem dX12_smallStep_1 : decode cX12_smallStep 1 = .ok (.istore_n 2, 1) := by decide +kernel
theorem dX12_smallStep_2 : decode cX12_smallStep 2 = .ok (.iload_n 2, 1) := by decide +kernel
theorem dX12_smallStep_3 : decode cX12_smallStep 3 = .ok (.aload_n 0, 1) := by decide +kernel
theorem dX12_smallStep_4 : decode cX12_smallStep 4 = .ok (.getfield 276, 3) := by decide +kernel
theorem dX12_smallStep_7 : decode cX12_smallStep 7 = .ok (.if_icmp .ge 59, 3) := by decide +kernel
theorem dX12_smallStep_10 : decode cX12_smallStep 10 = .ok (.iconst 0, 1) := by decide +kernel
theorem dX12_smallStep_11 : decode cX12_smallStep 11 = .ok (.istore_n 3, 1) := by decide +kernel
theorem dX12_smallStep_12 : decode cX12_smallStep 12 = .ok (.iload_n 3, 1) := by decide +kernel
theorem dX12_smallStep_13 : decode cX12_smallStep 13 = .ok (.aload_n 0, 1) := by decide +kernel
theorem dX12_smallStep_14 : decode cX12_smallStep 14 = .ok (.getfield 273, 3) := by decide +kernel
theorem dX12_smallStep_17 : decode cX12_smallStep 17 = .ok (.if_icmp .ge 43, 3) := by decide +kernel
theorem dX12_smallStep_20 : decode cX12_smallStep 20 = .ok (.aload_n 0, 1) := by decide +kernel
theorem dX12_smallStep_21 : decode cX12_smallStep 21 = .ok (.getfield 83, 3) := by decide +kernel
theorem dX12_smallStep_24 : decode cX12_smallStep 24 = .ok (.aload_n 0, 1) := by decide +kernel
theorem dX12_smallStep_25 : decode cX12_smallStep 25 = .ok (.getfield 273, 3) := by decide +kernel
theorem dX12_smallStep_28 : decode cX12_smallStep 28 = .ok (.iload_n 2, 1) := by decide +kernel
theorem dX12_smallStep_29 : decode cX12_smallStep 29 = .ok (.imul, 1) := by decide +kernel
theorem dX12_smallStep_30 : decode cX12_smallStep 30 = .ok (.iload_n 3, 1) := by decide +kernel
theorem dX12_smallStep_31 : decode cX12_smallStep 31 = .ok (.iadd, 1) := by decide +kernel
theorem dX12_smallStep_32 : decode cX12_smallStep 32 = .ok (.aload_n 0, 1) := by decide +kernel
theorem dX12_smallStep_33 : decode cX12_smallStep 33 = .ok (.iload_n 1, 1) := by decide +kernel
theorem dX12_smallStep_34 : decode cX12_smallStep 34 = .ok (.aload_n 0, 1) := by decide +kernel
theorem dX12_smallStep_35 : decode cX12_smallStep 35 = .ok (.getfield 80, 3) := by decide +kernel
theorem dX12_smallStep_38 : decode cX12_smallStep 38 = .ok (.iconst 0, 1) := by decide +kernel
theorem dX12_smallStep_39 : decode cX12_smallStep 39 = .ok (.aload_n 0, 1) := by decide +kernel
theorem dX12_smallStep_40 : decode cX12_smallStep 40 = .ok (.getfield 273, 3) := by decide +kernel
theorem dX12_smallStep_43 : decode cX12_smallStep 43 = .ok (.aload_n 0, 1) := by decide +kernel
theorem dX12_smallStep_44 : decode cX12_smallStep 44 = .ok (.getfield 276, 3) := by decide +kernel
theorem dX12_smallStep_47 : decode cX12_smallStep 47 = .ok (.iload_n 3, 1) := by decide +kernel
theorem dX12_smallStep_48 : decode cX12_smallStep 48 = .ok (.iload_n 2, 1) := by decide +kernel
theorem dX12_smallStep_49 : decode cX12_smallStep 49 = .ok (.invokevirtual 208, 3) := by decide +kernel
theorem dX12_smallStep_52 : decode cX12_smallStep 52 = .ok (.i2b, 1) := by decide +kernel
theorem dX12_smallStep_53 : decode cX12_smallStep 53 = .ok (.bastore, 1) := by decide +kernel
theorem dX12_smallStep_54 : decode cX12_smallStep 54 = .ok (.iinc 3 1, 3) := by decide +kernel
theorem dX12_smallStep_57 : decode cX12_smallStep 57 = .ok (.goto (-45), 3) := by decide +kernel
theorem dX12_smallStep_60 : decode cX12_smallStep 60 = .ok (.iinc 2 1, 3) := by decide +kernel
theorem dX12_smallStep_63 : decode cX12_smallStep 63 = .ok (.goto (-61), 3) := by decide +kernel
theorem dX12_smallStep_66 : decode cX12_smallStep 66 = .ok (.iconst 0, 1) := by decide +kernel
theorem dX12_smallStep_67 : decode cX12_smallStep 67 = .ok (.istore_n 2, 1) := by decide +kernel
theorem dX12_smallStep_68 : decode cX12_smallStep 68 = .ok (.iload_n 2, 1) := by decide +kernel
theorem dX12_smallStep_69 : decode cX12_smallStep 69 = .ok (.aload_n 0, 1) := by decide +kernel
theorem dX12_smallStep_70 : decode cX12_smallStep 70 = .ok (.getfield 273, 3) := by decide +kernel
theorem dX12_smallStep_73 : decode cX12_smallStep 73 = .ok (.aload_n 0, 1) := by decide +kernel
theorem dX12_smallStep_74 : decode cX12_smallStep 74 = .ok (.getfield 276, 3) := by decide +kernel
theorem dX12_smallStep_77 : decode cX12_smallStep 77 = .ok (.imul, 1) := by decide +kernel
theorem dX12_smallStep_78 : decode cX12_smallStep 78 = .ok (.if_icmp .ge 21, 3) := by decide +kernel
theorem dX12_smallStep_81 : decode cX12_smallStep 81 = .ok (.aload_n 0, 1) := by decide +kernel
theorem dX12_smallStep_82 : decode cX12_smallStep 82 = .ok (.getfield 80, 3) := by decide +kernel
theorem dX12_smallStep_85 : decode cX12_smallStep 85 = .ok (.iload_n 2, 1) := by decide +kernel
theorem dX12_smallStep_86 : decode cX12_smallStep 86 = .ok (.aload_n 0, 1) := by decide +kernel
theorem dX12_smallStep_87 : decode cX12_smallStep 87 = .ok (.getfield 83, 3) := by decide +kernel
theorem dX12_smallStep_90 : decode cX12_smallStep 90 = .ok (.iload_n 2, 1) := by decide +kernel
theorem dX12_smallStep_91 : decode cX12_smallStep 91 = .ok (.baload, 1) := by decide +kernel
theorem dX12_smallStep_92 : decode cX12_smallStep 92 = .ok (.bastore, 1) := by decide +kernel
theorem dX12_smallStep_93 : decode cX12_smallStep 93 = .ok (.iinc 2 1, 3) := by decide +kernel
theorem dX12_smallStep_96 : decode cX12_smallStep 96 = .ok (.goto (-28), 3) := by decide +kernel
theorem dX12_smallStep_99 : decode cX12_smallStep 99 = .ok (.return_, 1) := by decide +kernel
theorem dX12_pattern_0 : decode cX12_pattern 0 = .ok (.iconst 0, 1) := by decide +kernel
theorem dX12_pattern_1 : decode cX12_pattern 1 = .ok (.istore_n 2, 1) := by decide +kernel
theorem dX12_pattern_2 : decode cX12_pattern 2 = .ok (.aload_n 0, 1) := by decide +kernel
theorem dX12_pattern_3 : decode cX12_pattern 3 = .ok (.getfield 273, 3) := by decide +kernel
theorem dX12_pattern_6 : decode cX12_pattern 6 = .ok (.iconst 2, 1) := by decide +kernel
theorem dX12_pattern_7 : decode cX12_pattern 7 = .ok (.iload_n 1, 1) := by decide +kernel
theorem dX12_pattern_8 : decode cX12_pattern 8 = .ok (.imul, 1) := by decide +kernel
theorem dX12_pattern_9 : decode cX12_pattern 9 = .ok (.isub, 1) := by decide +kernel
theorem dX12_pattern_10 : decode cX12_pattern 10 = .ok (.istore_n 3, 1) := by decide +kernel
theorem dX12_pattern_11 : decode cX12_pattern 11 = .ok (.iconst 0, 1) := by decide +kernel
theorem dX12_pattern_12 : decode cX12_pattern 12 = .ok (.istore 4, 2) := by decide +kernel
theorem dX12_pattern_14 : decode cX12_pattern 14 = .ok (.iload 4, 2) := by decide +kernel
theorem dX12_pattern_16 : decode cX12_pattern 16 = .ok (.aload_n 0, 1) := by decide +kernel
theorem dX12_pattern_17 : decode cX12_pattern 17 = .ok (.getfield 276, 3) := by decide +kernel
theorem dX12_pattern_20 : decode cX12_pattern 20 = .ok (.if_icmp .ge 100, 3) := by decide +kernel
theorem dX12_pattern_23 : decode cX12_pattern 23 = .ok (.iconst 0, 1) := by decide +kernel
theorem dX12_pattern_24 : decode cX12_pattern 24 = .ok (.istore 5, 2) := by decide +kernel
theorem dX12_pattern_26 : decode cX12_pattern 26 = .ok (.iload 5, 2) := by decide +kernel
theorem dX12_pattern_28 : decode cX12_pattern 28 = .ok (.aload_n 0, 1) := by decide +kernel
theorem dX12_pattern_29 : decode cX12_pattern 29 = .ok (.getfield 273, 3) := by decide +kernel
theorem dX12_pattern_32 : decode cX12_pattern 32 = .ok (.if_icmp .ge 82, 3) := by decide +kernel
theorem dX12_pattern_35 : decode cX12_pattern 35 = .ok (.aload_n 0, 1) := by decide +kernel
theorem dX12_pattern_36 : decode cX12_pattern 36 = .ok (.getfield 80, 3) := by decide +kernel
theorem dX12_pattern_39 : decode cX12_pattern 39 = .ok (.aload_n 0, 1) := by decide +kernel
theorem dX12_pattern_40 : decode cX12_pattern 40 = .ok (.getfield 273, 3) := by decide +kernel
theorem dX12_pattern_43 : decode cX12_pattern 43 = .ok (.iload 4, 2) := by decide +kernel
theorem dX12_pattern_45 : decode cX12_pattern 45 = .ok (.imul, 1) := by decide +kernel
theorem dX12_pattern_46 : decode cX12_pattern 46 = .ok (.iload 5, 2) := by decide +kernel
theorem dX12_pattern_48 : decode cX12_pattern 48 = .ok (.iadd, 1) := by decide +kernel
theorem dX12_pattern_49 : decode cX12_pattern 49 = .ok (.baload, 1) := by decide +kernel
theorem dX12_pattern_50 : decode cX12_pattern 50 = .ok (.ifCond .ne 6, 3) := by decide +kernel
theorem dX12_pattern_53 : decode cX12_pattern 53 = .ok (.goto 55, 3) := by decide +kernel
theorem dX12_pattern_56 : decode cX12_pattern 56 = .ok (.iload 5, 2) := by decide +kernel
theorem dX12_pattern_58 : decode cX12_pattern 58 = .ok (.iload_n 1, 1) := by decide +kernel
theorem dX12_pattern_59 : decode cX12_pattern 59 = .ok (.if_icmp .lt 31, 3) := by decide +kernel
theorem dX12_pattern_62 : decode cX12_pattern 62 = .ok (.iload 4, 2) := by decide +kernel
theorem dX12_pattern_64 : decode cX12_pattern 64 = .ok (.iload_n 1, 1) := by decide +kernel
theorem dX12_pattern_65 : decode cX12_pattern 65 = .ok (.if_icmp .lt 25, 3) := by decide +kernel
theorem dX12_pattern_68 : decode cX12_pattern 68 = .ok (.iload 5, 2) := by decide +kernel
theorem dX12_pattern_70 : decode cX12_pattern 70 = .ok (.aload_n 0, 1) := by decide +kernel
theorem dX12_pattern_71 : decode cX12_pattern 71 = .ok (.getfield 273, 3) := by decide +kernel
theorem dX12_pattern_74 : decode cX12_pattern 74 = .ok (.iload_n 1, 1) := by decide +kernel
theorem dX12_pattern_75 : decode cX12_pattern 75 = .ok (.isub, 1) := by decide +kernel
theorem dX12_pattern_76 : decode cX12_pattern 76 = .ok (.if_icmp .ge 14, 3) := by decide +kernel
theorem dX12_pattern_79 : decode cX12_pattern 79 = .ok (.iload 4, 2) := by decide +kernel
theorem dX12_pattern_81 : decode cX12_pattern 81 = .ok (.aload_n 0, 1) := by decide +kernel
theorem dX12_pattern_82 : decode cX12_pattern 82 = .ok (.getfield 276, 3) := by decide +kernel
theorem dX12_pattern_85 : decode cX12_pattern 85 = .ok (.iload_n 1, 1) := by decide +kernel
theorem dX12_pattern_86 : decode cX12_pattern 86 = .ok (.isub, 1) := by decide +kernel
theorem dX12_pattern_87 : decode cX12_pattern 87 = .ok (.if_icmp .lt 5, 3) := by decide +kernel
theorem dX12_pattern_90 : decode cX12_pattern 90 = .ok (.iconst (-1), 1) := by decide +kernel
theorem dX12_pattern_91 : decode cX12_pattern 91 = .ok (.ireturn, 1) := by decide +kernel
theorem dX12_pattern_92 : decode cX12_pattern 92 = .ok (.iload_n 2, 1) := by decide +kernel
theorem dX12_pattern_93 : decode cX12_pattern 93 = .ok (.iconst 1, 1) := by decide +kernel
theorem dX12_pattern_94 : decode cX12_pattern 94 = .ok (.iload 4, 2) := by decide +kernel
theorem dX12_pattern_96 : decode cX12_pattern 96 = .ok (.iload_n 1, 1) := by decide +kernel
theorem dX12_pattern_97 : decode cX12_pattern 97 = .ok (.isub, 1) := by decide +kernel
theorem dX12_pattern_98 : decode cX12_pattern 98 = .ok (.iload_n 3, 1) := by decide +kernel
theorem dX12_pattern_99 : decode cX12_pattern 99 = .ok (.imul, 1) := by decide +kernel
theorem dX12_pattern_100 : decode cX12_pattern 100 = .ok (.iload 5, 2) := by decide +kernel
theorem dX12_pattern_102 : decode cX12_pattern 102 = .ok (.iadd, 1) := by decide +kernel
theorem dX12_pattern_103 : decode cX12_pattern 103 = .ok (.iload_n 1, 1) := by decide +kernel
theorem dX12_pattern_104 : decode cX12_pattern 104 = .ok (.isub, 1) := by decide +kernel
theorem dX12_pattern_105 : decode cX12_pattern 105 = .ok (.ishl, 1) := by decide +kernel
theorem dX12_pattern_106 : decode cX12_pattern 106 = .ok (.ior, 1) := by decide +kernel
theorem dX12_pattern_107 : decode cX12_pattern 107 = .ok (.istore_n 2, 1) := by decide +kernel
theorem dX12_pattern_108 : decode cX12_pattern 108 = .ok (.iinc 5 1, 3) := by decide +kernel
theorem dX12_pattern_111 : decode cX12_pattern 111 = .ok (.goto (-85), 3) := by decide +kernel
theorem dX12_pattern_114 : decode cX12_pattern 114 = .ok (.iinc 4 1, 3) := by decide +kernel
theorem dX12_pattern_117 : decode cX12_pattern 117 = .ok (.goto (-103), 3) := by decide +kernel
theorem dX12_pattern_120 : decode cX12_pattern 120 = .ok (.iload_n 2, 1) := by decide +kernel
theorem dX12_pattern_121 : decode cX12_pattern 121 = .ok (.ireturn, 1) := by decide +kernel
theorem dX12_refused_0 : decode cX12_refused 0 = .ok (.iload_n 2, 1) := by decide +kernel
theorem dX12_refused_1 : decode cX12_refused 1 = .ok (.ifCond .le 37, 3) := by decide +kernel
theorem dX12_refused_4 : decode cX12_refused 4 = .ok (.iload_n 3, 1) := by decide +kernel
theorem dX12_refused_5 : decode cX12_refused 5 = .ok (.ifCond .le 33, 3) := by decide +kernel
theorem dX12_refused_8 : decode cX12_refused 8 = .ok (.iload_n 2, 1) := by decide +kernel
theorem dX12_refused_9 : decode cX12_refused 9 = .ok (.bipush 16, 2) := by decide +kernel
theorem dX12_refused_11 : decode cX12_refused 11 = .ok (.if_icmp .gt 27, 3) := by decide +kernel
theorem dX12_refused_14 : decode cX12_refused 14 = .ok (.iload_n 3, 1) := by decide +kernel
theorem dX12_refused_15 : decode cX12_refused 15 = .ok (.bipush 16, 2) := by decide +kernel
theorem dX12_refused_17 : decode cX12_refused 17 = .ok (.if_icmp .gt 21, 3) := by decide +kernel
theorem dX12_refused_20 : decode cX12_refused 20 = .ok (.iload_n 2, 1) := by decide +kernel
theorem dX12_refused_21 : decode cX12_refused 21 = .ok (.iload 4, 2) := by decide +kernel
theorem dX12_refused_23 : decode cX12_refused 23 = .ok (.iadd, 1) := by decide +kernel
theorem dX12_refused_24 : decode cX12_refused 24 = .ok (.iload_n 3, 1) := by decide +kernel
theorem dX12_refused_25 : decode cX12_refused 25 = .ok (.iload 4, 2) := by decide +kernel
theorem dX12_refused_27 : decode cX12_refused 27 = .ok (.iadd, 1) := by decide +kernel
theorem dX12_refused_28 : decode cX12_refused 28 = .ok (.imul, 1) := by decide +kernel
theorem dX12_refused_29 : decode cX12_refused 29 = .ok (.iload 5, 2) := by decide +kernel
theorem dX12_refused_31 : decode cX12_refused 31 = .ok (.if_icmp .gt 7, 3) := by decide +kernel
theorem dX12_refused_34 : decode cX12_refused 34 = .ok (.iconst 1, 1) := by decide +kernel
theorem dX12_refused_35 : decode cX12_refused 35 = .ok (.goto 4, 3) := by decide +kernel
theorem dX12_refused_38 : decode cX12_refused 38 = .ok (.iconst 0, 1) := by decide +kernel
theorem dX12_refused_39 : decode cX12_refused 39 = .ok (.istore 6, 2) := by decide +kernel
theorem dX12_refused_41 : decode cX12_refused 41 = .ok (.aload_n 0, 1) := by decide +kernel
theorem dX12_refused_42 : decode cX12_refused 42 = .ok (.iload_n 1, 1) := by decide +kernel
theorem dX12_refused_43 : decode cX12_refused 43 = .ok (.invokevirtual 161, 3) := by decide +kernel
theorem dX12_refused_46 : decode cX12_refused 46 = .ok (.ifCond .eq 8, 3) := by decide +kernel
theorem dX12_refused_49 : decode cX12_refused 49 = .ok (.iload 6, 2) := by decide +kernel
theorem dX12_refused_51 : decode cX12_refused 51 = .ok (.ifCond .ne 7, 3) := by decide +kernel
theorem dX12_refused_54 : decode cX12_refused 54 = .ok (.iconst (-1), 1) := by decide +kernel
theorem dX12_refused_55 : decode cX12_refused 55 = .ok (.goto 31, 3) := by decide +kernel
theorem dX12_refused_58 : decode cX12_refused 58 = .ok (.aload_n 0, 1) := by decide +kernel
theorem dX12_refused_59 : decode cX12_refused 59 = .ok (.iload_n 1, 1) := by decide +kernel
theorem dX12_refused_60 : decode cX12_refused 60 = .ok (.invokevirtual 175, 3) := by decide +kernel
theorem dX12_refused_63 : decode cX12_refused 63 = .ok (.ifCond .ne 8, 3) := by decide +kernel
theorem dX12_refused_66 : decode cX12_refused 66 = .ok (.bipush (-2), 2) := by decide +kernel
theorem dX12_refused_68 : decode cX12_refused 68 = .ok (.goto 18, 3) := by decide +kernel
theorem dX12_refused_71 : decode cX12_refused 71 = .ok (.aload_n 0, 1) := by decide +kernel
theorem dX12_refused_72 : decode cX12_refused 72 = .ok (.getfield 279, 3) := by decide +kernel
theorem dX12_refused_75 : decode cX12_refused 75 = .ok (.bipush 30, 2) := by decide +kernel
theorem dX12_refused_77 : decode cX12_refused 77 = .ok (.if_icmp .ne 8, 3) := by decide +kernel
theorem dX12_refused_80 : decode cX12_refused 80 = .ok (.bipush (-3), 2) := by decide +kernel
theorem dX12_refused_82 : decode cX12_refused 82 = .ok (.goto 4, 3) := by decide +kernel
theorem dX12_refused_85 : decode cX12_refused 85 = .ok (.iconst 0, 1) := by decide +kernel
theorem dX12_refused_86 : decode cX12_refused 86 = .ok (.ireturn, 1) := by decide +kernel
theorem dX12_done_0 : decode cX12_done 0 = .ok (.aload_n 0, 1) := by decide +kernel
theorem dX12_done_1 : decode cX12_done 1 = .ok (.dup, 1) := by decide +kernel
theorem dX12_done_2 : decode cX12_done 2 = .ok (.getfield 279, 3) := by decide +kernel
theorem dX12_done_5 : decode cX12_done 5 = .ok (.iconst 1, 1) := by decide +kernel
theorem dX12_done_6 : decode cX12_done 6 = .ok (.iadd, 1) := by decide +kernel
theorem dX12_done_7 : decode cX12_done 7 = .ok (.putfield 279, 3) := by decide +kernel
theorem dX12_done_10 : decode cX12_done 10 = .ok (.aload_n 0, 1) := by decide +kernel
theorem dX12_done_11 : decode cX12_done 11 = .ok (.getfield 282, 3) := by decide +kernel
theorem dX12_done_14 : decode cX12_done 14 = .ok (.ireturn, 1) := by decide +kernel
theorem dX12_finds_0 : decode cX12_finds 0 = .ok (.aload_n 0, 1) := by decide +kernel
theorem dX12_finds_1 : decode cX12_finds 1 = .ok (.getfield 86, 3) := by decide +kernel
theorem dX12_finds_4 : decode cX12_finds 4 = .ok (.aload_n 0, 1) := by decide +kernel
theorem dX12_finds_5 : decode cX12_finds 5 = .ok (.getfield 282, 3) := by decide +kernel
theorem dX12_finds_8 : decode cX12_finds 8 = .ok (.iload_n 1, 1) := by decide +kernel
theorem dX12_finds_9 : decode cX12_finds 9 = .ok (.iastore, 1) := by decide +kernel
theorem dX12_finds_10 : decode cX12_finds 10 = .ok (.aload_n 0, 1) := by decide +kernel
theorem dX12_finds_11 : decode cX12_finds 11 = .ok (.dup, 1) := by decide +kernel
theorem dX12_finds_12 : decode cX12_finds 12 = .ok (.getfield 282, 3) := by decide +kernel
theorem dX12_finds_15 : decode cX12_finds 15 = .ok (.iconst 1, 1) := by decide +kernel
theorem dX12_finds_16 : decode cX12_finds 16 = .ok (.iadd, 1) := by decide +kernel
theorem dX12_finds_17 : decode cX12_finds 17 = .ok (.putfield 282, 3) := by decide +kernel
theorem dX12_finds_20 : decode cX12_finds 20 = .ok (.return_, 1) := by decide +kernel
theorem dX12_still_0 : decode cX12_still 0 = .ok (.aload_n 0, 1) := by decide +kernel
theorem dX12_still_1 : decode cX12_still 1 = .ok (.iload_n 1, 1) := by decide +kernel
theorem dX12_still_2 : decode cX12_still 2 = .ok (.iload_n 2, 1) := by decide +kernel
theorem dX12_still_3 : decode cX12_still 3 = .ok (.iload_n 3, 1) := by decide +kernel
theorem dX12_still_4 : decode cX12_still 4 = .ok (.iconst 0, 1) := by decide +kernel
theorem dX12_still_5 : decode cX12_still 5 = .ok (.bipush 16, 2) := by decide +kernel
theorem dX12_still_7 : decode cX12_still 7 = .ok (.invokevirtual 285, 3) := by decide +kernel
theorem dX12_still_10 : decode cX12_still 10 = .ok (.istore 4, 2) := by decide +kernel
theorem dX12_still_12 : decode cX12_still 12 = .ok (.iload 4, 2) := by decide +kernel
theorem dX12_still_14 : decode cX12_still 14 = .ok (.ifCond .ge 6, 3) := by decide +kernel
theorem dX12_still_17 : decode cX12_still 17 = .ok (.iload 4, 2) := by decide +kernel
theorem dX12_still_19 : decode cX12_still 19 = .ok (.ireturn, 1) := by decide +kernel
theorem dX12_still_20 : decode cX12_still 20 = .ok (.aload_n 0, 1) := by decide +kernel
theorem dX12_still_21 : decode cX12_still 21 = .ok (.iconst 0, 1) := by decide +kernel
theorem dX12_still_22 : decode cX12_still 22 = .ok (.putfield 282, 3) := by decide +kernel
theorem dX12_still_25 : decode cX12_still 25 = .ok (.iconst 0, 1) := by decide +kernel
theorem dX12_still_26 : decode cX12_still 26 = .ok (.istore 5, 2) := by decide +kernel
theorem dX12_still_28 : decode cX12_still 28 = .ok (.iload 5, 2) := by decide +kernel
theorem dX12_still_30 : decode cX12_still 30 = .ok (.iconst 1, 1) := by decide +kernel
theorem dX12_still_31 : decode cX12_still 31 = .ok (.iload_n 2, 1) := by decide +kernel
theorem dX12_still_32 : decode cX12_still 32 = .ok (.iload_n 3, 1) := by decide +kernel
theorem dX12_still_33 : decode cX12_still 33 = .ok (.imul, 1) := by decide +kernel
theorem dX12_still_34 : decode cX12_still 34 = .ok (.ishl, 1) := by decide +kernel
theorem dX12_still_35 : decode cX12_still 35 = .ok (.if_icmp .ge 38, 3) := by decide +kernel
theorem dX12_still_38 : decode cX12_still 38 = .ok (.aload_n 0, 1) := by decide +kernel
theorem dX12_still_39 : decode cX12_still 39 = .ok (.iload_n 2, 1) := by decide +kernel
theorem dX12_still_40 : decode cX12_still 40 = .ok (.iload_n 3, 1) := by decide +kernel
theorem dX12_still_41 : decode cX12_still 41 = .ok (.iload 5, 2) := by decide +kernel
theorem dX12_still_43 : decode cX12_still 43 = .ok (.invokevirtual 289, 3) := by decide +kernel
theorem dX12_still_46 : decode cX12_still 46 = .ok (.aload_n 0, 1) := by decide +kernel
theorem dX12_still_47 : decode cX12_still 47 = .ok (.iload_n 1, 1) := by decide +kernel
theorem dX12_still_48 : decode cX12_still 48 = .ok (.invokevirtual 293, 3) := by decide +kernel
theorem dX12_still_51 : decode cX12_still 51 = .ok (.aload_n 0, 1) := by decide +kernel
theorem dX12_still_52 : decode cX12_still 52 = .ok (.iconst 2, 1) := by decide +kernel
theorem dX12_still_53 : decode cX12_still 53 = .ok (.invokevirtual 296, 3) := by decide +kernel
theorem dX12_still_56 : decode cX12_still 56 = .ok (.iload 5, 2) := by decide +kernel
theorem dX12_still_58 : decode cX12_still 58 = .ok (.if_icmp .ne 9, 3) := by decide +kernel
theorem dX12_still_61 : decode cX12_still 61 = .ok (.aload_n 0, 1) := by decide +kernel
theorem dX12_still_62 : decode cX12_still 62 = .ok (.iload 5, 2) := by decide +kernel
theorem dX12_still_64 : decode cX12_still 64 = .ok (.invokevirtual 299, 3) := by decide +kernel
theorem dX12_still_67 : decode cX12_still 67 = .ok (.iinc 5 1, 3) := by decide +kernel
theorem dX12_still_70 : decode cX12_still 70 = .ok (.goto (-42), 3) := by decide +kernel
theorem dX12_still_73 : decode cX12_still 73 = .ok (.aload_n 0, 1) := by decide +kernel
theorem dX12_still_74 : decode cX12_still 74 = .ok (.invokevirtual 302, 3) := by decide +kernel
theorem dX12_still_77 : decode cX12_still 77 = .ok (.ireturn, 1) := by decide +kernel
theorem dX12_oscillators_0 : decode cX12_oscillators 0 = .ok (.aload_n 0, 1) := by decide +kernel
theorem dX12_oscillators_1 : decode cX12_oscillators 1 = .ok (.iload_n 1, 1) := by decide +kernel
theorem dX12_oscillators_2 : decode cX12_oscillators 2 = .ok (.iload_n 2, 1) := by decide +kernel
theorem dX12_oscillators_3 : decode cX12_oscillators 3 = .ok (.iload_n 3, 1) := by decide +kernel
theorem dX12_oscillators_4 : decode cX12_oscillators 4 = .ok (.iconst 0, 1) := by decide +kernel
theorem dX12_oscillators_5 : decode cX12_oscillators 5 = .ok (.bipush 12, 2) := by decide +kernel
theorem dX12_oscillators_7 : decode cX12_oscillators 7 = .ok (.invokevirtual 285, 3) := by decide +kernel
theorem dX12_oscillators_10 : decode cX12_oscillators 10 = .ok (.istore 5, 2) := by decide +kernel
theorem dX12_oscillators_12 : decode cX12_oscillators 12 = .ok (.iload 5, 2) := by decide +kernel
theorem dX12_oscillators_14 : decode cX12_oscillators 14 = .ok (.iconst (-1), 1) := by decide +kernel
theorem dX12_oscillators_15 : decode cX12_oscillators 15 = .ok (.if_icmp .eq 16, 3) := by decide +kernel
theorem dX12_oscillators_18 : decode cX12_oscillators 18 = .ok (.iload 4, 2) := by decide +kernel
theorem dX12_oscillators_20 : decode cX12_oscillators 20 = .ok (.iconst 2, 1) := by decide +kernel
theorem dX12_oscillators_21 : decode cX12_oscillators 21 = .ok (.if_icmp .lt 10, 3) := by decide +kernel
theorem dX12_oscillators_24 : decode cX12_oscillators 24 = .ok (.iload 4, 2) := by decide +kernel
theorem dX12_oscillators_26 : decode cX12_oscillators 26 = .ok (.bipush 6, 2) := by decide +kernel
theorem dX12_oscillators_28 : decode cX12_oscillators 28 = .ok (.if_icmp .le 5, 3) := by decide +kernel
theorem dX12_oscillators_31 : decode cX12_oscillators 31 = .ok (.iconst (-1), 1) := by decide +kernel
theorem dX12_oscillators_32 : decode cX12_oscillators 32 = .ok (.ireturn, 1) := by decide +kernel
theorem dX12_oscillators_33 : decode cX12_oscillators 33 = .ok (.iload 5, 2) := by decide +kernel
theorem dX12_oscillators_35 : decode cX12_oscillators 35 = .ok (.ifCond .ge 6, 3) := by decide +kernel
theorem dX12_oscillators_38 : decode cX12_oscillators 38 = .ok (.iload 5, 2) := by decide +kernel
theorem dX12_oscillators_40 : decode cX12_oscillators 40 = .ok (.ireturn, 1) := by decide +kernel
theorem dX12_oscillators_41 : decode cX12_oscillators 41 = .ok (.aload_n 0, 1) := by decide +kernel
theorem dX12_oscillators_42 : decode cX12_oscillators 42 = .ok (.iconst 0, 1) := by decide +kernel
theorem dX12_oscillators_43 : decode cX12_oscillators 43 = .ok (.putfield 282, 3) := by decide +kernel
theorem dX12_oscillators_46 : decode cX12_oscillators 46 = .ok (.iconst 0, 1) := by decide +kernel
theorem dX12_oscillators_47 : decode cX12_oscillators 47 = .ok (.istore 6, 2) := by decide +kernel
theorem dX12_oscillators_49 : decode cX12_oscillators 49 = .ok (.iload 6, 2) := by decide +kernel
theorem dX12_oscillators_51 : decode cX12_oscillators 51 = .ok (.iconst 1, 1) := by decide +kernel
theorem dX12_oscillators_52 : decode cX12_oscillators 52 = .ok (.iload_n 2, 1) := by decide +kernel
theorem dX12_oscillators_53 : decode cX12_oscillators 53 = .ok (.iload_n 3, 1) := by decide +kernel
theorem dX12_oscillators_54 : decode cX12_oscillators 54 = .ok (.imul, 1) := by decide +kernel
theorem dX12_oscillators_55 : decode cX12_oscillators 55 = .ok (.ishl, 1) := by decide +kernel
theorem dX12_oscillators_56 : decode cX12_oscillators 56 = .ok (.if_icmp .ge 101, 3) := by decide +kernel
theorem dX12_oscillators_59 : decode cX12_oscillators 59 = .ok (.aload_n 0, 1) := by decide +kernel
theorem dX12_oscillators_60 : decode cX12_oscillators 60 = .ok (.iload_n 2, 1) := by decide +kernel
theorem dX12_oscillators_61 : decode cX12_oscillators 61 = .ok (.iload_n 3, 1) := by decide +kernel
theorem dX12_oscillators_62 : decode cX12_oscillators 62 = .ok (.iload 6, 2) := by decide +kernel
theorem dX12_oscillators_64 : decode cX12_oscillators 64 = .ok (.invokevirtual 289, 3) := by decide +kernel
theorem dX12_oscillators_67 : decode cX12_oscillators 67 = .ok (.iconst 0, 1) := by decide +kernel
theorem dX12_oscillators_68 : decode cX12_oscillators 68 = .ok (.istore 7, 2) := by decide +kernel
theorem dX12_oscillators_70 : decode cX12_oscillators 70 = .ok (.iconst 1, 1) := by decide +kernel
theorem dX12_oscillators_71 : decode cX12_oscillators 71 = .ok (.istore 8, 2) := by decide +kernel
theorem dX12_oscillators_73 : decode cX12_oscillators 73 = .ok (.iconst 1, 1) := by decide +kernel
theorem dX12_oscillators_74 : decode cX12_oscillators 74 = .ok (.istore 9, 2) := by decide +kernel
theorem dX12_oscillators_76 : decode cX12_oscillators 76 = .ok (.iload 9, 2) := by decide +kernel
theorem dX12_oscillators_78 : decode cX12_oscillators 78 = .ok (.iload 4, 2) := by decide +kernel
theorem dX12_oscillators_80 : decode cX12_oscillators 80 = .ok (.if_icmp .gt 58, 3) := by decide +kernel
theorem dX12_oscillators_83 : decode cX12_oscillators 83 = .ok (.iload 8, 2) := by decide +kernel
theorem dX12_oscillators_85 : decode cX12_oscillators 85 = .ok (.ifCond .eq 53, 3) := by decide +kernel
theorem dX12_oscillators_88 : decode cX12_oscillators 88 = .ok (.iload 7, 2) := by decide +kernel
theorem dX12_oscillators_90 : decode cX12_oscillators 90 = .ok (.ifCond .ne 48, 3) := by decide +kernel
theorem dX12_oscillators_93 : decode cX12_oscillators 93 = .ok (.aload_n 0, 1) := by decide +kernel
theorem dX12_oscillators_94 : decode cX12_oscillators 94 = .ok (.iload_n 1, 1) := by decide +kernel
theorem dX12_oscillators_95 : decode cX12_oscillators 95 = .ok (.invokevirtual 293, 3) := by decide +kernel
theorem dX12_oscillators_98 : decode cX12_oscillators 98 = .ok (.aload_n 0, 1) := by decide +kernel
theorem dX12_oscillators_99 : decode cX12_oscillators 99 = .ok (.iconst 2, 1) := by decide +kernel
theorem dX12_oscillators_100 : decode cX12_oscillators 100 = .ok (.invokevirtual 296, 3) := by decide +kernel
theorem dX12_oscillators_103 : decode cX12_oscillators 103 = .ok (.istore 10, 2) := by decide +kernel
theorem dX12_oscillators_105 : decode cX12_oscillators 105 = .ok (.iload 10, 2) := by decide +kernel
theorem dX12_oscillators_107 : decode cX12_oscillators 107 = .ok (.ifCond .lt 7, 3) := by decide +kernel
theorem dX12_oscillators_110 : decode cX12_oscillators 110 = .ok (.iconst 1, 1) := by decide +kernel
theorem dX12_oscillators_111 : decode cX12_oscillators 111 = .ok (.goto 4, 3) := by decide +kernel
theorem dX12_oscillators_114 : decode cX12_oscillators 114 = .ok (.iconst 0, 1) := by decide +kernel
theorem dX12_oscillators_115 : decode cX12_oscillators 115 = .ok (.istore 8, 2) := by decide +kernel
theorem dX12_oscillators_117 : decode cX12_oscillators 117 = .ok (.iload 10, 2) := by decide +kernel
theorem dX12_oscillators_119 : decode cX12_oscillators 119 = .ok (.iload 6, 2) := by decide +kernel
theorem dX12_oscillators_121 : decode cX12_oscillators 121 = .ok (.if_icmp .ne 8, 3) := by decide +kernel
theorem dX12_oscillators_124 : decode cX12_oscillators 124 = .ok (.iload 9, 2) := by decide +kernel
theorem dX12_oscillators_126 : decode cX12_oscillators 126 = .ok (.goto 4, 3) := by decide +kernel
theorem dX12_oscillators_129 : decode cX12_oscillators 129 = .ok (.iconst 0, 1) := by decide +kernel
theorem dX12_oscillators_130 : decode cX12_oscillators 130 = .ok (.istore 7, 2) := by decide +kernel
theorem dX12_oscillators_132 : decode cX12_oscillators 132 = .ok (.iinc 9 1, 3) := by decide +kernel
theorem dX12_oscillators_135 : decode cX12_oscillators 135 = .ok (.goto (-59), 3) := by decide +kernel
theorem dX12_oscillators_138 : decode cX12_oscillators 138 = .ok (.iload 7, 2) := by decide +kernel
theorem dX12_oscillators_140 : decode cX12_oscillators 140 = .ok (.iload 4, 2) := by decide +kernel
theorem dX12_oscillators_142 : decode cX12_oscillators 142 = .ok (.if_icmp .ne 9, 3) := by decide +kernel
theorem dX12_oscillators_145 : decode cX12_oscillators 145 = .ok (.aload_n 0, 1) := by decide +kernel
theorem dX12_oscillators_146 : decode cX12_oscillators 146 = .ok (.iload 6, 2) := by decide +kernel
theorem dX12_oscillators_148 : decode cX12_oscillators 148 = .ok (.invokevirtual 299, 3) := by decide +kernel
theorem dX12_oscillators_151 : decode cX12_oscillators 151 = .ok (.iinc 6 1, 3) := by decide +kernel
theorem dX12_oscillators_154 : decode cX12_oscillators 154 = .ok (.goto (-105), 3) := by decide +kernel
theorem dX12_oscillators_157 : decode cX12_oscillators 157 = .ok (.aload_n 0, 1) := by decide +kernel
theorem dX12_oscillators_158 : decode cX12_oscillators 158 = .ok (.invokevirtual 302, 3) := by decide +kernel
theorem dX12_oscillators_161 : decode cX12_oscillators 161 = .ok (.ireturn, 1) := by decide +kernel
theorem dX12_becomesSmall_0 : decode cX12_becomesSmall 0 = .ok (.aload_n 0, 1) := by decide +kernel
theorem dX12_becomesSmall_1 : decode cX12_becomesSmall 1 = .ok (.iload_n 2, 1) := by decide +kernel
theorem dX12_becomesSmall_2 : decode cX12_becomesSmall 2 = .ok (.iconst 2, 1) := by decide +kernel
theorem dX12_becomesSmall_3 : decode cX12_becomesSmall 3 = .ok (.iadd, 1) := by decide +kernel
theorem dX12_becomesSmall_4 : decode cX12_becomesSmall 4 = .ok (.iload_n 3, 1) := by decide +kernel
theorem dX12_becomesSmall_5 : decode cX12_becomesSmall 5 = .ok (.iconst 2, 1) := by decide +kernel
theorem dX12_becomesSmall_6 : decode cX12_becomesSmall 6 = .ok (.iadd, 1) := by decide +kernel
theorem dX12_becomesSmall_7 : decode cX12_becomesSmall 7 = .ok (.iload 4, 2) := by decide +kernel
theorem dX12_becomesSmall_9 : decode cX12_becomesSmall 9 = .ok (.invokevirtual 289, 3) := by decide +kernel
theorem dX12_becomesSmall_12 : decode cX12_becomesSmall 12 = .ok (.aload_n 0, 1) := by decide +kernel
theorem dX12_becomesSmall_13 : decode cX12_becomesSmall 13 = .ok (.iload_n 1, 1) := by decide +kernel
theorem dX12_becomesSmall_14 : decode cX12_becomesSmall 14 = .ok (.invokevirtual 293, 3) := by decide +kernel
theorem dX12_becomesSmall_17 : decode cX12_becomesSmall 17 = .ok (.aload_n 0, 1) := by decide +kernel
theorem dX12_becomesSmall_18 : decode cX12_becomesSmall 18 = .ok (.iconst 3, 1) := by decide +kernel
theorem dX12_becomesSmall_19 : decode cX12_becomesSmall 19 = .ok (.invokevirtual 296, 3) := by decide +kernel
theorem dX12_becomesSmall_22 : decode cX12_becomesSmall 22 = .ok (.ireturn, 1) := by decide +kernel
theorem dX12_ancestors_0 : decode cX12_ancestors 0 = .ok (.aload_n 0, 1) := by decide +kernel
theorem dX12_ancestors_1 : decode cX12_ancestors 1 = .ok (.iload_n 1, 1) := by decide +kernel
theorem dX12_ancestors_2 : decode cX12_ancestors 2 = .ok (.iload_n 2, 1) := by decide +kernel
theorem dX12_ancestors_3 : decode cX12_ancestors 3 = .ok (.iload_n 3, 1) := by decide +kernel
theorem dX12_ancestors_4 : decode cX12_ancestors 4 = .ok (.iconst 2, 1) := by decide +kernel
theorem dX12_ancestors_5 : decode cX12_ancestors 5 = .ok (.bipush 16, 2) := by decide +kernel
theorem dX12_ancestors_7 : decode cX12_ancestors 7 = .ok (.invokevirtual 285, 3) := by decide +kernel
theorem dX12_ancestors_10 : decode cX12_ancestors 10 = .ok (.istore 5, 2) := by decide +kernel
theorem dX12_ancestors_12 : decode cX12_ancestors 12 = .ok (.iload 5, 2) := by decide +kernel
theorem dX12_ancestors_14 : decode cX12_ancestors 14 = .ok (.iconst (-1), 1) := by decide +kernel
theorem dX12_ancestors_15 : decode cX12_ancestors 15 = .ok (.if_icmp .eq 18, 3) := by decide +kernel
theorem dX12_ancestors_18 : decode cX12_ancestors 18 = .ok (.iload 4, 2) := by decide +kernel
theorem dX12_ancestors_20 : decode cX12_ancestors 20 = .ok (.ifCond .lt 13, 3) := by decide +kernel
theorem dX12_ancestors_23 : decode cX12_ancestors 23 = .ok (.iload 4, 2) := by decide +kernel
theorem dX12_ancestors_25 : decode cX12_ancestors 25 = .ok (.iconst 1, 1) := by decide +kernel
theorem dX12_ancestors_26 : decode cX12_ancestors 26 = .ok (.iload_n 2, 1) := by decide +kernel
theorem dX12_ancestors_27 : decode cX12_ancestors 27 = .ok (.iload_n 3, 1) := by decide +kernel
theorem dX12_ancestors_28 : decode cX12_ancestors 28 = .ok (.imul, 1) := by decide +kernel
theorem dX12_ancestors_29 : decode cX12_ancestors 29 = .ok (.ishl, 1) := by decide +kernel
theorem dX12_ancestors_30 : decode cX12_ancestors 30 = .ok (.if_icmp .lt 5, 3) := by decide +kernel
theorem dX12_ancestors_33 : decode cX12_ancestors 33 = .ok (.iconst (-1), 1) := by decide +kernel
theorem dX12_ancestors_34 : decode cX12_ancestors 34 = .ok (.ireturn, 1) := by decide +kernel
theorem dX12_ancestors_35 : decode cX12_ancestors 35 = .ok (.iload 5, 2) := by decide +kernel
theorem dX12_ancestors_37 : decode cX12_ancestors 37 = .ok (.ifCond .ge 6, 3) := by decide +kernel
theorem dX12_ancestors_40 : decode cX12_ancestors 40 = .ok (.iload 5, 2) := by decide +kernel
theorem dX12_ancestors_42 : decode cX12_ancestors 42 = .ok (.ireturn, 1) := by decide +kernel
theorem dX12_ancestors_43 : decode cX12_ancestors 43 = .ok (.aload_n 0, 1) := by decide +kernel
theorem dX12_ancestors_44 : decode cX12_ancestors 44 = .ok (.iconst 0, 1) := by decide +kernel
theorem dX12_ancestors_45 : decode cX12_ancestors 45 = .ok (.putfield 282, 3) := by decide +kernel
theorem dX12_ancestors_48 : decode cX12_ancestors 48 = .ok (.iconst 0, 1) := by decide +kernel
theorem dX12_ancestors_49 : decode cX12_ancestors 49 = .ok (.istore 6, 2) := by decide +kernel
theorem dX12_ancestors_51 : decode cX12_ancestors 51 = .ok (.iload 6, 2) := by decide +kernel
theorem dX12_ancestors_53 : decode cX12_ancestors 53 = .ok (.iconst 1, 1) := by decide +kernel
theorem dX12_ancestors_54 : decode cX12_ancestors 54 = .ok (.iload_n 2, 1) := by decide +kernel
theorem dX12_ancestors_55 : decode cX12_ancestors 55 = .ok (.iconst 2, 1) := by decide +kernel
theorem dX12_ancestors_56 : decode cX12_ancestors 56 = .ok (.iadd, 1) := by decide +kernel
theorem dX12_ancestors_57 : decode cX12_ancestors 57 = .ok (.iload_n 3, 1) := by decide +kernel
theorem dX12_ancestors_58 : decode cX12_ancestors 58 = .ok (.iconst 2, 1) := by decide +kernel
theorem dX12_ancestors_59 : decode cX12_ancestors 59 = .ok (.iadd, 1) := by decide +kernel
theorem dX12_ancestors_60 : decode cX12_ancestors 60 = .ok (.imul, 1) := by decide +kernel
theorem dX12_ancestors_61 : decode cX12_ancestors 61 = .ok (.ishl, 1) := by decide +kernel
theorem dX12_ancestors_62 : decode cX12_ancestors 62 = .ok (.if_icmp .ge 29, 3) := by decide +kernel
theorem dX12_ancestors_65 : decode cX12_ancestors 65 = .ok (.aload_n 0, 1) := by decide +kernel
theorem dX12_ancestors_66 : decode cX12_ancestors 66 = .ok (.iload_n 1, 1) := by decide +kernel
theorem dX12_ancestors_67 : decode cX12_ancestors 67 = .ok (.iload_n 2, 1) := by decide +kernel
theorem dX12_ancestors_68 : decode cX12_ancestors 68 = .ok (.iload_n 3, 1) := by decide +kernel
theorem dX12_ancestors_69 : decode cX12_ancestors 69 = .ok (.iload 6, 2) := by decide +kernel
theorem dX12_ancestors_71 : decode cX12_ancestors 71 = .ok (.invokevirtual 305, 3) := by decide +kernel
theorem dX12_ancestors_74 : decode cX12_ancestors 74 = .ok (.iload 4, 2) := by decide +kernel
theorem dX12_ancestors_76 : decode cX12_ancestors 76 = .ok (.if_icmp .ne 9, 3) := by decide +kernel
theorem dX12_ancestors_79 : decode cX12_ancestors 79 = .ok (.aload_n 0, 1) := by decide +kernel
theorem dX12_ancestors_80 : decode cX12_ancestors 80 = .ok (.iload 6, 2) := by decide +kernel
theorem dX12_ancestors_82 : decode cX12_ancestors 82 = .ok (.invokevirtual 299, 3) := by decide +kernel
theorem dX12_ancestors_85 : decode cX12_ancestors 85 = .ok (.iinc 6 1, 3) := by decide +kernel
theorem dX12_ancestors_88 : decode cX12_ancestors 88 = .ok (.goto (-37), 3) := by decide +kernel
theorem dX12_ancestors_91 : decode cX12_ancestors 91 = .ok (.aload_n 0, 1) := by decide +kernel
theorem dX12_ancestors_92 : decode cX12_ancestors 92 = .ok (.invokevirtual 302, 3) := by decide +kernel
theorem dX12_ancestors_95 : decode cX12_ancestors 95 = .ok (.ireturn, 1) := by decide +kernel
theorem dX12_garden_0 : decode cX12_garden 0 = .ok (.aload_n 0, 1) := by decide +kernel
theorem dX12_garden_1 : decode cX12_garden 1 = .ok (.iload_n 1, 1) := by decide +kernel
theorem dX12_garden_2 : decode cX12_garden 2 = .ok (.iload_n 2, 1) := by decide +kernel
theorem dX12_garden_3 : decode cX12_garden 3 = .ok (.iload_n 3, 1) := by decide +kernel
theorem dX12_garden_4 : decode cX12_garden 4 = .ok (.iconst 2, 1) := by decide +kernel
theorem dX12_garden_5 : decode cX12_garden 5 = .ok (.bipush 16, 2) := by decide +kernel
theorem dX12_garden_7 : decode cX12_garden 7 = .ok (.invokevirtual 285, 3) := by decide +kernel
theorem dX12_garden_10 : decode cX12_garden 10 = .ok (.istore 4, 2) := by decide +kernel
theorem dX12_garden_12 : decode cX12_garden 12 = .ok (.iload 4, 2) := by decide +kernel
theorem dX12_garden_14 : decode cX12_garden 14 = .ok (.ifCond .ge 6, 3) := by decide +kernel
theorem dX12_garden_17 : decode cX12_garden 17 = .ok (.iload 4, 2) := by decide +kernel
theorem dX12_garden_19 : decode cX12_garden 19 = .ok (.ireturn, 1) := by decide +kernel
theorem dX12_garden_20 : decode cX12_garden 20 = .ok (.aload_n 0, 1) := by decide +kernel
theorem dX12_garden_21 : decode cX12_garden 21 = .ok (.iconst 0, 1) := by decide +kernel
theorem dX12_garden_22 : decode cX12_garden 22 = .ok (.putfield 282, 3) := by decide +kernel
theorem dX12_garden_25 : decode cX12_garden 25 = .ok (.iconst 1, 1) := by decide +kernel
theorem dX12_garden_26 : decode cX12_garden 26 = .ok (.iload_n 2, 1) := by decide +kernel
theorem dX12_garden_27 : decode cX12_garden 27 = .ok (.iload_n 3, 1) := by decide +kernel
theorem dX12_garden_28 : decode cX12_garden 28 = .ok (.imul, 1) := by decide +kernel
theorem dX12_garden_29 : decode cX12_garden 29 = .ok (.ishl, 1) := by decide +kernel
theorem dX12_garden_30 : decode cX12_garden 30 = .ok (.istore 5, 2) := by decide +kernel
theorem dX12_garden_32 : decode cX12_garden 32 = .ok (.iconst 0, 1) := by decide +kernel
theorem dX12_garden_33 : decode cX12_garden 33 = .ok (.istore 6, 2) := by decide +kernel
theorem dX12_garden_35 : decode cX12_garden 35 = .ok (.iload 6, 2) := by decide +kernel
theorem dX12_garden_37 : decode cX12_garden 37 = .ok (.iload 5, 2) := by decide +kernel
theorem dX12_garden_39 : decode cX12_garden 39 = .ok (.if_icmp .ge 17, 3) := by decide +kernel
theorem dX12_garden_42 : decode cX12_garden 42 = .ok (.aload_n 0, 1) := by decide +kernel
theorem dX12_garden_43 : decode cX12_garden 43 = .ok (.getfield 89, 3) := by decide +kernel
theorem dX12_garden_46 : decode cX12_garden 46 = .ok (.iload 6, 2) := by decide +kernel
theorem dX12_garden_48 : decode cX12_garden 48 = .ok (.iconst 0, 1) := by decide +kernel
theorem dX12_garden_49 : decode cX12_garden 49 = .ok (.bastore, 1) := by decide +kernel
theorem dX12_garden_50 : decode cX12_garden 50 = .ok (.iinc 6 1, 3) := by decide +kernel
theorem dX12_garden_53 : decode cX12_garden 53 = .ok (.goto (-18), 3) := by decide +kernel
theorem dX12_garden_56 : decode cX12_garden 56 = .ok (.iconst 0, 1) := by decide +kernel
theorem dX12_garden_57 : decode cX12_garden 57 = .ok (.istore 6, 2) := by decide +kernel
theorem dX12_garden_59 : decode cX12_garden 59 = .ok (.iload 6, 2) := by decide +kernel
theorem dX12_garden_61 : decode cX12_garden 61 = .ok (.iconst 1, 1) := by decide +kernel
theorem dX12_garden_62 : decode cX12_garden 62 = .ok (.iload_n 2, 1) := by decide +kernel
theorem dX12_garden_63 : decode cX12_garden 63 = .ok (.iconst 2, 1) := by decide +kernel
theorem dX12_garden_64 : decode cX12_garden 64 = .ok (.iadd, 1) := by decide +kernel
theorem dX12_garden_65 : decode cX12_garden 65 = .ok (.iload_n 3, 1) := by decide +kernel
theorem dX12_garden_66 : decode cX12_garden 66 = .ok (.iconst 2, 1) := by decide +kernel
theorem dX12_garden_67 : decode cX12_garden 67 = .ok (.iadd, 1) := by decide +kernel
theorem dX12_garden_68 : decode cX12_garden 68 = .ok (.imul, 1) := by decide +kernel
theorem dX12_garden_69 : decode cX12_garden 69 = .ok (.ishl, 1) := by decide +kernel
theorem dX12_garden_70 : decode cX12_garden 70 = .ok (.if_icmp .ge 33, 3) := by decide +kernel
theorem dX12_garden_73 : decode cX12_garden 73 = .ok (.aload_n 0, 1) := by decide +kernel
theorem dX12_garden_74 : decode cX12_garden 74 = .ok (.iload_n 1, 1) := by decide +kernel
theorem dX12_garden_75 : decode cX12_garden 75 = .ok (.iload_n 2, 1) := by decide +kernel
theorem dX12_garden_76 : decode cX12_garden 76 = .ok (.iload_n 3, 1) := by decide +kernel
theorem dX12_garden_77 : decode cX12_garden 77 = .ok (.iload 6, 2) := by decide +kernel
theorem dX12_garden_79 : decode cX12_garden 79 = .ok (.invokevirtual 305, 3) := by decide +kernel
theorem dX12_garden_82 : decode cX12_garden 82 = .ok (.istore 7, 2) := by decide +kernel
theorem dX12_garden_84 : decode cX12_garden 84 = .ok (.iload 7, 2) := by decide +kernel
theorem dX12_garden_86 : decode cX12_garden 86 = .ok (.ifCond .lt 11, 3) := by decide +kernel
theorem dX12_garden_89 : decode cX12_garden 89 = .ok (.aload_n 0, 1) := by decide +kernel
theorem dX12_garden_90 : decode cX12_garden 90 = .ok (.getfield 89, 3) := by decide +kernel
theorem dX12_garden_93 : decode cX12_garden 93 = .ok (.iload 7, 2) := by decide +kernel
theorem dX12_garden_95 : decode cX12_garden 95 = .ok (.iconst 1, 1) := by decide +kernel
theorem dX12_garden_96 : decode cX12_garden 96 = .ok (.bastore, 1) := by decide +kernel
theorem dX12_garden_97 : decode cX12_garden 97 = .ok (.iinc 6 1, 3) := by decide +kernel
theorem dX12_garden_100 : decode cX12_garden 100 = .ok (.goto (-41), 3) := by decide +kernel
theorem dX12_garden_103 : decode cX12_garden 103 = .ok (.iconst (-1), 1) := by decide +kernel
theorem dX12_garden_104 : decode cX12_garden 104 = .ok (.istore 6, 2) := by decide +kernel
theorem dX12_garden_106 : decode cX12_garden 106 = .ok (.iload 5, 2) := by decide +kernel
theorem dX12_garden_108 : decode cX12_garden 108 = .ok (.iconst 1, 1) := by decide +kernel
theorem dX12_garden_109 : decode cX12_garden 109 = .ok (.isub, 1) := by decide +kernel
theorem dX12_garden_110 : decode cX12_garden 110 = .ok (.istore 7, 2) := by decide +kernel
theorem dX12_garden_112 : decode cX12_garden 112 = .ok (.iload 7, 2) := by decide +kernel
theorem dX12_garden_114 : decode cX12_garden 114 = .ok (.ifCond .lt 41, 3) := by decide +kernel
theorem dX12_garden_117 : decode cX12_garden 117 = .ok (.aload_n 0, 1) := by decide +kernel
theorem dX12_garden_118 : decode cX12_garden 118 = .ok (.getfield 89, 3) := by decide +kernel
theorem dX12_garden_121 : decode cX12_garden 121 = .ok (.iload 7, 2) := by decide +kernel
theorem dX12_garden_123 : decode cX12_garden 123 = .ok (.baload, 1) := by decide +kernel
theorem dX12_garden_124 : decode cX12_garden 124 = .ok (.ifCond .ne 25, 3) := by decide +kernel
theorem dX12_garden_127 : decode cX12_garden 127 = .ok (.iload 6, 2) := by decide +kernel
theorem dX12_garden_129 : decode cX12_garden 129 = .ok (.ifCond .lt 16, 3) := by decide +kernel
theorem dX12_garden_132 : decode cX12_garden 132 = .ok (.iload 7, 2) := by decide +kernel
theorem dX12_garden_134 : decode cX12_garden 134 = .ok (.invokestatic 308, 3) := by decide +kernel
theorem dX12_garden_137 : decode cX12_garden 137 = .ok (.iload 6, 2) := by decide +kernel
theorem dX12_garden_139 : decode cX12_garden 139 = .ok (.invokestatic 308, 3) := by decide +kernel
theorem dX12_garden_142 : decode cX12_garden 142 = .ok (.if_icmp .gt 7, 3) := by decide +kernel
theorem dX12_garden_145 : decode cX12_garden 145 = .ok (.iload 7, 2) := by decide +kernel
theorem dX12_garden_147 : decode cX12_garden 147 = .ok (.istore 6, 2) := by decide +kernel
theorem dX12_garden_149 : decode cX12_garden 149 = .ok (.iinc 7 (-1), 3) := by decide +kernel
theorem dX12_garden_152 : decode cX12_garden 152 = .ok (.goto (-40), 3) := by decide +kernel
theorem dX12_garden_155 : decode cX12_garden 155 = .ok (.iload 6, 2) := by decide +kernel
theorem dX12_garden_157 : decode cX12_garden 157 = .ok (.ifCond .lt 9, 3) := by decide +kernel
theorem dX12_garden_160 : decode cX12_garden 160 = .ok (.aload_n 0, 1) := by decide +kernel
theorem dX12_garden_161 : decode cX12_garden 161 = .ok (.iload 6, 2) := by decide +kernel
theorem dX12_garden_163 : decode cX12_garden 163 = .ok (.invokevirtual 299, 3) := by decide +kernel
theorem dX12_garden_166 : decode cX12_garden 166 = .ok (.aload_n 0, 1) := by decide +kernel
theorem dX12_garden_167 : decode cX12_garden 167 = .ok (.invokevirtual 302, 3) := by decide +kernel
theorem dX12_garden_170 : decode cX12_garden 170 = .ok (.ireturn, 1) := by decide +kernel
theorem dX12_found_0 : decode cX12_found 0 = .ok (.iload_n 1, 1) := by decide +kernel
theorem dX12_found_1 : decode cX12_found 1 = .ok (.ifCond .lt 11, 3) := by decide +kernel
theorem dX12_found_4 : decode cX12_found 4 = .ok (.iload_n 1, 1) := by decide +kernel
theorem dX12_found_5 : decode cX12_found 5 = .ok (.aload_n 0, 1) := by decide +kernel
theorem dX12_found_6 : decode cX12_found 6 = .ok (.getfield 282, 3) := by decide +kernel
theorem dX12_found_9 : decode cX12_found 9 = .ok (.if_icmp .lt 7, 3) := by decide +kernel
theorem dX12_found_12 : decode cX12_found 12 = .ok (.iconst (-1), 1) := by decide +kernel
theorem dX12_found_13 : decode cX12_found 13 = .ok (.goto 9, 3) := by decide +kernel
theorem dX12_found_16 : decode cX12_found 16 = .ok (.aload_n 0, 1) := by decide +kernel
theorem dX12_found_17 : decode cX12_found 17 = .ok (.getfield 86, 3) := by decide +kernel
theorem dX12_found_20 : decode cX12_found 20 = .ok (.iload_n 1, 1) := by decide +kernel
theorem dX12_found_21 : decode cX12_found 21 = .ok (.iaload, 1) := by decide +kernel
theorem dX12_found_22 : decode cX12_found 22 = .ok (.ireturn, 1) := by decide +kernel
theorem dX12_isGrid_0 : decode cX12_isGrid 0 = .ok (.iload_n 1, 1) := by decide +kernel
theorem dX12_isGrid_1 : decode cX12_isGrid 1 = .ok (.ifCond .lt 15, 3) := by decide +kernel
theorem dX12_isGrid_4 : decode cX12_isGrid 4 = .ok (.iload_n 1, 1) := by decide +kernel
theorem dX12_isGrid_5 : decode cX12_isGrid 5 = .ok (.aload_n 0, 1) := by decide +kernel
theorem dX12_isGrid_6 : decode cX12_isGrid 6 = .ok (.getfield 313, 3) := by decide +kernel
theorem dX12_isGrid_9 : decode cX12_isGrid 9 = .ok (.if_icmp .ge 7, 3) := by decide +kernel
theorem dX12_isGrid_12 : decode cX12_isGrid 12 = .ok (.iconst 1, 1) := by decide +kernel
theorem dX12_isGrid_13 : decode cX12_isGrid 13 = .ok (.goto 4, 3) := by decide +kernel
theorem dX12_isGrid_16 : decode cX12_isGrid 16 = .ok (.iconst 0, 1) := by decide +kernel
theorem dX12_isGrid_17 : decode cX12_isGrid 17 = .ok (.ireturn, 1) := by decide +kernel
theorem dX12_grid_0 : decode cX12_grid 0 = .ok (.aload_n 0, 1) := by decide +kernel
theorem dX12_grid_1 : decode cX12_grid 1 = .ok (.iload_n 1, 1) := by decide +kernel
theorem dX12_grid_2 : decode cX12_grid 2 = .ok (.invokevirtual 161, 3) := by decide +kernel
theorem dX12_grid_5 : decode cX12_grid 5 = .ok (.ifCond .eq 37, 3) := by decide +kernel
theorem dX12_grid_8 : decode cX12_grid 8 = .ok (.iload_n 2, 1) := by decide +kernel
theorem dX12_grid_9 : decode cX12_grid 9 = .ok (.iconst 2, 1) := by decide +kernel
theorem dX12_grid_10 : decode cX12_grid 10 = .ok (.if_icmp .lt 32, 3) := by decide +kernel
theorem dX12_grid_13 : decode cX12_grid 13 = .ok (.iload_n 2, 1) := by decide +kernel
theorem dX12_grid_14 : decode cX12_grid 14 = .ok (.bipush 16, 2) := by decide +kernel
theorem dX12_grid_16 : decode cX12_grid 16 = .ok (.if_icmp .gt 26, 3) := by decide +kernel
theorem dX12_grid_19 : decode cX12_grid 19 = .ok (.iload_n 2, 1) := by decide +kernel
theorem dX12_grid_20 : decode cX12_grid 20 = .ok (.iconst 2, 1) := by decide +kernel
theorem dX12_grid_21 : decode cX12_grid 21 = .ok (.irem, 1) := by decide +kernel
theorem dX12_grid_22 : decode cX12_grid 22 = .ok (.ifCond .ne 20, 3) := by decide +kernel
theorem dX12_grid_25 : decode cX12_grid 25 = .ok (.iload_n 3, 1) := by decide +kernel
theorem dX12_grid_26 : decode cX12_grid 26 = .ok (.iconst 2, 1) := by decide +kernel
theorem dX12_grid_27 : decode cX12_grid 27 = .ok (.if_icmp .lt 15, 3) := by decide +kernel
theorem dX12_grid_30 : decode cX12_grid 30 = .ok (.iload_n 3, 1) := by decide +kernel
theorem dX12_grid_31 : decode cX12_grid 31 = .ok (.bipush 16, 2) := by decide +kernel
theorem dX12_grid_33 : decode cX12_grid 33 = .ok (.if_icmp .gt 9, 3) := by decide +kernel
theorem dX12_grid_36 : decode cX12_grid 36 = .ok (.iload_n 3, 1) := by decide +kernel
theorem dX12_grid_37 : decode cX12_grid 37 = .ok (.iconst 2, 1) := by decide +kernel
theorem dX12_grid_38 : decode cX12_grid 38 = .ok (.irem, 1) := by decide +kernel
theorem dX12_grid_39 : decode cX12_grid 39 = .ok (.ifCond .eq 5, 3) := by decide +kernel
theorem dX12_grid_42 : decode cX12_grid 42 = .ok (.iconst (-1), 1) := by decide +kernel
theorem dX12_grid_43 : decode cX12_grid 43 = .ok (.ireturn, 1) := by decide +kernel
theorem dX12_grid_44 : decode cX12_grid 44 = .ok (.aload_n 0, 1) := by decide +kernel
theorem dX12_grid_45 : decode cX12_grid 45 = .ok (.iload_n 1, 1) := by decide +kernel
theorem dX12_grid_46 : decode cX12_grid 46 = .ok (.invokevirtual 158, 3) := by decide +kernel
theorem dX12_grid_49 : decode cX12_grid 49 = .ok (.ifCond .ne 6, 3) := by decide +kernel
theorem dX12_grid_52 : decode cX12_grid 52 = .ok (.bipush (-2), 2) := by decide +kernel
theorem dX12_grid_54 : decode cX12_grid 54 = .ok (.ireturn, 1) := by decide +kernel
theorem dX12_grid_55 : decode cX12_grid 55 = .ok (.aload_n 0, 1) := by decide +kernel
theorem dX12_grid_56 : decode cX12_grid 56 = .ok (.getfield 313, 3) := by decide +kernel
theorem dX12_grid_59 : decode cX12_grid 59 = .ok (.bipush 8, 2) := by decide +kernel
theorem dX12_grid_61 : decode cX12_grid 61 = .ok (.if_icmp .ne 6, 3) := by decide +kernel
theorem dX12_grid_64 : decode cX12_grid 64 = .ok (.bipush (-3), 2) := by decide +kernel
theorem dX12_grid_66 : decode cX12_grid 66 = .ok (.ireturn, 1) := by decide +kernel
theorem dX12_grid_67 : decode cX12_grid 67 = .ok (.aload_n 0, 1) := by decide +kernel
theorem dX12_grid_68 : decode cX12_grid 68 = .ok (.getfield 93, 3) := by decide +kernel
theorem dX12_grid_71 : decode cX12_grid 71 = .ok (.aload_n 0, 1) := by decide +kernel
theorem dX12_grid_72 : decode cX12_grid 72 = .ok (.getfield 313, 3) := by decide +kernel
theorem dX12_grid_75 : decode cX12_grid 75 = .ok (.iload_n 1, 1) := by decide +kernel
theorem dX12_grid_76 : decode cX12_grid 76 = .ok (.iastore, 1) := by decide +kernel
theorem dX12_grid_77 : decode cX12_grid 77 = .ok (.aload_n 0, 1) := by decide +kernel
theorem dX12_grid_78 : decode cX12_grid 78 = .ok (.getfield 96, 3) := by decide +kernel
theorem dX12_grid_81 : decode cX12_grid 81 = .ok (.aload_n 0, 1) := by decide +kernel
theorem dX12_grid_82 : decode cX12_grid 82 = .ok (.getfield 313, 3) := by decide +kernel
theorem dX12_grid_85 : decode cX12_grid 85 = .ok (.iload_n 2, 1) := by decide +kernel
theorem dX12_grid_86 : decode cX12_grid 86 = .ok (.iastore, 1) := by decide +kernel
theorem dX12_grid_87 : decode cX12_grid 87 = .ok (.aload_n 0, 1) := by decide +kernel
theorem dX12_grid_88 : decode cX12_grid 88 = .ok (.getfield 99, 3) := by decide +kernel
theorem dX12_grid_91 : decode cX12_grid 91 = .ok (.aload_n 0, 1) := by decide +kernel
theorem dX12_grid_92 : decode cX12_grid 92 = .ok (.getfield 313, 3) := by decide +kernel
theorem dX12_grid_95 : decode cX12_grid 95 = .ok (.iload_n 3, 1) := by decide +kernel
theorem dX12_grid_96 : decode cX12_grid 96 = .ok (.iastore, 1) := by decide +kernel
theorem dX12_grid_97 : decode cX12_grid 97 = .ok (.aload_n 0, 1) := by decide +kernel
theorem dX12_grid_98 : decode cX12_grid 98 = .ok (.getfield 102, 3) := by decide +kernel
theorem dX12_grid_101 : decode cX12_grid 101 = .ok (.aload_n 0, 1) := by decide +kernel
theorem dX12_grid_102 : decode cX12_grid 102 = .ok (.getfield 313, 3) := by decide +kernel
theorem dX12_grid_105 : decode cX12_grid 105 = .ok (.iconst 0, 1) := by decide +kernel
theorem dX12_grid_106 : decode cX12_grid 106 = .ok (.iastore, 1) := by decide +kernel
theorem dX12_grid_107 : decode cX12_grid 107 = .ok (.iconst 0, 1) := by decide +kernel
theorem dX12_grid_108 : decode cX12_grid 108 = .ok (.istore 4, 2) := by decide +kernel
theorem dX12_grid_110 : decode cX12_grid 110 = .ok (.iload 4, 2) := by decide +kernel
theorem dX12_grid_112 : decode cX12_grid 112 = .ok (.sipush 256, 3) := by decide +kernel
theorem dX12_grid_115 : decode cX12_grid 115 = .ok (.if_icmp .ge 26, 3) := by decide +kernel
theorem dX12_grid_118 : decode cX12_grid 118 = .ok (.aload_n 0, 1) := by decide +kernel
theorem dX12_grid_119 : decode cX12_grid 119 = .ok (.getfield 105, 3) := by decide +kernel
theorem dX12_grid_122 : decode cX12_grid 122 = .ok (.sipush 256, 3) := by decide +kernel
theorem dX12_grid_125 : decode cX12_grid 125 = .ok (.aload_n 0, 1) := by decide +kernel
theorem dX12_grid_126 : decode cX12_grid 126 = .ok (.getfield 313, 3) := by decide +kernel
theorem dX12_grid_129 : decode cX12_grid 129 = .ok (.imul, 1) := by decide +kernel
theorem dX12_grid_130 : decode cX12_grid 130 = .ok (.iload 4, 2) := by decide +kernel
theorem dX12_grid_132 : decode cX12_grid 132 = .ok (.iadd, 1) := by decide +kernel
theorem dX12_grid_133 : decode cX12_grid 133 = .ok (.iconst 0, 1) := by decide +kernel
theorem dX12_grid_134 : decode cX12_grid 134 = .ok (.iastore, 1) := by decide +kernel
theorem dX12_grid_135 : decode cX12_grid 135 = .ok (.iinc 4 1, 3) := by decide +kernel
theorem dX12_grid_138 : decode cX12_grid 138 = .ok (.goto (-28), 3) := by decide +kernel
theorem dX12_grid_141 : decode cX12_grid 141 = .ok (.aload_n 0, 1) := by decide +kernel
theorem dX12_grid_142 : decode cX12_grid 142 = .ok (.dup, 1) := by decide +kernel
theorem dX12_grid_143 : decode cX12_grid 143 = .ok (.getfield 313, 3) := by decide +kernel
theorem dX12_grid_146 : decode cX12_grid 146 = .ok (.iconst 1, 1) := by decide +kernel
theorem dX12_grid_147 : decode cX12_grid 147 = .ok (.iadd, 1) := by decide +kernel
theorem dX12_grid_148 : decode cX12_grid 148 = .ok (.putfield 313, 3) := by decide +kernel
theorem dX12_grid_151 : decode cX12_grid 151 = .ok (.aload_n 0, 1) := by decide +kernel
theorem dX12_grid_152 : decode cX12_grid 152 = .ok (.getfield 313, 3) := by decide +kernel
theorem dX12_grid_155 : decode cX12_grid 155 = .ok (.iconst 1, 1) := by decide +kernel
theorem dX12_grid_156 : decode cX12_grid 156 = .ok (.isub, 1) := by decide +kernel
theorem dX12_grid_157 : decode cX12_grid 157 = .ok (.ireturn, 1) := by decide +kernel
theorem dX12_isCell_0 : decode cX12_isCell 0 = .ok (.aload_n 0, 1) := by decide +kernel
theorem dX12_isCell_1 : decode cX12_isCell 1 = .ok (.iload_n 1, 1) := by decide +kernel
theorem dX12_isCell_2 : decode cX12_isCell 2 = .ok (.invokevirtual 316, 3) := by decide +kernel
theorem dX12_isCell_5 : decode cX12_isCell 5 = .ok (.ifCond .eq 35, 3) := by decide +kernel
theorem dX12_isCell_8 : decode cX12_isCell 8 = .ok (.iload_n 2, 1) := by decide +kernel
theorem dX12_isCell_9 : decode cX12_isCell 9 = .ok (.ifCond .lt 31, 3) := by decide +kernel
theorem dX12_isCell_12 : decode cX12_isCell 12 = .ok (.iload_n 2, 1) := by decide +kernel
theorem dX12_isCell_13 : decode cX12_isCell 13 = .ok (.aload_n 0, 1) := by decide +kernel
theorem dX12_isCell_14 : decode cX12_isCell 14 = .ok (.getfield 96, 3) := by decide +kernel
theorem dX12_isCell_17 : decode cX12_isCell 17 = .ok (.iload_n 1, 1) := by decide +kernel
theorem dX12_isCell_18 : decode cX12_isCell 18 = .ok (.iaload, 1) := by decide +kernel
theorem dX12_isCell_19 : decode cX12_isCell 19 = .ok (.if_icmp .ge 21, 3) := by decide +kernel
theorem dX12_isCell_22 : decode cX12_isCell 22 = .ok (.iload_n 3, 1) := by decide +kernel
theorem dX12_isCell_23 : decode cX12_isCell 23 = .ok (.ifCond .lt 17, 3) := by decide +kernel
theorem dX12_isCell_26 : decode cX12_isCell 26 = .ok (.iload_n 3, 1) := by decide +kernel
theorem dX12_isCell_27 : decode cX12_isCell 27 = .ok (.aload_n 0, 1) := by decide +kernel
theorem dX12_isCell_28 : decode cX12_isCell 28 = .ok (.getfield 99, 3) := by decide +kernel
theorem dX12_isCell_31 : decode cX12_isCell 31 = .ok (.iload_n 1, 1) := by decide +kernel
theorem dX12_isCell_32 : decode cX12_isCell 32 = .ok (.iaload, 1) := by decide +kernel
theorem dX12_isCell_33 : decode cX12_isCell 33 = .ok (.if_icmp .ge 7, 3) := by decide +kernel
theorem dX12_isCell_36 : decode cX12_isCell 36 = .ok (.iconst 1, 1) := by decide +kernel
theorem dX12_isCell_37 : decode cX12_isCell 37 = .ok (.goto 4, 3) := by decide +kernel
theorem dX12_isCell_40 : decode cX12_isCell 40 = .ok (.iconst 0, 1) := by decide +kernel
theorem dX12_isCell_41 : decode cX12_isCell 41 = .ok (.ireturn, 1) := by decide +kernel
theorem dX12_gridPlace_0 : decode cX12_gridPlace 0 = .ok (.sipush 256, 3) := by decide +kernel
theorem dX12_gridPlace_3 : decode cX12_gridPlace 3 = .ok (.iload_n 1, 1) := by decide +kernel
theorem dX12_gridPlace_4 : decode cX12_gridPlace 4 = .ok (.imul, 1) := by decide +kernel
theorem dX12_gridPlace_5 : decode cX12_gridPlace 5 = .ok (.aload_n 0, 1) := by decide +kernel
theorem dX12_gridPlace_6 : decode cX12_gridPlace 6 = .ok (.getfield 99, 3) := by decide +kernel
theorem dX12_gridPlace_9 : decode cX12_gridPlace 9 = .ok (.iload_n 1, 1) := by decide +kernel
theorem dX12_gridPlace_10 : decode cX12_gridPlace 10 = .ok (.iaload, 1) := by decide +kernel
theorem dX12_gridPlace_11 : decode cX12_gridPlace 11 = .ok (.iload_n 2, 1) := by decide +kernel
theorem dX12_gridPlace_12 : decode cX12_gridPlace 12 = .ok (.aload_n 0, 1) := by decide +kernel
theorem dX12_gridPlace_13 : decode cX12_gridPlace 13 = .ok (.getfield 96, 3) := by decide +kernel
theorem dX12_gridPlace_16 : decode cX12_gridPlace 16 = .ok (.iload_n 1, 1) := by decide +kernel
theorem dX12_gridPlace_17 : decode cX12_gridPlace 17 = .ok (.iaload, 1) := by decide +kernel
theorem dX12_gridPlace_18 : decode cX12_gridPlace 18 = .ok (.irem, 1) := by decide +kernel
theorem dX12_gridPlace_19 : decode cX12_gridPlace 19 = .ok (.imul, 1) := by decide +kernel
theorem dX12_gridPlace_20 : decode cX12_gridPlace 20 = .ok (.iadd, 1) := by decide +kernel
theorem dX12_gridPlace_21 : decode cX12_gridPlace 21 = .ok (.iload_n 3, 1) := by decide +kernel
theorem dX12_gridPlace_22 : decode cX12_gridPlace 22 = .ok (.aload_n 0, 1) := by decide +kernel
theorem dX12_gridPlace_23 : decode cX12_gridPlace 23 = .ok (.getfield 99, 3) := by decide +kernel
theorem dX12_gridPlace_26 : decode cX12_gridPlace 26 = .ok (.iload_n 1, 1) := by decide +kernel
theorem dX12_gridPlace_27 : decode cX12_gridPlace 27 = .ok (.iaload, 1) := by decide +kernel
theorem dX12_gridPlace_28 : decode cX12_gridPlace 28 = .ok (.irem, 1) := by decide +kernel
theorem dX12_gridPlace_29 : decode cX12_gridPlace 29 = .ok (.iadd, 1) := by decide +kernel
theorem dX12_gridPlace_30 : decode cX12_gridPlace 30 = .ok (.ireturn, 1) := by decide +kernel
theorem dX12_set_0 : decode cX12_set 0 = .ok (.aload_n 0, 1) := by decide +kernel
theorem dX12_set_1 : decode cX12_set 1 = .ok (.iload_n 1, 1) := by decide +kernel
theorem dX12_set_2 : decode cX12_set 2 = .ok (.iload_n 2, 1) := by decide +kernel
theorem dX12_set_3 : decode cX12_set 3 = .ok (.iload_n 3, 1) := by decide +kernel
theorem dX12_set_4 : decode cX12_set 4 = .ok (.invokevirtual 319, 3) := by decide +kernel
theorem dX12_set_7 : decode cX12_set 7 = .ok (.ifCond .eq 24, 3) := by decide +kernel
theorem dX12_set_10 : decode cX12_set 10 = .ok (.iload 4, 2) := by decide +kernel
theorem dX12_set_12 : decode cX12_set 12 = .ok (.ifCond .lt 19, 3) := by decide +kernel
theorem dX12_set_15 : decode cX12_set 15 = .ok (.iload 4, 2) := by decide +kernel
theorem dX12_set_17 : decode cX12_set 17 = .ok (.aload_n 0, 1) := by decide +kernel
theorem dX12_set_18 : decode cX12_set 18 = .ok (.getfield 20, 3) := by decide +kernel
theorem dX12_set_21 : decode cX12_set 21 = .ok (.aload_n 0, 1) := by decide +kernel
theorem dX12_set_22 : decode cX12_set 22 = .ok (.getfield 93, 3) := by decide +kernel
theorem dX12_set_25 : decode cX12_set 25 = .ok (.iload_n 1, 1) := by decide +kernel
theorem dX12_set_26 : decode cX12_set 26 = .ok (.iaload, 1) := by decide +kernel
theorem dX12_set_27 : decode cX12_set 27 = .ok (.iaload, 1) := by decide +kernel
theorem dX12_set_28 : decode cX12_set 28 = .ok (.if_icmp .lt 5, 3) := by decide +kernel
theorem dX12_set_31 : decode cX12_set 31 = .ok (.iconst (-1), 1) := by decide +kernel
theorem dX12_set_32 : decode cX12_set 32 = .ok (.ireturn, 1) := by decide +kernel
theorem dX12_set_33 : decode cX12_set 33 = .ok (.aload_n 0, 1) := by decide +kernel
theorem dX12_set_34 : decode cX12_set 34 = .ok (.iload_n 1, 1) := by decide +kernel
theorem dX12_set_35 : decode cX12_set 35 = .ok (.iload_n 2, 1) := by decide +kernel
theorem dX12_set_36 : decode cX12_set 36 = .ok (.iload_n 3, 1) := by decide +kernel
theorem dX12_set_37 : decode cX12_set 37 = .ok (.invokevirtual 323, 3) := by decide +kernel
theorem dX12_set_40 : decode cX12_set 40 = .ok (.istore 5, 2) := by decide +kernel
theorem dX12_set_42 : decode cX12_set 42 = .ok (.aload_n 0, 1) := by decide +kernel
theorem dX12_set_43 : decode cX12_set 43 = .ok (.getfield 105, 3) := by decide +kernel
theorem dX12_set_46 : decode cX12_set 46 = .ok (.iload 5, 2) := by decide +kernel
theorem dX12_set_48 : decode cX12_set 48 = .ok (.iaload, 1) := by decide +kernel
theorem dX12_set_49 : decode cX12_set 49 = .ok (.istore 6, 2) := by decide +kernel
theorem dX12_set_51 : decode cX12_set 51 = .ok (.aload_n 0, 1) := by decide +kernel
theorem dX12_set_52 : decode cX12_set 52 = .ok (.getfield 105, 3) := by decide +kernel
theorem dX12_set_55 : decode cX12_set 55 = .ok (.iload 5, 2) := by decide +kernel
theorem dX12_set_57 : decode cX12_set 57 = .ok (.iload 4, 2) := by decide +kernel
theorem dX12_set_59 : decode cX12_set 59 = .ok (.iastore, 1) := by decide +kernel
theorem dX12_set_60 : decode cX12_set 60 = .ok (.iload 6, 2) := by decide +kernel
theorem dX12_set_62 : decode cX12_set 62 = .ok (.ireturn, 1) := by decide +kernel
theorem dX12_cell_0 : decode cX12_cell 0 = .ok (.aload_n 0, 1) := by decide +kernel
theorem dX12_cell_1 : decode cX12_cell 1 = .ok (.iload_n 1, 1) := by decide +kernel
theorem dX12_cell_2 : decode cX12_cell 2 = .ok (.iload_n 2, 1) := by decide +kernel
theorem dX12_cell_3 : decode cX12_cell 3 = .ok (.iload_n 3, 1) := by decide +kernel
theorem dX12_cell_4 : decode cX12_cell 4 = .ok (.invokevirtual 319, 3) := by decide +kernel
theorem dX12_cell_7 : decode cX12_cell 7 = .ok (.ifCond .eq 18, 3) := by decide +kernel
theorem dX12_cell_10 : decode cX12_cell 10 = .ok (.aload_n 0, 1) := by decide +kernel
theorem dX12_cell_11 : decode cX12_cell 11 = .ok (.getfield 105, 3) := by decide +kernel
theorem dX12_cell_14 : decode cX12_cell 14 = .ok (.aload_n 0, 1) := by decide +kernel
theorem dX12_cell_15 : decode cX12_cell 15 = .ok (.iload_n 1, 1) := by decide +kernel
theorem dX12_cell_16 : decode cX12_cell 16 = .ok (.iload_n 2, 1) := by decide +kernel
theorem dX12_cell_17 : decode cX12_cell 17 = .ok (.iload_n 3, 1) := by decide +kernel
theorem dX12_cell_18 : decode cX12_cell 18 = .ok (.invokevirtual 323, 3) := by decide +kernel
theorem dX12_cell_21 : decode cX12_cell 21 = .ok (.iaload, 1) := by decide +kernel
theorem dX12_cell_22 : decode cX12_cell 22 = .ok (.goto 4, 3) := by decide +kernel
theorem dX12_cell_25 : decode cX12_cell 25 = .ok (.iconst (-1), 1) := by decide +kernel
theorem dX12_cell_26 : decode cX12_cell 26 = .ok (.ireturn, 1) := by decide +kernel
theorem dX12_fill_0 : decode cX12_fill 0 = .ok (.aload_n 0, 1) := by decide +kernel
theorem dX12_fill_1 : decode cX12_fill 1 = .ok (.iload_n 1, 1) := by decide +kernel
theorem dX12_fill_2 : decode cX12_fill 2 = .ok (.invokevirtual 316, 3) := by decide +kernel
theorem dX12_fill_5 : decode cX12_fill 5 = .ok (.ifCond .eq 13, 3) := by decide +kernel
theorem dX12_fill_8 : decode cX12_fill 8 = .ok (.iload_n 3, 1) := by decide +kernel
theorem dX12_fill_9 : decode cX12_fill 9 = .ok (.ifCond .lt 9, 3) := by decide +kernel
theorem dX12_fill_12 : decode cX12_fill 12 = .ok (.iload_n 3, 1) := by decide +kernel
theorem dX12_fill_13 : decode cX12_fill 13 = .ok (.bipush 100, 2) := by decide +kernel
theorem dX12_fill_15 : decode cX12_fill 15 = .ok (.if_icmp .le 5, 3) := by decide +kernel
theorem dX12_fill_18 : decode cX12_fill 18 = .ok (.iconst (-1), 1) := by decide +kernel
theorem dX12_fill_19 : decode cX12_fill 19 = .ok (.ireturn, 1) := by decide +kernel
theorem dX12_fill_20 : decode cX12_fill 20 = .ok (.iload_n 2, 1) := by decide +kernel
theorem dX12_fill_21 : decode cX12_fill 21 = .ok (.istore 4, 2) := by decide +kernel
theorem dX12_fill_23 : decode cX12_fill 23 = .ok (.iconst 0, 1) := by decide +kernel
theorem dX12_fill_24 : decode cX12_fill 24 = .ok (.istore 5, 2) := by decide +kernel
theorem dX12_fill_26 : decode cX12_fill 26 = .ok (.aload_n 0, 1) := by decide +kernel
theorem dX12_fill_27 : decode cX12_fill 27 = .ok (.getfield 20, 3) := by decide +kernel
theorem dX12_fill_30 : decode cX12_fill 30 = .ok (.aload_n 0, 1) := by decide +kernel
theorem dX12_fill_31 : decode cX12_fill 31 = .ok (.getfield 93, 3) := by decide +kernel
theorem dX12_fill_34 : decode cX12_fill 34 = .ok (.iload_n 1, 1) := by decide +kernel
theorem dX12_fill_35 : decode cX12_fill 35 = .ok (.iaload, 1) := by decide +kernel
theorem dX12_fill_36 : decode cX12_fill 36 = .ok (.iaload, 1) := by decide +kernel
theorem dX12_fill_37 : decode cX12_fill 37 = .ok (.istore 6, 2) := by decide +kernel
theorem dX12_fill_39 : decode cX12_fill 39 = .ok (.iconst 0, 1) := by decide +kernel
theorem dX12_fill_40 : decode cX12_fill 40 = .ok (.istore 7, 2) := by decide +kernel
theorem dX12_fill_42 : decode cX12_fill 42 = .ok (.iload 7, 2) := by decide +kernel
theorem dX12_fill_44 : decode cX12_fill 44 = .ok (.aload_n 0, 1) := by decide +kernel
theorem dX12_fill_45 : decode cX12_fill 45 = .ok (.getfield 96, 3) := by decide +kernel
theorem dX12_fill_48 : decode cX12_fill 48 = .ok (.iload_n 1, 1) := by decide +kernel
theorem dX12_fill_49 : decode cX12_fill 49 = .ok (.iaload, 1) := by decide +kernel
theorem dX12_fill_50 : decode cX12_fill 50 = .ok (.if_icmp .ge 106, 3) := by decide +kernel
theorem dX12_fill_53 : decode cX12_fill 53 = .ok (.iconst 0, 1) := by decide +kernel
theorem dX12_fill_54 : decode cX12_fill 54 = .ok (.istore 8, 2) := by decide +kernel
theorem dX12_fill_56 : decode cX12_fill 56 = .ok (.iload 8, 2) := by decide +kernel
theorem dX12_fill_58 : decode cX12_fill 58 = .ok (.aload_n 0, 1) := by decide +kernel
theorem dX12_fill_59 : decode cX12_fill 59 = .ok (.getfield 99, 3) := by decide +kernel
theorem dX12_fill_62 : decode cX12_fill 62 = .ok (.iload_n 1, 1) := by decide +kernel
theorem dX12_fill_63 : decode cX12_fill 63 = .ok (.iaload, 1) := by decide +kernel
theorem dX12_fill_64 : decode cX12_fill 64 = .ok (.if_icmp .ge 86, 3) := by decide +kernel
theorem dX12_fill_67 : decode cX12_fill 67 = .ok (.iload 4, 2) := by decide +kernel
theorem dX12_fill_69 : decode cX12_fill 69 = .ok (.ldc_w 326, 3) := by decide +kernel
theorem dX12_fill_72 : decode cX12_fill 72 = .ok (.imul, 1) := by decide +kernel
theorem dX12_fill_73 : decode cX12_fill 73 = .ok (.ldc_w 327, 3) := by decide +kernel
theorem dX12_fill_76 : decode cX12_fill 76 = .ok (.iadd, 1) := by decide +kernel
theorem dX12_fill_77 : decode cX12_fill 77 = .ok (.istore 4, 2) := by decide +kernel
theorem dX12_fill_79 : decode cX12_fill 79 = .ok (.iload 4, 2) := by decide +kernel
theorem dX12_fill_81 : decode cX12_fill 81 = .ok (.bipush 16, 2) := by decide +kernel
theorem dX12_fill_83 : decode cX12_fill 83 = .ok (.iushr, 1) := by decide +kernel
theorem dX12_fill_84 : decode cX12_fill 84 = .ok (.istore 9, 2) := by decide +kernel
theorem dX12_fill_86 : decode cX12_fill 86 = .ok (.iload 9, 2) := by decide +kernel
theorem dX12_fill_88 : decode cX12_fill 88 = .ok (.bipush 100, 2) := by decide +kernel
theorem dX12_fill_90 : decode cX12_fill 90 = .ok (.irem, 1) := by decide +kernel
theorem dX12_fill_91 : decode cX12_fill 91 = .ok (.iload_n 3, 1) := by decide +kernel
theorem dX12_fill_92 : decode cX12_fill 92 = .ok (.if_icmp .lt 7, 3) := by decide +kernel
theorem dX12_fill_95 : decode cX12_fill 95 = .ok (.iconst 0, 1) := by decide +kernel
theorem dX12_fill_96 : decode cX12_fill 96 = .ok (.goto 15, 3) := by decide +kernel
theorem dX12_fill_99 : decode cX12_fill 99 = .ok (.iconst 1, 1) := by decide +kernel
theorem dX12_fill_100 : decode cX12_fill 100 = .ok (.iload 9, 2) := by decide +kernel
theorem dX12_fill_102 : decode cX12_fill 102 = .ok (.bipush 100, 2) := by decide +kernel
theorem dX12_fill_104 : decode cX12_fill 104 = .ok (.idiv, 1) := by decide +kernel
theorem dX12_fill_105 : decode cX12_fill 105 = .ok (.iload 6, 2) := by decide +kernel
theorem dX12_fill_107 : decode cX12_fill 107 = .ok (.iconst 1, 1) := by decide +kernel
theorem dX12_fill_108 : decode cX12_fill 108 = .ok (.isub, 1) := by decide +kernel
theorem dX12_fill_109 : decode cX12_fill 109 = .ok (.irem, 1) := by decide +kernel
theorem dX12_fill_110 : decode cX12_fill 110 = .ok (.iadd, 1) := by decide +kernel
theorem dX12_fill_111 : decode cX12_fill 111 = .ok (.istore 10, 2) := by decide +kernel
theorem dX12_fill_113 : decode cX12_fill 113 = .ok (.aload_n 0, 1) := by decide +kernel
theorem dX12_fill_114 : decode cX12_fill 114 = .ok (.getfield 105, 3) := by decide +kernel
theorem dX12_fill_117 : decode cX12_fill 117 = .ok (.aload_n 0, 1) := by decide +kernel
theorem dX12_fill_118 : decode cX12_fill 118 = .ok (.iload_n 1, 1) := by decide +kernel
theorem dX12_fill_119 : decode cX12_fill 119 = .ok (.iload 7, 2) := by decide +kernel
theorem dX12_fill_121 : decode cX12_fill 121 = .ok (.iload 8, 2) := by decide +kernel
theorem dX12_fill_123 : decode cX12_fill 123 = .ok (.invokevirtual 323, 3) := by decide +kernel
theorem dX12_fill_126 : decode cX12_fill 126 = .ok (.iload 10, 2) := by decide +kernel
theorem dX12_fill_128 : decode cX12_fill 128 = .ok (.iastore, 1) := by decide +kernel
theorem dX12_fill_129 : decode cX12_fill 129 = .ok (.iload 5, 2) := by decide +kernel
theorem dX12_fill_131 : decode cX12_fill 131 = .ok (.iload 10, 2) := by decide +kernel
theorem dX12_fill_133 : decode cX12_fill 133 = .ok (.ifCond .eq 7, 3) := by decide +kernel
theorem dX12_fill_136 : decode cX12_fill 136 = .ok (.iconst 1, 1) := by decide +kernel
theorem dX12_fill_137 : decode cX12_fill 137 = .ok (.goto 4, 3) := by decide +kernel
theorem dX12_fill_140 : decode cX12_fill 140 = .ok (.iconst 0, 1) := by decide +kernel
theorem dX12_fill_141 : decode cX12_fill 141 = .ok (.iadd, 1) := by decide +kernel
theorem dX12_fill_142 : decode cX12_fill 142 = .ok (.istore 5, 2) := by decide +kernel
theorem dX12_fill_144 : decode cX12_fill 144 = .ok (.iinc 8 1, 3) := by decide +kernel
theorem dX12_fill_147 : decode cX12_fill 147 = .ok (.goto (-91), 3) := by decide +kernel
theorem dX12_fill_150 : decode cX12_fill 150 = .ok (.iinc 7 1, 3) := by decide +kernel
theorem dX12_fill_153 : decode cX12_fill 153 = .ok (.goto (-111), 3) := by decide +kernel
theorem dX12_fill_156 : decode cX12_fill 156 = .ok (.iload 5, 2) := by decide +kernel
theorem dX12_fill_158 : decode cX12_fill 158 = .ok (.ireturn, 1) := by decide +kernel
theorem dX12_turn_0 : decode cX12_turn 0 = .ok (.aload_n 0, 1) := by decide +kernel
theorem dX12_turn_1 : decode cX12_turn 1 = .ok (.getfield 20, 3) := by decide +kernel
theorem dX12_turn_4 : decode cX12_turn 4 = .ok (.aload_n 0, 1) := by decide +kernel
theorem dX12_turn_5 : decode cX12_turn 5 = .ok (.getfield 93, 3) := by decide +kernel
theorem dX12_turn_8 : decode cX12_turn 8 = .ok (.iload_n 1, 1) := by decide +kernel
theorem dX12_turn_9 : decode cX12_turn 9 = .ok (.iaload, 1) := by decide +kernel
theorem dX12_turn_10 : decode cX12_turn 10 = .ok (.iaload, 1) := by decide +kernel
theorem dX12_turn_11 : decode cX12_turn 11 = .ok (.istore 5, 2) := by decide +kernel
theorem dX12_turn_13 : decode cX12_turn 13 = .ok (.iload_n 2, 1) := by decide +kernel
theorem dX12_turn_14 : decode cX12_turn 14 = .ok (.istore 6, 2) := by decide +kernel
theorem dX12_turn_16 : decode cX12_turn 16 = .ok (.iload 6, 2) := by decide +kernel
theorem dX12_turn_18 : decode cX12_turn 18 = .ok (.aload_n 0, 1) := by decide +kernel
theorem dX12_turn_19 : decode cX12_turn 19 = .ok (.getfield 96, 3) := by decide +kernel
theorem dX12_turn_22 : decode cX12_turn 22 = .ok (.iload_n 1, 1) := by decide +kernel
theorem dX12_turn_23 : decode cX12_turn 23 = .ok (.iaload, 1) := by decide +kernel
theorem dX12_turn_24 : decode cX12_turn 24 = .ok (.iload_n 2, 1) := by decide +kernel
theorem dX12_turn_25 : decode cX12_turn 25 = .ok (.iadd, 1) := by decide +kernel
theorem dX12_turn_26 : decode cX12_turn 26 = .ok (.if_icmp .ge 140, 3) := by decide +kernel
theorem dX12_turn_29 : decode cX12_turn 29 = .ok (.iload_n 2, 1) := by decide +kernel
theorem dX12_turn_30 : decode cX12_turn 30 = .ok (.istore 7, 2) := by decide +kernel
theorem dX12_turn_32 : decode cX12_turn 32 = .ok (.iload 7, 2) := by decide +kernel
theorem dX12_turn_34 : decode cX12_turn 34 = .ok (.aload_n 0, 1) := by decide +kernel
theorem dX12_turn_35 : decode cX12_turn 35 = .ok (.getfield 99, 3) := by decide +kernel
theorem dX12_turn_38 : decode cX12_turn 38 = .ok (.iload_n 1, 1) := by decide +kernel
theorem dX12_turn_39 : decode cX12_turn 39 = .ok (.iaload, 1) := by decide +kernel
theorem dX12_turn_40 : decode cX12_turn 40 = .ok (.iload_n 2, 1) := by decide +kernel
theorem dX12_turn_41 : decode cX12_turn 41 = .ok (.iadd, 1) := by decide +kernel
theorem dX12_turn_42 : decode cX12_turn 42 = .ok (.if_icmp .ge 118, 3) := by decide +kernel
theorem dX12_turn_45 : decode cX12_turn 45 = .ok (.iconst 0, 1) := by decide +kernel
theorem dX12_turn_46 : decode cX12_turn 46 = .ok (.istore 8, 2) := by decide +kernel
theorem dX12_turn_48 : decode cX12_turn 48 = .ok (.iconst 0, 1) := by decide +kernel
theorem dX12_turn_49 : decode cX12_turn 49 = .ok (.istore 9, 2) := by decide +kernel
theorem dX12_turn_51 : decode cX12_turn 51 = .ok (.iload 9, 2) := by decide +kernel
theorem dX12_turn_53 : decode cX12_turn 53 = .ok (.iconst 4, 1) := by decide +kernel
theorem dX12_turn_54 : decode cX12_turn 54 = .ok (.if_icmp .ge 41, 3) := by decide +kernel
theorem dX12_turn_57 : decode cX12_turn 57 = .ok (.iload 8, 2) := by decide +kernel
theorem dX12_turn_59 : decode cX12_turn 59 = .ok (.iload 5, 2) := by decide +kernel
theorem dX12_turn_61 : decode cX12_turn 61 = .ok (.imul, 1) := by decide +kernel
theorem dX12_turn_62 : decode cX12_turn 62 = .ok (.aload_n 0, 1) := by decide +kernel
theorem dX12_turn_63 : decode cX12_turn 63 = .ok (.getfield 105, 3) := by decide +kernel
theorem dX12_turn_66 : decode cX12_turn 66 = .ok (.aload_n 0, 1) := by decide +kernel
theorem dX12_turn_67 : decode cX12_turn 67 = .ok (.iload_n 1, 1) := by decide +kernel
theorem dX12_turn_68 : decode cX12_turn 68 = .ok (.iload 6, 2) := by decide +kernel
theorem dX12_turn_70 : decode cX12_turn 70 = .ok (.iload 9, 2) := by decide +kernel
theorem dX12_turn_72 : decode cX12_turn 72 = .ok (.iconst 2, 1) := by decide +kernel
theorem dX12_turn_73 : decode cX12_turn 73 = .ok (.idiv, 1) := by decide +kernel
theorem dX12_turn_74 : decode cX12_turn 74 = .ok (.iadd, 1) := by decide +kernel
theorem dX12_turn_75 : decode cX12_turn 75 = .ok (.iload 7, 2) := by decide +kernel
theorem dX12_turn_77 : decode cX12_turn 77 = .ok (.iload 9, 2) := by decide +kernel
theorem dX12_turn_79 : decode cX12_turn 79 = .ok (.iconst 2, 1) := by decide +kernel
theorem dX12_turn_80 : decode cX12_turn 80 = .ok (.irem, 1) := by decide +kernel
theorem dX12_turn_81 : decode cX12_turn 81 = .ok (.iadd, 1) := by decide +kernel
theorem dX12_turn_82 : decode cX12_turn 82 = .ok (.invokevirtual 323, 3) := by decide +kernel
theorem dX12_turn_85 : decode cX12_turn 85 = .ok (.iaload, 1) := by decide +kernel
theorem dX12_turn_86 : decode cX12_turn 86 = .ok (.iadd, 1) := by decide +kernel
theorem dX12_turn_87 : decode cX12_turn 87 = .ok (.istore 8, 2) := by decide +kernel
theorem dX12_turn_89 : decode cX12_turn 89 = .ok (.iinc 9 1, 3) := by decide +kernel
theorem dX12_turn_92 : decode cX12_turn 92 = .ok (.goto (-41), 3) := by decide +kernel
theorem dX12_turn_95 : decode cX12_turn 95 = .ok (.aload_n 3, 1) := by decide +kernel
theorem dX12_turn_96 : decode cX12_turn 96 = .ok (.iload 4, 2) := by decide +kernel
theorem dX12_turn_98 : decode cX12_turn 98 = .ok (.iload 8, 2) := by decide +kernel
theorem dX12_turn_100 : decode cX12_turn 100 = .ok (.iadd, 1) := by decide +kernel
theorem dX12_turn_101 : decode cX12_turn 101 = .ok (.iaload, 1) := by decide +kernel
theorem dX12_turn_102 : decode cX12_turn 102 = .ok (.istore 9, 2) := by decide +kernel
theorem dX12_turn_104 : decode cX12_turn 104 = .ok (.iconst 3, 1) := by decide +kernel
theorem dX12_turn_105 : decode cX12_turn 105 = .ok (.istore 10, 2) := by decide +kernel
theorem dX12_turn_107 : decode cX12_turn 107 = .ok (.iload 10, 2) := by decide +kernel
theorem dX12_turn_109 : decode cX12_turn 109 = .ok (.ifCond .lt 45, 3) := by decide +kernel
theorem dX12_turn_112 : decode cX12_turn 112 = .ok (.aload_n 0, 1) := by decide +kernel
theorem dX12_turn_113 : decode cX12_turn 113 = .ok (.getfield 105, 3) := by decide +kernel
theorem dX12_turn_116 : decode cX12_turn 116 = .ok (.aload_n 0, 1) := by decide +kernel
theorem dX12_turn_117 : decode cX12_turn 117 = .ok (.iload_n 1, 1) := by decide +kernel
theorem dX12_turn_118 : decode cX12_turn 118 = .ok (.iload 6, 2) := by decide +kernel
theorem dX12_turn_120 : decode cX12_turn 120 = .ok (.iload 10, 2) := by decide +kernel
theorem dX12_turn_122 : decode cX12_turn 122 = .ok (.iconst 2, 1) := by decide +kernel
theorem dX12_turn_123 : decode cX12_turn 123 = .ok (.idiv, 1) := by decide +kernel
theorem dX12_turn_124 : decode cX12_turn 124 = .ok (.iadd, 1) := by decide +kernel
theorem dX12_turn_125 : decode cX12_turn 125 = .ok (.iload 7, 2) := by decide +kernel
theorem dX12_turn_127 : decode cX12_turn 127 = .ok (.iload 10, 2) := by decide +kernel
theorem dX12_turn_129 : decode cX12_turn 129 = .ok (.iconst 2, 1) := by decide +kernel
theorem dX12_turn_130 : decode cX12_turn 130 = .ok (.irem, 1) := by decide +kernel
theorem dX12_turn_131 : decode cX12_turn 131 = .ok (.iadd, 1) := by decide +kernel
theorem dX12_turn_132 : decode cX12_turn 132 = .ok (.invokevirtual 323, 3) := by decide +kernel
theorem dX12_turn_135 : decode cX12_turn 135 = .ok (.iload 9, 2) := by decide +kernel
theorem dX12_turn_137 : decode cX12_turn 137 = .ok (.iload 5, 2) := by decide +kernel
theorem dX12_turn_139 : decode cX12_turn 139 = .ok (.irem, 1) := by decide +kernel
theorem dX12_turn_140 : decode cX12_turn 140 = .ok (.iastore, 1) := by decide +kernel
theorem dX12_turn_141 : decode cX12_turn 141 = .ok (.iload 9, 2) := by decide +kernel
theorem dX12_turn_143 : decode cX12_turn 143 = .ok (.iload 5, 2) := by decide +kernel
theorem dX12_turn_145 : decode cX12_turn 145 = .ok (.idiv, 1) := by decide +kernel
theorem dX12_turn_146 : decode cX12_turn 146 = .ok (.istore 9, 2) := by decide +kernel
theorem dX12_turn_148 : decode cX12_turn 148 = .ok (.iinc 10 (-1), 3) := by decide +kernel
theorem dX12_turn_151 : decode cX12_turn 151 = .ok (.goto (-44), 3) := by decide +kernel
theorem dX12_turn_154 : decode cX12_turn 154 = .ok (.iinc 7 2, 3) := by decide +kernel
theorem dX12_turn_157 : decode cX12_turn 157 = .ok (.goto (-125), 3) := by decide +kernel
theorem dX12_turn_160 : decode cX12_turn 160 = .ok (.iinc 6 2, 3) := by decide +kernel
theorem dX12_turn_163 : decode cX12_turn 163 = .ok (.goto (-147), 3) := by decide +kernel
theorem dX12_turn_166 : decode cX12_turn 166 = .ok (.return_, 1) := by decide +kernel
theorem dX12_blocksOf_0 : decode cX12_blocksOf 0 = .ok (.aload_n 0, 1) := by decide +kernel
theorem dX12_blocksOf_1 : decode cX12_blocksOf 1 = .ok (.getfield 20, 3) := by decide +kernel
theorem dX12_blocksOf_4 : decode cX12_blocksOf 4 = .ok (.iload_n 1, 1) := by decide +kernel
theorem dX12_blocksOf_5 : decode cX12_blocksOf 5 = .ok (.iaload, 1) := by decide +kernel
theorem dX12_blocksOf_6 : decode cX12_blocksOf 6 = .ok (.aload_n 0, 1) := by decide +kernel
theorem dX12_blocksOf_7 : decode cX12_blocksOf 7 = .ok (.getfield 20, 3) := by decide +kernel
theorem dX12_blocksOf_10 : decode cX12_blocksOf 10 = .ok (.iload_n 1, 1) := by decide +kernel
theorem dX12_blocksOf_11 : decode cX12_blocksOf 11 = .ok (.iaload, 1) := by decide +kernel
theorem dX12_blocksOf_12 : decode cX12_blocksOf 12 = .ok (.imul, 1) := by decide +kernel
theorem dX12_blocksOf_13 : decode cX12_blocksOf 13 = .ok (.aload_n 0, 1) := by decide +kernel
theorem dX12_blocksOf_14 : decode cX12_blocksOf 14 = .ok (.getfield 20, 3) := by decide +kernel
theorem dX12_blocksOf_17 : decode cX12_blocksOf 17 = .ok (.iload_n 1, 1) := by decide +kernel
theorem dX12_blocksOf_18 : decode cX12_blocksOf 18 = .ok (.iaload, 1) := by decide +kernel
theorem dX12_blocksOf_19 : decode cX12_blocksOf 19 = .ok (.imul, 1) := by decide +kernel
theorem dX12_blocksOf_20 : decode cX12_blocksOf 20 = .ok (.aload_n 0, 1) := by decide +kernel
theorem dX12_blocksOf_21 : decode cX12_blocksOf 21 = .ok (.getfield 20, 3) := by decide +kernel
theorem dX12_blocksOf_24 : decode cX12_blocksOf 24 = .ok (.iload_n 1, 1) := by decide +kernel
theorem dX12_blocksOf_25 : decode cX12_blocksOf 25 = .ok (.iaload, 1) := by decide +kernel
theorem dX12_blocksOf_26 : decode cX12_blocksOf 26 = .ok (.imul, 1) := by decide +kernel
theorem dX12_blocksOf_27 : decode cX12_blocksOf 27 = .ok (.ireturn, 1) := by decide +kernel
theorem dX12_isReversible_0 : decode cX12_isReversible 0 = .ok (.iconst 0, 1) := by decide +kernel
theorem dX12_isReversible_1 : decode cX12_isReversible 1 = .ok (.istore_n 2, 1) := by decide +kernel
theorem dX12_isReversible_2 : decode cX12_isReversible 2 = .ok (.iload_n 2, 1) := by decide +kernel
theorem dX12_isReversible_3 : decode cX12_isReversible 3 = .ok (.aload_n 0, 1) := by decide +kernel
theorem dX12_isReversible_4 : decode cX12_isReversible 4 = .ok (.iload_n 1, 1) := by decide +kernel
theorem dX12_isReversible_5 : decode cX12_isReversible 5 = .ok (.invokevirtual 328, 3) := by decide +kernel
theorem dX12_isReversible_8 : decode cX12_isReversible 8 = .ok (.if_icmp .ge 70, 3) := by decide +kernel
theorem dX12_isReversible_11 : decode cX12_isReversible 11 = .ok (.iload_n 2, 1) := by decide +kernel
theorem dX12_isReversible_12 : decode cX12_isReversible 12 = .ok (.iconst 1, 1) := by decide +kernel
theorem dX12_isReversible_13 : decode cX12_isReversible 13 = .ok (.iadd, 1) := by decide +kernel
theorem dX12_isReversible_14 : decode cX12_isReversible 14 = .ok (.istore_n 3, 1) := by decide +kernel
theorem dX12_isReversible_15 : decode cX12_isReversible 15 = .ok (.iload_n 3, 1) := by decide +kernel
theorem dX12_isReversible_16 : decode cX12_isReversible 16 = .ok (.aload_n 0, 1) := by decide +kernel
theorem dX12_isReversible_17 : decode cX12_isReversible 17 = .ok (.iload_n 1, 1) := by decide +kernel
theorem dX12_isReversible_18 : decode cX12_isReversible 18 = .ok (.invokevirtual 328, 3) := by decide +kernel
theorem dX12_isReversible_21 : decode cX12_isReversible 21 = .ok (.if_icmp .ge 51, 3) := by decide +kernel
theorem dX12_isReversible_24 : decode cX12_isReversible 24 = .ok (.aload_n 0, 1) := by decide +kernel
theorem dX12_isReversible_25 : decode cX12_isReversible 25 = .ok (.getfield 32, 3) := by decide +kernel
theorem dX12_isReversible_28 : decode cX12_isReversible 28 = .ok (.sipush 256, 3) := by decide +kernel
theorem dX12_isReversible_31 : decode cX12_isReversible 31 = .ok (.iload_n 1, 1) := by decide +kernel
theorem dX12_isReversible_32 : decode cX12_isReversible 32 = .ok (.imul, 1) := by decide +kernel
theorem dX12_isReversible_33 : decode cX12_isReversible 33 = .ok (.iload_n 2, 1) := by decide +kernel
theorem dX12_isReversible_34 : decode cX12_isReversible 34 = .ok (.iadd, 1) := by decide +kernel
theorem dX12_isReversible_35 : decode cX12_isReversible 35 = .ok (.iaload, 1) := by decide +kernel
theorem dX12_isReversible_36 : decode cX12_isReversible 36 = .ok (.aload_n 0, 1) := by decide +kernel
theorem dX12_isReversible_37 : decode cX12_isReversible 37 = .ok (.getfield 32, 3) := by decide +kernel
theorem dX12_isReversible_40 : decode cX12_isReversible 40 = .ok (.sipush 256, 3) := by decide +kernel
theorem dX12_isReversible_43 : decode cX12_isReversible 43 = .ok (.iload_n 1, 1) := by decide +kernel
theorem dX12_isReversible_44 : decode cX12_isReversible 44 = .ok (.imul, 1) := by decide +kernel
theorem dX12_isReversible_45 : decode cX12_isReversible 45 = .ok (.iload_n 3, 1) := by decide +kernel
theorem dX12_isReversible_46 : decode cX12_isReversible 46 = .ok (.iadd, 1) := by decide +kernel
theorem dX12_isReversible_47 : decode cX12_isReversible 47 = .ok (.iaload, 1) := by decide +kernel
theorem dX12_isReversible_48 : decode cX12_isReversible 48 = .ok (.if_icmp .eq 6, 3) := by decide +kernel
theorem dX12_isReversible_51 : decode cX12_isReversible 51 = .ok (.goto 15, 3) := by decide +kernel
theorem dX12_isReversible_54 : decode cX12_isReversible 54 = .ok (.aload_n 0, 1) := by decide +kernel
theorem dX12_isReversible_55 : decode cX12_isReversible 55 = .ok (.iload_n 2, 1) := by decide +kernel
theorem dX12_isReversible_56 : decode cX12_isReversible 56 = .ok (.putfield 331, 3) := by decide +kernel
theorem dX12_isReversible_59 : decode cX12_isReversible 59 = .ok (.aload_n 0, 1) := by decide +kernel
theorem dX12_isReversible_60 : decode cX12_isReversible 60 = .ok (.iload_n 3, 1) := by decide +kernel
theorem dX12_isReversible_61 : decode cX12_isReversible 61 = .ok (.putfield 334, 3) := by decide +kernel
theorem dX12_isReversible_64 : decode cX12_isReversible 64 = .ok (.iconst 0, 1) := by decide +kernel
theorem dX12_isReversible_65 : decode cX12_isReversible 65 = .ok (.ireturn, 1) := by decide +kernel
theorem dX12_isReversible_66 : decode cX12_isReversible 66 = .ok (.iinc 3 1, 3) := by decide +kernel
theorem dX12_isReversible_69 : decode cX12_isReversible 69 = .ok (.goto (-54), 3) := by decide +kernel
theorem dX12_isReversible_72 : decode cX12_isReversible 72 = .ok (.iinc 2 1, 3) := by decide +kernel
theorem dX12_isReversible_75 : decode cX12_isReversible 75 = .ok (.goto (-73), 3) := by decide +kernel
theorem dX12_isReversible_78 : decode cX12_isReversible 78 = .ok (.iconst 1, 1) := by decide +kernel
theorem dX12_isReversible_79 : decode cX12_isReversible 79 = .ok (.ireturn, 1) := by decide +kernel
theorem dX12_go_0 : decode cX12_go 0 = .ok (.aload_n 0, 1) := by decide +kernel
theorem dX12_go_1 : decode cX12_go 1 = .ok (.iload_n 1, 1) := by decide +kernel
theorem dX12_go_2 : decode cX12_go 2 = .ok (.invokevirtual 316, 3) := by decide +kernel
theorem dX12_go_5 : decode cX12_go 5 = .ok (.ifCond .eq 21, 3) := by decide +kernel
theorem dX12_go_8 : decode cX12_go 8 = .ok (.iload_n 2, 1) := by decide +kernel
theorem dX12_go_9 : decode cX12_go 9 = .ok (.ifCond .eq 17, 3) := by decide +kernel
theorem dX12_go_12 : decode cX12_go 12 = .ok (.iload_n 2, 1) := by decide +kernel
theorem dX12_go_13 : decode cX12_go 13 = .ok (.sipush (-1000), 3) := by decide +kernel
theorem dX12_go_16 : decode cX12_go 16 = .ok (.if_icmp .lt 10, 3) := by decide +kernel
theorem dX12_go_19 : decode cX12_go 19 = .ok (.iload_n 2, 1) := by decide +kernel
theorem dX12_go_20 : decode cX12_go 20 = .ok (.sipush 1000, 3) := by decide +kernel
theorem dX12_go_23 : decode cX12_go 23 = .ok (.if_icmp .le 5, 3) := by decide +kernel
theorem dX12_go_26 : decode cX12_go 26 = .ok (.iconst (-1), 1) := by decide +kernel
theorem dX12_go_27 : decode cX12_go 27 = .ok (.ireturn, 1) := by decide +kernel
theorem dX12_go_28 : decode cX12_go 28 = .ok (.aload_n 0, 1) := by decide +kernel
theorem dX12_go_29 : decode cX12_go 29 = .ok (.getfield 93, 3) := by decide +kernel
theorem dX12_go_32 : decode cX12_go 32 = .ok (.iload_n 1, 1) := by decide +kernel
theorem dX12_go_33 : decode cX12_go 33 = .ok (.iaload, 1) := by decide +kernel
theorem dX12_go_34 : decode cX12_go 34 = .ok (.istore_n 3, 1) := by decide +kernel
theorem dX12_go_35 : decode cX12_go 35 = .ok (.iload_n 2, 1) := by decide +kernel
theorem dX12_go_36 : decode cX12_go 36 = .ok (.ifCond .ge 25, 3) := by decide +kernel
theorem dX12_go_39 : decode cX12_go 39 = .ok (.aload_n 0, 1) := by decide +kernel
theorem dX12_go_40 : decode cX12_go 40 = .ok (.iload_n 3, 1) := by decide +kernel
theorem dX12_go_41 : decode cX12_go 41 = .ok (.invokevirtual 337, 3) := by decide +kernel
theorem dX12_go_44 : decode cX12_go 44 = .ok (.ifCond .eq 14, 3) := by decide +kernel
theorem dX12_go_47 : decode cX12_go 47 = .ok (.aload_n 0, 1) := by decide +kernel
theorem dX12_go_48 : decode cX12_go 48 = .ok (.getfield 102, 3) := by decide +kernel
theorem dX12_go_51 : decode cX12_go 51 = .ok (.iload_n 1, 1) := by decide +kernel
theorem dX12_go_52 : decode cX12_go 52 = .ok (.iaload, 1) := by decide +kernel
theorem dX12_go_53 : decode cX12_go 53 = .ok (.iload_n 2, 1) := by decide +kernel
theorem dX12_go_54 : decode cX12_go 54 = .ok (.ineg, 1) := by decide +kernel
theorem dX12_go_55 : decode cX12_go 55 = .ok (.if_icmp .ge 6, 3) := by decide +kernel
theorem dX12_go_58 : decode cX12_go 58 = .ok (.bipush (-2), 2) := by decide +kernel
theorem dX12_go_60 : decode cX12_go 60 = .ok (.ireturn, 1) := by decide +kernel
theorem dX12_go_61 : decode cX12_go 61 = .ok (.iconst 0, 1) := by decide +kernel
theorem dX12_go_62 : decode cX12_go 62 = .ok (.istore 4, 2) := by decide +kernel
theorem dX12_go_64 : decode cX12_go 64 = .ok (.iload 4, 2) := by decide +kernel
theorem dX12_go_66 : decode cX12_go 66 = .ok (.aload_n 0, 1) := by decide +kernel
theorem dX12_go_67 : decode cX12_go 67 = .ok (.iload_n 3, 1) := by decide +kernel
theorem dX12_go_68 : decode cX12_go 68 = .ok (.invokevirtual 328, 3) := by decide +kernel
theorem dX12_go_71 : decode cX12_go 71 = .ok (.if_icmp .ge 33, 3) := by decide +kernel
theorem dX12_go_74 : decode cX12_go 74 = .ok (.iload_n 2, 1) := by decide +kernel
theorem dX12_go_75 : decode cX12_go 75 = .ok (.ifCond .ge 29, 3) := by decide +kernel
theorem dX12_go_78 : decode cX12_go 78 = .ok (.aload_n 0, 1) := by decide +kernel
theorem dX12_go_79 : decode cX12_go 79 = .ok (.getfield 108, 3) := by decide +kernel
theorem dX12_go_82 : decode cX12_go 82 = .ok (.aload_n 0, 1) := by decide +kernel
theorem dX12_go_83 : decode cX12_go 83 = .ok (.getfield 32, 3) := by decide +kernel
theorem dX12_go_86 : decode cX12_go 86 = .ok (.sipush 256, 3) := by decide +kernel
theorem dX12_go_89 : decode cX12_go 89 = .ok (.iload_n 3, 1) := by decide +kernel
theorem dX12_go_90 : decode cX12_go 90 = .ok (.imul, 1) := by decide +kernel
theorem dX12_go_91 : decode cX12_go 91 = .ok (.iload 4, 2) := by decide +kernel
theorem dX12_go_93 : decode cX12_go 93 = .ok (.iadd, 1) := by decide +kernel
theorem dX12_go_94 : decode cX12_go 94 = .ok (.iaload, 1) := by decide +kernel
theorem dX12_go_95 : decode cX12_go 95 = .ok (.iload 4, 2) := by decide +kernel
theorem dX12_go_97 : decode cX12_go 97 = .ok (.iastore, 1) := by decide +kernel
theorem dX12_go_98 : decode cX12_go 98 = .ok (.iinc 4 1, 3) := by decide +kernel
theorem dX12_go_101 : decode cX12_go 101 = .ok (.goto (-37), 3) := by decide +kernel
theorem dX12_go_104 : decode cX12_go 104 = .ok (.iconst 0, 1) := by decide +kernel
theorem dX12_go_105 : decode cX12_go 105 = .ok (.istore 4, 2) := by decide +kernel
theorem dX12_go_107 : decode cX12_go 107 = .ok (.iload 4, 2) := by decide +kernel
theorem dX12_go_109 : decode cX12_go 109 = .ok (.iload_n 2, 1) := by decide +kernel
theorem dX12_go_110 : decode cX12_go 110 = .ok (.if_icmp .ge 41, 3) := by decide +kernel
theorem dX12_go_113 : decode cX12_go 113 = .ok (.aload_n 0, 1) := by decide +kernel
theorem dX12_go_114 : decode cX12_go 114 = .ok (.iload_n 1, 1) := by decide +kernel
theorem dX12_go_115 : decode cX12_go 115 = .ok (.aload_n 0, 1) := by decide +kernel
theorem dX12_go_116 : decode cX12_go 116 = .ok (.getfield 102, 3) := by decide +kernel
theorem dX12_go_119 : decode cX12_go 119 = .ok (.iload_n 1, 1) := by decide +kernel
theorem dX12_go_120 : decode cX12_go 120 = .ok (.iaload, 1) := by decide +kernel
theorem dX12_go_121 : decode cX12_go 121 = .ok (.iconst 2, 1) := by decide +kernel
theorem dX12_go_122 : decode cX12_go 122 = .ok (.irem, 1) := by decide +kernel
theorem dX12_go_123 : decode cX12_go 123 = .ok (.aload_n 0, 1) := by decide +kernel
theorem dX12_go_124 : decode cX12_go 124 = .ok (.getfield 32, 3) := by decide +kernel
theorem dX12_go_127 : decode cX12_go 127 = .ok (.sipush 256, 3) := by decide +kernel
theorem dX12_go_130 : decode cX12_go 130 = .ok (.iload_n 3, 1) := by decide +kernel
theorem dX12_go_131 : decode cX12_go 131 = .ok (.imul, 1) := by decide +kernel
theorem dX12_go_132 : decode cX12_go 132 = .ok (.invokevirtual 340, 3) := by decide +kernel
theorem dX12_go_135 : decode cX12_go 135 = .ok (.aload_n 0, 1) := by decide +kernel
theorem dX12_go_136 : decode cX12_go 136 = .ok (.getfield 102, 3) := by decide +kernel
theorem dX12_go_139 : decode cX12_go 139 = .ok (.iload_n 1, 1) := by decide +kernel
theorem dX12_go_140 : decode cX12_go 140 = .ok (.dup2, 1) := by decide +kernel
theorem dX12_go_141 : decode cX12_go 141 = .ok (.iaload, 1) := by decide +kernel
theorem dX12_go_142 : decode cX12_go 142 = .ok (.iconst 1, 1) := by decide +kernel
theorem dX12_go_143 : decode cX12_go 143 = .ok (.iadd, 1) := by decide +kernel
theorem dX12_go_144 : decode cX12_go 144 = .ok (.iastore, 1) := by decide +kernel
theorem dX12_go_145 : decode cX12_go 145 = .ok (.iinc 4 1, 3) := by decide +kernel
theorem dX12_go_148 : decode cX12_go 148 = .ok (.goto (-41), 3) := by decide +kernel
theorem dX12_go_151 : decode cX12_go 151 = .ok (.iconst 0, 1) := by decide +kernel
theorem dX12_go_152 : decode cX12_go 152 = .ok (.istore 4, 2) := by decide +kernel
theorem dX12_go_154 : decode cX12_go 154 = .ok (.iload 4, 2) := by decide +kernel
theorem dX12_go_156 : decode cX12_go 156 = .ok (.iload_n 2, 1) := by decide +kernel
theorem dX12_go_157 : decode cX12_go 157 = .ok (.ineg, 1) := by decide +kernel
theorem dX12_go_158 : decode cX12_go 158 = .ok (.if_icmp .ge 37, 3) := by decide +kernel
theorem dX12_go_161 : decode cX12_go 161 = .ok (.aload_n 0, 1) := by decide +kernel
theorem dX12_go_162 : decode cX12_go 162 = .ok (.getfield 102, 3) := by decide +kernel
theorem dX12_go_165 : decode cX12_go 165 = .ok (.iload_n 1, 1) := by decide +kernel
theorem dX12_go_166 : decode cX12_go 166 = .ok (.dup2, 1) := by decide +kernel
theorem dX12_go_167 : decode cX12_go 167 = .ok (.iaload, 1) := by decide +kernel
theorem dX12_go_168 : decode cX12_go 168 = .ok (.iconst 1, 1) := by decide +kernel
theorem dX12_go_169 : decode cX12_go 169 = .ok (.isub, 1) := by decide +kernel
theorem dX12_go_170 : decode cX12_go 170 = .ok (.iastore, 1) := by decide +kernel
theorem dX12_go_171 : decode cX12_go 171 = .ok (.aload_n 0, 1) := by decide +kernel
theorem dX12_go_172 : decode cX12_go 172 = .ok (.iload_n 1, 1) := by decide +kernel
theorem dX12_go_173 : decode cX12_go 173 = .ok (.aload_n 0, 1) := by decide +kernel
theorem dX12_go_174 : decode cX12_go 174 = .ok (.getfield 102, 3) := by decide +kernel
theorem dX12_go_177 : decode cX12_go 177 = .ok (.iload_n 1, 1) := by decide +kernel
theorem dX12_go_178 : decode cX12_go 178 = .ok (.iaload, 1) := by decide +kernel
theorem dX12_go_179 : decode cX12_go 179 = .ok (.iconst 2, 1) := by decide +kernel
theorem dX12_go_180 : decode cX12_go 180 = .ok (.irem, 1) := by decide +kernel
theorem dX12_go_181 : decode cX12_go 181 = .ok (.aload_n 0, 1) := by decide +kernel
theorem dX12_go_182 : decode cX12_go 182 = .ok (.getfield 108, 3) := by decide +kernel
theorem dX12_go_185 : decode cX12_go 185 = .ok (.iconst 0, 1) := by decide +kernel
theorem dX12_go_186 : decode cX12_go 186 = .ok (.invokevirtual 340, 3) := by decide +kernel
theorem dX12_go_189 : decode cX12_go 189 = .ok (.iinc 4 1, 3) := by decide +kernel
theorem dX12_go_192 : decode cX12_go 192 = .ok (.goto (-38), 3) := by decide +kernel
theorem dX12_go_195 : decode cX12_go 195 = .ok (.aload_n 0, 1) := by decide +kernel
theorem dX12_go_196 : decode cX12_go 196 = .ok (.getfield 102, 3) := by decide +kernel
theorem dX12_go_199 : decode cX12_go 199 = .ok (.iload_n 1, 1) := by decide +kernel
theorem dX12_go_200 : decode cX12_go 200 = .ok (.iaload, 1) := by decide +kernel
theorem dX12_go_201 : decode cX12_go 201 = .ok (.ireturn, 1) := by decide +kernel
theorem dX12_amount_0 : decode cX12_amount 0 = .ok (.aload_n 0, 1) := by decide +kernel
theorem dX12_amount_1 : decode cX12_amount 1 = .ok (.iload_n 1, 1) := by decide +kernel
theorem dX12_amount_2 : decode cX12_amount 2 = .ok (.invokevirtual 316, 3) := by decide +kernel
theorem dX12_amount_5 : decode cX12_amount 5 = .ok (.ifCond .eq 22, 3) := by decide +kernel
theorem dX12_amount_8 : decode cX12_amount 8 = .ok (.iload_n 2, 1) := by decide +kernel
theorem dX12_amount_9 : decode cX12_amount 9 = .ok (.ifCond .lt 18, 3) := by decide +kernel
theorem dX12_amount_12 : decode cX12_amount 12 = .ok (.iload_n 2, 1) := by decide +kernel
theorem dX12_amount_13 : decode cX12_amount 13 = .ok (.aload_n 0, 1) := by decide +kernel
theorem dX12_amount_14 : decode cX12_amount 14 = .ok (.getfield 20, 3) := by decide +kernel
theorem dX12_amount_17 : decode cX12_amount 17 = .ok (.aload_n 0, 1) := by decide +kernel
theorem dX12_amount_18 : decode cX12_amount 18 = .ok (.getfield 93, 3) := by decide +kernel
theorem dX12_amount_21 : decode cX12_amount 21 = .ok (.iload_n 1, 1) := by decide +kernel
theorem dX12_amount_22 : decode cX12_amount 22 = .ok (.iaload, 1) := by decide +kernel
theorem dX12_amount_23 : decode cX12_amount 23 = .ok (.iaload, 1) := by decide +kernel
theorem dX12_amount_24 : decode cX12_amount 24 = .ok (.if_icmp .lt 5, 3) := by decide +kernel
theorem dX12_amount_27 : decode cX12_amount 27 = .ok (.iconst (-1), 1) := by decide +kernel
theorem dX12_amount_28 : decode cX12_amount 28 = .ok (.ireturn, 1) := by decide +kernel
theorem dX12_amount_29 : decode cX12_amount 29 = .ok (.iconst 0, 1) := by decide +kernel
theorem dX12_amount_30 : decode cX12_amount 30 = .ok (.istore_n 3, 1) := by decide +kernel
theorem dX12_amount_31 : decode cX12_amount 31 = .ok (.iconst 0, 1) := by decide +kernel
theorem dX12_amount_32 : decode cX12_amount 32 = .ok (.istore 4, 2) := by decide +kernel
theorem dX12_amount_34 : decode cX12_amount 34 = .ok (.iload 4, 2) := by decide +kernel
theorem dX12_amount_36 : decode cX12_amount 36 = .ok (.aload_n 0, 1) := by decide +kernel
theorem dX12_amount_37 : decode cX12_amount 37 = .ok (.getfield 96, 3) := by decide +kernel
theorem dX12_amount_40 : decode cX12_amount 40 = .ok (.iload_n 1, 1) := by decide +kernel
theorem dX12_amount_41 : decode cX12_amount 41 = .ok (.iaload, 1) := by decide +kernel
theorem dX12_amount_42 : decode cX12_amount 42 = .ok (.aload_n 0, 1) := by decide +kernel
theorem dX12_amount_43 : decode cX12_amount 43 = .ok (.getfield 99, 3) := by decide +kernel
theorem dX12_amount_46 : decode cX12_amount 46 = .ok (.iload_n 1, 1) := by decide +kernel
theorem dX12_amount_47 : decode cX12_amount 47 = .ok (.iaload, 1) := by decide +kernel
theorem dX12_amount_48 : decode cX12_amount 48 = .ok (.imul, 1) := by decide +kernel
theorem dX12_amount_49 : decode cX12_amount 49 = .ok (.if_icmp .ge 34, 3) := by decide +kernel
theorem dX12_amount_52 : decode cX12_amount 52 = .ok (.iload_n 3, 1) := by decide +kernel
theorem dX12_amount_53 : decode cX12_amount 53 = .ok (.aload_n 0, 1) := by decide +kernel
theorem dX12_amount_54 : decode cX12_amount 54 = .ok (.getfield 105, 3) := by decide +kernel
theorem dX12_amount_57 : decode cX12_amount 57 = .ok (.sipush 256, 3) := by decide +kernel
theorem dX12_amount_60 : decode cX12_amount 60 = .ok (.iload_n 1, 1) := by decide +kernel
theorem dX12_amount_61 : decode cX12_amount 61 = .ok (.imul, 1) := by decide +kernel
theorem dX12_amount_62 : decode cX12_amount 62 = .ok (.iload 4, 2) := by decide +kernel
theorem dX12_amount_64 : decode cX12_amount 64 = .ok (.iadd, 1) := by decide +kernel
theorem dX12_amount_65 : decode cX12_amount 65 = .ok (.iaload, 1) := by decide +kernel
theorem dX12_amount_66 : decode cX12_amount 66 = .ok (.iload_n 2, 1) := by decide +kernel
theorem dX12_amount_67 : decode cX12_amount 67 = .ok (.if_icmp .ne 7, 3) := by decide +kernel
theorem dX12_amount_70 : decode cX12_amount 70 = .ok (.iconst 1, 1) := by decide +kernel
theorem dX12_amount_71 : decode cX12_amount 71 = .ok (.goto 4, 3) := by decide +kernel
theorem dX12_amount_74 : decode cX12_amount 74 = .ok (.iconst 0, 1) := by decide +kernel
theorem dX12_amount_75 : decode cX12_amount 75 = .ok (.iadd, 1) := by decide +kernel
theorem dX12_amount_76 : decode cX12_amount 76 = .ok (.istore_n 3, 1) := by decide +kernel
theorem dX12_amount_77 : decode cX12_amount 77 = .ok (.iinc 4 1, 3) := by decide +kernel
theorem dX12_amount_80 : decode cX12_amount 80 = .ok (.goto (-46), 3) := by decide +kernel
theorem dX12_amount_83 : decode cX12_amount 83 = .ok (.iload_n 3, 1) := by decide +kernel
theorem dX12_amount_84 : decode cX12_amount 84 = .ok (.ireturn, 1) := by decide +kernel
theorem dX12_reversible_0 : decode cX12_reversible 0 = .ok (.aload_n 0, 1) := by decide +kernel
theorem dX12_reversible_1 : decode cX12_reversible 1 = .ok (.iload_n 1, 1) := by decide +kernel
theorem dX12_reversible_2 : decode cX12_reversible 2 = .ok (.invokevirtual 161, 3) := by decide +kernel
theorem dX12_reversible_5 : decode cX12_reversible 5 = .ok (.ifCond .ne 7, 3) := by decide +kernel
theorem dX12_reversible_8 : decode cX12_reversible 8 = .ok (.iconst (-1), 1) := by decide +kernel
theorem dX12_reversible_9 : decode cX12_reversible 9 = .ok (.goto 29, 3) := by decide +kernel
theorem dX12_reversible_12 : decode cX12_reversible 12 = .ok (.aload_n 0, 1) := by decide +kernel
theorem dX12_reversible_13 : decode cX12_reversible 13 = .ok (.iload_n 1, 1) := by decide +kernel
theorem dX12_reversible_14 : decode cX12_reversible 14 = .ok (.invokevirtual 158, 3) := by decide +kernel
theorem dX12_reversible_17 : decode cX12_reversible 17 = .ok (.ifCond .ne 8, 3) := by decide +kernel
theorem dX12_reversible_20 : decode cX12_reversible 20 = .ok (.bipush (-2), 2) := by decide +kernel
theorem dX12_reversible_22 : decode cX12_reversible 22 = .ok (.goto 16, 3) := by decide +kernel
theorem dX12_reversible_25 : decode cX12_reversible 25 = .ok (.aload_n 0, 1) := by decide +kernel
theorem dX12_reversible_26 : decode cX12_reversible 26 = .ok (.iload_n 1, 1) := by decide +kernel
theorem dX12_reversible_27 : decode cX12_reversible 27 = .ok (.invokevirtual 337, 3) := by decide +kernel
theorem dX12_reversible_30 : decode cX12_reversible 30 = .ok (.ifCond .eq 7, 3) := by decide +kernel
theorem dX12_reversible_33 : decode cX12_reversible 33 = .ok (.iconst 1, 1) := by decide +kernel
theorem dX12_reversible_34 : decode cX12_reversible 34 = .ok (.goto 4, 3) := by decide +kernel
theorem dX12_reversible_37 : decode cX12_reversible 37 = .ok (.iconst 0, 1) := by decide +kernel
theorem dX12_reversible_38 : decode cX12_reversible 38 = .ok (.ireturn, 1) := by decide +kernel
theorem dX12_clash_0 : decode cX12_clash 0 = .ok (.aload_n 0, 1) := by decide +kernel
theorem dX12_clash_1 : decode cX12_clash 1 = .ok (.iload_n 1, 1) := by decide +kernel
theorem dX12_clash_2 : decode cX12_clash 2 = .ok (.invokevirtual 161, 3) := by decide +kernel
theorem dX12_clash_5 : decode cX12_clash 5 = .ok (.ifCond .eq 12, 3) := by decide +kernel
theorem dX12_clash_8 : decode cX12_clash 8 = .ok (.iload_n 2, 1) := by decide +kernel
theorem dX12_clash_9 : decode cX12_clash 9 = .ok (.ifCond .lt 8, 3) := by decide +kernel
theorem dX12_clash_12 : decode cX12_clash 12 = .ok (.iload_n 2, 1) := by decide +kernel
theorem dX12_clash_13 : decode cX12_clash 13 = .ok (.iconst 1, 1) := by decide +kernel
theorem dX12_clash_14 : decode cX12_clash 14 = .ok (.if_icmp .le 5, 3) := by decide +kernel
theorem dX12_clash_17 : decode cX12_clash 17 = .ok (.iconst (-1), 1) := by decide +kernel
theorem dX12_clash_18 : decode cX12_clash 18 = .ok (.ireturn, 1) := by decide +kernel
theorem dX12_clash_19 : decode cX12_clash 19 = .ok (.aload_n 0, 1) := by decide +kernel
theorem dX12_clash_20 : decode cX12_clash 20 = .ok (.iload_n 1, 1) := by decide +kernel
theorem dX12_clash_21 : decode cX12_clash 21 = .ok (.invokevirtual 158, 3) := by decide +kernel
theorem dX12_clash_24 : decode cX12_clash 24 = .ok (.ifCond .eq 11, 3) := by decide +kernel
theorem dX12_clash_27 : decode cX12_clash 27 = .ok (.aload_n 0, 1) := by decide +kernel
theorem dX12_clash_28 : decode cX12_clash 28 = .ok (.iload_n 1, 1) := by decide +kernel
theorem dX12_clash_29 : decode cX12_clash 29 = .ok (.invokevirtual 337, 3) := by decide +kernel
theorem dX12_clash_32 : decode cX12_clash 32 = .ok (.ifCond .eq 6, 3) := by decide +kernel
theorem dX12_clash_35 : decode cX12_clash 35 = .ok (.bipush (-2), 2) := by decide +kernel
theorem dX12_clash_37 : decode cX12_clash 37 = .ok (.ireturn, 1) := by decide +kernel
theorem dX12_clash_38 : decode cX12_clash 38 = .ok (.iload_n 2, 1) := by decide +kernel
theorem dX12_clash_39 : decode cX12_clash 39 = .ok (.ifCond .ne 10, 3) := by decide +kernel
theorem dX12_clash_42 : decode cX12_clash 42 = .ok (.aload_n 0, 1) := by decide +kernel
theorem dX12_clash_43 : decode cX12_clash 43 = .ok (.getfield 331, 3) := by decide +kernel
theorem dX12_clash_46 : decode cX12_clash 46 = .ok (.goto 7, 3) := by decide +kernel
theorem dX12_clash_49 : decode cX12_clash 49 = .ok (.aload_n 0, 1) := by decide +kernel
theorem dX12_clash_50 : decode cX12_clash 50 = .ok (.getfield 334, 3) := by decide +kernel
theorem dX12_clash_53 : decode cX12_clash 53 = .ok (.ireturn, 1) := by decide +kernel
theorem dX12_common_0 : decode cX12_common 0 = .ok (.lload_n 0, 1) := by decide +kernel
theorem dX12_common_1 : decode cX12_common 1 = .ok (.lconst 0, 1) := by decide +kernel
theorem dX12_common_2 : decode cX12_common 2 = .ok (.lcmp, 1) := by decide +kernel
theorem dX12_common_3 : decode cX12_common 3 = .ok (.ifCond .ge 8, 3) := by decide +kernel
theorem dX12_common_6 : decode cX12_common 6 = .ok (.lload_n 0, 1) := by decide +kernel
theorem dX12_common_7 : decode cX12_common 7 = .ok (.lneg, 1) := by decide +kernel
theorem dX12_common_8 : decode cX12_common 8 = .ok (.goto 4, 3) := by decide +kernel
theorem dX12_common_11 : decode cX12_common 11 = .ok (.lload_n 0, 1) := by decide +kernel
theorem dX12_common_12 : decode cX12_common 12 = .ok (.lstore 4, 2) := by decide +kernel
theorem dX12_common_14 : decode cX12_common 14 = .ok (.lload_n 2, 1) := by decide +kernel
theorem dX12_common_15 : decode cX12_common 15 = .ok (.lconst 0, 1) := by decide +kernel
theorem dX12_common_16 : decode cX12_common 16 = .ok (.lcmp, 1) := by decide +kernel
theorem dX12_common_17 : decode cX12_common 17 = .ok (.ifCond .ge 8, 3) := by decide +kernel
theorem dX12_common_20 : decode cX12_common 20 = .ok (.lload_n 2, 1) := by decide +kernel
theorem dX12_common_21 : decode cX12_common 21 = .ok (.lneg, 1) := by decide +kernel
theorem dX12_common_22 : decode cX12_common 22 = .ok (.goto 4, 3) := by decide +kernel
theorem dX12_common_25 : decode cX12_common 25 = .ok (.lload_n 2, 1) := by decide +kernel
theorem dX12_common_26 : decode cX12_common 26 = .ok (.lstore 6, 2) := by decide +kernel
theorem dX12_common_28 : decode cX12_common 28 = .ok (.lload 6, 2) := by decide +kernel
theorem dX12_common_30 : decode cX12_common 30 = .ok (.lconst 0, 1) := by decide +kernel
theorem dX12_common_31 : decode cX12_common 31 = .ok (.lcmp, 1) := by decide +kernel
theorem dX12_common_32 : decode cX12_common 32 = .ok (.ifCond .eq 21, 3) := by decide +kernel
theorem dX12_common_35 : decode cX12_common 35 = .ok (.lload 4, 2) := by decide +kernel
theorem dX12_common_37 : decode cX12_common 37 = .ok (.lload 6, 2) := by decide +kernel
theorem dX12_common_39 : decode cX12_common 39 = .ok (.lrem, 1) := by decide +kernel
theorem dX12_common_40 : decode cX12_common 40 = .ok (.lstore 8, 2) := by decide +kernel
theorem dX12_common_42 : decode cX12_common 42 = .ok (.lload 6, 2) := by decide +kernel
theorem dX12_common_44 : decode cX12_common 44 = .ok (.lstore 4, 2) := by decide +kernel
theorem dX12_common_46 : decode cX12_common 46 = .ok (.lload 8, 2) := by decide +kernel
theorem dX12_common_48 : decode cX12_common 48 = .ok (.lstore 6, 2) := by decide +kernel
theorem dX12_common_50 : decode cX12_common 50 = .ok (.goto (-22), 3) := by decide +kernel
theorem dX12_common_53 : decode cX12_common 53 = .ok (.lload 4, 2) := by decide +kernel
theorem dX12_common_55 : decode cX12_common 55 = .ok (.lreturn, 1) := by decide +kernel
theorem dX12_lighter_0 : decode cX12_lighter 0 = .ok (.lconst 0, 1) := by decide +kernel
theorem dX12_lighter_1 : decode cX12_lighter 1 = .ok (.lstore 4, 2) := by decide +kernel
theorem dX12_lighter_3 : decode cX12_lighter 3 = .ok (.iconst 0, 1) := by decide +kernel
theorem dX12_lighter_4 : decode cX12_lighter 4 = .ok (.istore 6, 2) := by decide +kernel
theorem dX12_lighter_6 : decode cX12_lighter 6 = .ok (.iload 6, 2) := by decide +kernel
theorem dX12_lighter_8 : decode cX12_lighter 8 = .ok (.iload_n 3, 1) := by decide +kernel
theorem dX12_lighter_9 : decode cX12_lighter 9 = .ok (.if_icmp .ge 22, 3) := by decide +kernel
theorem dX12_lighter_12 : decode cX12_lighter 12 = .ok (.lload 4, 2) := by decide +kernel
theorem dX12_lighter_14 : decode cX12_lighter 14 = .ok (.aload_n 1, 1) := by decide +kernel
theorem dX12_lighter_15 : decode cX12_lighter 15 = .ok (.iload_n 2, 1) := by decide +kernel
theorem dX12_lighter_16 : decode cX12_lighter 16 = .ok (.iload 6, 2) := by decide +kernel
theorem dX12_lighter_18 : decode cX12_lighter 18 = .ok (.iadd, 1) := by decide +kernel
theorem dX12_lighter_19 : decode cX12_lighter 19 = .ok (.laload, 1) := by decide +kernel
theorem dX12_lighter_20 : decode cX12_lighter 20 = .ok (.invokestatic 344, 3) := by decide +kernel
theorem dX12_lighter_23 : decode cX12_lighter 23 = .ok (.lstore 4, 2) := by decide +kernel
theorem dX12_lighter_25 : decode cX12_lighter 25 = .ok (.iinc 6 1, 3) := by decide +kernel
theorem dX12_lighter_28 : decode cX12_lighter 28 = .ok (.goto (-22), 3) := by decide +kernel
theorem dX12_lighter_31 : decode cX12_lighter 31 = .ok (.iconst 0, 1) := by decide +kernel
theorem dX12_lighter_32 : decode cX12_lighter 32 = .ok (.istore 6, 2) := by decide +kernel
theorem dX12_lighter_34 : decode cX12_lighter 34 = .ok (.iload 6, 2) := by decide +kernel
theorem dX12_lighter_36 : decode cX12_lighter 36 = .ok (.iload_n 3, 1) := by decide +kernel
theorem dX12_lighter_37 : decode cX12_lighter 37 = .ok (.if_icmp .ge 27, 3) := by decide +kernel
theorem dX12_lighter_40 : decode cX12_lighter 40 = .ok (.lload 4, 2) := by decide +kernel
theorem dX12_lighter_42 : decode cX12_lighter 42 = .ok (.lconst 1, 1) := by decide +kernel
theorem dX12_lighter_43 : decode cX12_lighter 43 = .ok (.lcmp, 1) := by decide +kernel
theorem dX12_lighter_44 : decode cX12_lighter 44 = .ok (.ifCond .le 20, 3) := by decide +kernel
theorem dX12_lighter_47 : decode cX12_lighter 47 = .ok (.aload_n 1, 1) := by decide +kernel
theorem dX12_lighter_48 : decode cX12_lighter 48 = .ok (.iload_n 2, 1) := by decide +kernel
theorem dX12_lighter_49 : decode cX12_lighter 49 = .ok (.iload 6, 2) := by decide +kernel
theorem dX12_lighter_51 : decode cX12_lighter 51 = .ok (.iadd, 1) := by decide +kernel
theorem dX12_lighter_52 : decode cX12_lighter 52 = .ok (.dup2, 1) := by decide +kernel
theorem dX12_lighter_53 : decode cX12_lighter 53 = .ok (.laload, 1) := by decide +kernel
theorem dX12_lighter_54 : decode cX12_lighter 54 = .ok (.lload 4, 2) := by decide +kernel
theorem dX12_lighter_56 : decode cX12_lighter 56 = .ok (.ldiv, 1) := by decide +kernel
theorem dX12_lighter_57 : decode cX12_lighter 57 = .ok (.lastore, 1) := by decide +kernel
theorem dX12_lighter_58 : decode cX12_lighter 58 = .ok (.iinc 6 1, 3) := by decide +kernel
theorem dX12_lighter_61 : decode cX12_lighter 61 = .ok (.goto (-27), 3) := by decide +kernel
theorem dX12_lighter_64 : decode cX12_lighter 64 = .ok (.return_, 1) := by decide +kernel
