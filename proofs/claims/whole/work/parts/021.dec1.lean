theorem dX0_init_0 : decode cX0_init 0 = .ok (.aload_n 0, 1) := by decide +kernel
theorem dX0_init_1 : decode cX0_init 1 = .ok (.invokespecial 1, 3) := by decide +kernel
theorem dX0_init_4 : decode cX0_init 4 = .ok (.aload_n 0, 1) := by decide +kernel
theorem dX0_init_5 : decode cX0_init 5 = .ok (.iconst 4, 1) := by decide +kernel
theorem dX0_init_6 : decode cX0_init 6 = .ok (.iconst 4, 1) := by decide +kernel
theorem dX0_init_7 : decode cX0_init 7 = .ok (.multianewarray 9 2, 4) := by decide +kernel
theorem dX0_init_11 : decode cX0_init 11 = .ok (.putfield 11, 3) := by decide +kernel
theorem dX0_init_14 : decode cX0_init 14 = .ok (.aload_n 0, 1) := by decide +kernel
theorem dX0_init_15 : decode cX0_init 15 = .ok (.iconst 4, 1) := by decide +kernel
theorem dX0_init_16 : decode cX0_init 16 = .ok (.newarray .long, 2) := by decide +kernel
theorem dX0_init_18 : decode cX0_init 18 = .ok (.putfield 14, 3) := by decide +kernel
theorem dX0_init_21 : decode cX0_init 21 = .ok (.return_, 1) := by decide +kernel
theorem dX0_solve_0 : decode cX0_solve 0 = .ok (.iload_n 2, 1) := by decide +kernel
theorem dX0_solve_1 : decode cX0_solve 1 = .ok (.iconst 2, 1) := by decide +kernel
theorem dX0_solve_2 : decode cX0_solve 2 = .ok (.if_icmp .lt 16, 3) := by decide +kernel
theorem dX0_solve_5 : decode cX0_solve 5 = .ok (.iload_n 2, 1) := by decide +kernel
theorem dX0_solve_6 : decode cX0_solve 6 = .ok (.iconst 4, 1) := by decide +kernel
theorem dX0_solve_7 : decode cX0_solve 7 = .ok (.if_icmp .gt 11, 3) := by decide +kernel
theorem dX0_solve_10 : decode cX0_solve 10 = .ok (.aload_n 3, 1) := by decide +kernel
theorem dX0_solve_11 : decode cX0_solve 11 = .ok (.arraylength, 1) := by decide +kernel
theorem dX0_solve_12 : decode cX0_solve 12 = .ok (.iload_n 2, 1) := by decide +kernel
theorem dX0_solve_13 : decode cX0_solve 13 = .ok (.iload_n 2, 1) := by decide +kernel
theorem dX0_solve_14 : decode cX0_solve 14 = .ok (.imul, 1) := by decide +kernel
theorem dX0_solve_15 : decode cX0_solve 15 = .ok (.if_icmp .ge 5, 3) := by decide +kernel
theorem dX0_solve_18 : decode cX0_solve 18 = .ok (.iconst 0, 1) := by decide +kernel
theorem dX0_solve_19 : decode cX0_solve 19 = .ok (.ireturn, 1) := by decide +kernel
theorem dX0_solve_20 : decode cX0_solve 20 = .ok (.iconst 0, 1) := by decide +kernel
theorem dX0_solve_21 : decode cX0_solve 21 = .ok (.istore 4, 2) := by decide +kernel
theorem dX0_solve_23 : decode cX0_solve 23 = .ok (.iload 4, 2) := by decide +kernel
theorem dX0_solve_25 : decode cX0_solve 25 = .ok (.iconst 4, 1) := by decide +kernel
theorem dX0_solve_26 : decode cX0_solve 26 = .ok (.if_icmp .ge 20, 3) := by decide +kernel
theorem dX0_solve_29 : decode cX0_solve 29 = .ok (.aload_n 0, 1) := by decide +kernel
theorem dX0_solve_30 : decode cX0_solve 30 = .ok (.getfield 11, 3) := by decide +kernel
theorem dX0_solve_33 : decode cX0_solve 33 = .ok (.iload 4, 2) := by decide +kernel
theorem dX0_solve_35 : decode cX0_solve 35 = .ok (.aaload, 1) := by decide +kernel
theorem dX0_solve_36 : decode cX0_solve 36 = .ok (.lconst 0, 1) := by decide +kernel
theorem dX0_solve_37 : decode cX0_solve 37 = .ok (.invokestatic 18, 3) := by decide +kernel
theorem dX0_solve_40 : decode cX0_solve 40 = .ok (.iinc 4 1, 3) := by decide +kernel
theorem dX0_solve_43 : decode cX0_solve 43 = .ok (.goto (-20), 3) := by decide +kernel
theorem dX0_solve_46 : decode cX0_solve 46 = .ok (.iconst 0, 1) := by decide +kernel
theorem dX0_solve_47 : decode cX0_solve 47 = .ok (.istore 4, 2) := by decide +kernel
theorem dX0_solve_49 : decode cX0_solve 49 = .ok (.iload 4, 2) := by decide +kernel
theorem dX0_solve_51 : decode cX0_solve 51 = .ok (.aload_n 1, 1) := by decide +kernel
theorem dX0_solve_52 : decode cX0_solve 52 = .ok (.arraylength, 1) := by decide +kernel
theorem dX0_solve_53 : decode cX0_solve 53 = .ok (.if_icmp .ge 40, 3) := by decide +kernel
theorem dX0_solve_56 : decode cX0_solve 56 = .ok (.aload_n 0, 1) := by decide +kernel
theorem dX0_solve_57 : decode cX0_solve 57 = .ok (.getfield 14, 3) := by decide +kernel
theorem dX0_solve_60 : decode cX0_solve 60 = .ok (.lconst 0, 1) := by decide +kernel
theorem dX0_solve_61 : decode cX0_solve 61 = .ok (.invokestatic 18, 3) := by decide +kernel
theorem dX0_solve_64 : decode cX0_solve 64 = .ok (.aload_n 0, 1) := by decide +kernel
theorem dX0_solve_65 : decode cX0_solve 65 = .ok (.iload 4, 2) := by decide +kernel
theorem dX0_solve_67 : decode cX0_solve 67 = .ok (.iload_n 2, 1) := by decide +kernel
theorem dX0_solve_68 : decode cX0_solve 68 = .ok (.iconst 1, 1) := by decide +kernel
theorem dX0_solve_69 : decode cX0_solve 69 = .ok (.invokevirtual 24, 3) := by decide +kernel
theorem dX0_solve_72 : decode cX0_solve 72 = .ok (.aload_n 0, 1) := by decide +kernel
theorem dX0_solve_73 : decode cX0_solve 73 = .ok (.aload_n 1, 1) := by decide +kernel
theorem dX0_solve_74 : decode cX0_solve 74 = .ok (.iload 4, 2) := by decide +kernel
theorem dX0_solve_76 : decode cX0_solve 76 = .ok (.iaload, 1) := by decide +kernel
theorem dX0_solve_77 : decode cX0_solve 77 = .ok (.iload_n 2, 1) := by decide +kernel
theorem dX0_solve_78 : decode cX0_solve 78 = .ok (.iconst (-1), 1) := by decide +kernel
theorem dX0_solve_79 : decode cX0_solve 79 = .ok (.invokevirtual 24, 3) := by decide +kernel
theorem dX0_solve_82 : decode cX0_solve 82 = .ok (.aload_n 0, 1) := by decide +kernel
theorem dX0_solve_83 : decode cX0_solve 83 = .ok (.iload_n 2, 1) := by decide +kernel
theorem dX0_solve_84 : decode cX0_solve 84 = .ok (.invokevirtual 28, 3) := by decide +kernel
theorem dX0_solve_87 : decode cX0_solve 87 = .ok (.iinc 4 1, 3) := by decide +kernel
theorem dX0_solve_90 : decode cX0_solve 90 = .ok (.goto (-41), 3) := by decide +kernel
theorem dX0_solve_93 : decode cX0_solve 93 = .ok (.aload_n 0, 1) := by decide +kernel
theorem dX0_solve_94 : decode cX0_solve 94 = .ok (.iload_n 2, 1) := by decide +kernel
theorem dX0_solve_95 : decode cX0_solve 95 = .ok (.invokevirtual 32, 3) := by decide +kernel
theorem dX0_solve_98 : decode cX0_solve 98 = .ok (.iconst 0, 1) := by decide +kernel
theorem dX0_solve_99 : decode cX0_solve 99 = .ok (.istore 4, 2) := by decide +kernel
theorem dX0_solve_101 : decode cX0_solve 101 = .ok (.iconst 0, 1) := by decide +kernel
theorem dX0_solve_102 : decode cX0_solve 102 = .ok (.istore 5, 2) := by decide +kernel
theorem dX0_solve_104 : decode cX0_solve 104 = .ok (.iload 5, 2) := by decide +kernel
theorem dX0_solve_106 : decode cX0_solve 106 = .ok (.iload_n 2, 1) := by decide +kernel
theorem dX0_solve_107 : decode cX0_solve 107 = .ok (.if_icmp .ge 33, 3) := by decide +kernel
theorem dX0_solve_110 : decode cX0_solve 110 = .ok (.aload_n 0, 1) := by decide +kernel
theorem dX0_solve_111 : decode cX0_solve 111 = .ok (.iload 5, 2) := by decide +kernel
theorem dX0_solve_113 : decode cX0_solve 113 = .ok (.invokevirtual 35, 3) := by decide +kernel
theorem dX0_solve_116 : decode cX0_solve 116 = .ok (.ifCond .ne 18, 3) := by decide +kernel
theorem dX0_solve_119 : decode cX0_solve 119 = .ok (.aload_n 0, 1) := by decide +kernel
theorem dX0_solve_120 : decode cX0_solve 120 = .ok (.iload 5, 2) := by decide +kernel
theorem dX0_solve_122 : decode cX0_solve 122 = .ok (.iload_n 2, 1) := by decide +kernel
theorem dX0_solve_123 : decode cX0_solve 123 = .ok (.aload_n 3, 1) := by decide +kernel
theorem dX0_solve_124 : decode cX0_solve 124 = .ok (.iload 4, 2) := by decide +kernel
theorem dX0_solve_126 : decode cX0_solve 126 = .ok (.iload_n 2, 1) := by decide +kernel
theorem dX0_solve_127 : decode cX0_solve 127 = .ok (.imul, 1) := by decide +kernel
theorem dX0_solve_128 : decode cX0_solve 128 = .ok (.invokevirtual 39, 3) := by decide +kernel
theorem dX0_solve_131 : decode cX0_solve 131 = .ok (.iinc 4 1, 3) := by decide +kernel
theorem dX0_solve_134 : decode cX0_solve 134 = .ok (.iinc 5 1, 3) := by decide +kernel
theorem dX0_solve_137 : decode cX0_solve 137 = .ok (.goto (-33), 3) := by decide +kernel
theorem dX0_solve_140 : decode cX0_solve 140 = .ok (.iload 4, 2) := by decide +kernel
theorem dX0_solve_142 : decode cX0_solve 142 = .ok (.ireturn, 1) := by decide +kernel
theorem dX0_isHeld_0 : decode cX0_isHeld 0 = .ok (.aload_n 0, 1) := by decide +kernel
theorem dX0_isHeld_1 : decode cX0_isHeld 1 = .ok (.getfield 11, 3) := by decide +kernel
theorem dX0_isHeld_4 : decode cX0_isHeld 4 = .ok (.iload_n 1, 1) := by decide +kernel
theorem dX0_isHeld_5 : decode cX0_isHeld 5 = .ok (.aaload, 1) := by decide +kernel
theorem dX0_isHeld_6 : decode cX0_isHeld 6 = .ok (.iload_n 1, 1) := by decide +kernel
theorem dX0_isHeld_7 : decode cX0_isHeld 7 = .ok (.laload, 1) := by decide +kernel
theorem dX0_isHeld_8 : decode cX0_isHeld 8 = .ok (.lconst 0, 1) := by decide +kernel
theorem dX0_isHeld_9 : decode cX0_isHeld 9 = .ok (.lcmp, 1) := by decide +kernel
theorem dX0_isHeld_10 : decode cX0_isHeld 10 = .ok (.ifCond .eq 7, 3) := by decide +kernel
theorem dX0_isHeld_13 : decode cX0_isHeld 13 = .ok (.iconst 1, 1) := by decide +kernel
theorem dX0_isHeld_14 : decode cX0_isHeld 14 = .ok (.goto 4, 3) := by decide +kernel
theorem dX0_isHeld_17 : decode cX0_isHeld 17 = .ok (.iconst 0, 1) := by decide +kernel
theorem dX0_isHeld_18 : decode cX0_isHeld 18 = .ok (.ireturn, 1) := by decide +kernel
theorem dX0_tallyStates_0 : decode cX0_tallyStates 0 = .ok (.iload_n 2, 1) := by decide +kernel
theorem dX0_tallyStates_1 : decode cX0_tallyStates 1 = .ok (.iconst 2, 1) := by decide +kernel
theorem dX0_tallyStates_2 : decode cX0_tallyStates 2 = .ok (.if_icmp .lt 12, 3) := by decide +kernel
theorem dX0_tallyStates_5 : decode cX0_tallyStates 5 = .ok (.iload_n 2, 1) := by decide +kernel
theorem dX0_tallyStates_6 : decode cX0_tallyStates 6 = .ok (.iconst 4, 1) := by decide +kernel
theorem dX0_tallyStates_7 : decode cX0_tallyStates 7 = .ok (.if_icmp .gt 7, 3) := by decide +kernel
theorem dX0_tallyStates_10 : decode cX0_tallyStates 10 = .ok (.iload_n 1, 1) := by decide +kernel
theorem dX0_tallyStates_11 : decode cX0_tallyStates 11 = .ok (.ifCond .ge 4, 3) := by decide +kernel
theorem dX0_tallyStates_14 : decode cX0_tallyStates 14 = .ok (.return_, 1) := by decide +kernel
theorem dX0_tallyStates_15 : decode cX0_tallyStates 15 = .ok (.iload_n 1, 1) := by decide +kernel
theorem dX0_tallyStates_16 : decode cX0_tallyStates 16 = .ok (.istore 4, 2) := by decide +kernel
theorem dX0_tallyStates_18 : decode cX0_tallyStates 18 = .ok (.iconst 0, 1) := by decide +kernel
theorem dX0_tallyStates_19 : decode cX0_tallyStates 19 = .ok (.istore 5, 2) := by decide +kernel
theorem dX0_tallyStates_21 : decode cX0_tallyStates 21 = .ok (.iload 5, 2) := by decide +kernel
theorem dX0_tallyStates_23 : decode cX0_tallyStates 23 = .ok (.iconst 4, 1) := by decide +kernel
theorem dX0_tallyStates_24 : decode cX0_tallyStates 24 = .ok (.if_icmp .ge 29, 3) := by decide +kernel
theorem dX0_tallyStates_27 : decode cX0_tallyStates 27 = .ok (.aload_n 0, 1) := by decide +kernel
theorem dX0_tallyStates_28 : decode cX0_tallyStates 28 = .ok (.getfield 14, 3) := by decide +kernel
theorem dX0_tallyStates_31 : decode cX0_tallyStates 31 = .ok (.iload 4, 2) := by decide +kernel
theorem dX0_tallyStates_33 : decode cX0_tallyStates 33 = .ok (.iload_n 2, 1) := by decide +kernel
theorem dX0_tallyStates_34 : decode cX0_tallyStates 34 = .ok (.irem, 1) := by decide +kernel
theorem dX0_tallyStates_35 : decode cX0_tallyStates 35 = .ok (.dup2, 1) := by decide +kernel
theorem dX0_tallyStates_36 : decode cX0_tallyStates 36 = .ok (.laload, 1) := by decide +kernel
theorem dX0_tallyStates_37 : decode cX0_tallyStates 37 = .ok (.iload_n 3, 1) := by decide +kernel
theorem dX0_tallyStates_38 : decode cX0_tallyStates 38 = .ok (.i2l, 1) := by decide +kernel
theorem dX0_tallyStates_39 : decode cX0_tallyStates 39 = .ok (.ladd, 1) := by decide +kernel
theorem dX0_tallyStates_40 : decode cX0_tallyStates 40 = .ok (.lastore, 1) := by decide +kernel
theorem dX0_tallyStates_41 : decode cX0_tallyStates 41 = .ok (.iload 4, 2) := by decide +kernel
theorem dX0_tallyStates_43 : decode cX0_tallyStates 43 = .ok (.iload_n 2, 1) := by decide +kernel
theorem dX0_tallyStates_44 : decode cX0_tallyStates 44 = .ok (.idiv, 1) := by decide +kernel
theorem dX0_tallyStates_45 : decode cX0_tallyStates 45 = .ok (.istore 4, 2) := by decide +kernel
theorem dX0_tallyStates_47 : decode cX0_tallyStates 47 = .ok (.iinc 5 1, 3) := by decide +kernel
theorem dX0_tallyStates_50 : decode cX0_tallyStates 50 = .ok (.goto (-29), 3) := by decide +kernel
theorem dX0_tallyStates_53 : decode cX0_tallyStates 53 = .ok (.return_, 1) := by decide +kernel
theorem dX0_demand_0 : decode cX0_demand 0 = .ok (.iload_n 1, 1) := by decide +kernel
theorem dX0_demand_1 : decode cX0_demand 1 = .ok (.iconst 1, 1) := by decide +kernel
theorem dX0_demand_2 : decode cX0_demand 2 = .ok (.isub, 1) := by decide +kernel
theorem dX0_demand_3 : decode cX0_demand 3 = .ok (.istore_n 2, 1) := by decide +kernel
theorem dX0_demand_4 : decode cX0_demand 4 = .ok (.iload_n 2, 1) := by decide +kernel
theorem dX0_demand_5 : decode cX0_demand 5 = .ok (.ifCond .lt 69, 3) := by decide +kernel
theorem dX0_demand_8 : decode cX0_demand 8 = .ok (.aload_n 0, 1) := by decide +kernel
theorem dX0_demand_9 : decode cX0_demand 9 = .ok (.getfield 14, 3) := by decide +kernel
theorem dX0_demand_12 : decode cX0_demand 12 = .ok (.iload_n 2, 1) := by decide +kernel
theorem dX0_demand_13 : decode cX0_demand 13 = .ok (.laload, 1) := by decide +kernel
theorem dX0_demand_14 : decode cX0_demand 14 = .ok (.lconst 0, 1) := by decide +kernel
theorem dX0_demand_15 : decode cX0_demand 15 = .ok (.lcmp, 1) := by decide +kernel
theorem dX0_demand_16 : decode cX0_demand 16 = .ok (.ifCond .ne 6, 3) := by decide +kernel
theorem dX0_demand_19 : decode cX0_demand 19 = .ok (.goto 49, 3) := by decide +kernel
theorem dX0_demand_22 : decode cX0_demand 22 = .ok (.aload_n 0, 1) := by decide +kernel
theorem dX0_demand_23 : decode cX0_demand 23 = .ok (.iload_n 2, 1) := by decide +kernel
theorem dX0_demand_24 : decode cX0_demand 24 = .ok (.invokevirtual 35, 3) := by decide +kernel
theorem dX0_demand_27 : decode cX0_demand 27 = .ok (.ifCond .ne 20, 3) := by decide +kernel
theorem dX0_demand_30 : decode cX0_demand 30 = .ok (.aload_n 0, 1) := by decide +kernel
theorem dX0_demand_31 : decode cX0_demand 31 = .ok (.getfield 14, 3) := by decide +kernel
theorem dX0_demand_34 : decode cX0_demand 34 = .ok (.iconst 0, 1) := by decide +kernel
theorem dX0_demand_35 : decode cX0_demand 35 = .ok (.aload_n 0, 1) := by decide +kernel
theorem dX0_demand_36 : decode cX0_demand 36 = .ok (.getfield 11, 3) := by decide +kernel
theorem dX0_demand_39 : decode cX0_demand 39 = .ok (.iload_n 2, 1) := by decide +kernel
theorem dX0_demand_40 : decode cX0_demand 40 = .ok (.aaload, 1) := by decide +kernel
theorem dX0_demand_41 : decode cX0_demand 41 = .ok (.iconst 0, 1) := by decide +kernel
theorem dX0_demand_42 : decode cX0_demand 42 = .ok (.iconst 4, 1) := by decide +kernel
theorem dX0_demand_43 : decode cX0_demand 43 = .ok (.invokestatic 43, 3) := by decide +kernel
theorem dX0_demand_46 : decode cX0_demand 46 = .ok (.return_, 1) := by decide +kernel
theorem dX0_demand_47 : decode cX0_demand 47 = .ok (.aload_n 0, 1) := by decide +kernel
theorem dX0_demand_48 : decode cX0_demand 48 = .ok (.getfield 14, 3) := by decide +kernel
theorem dX0_demand_51 : decode cX0_demand 51 = .ok (.aload_n 0, 1) := by decide +kernel
theorem dX0_demand_52 : decode cX0_demand 52 = .ok (.getfield 11, 3) := by decide +kernel
theorem dX0_demand_55 : decode cX0_demand 55 = .ok (.iload_n 2, 1) := by decide +kernel
theorem dX0_demand_56 : decode cX0_demand 56 = .ok (.aaload, 1) := by decide +kernel
theorem dX0_demand_57 : decode cX0_demand 57 = .ok (.iload_n 2, 1) := by decide +kernel
theorem dX0_demand_58 : decode cX0_demand 58 = .ok (.invokestatic 49, 3) := by decide +kernel
theorem dX0_demand_61 : decode cX0_demand 61 = .ok (.aload_n 0, 1) := by decide +kernel
theorem dX0_demand_62 : decode cX0_demand 62 = .ok (.getfield 14, 3) := by decide +kernel
theorem dX0_demand_65 : decode cX0_demand 65 = .ok (.invokestatic 53, 3) := by decide +kernel
theorem dX0_demand_68 : decode cX0_demand 68 = .ok (.iinc 2 (-1), 3) := by decide +kernel
theorem dX0_demand_71 : decode cX0_demand 71 = .ok (.goto (-67), 3) := by decide +kernel
theorem dX0_demand_74 : decode cX0_demand 74 = .ok (.return_, 1) := by decide +kernel
theorem dX0_reduce_0 : decode cX0_reduce 0 = .ok (.iload_n 1, 1) := by decide +kernel
theorem dX0_reduce_1 : decode cX0_reduce 1 = .ok (.iconst 1, 1) := by decide +kernel
theorem dX0_reduce_2 : decode cX0_reduce 2 = .ok (.isub, 1) := by decide +kernel
theorem dX0_reduce_3 : decode cX0_reduce 3 = .ok (.istore_n 2, 1) := by decide +kernel
theorem dX0_reduce_4 : decode cX0_reduce 4 = .ok (.iload_n 2, 1) := by decide +kernel
theorem dX0_reduce_5 : decode cX0_reduce 5 = .ok (.ifCond .lt 69, 3) := by decide +kernel
theorem dX0_reduce_8 : decode cX0_reduce 8 = .ok (.iload_n 2, 1) := by decide +kernel
theorem dX0_reduce_9 : decode cX0_reduce 9 = .ok (.iconst 1, 1) := by decide +kernel
theorem dX0_reduce_10 : decode cX0_reduce 10 = .ok (.isub, 1) := by decide +kernel
theorem dX0_reduce_11 : decode cX0_reduce 11 = .ok (.istore_n 3, 1) := by decide +kernel
theorem dX0_reduce_12 : decode cX0_reduce 12 = .ok (.iload_n 3, 1) := by decide +kernel
theorem dX0_reduce_13 : decode cX0_reduce 13 = .ok (.ifCond .lt 55, 3) := by decide +kernel
theorem dX0_reduce_16 : decode cX0_reduce 16 = .ok (.aload_n 0, 1) := by decide +kernel
theorem dX0_reduce_17 : decode cX0_reduce 17 = .ok (.iload_n 3, 1) := by decide +kernel
theorem dX0_reduce_18 : decode cX0_reduce 18 = .ok (.invokevirtual 35, 3) := by decide +kernel
theorem dX0_reduce_21 : decode cX0_reduce 21 = .ok (.ifCond .eq 41, 3) := by decide +kernel
theorem dX0_reduce_24 : decode cX0_reduce 24 = .ok (.aload_n 0, 1) := by decide +kernel
theorem dX0_reduce_25 : decode cX0_reduce 25 = .ok (.getfield 11, 3) := by decide +kernel
theorem dX0_reduce_28 : decode cX0_reduce 28 = .ok (.iload_n 2, 1) := by decide +kernel
theorem dX0_reduce_29 : decode cX0_reduce 29 = .ok (.aaload, 1) := by decide +kernel
theorem dX0_reduce_30 : decode cX0_reduce 30 = .ok (.iload_n 3, 1) := by decide +kernel
theorem dX0_reduce_31 : decode cX0_reduce 31 = .ok (.laload, 1) := by decide +kernel
theorem dX0_reduce_32 : decode cX0_reduce 32 = .ok (.lconst 0, 1) := by decide +kernel
theorem dX0_reduce_33 : decode cX0_reduce 33 = .ok (.lcmp, 1) := by decide +kernel
theorem dX0_reduce_34 : decode cX0_reduce 34 = .ok (.ifCond .eq 28, 3) := by decide +kernel
theorem dX0_reduce_37 : decode cX0_reduce 37 = .ok (.aload_n 0, 1) := by decide +kernel
theorem dX0_reduce_38 : decode cX0_reduce 38 = .ok (.getfield 11, 3) := by decide +kernel
theorem dX0_reduce_41 : decode cX0_reduce 41 = .ok (.iload_n 2, 1) := by decide +kernel
theorem dX0_reduce_42 : decode cX0_reduce 42 = .ok (.aaload, 1) := by decide +kernel
theorem dX0_reduce_43 : decode cX0_reduce 43 = .ok (.aload_n 0, 1) := by decide +kernel
theorem dX0_reduce_44 : decode cX0_reduce 44 = .ok (.getfield 11, 3) := by decide +kernel
theorem dX0_reduce_47 : decode cX0_reduce 47 = .ok (.iload_n 3, 1) := by decide +kernel
theorem dX0_reduce_48 : decode cX0_reduce 48 = .ok (.aaload, 1) := by decide +kernel
theorem dX0_reduce_49 : decode cX0_reduce 49 = .ok (.iload_n 3, 1) := by decide +kernel
theorem dX0_reduce_50 : decode cX0_reduce 50 = .ok (.invokestatic 49, 3) := by decide +kernel
theorem dX0_reduce_53 : decode cX0_reduce 53 = .ok (.aload_n 0, 1) := by decide +kernel
theorem dX0_reduce_54 : decode cX0_reduce 54 = .ok (.getfield 11, 3) := by decide +kernel
theorem dX0_reduce_57 : decode cX0_reduce 57 = .ok (.iload_n 2, 1) := by decide +kernel
theorem dX0_reduce_58 : decode cX0_reduce 58 = .ok (.aaload, 1) := by decide +kernel
theorem dX0_reduce_59 : decode cX0_reduce 59 = .ok (.invokestatic 53, 3) := by decide +kernel
theorem dX0_reduce_62 : decode cX0_reduce 62 = .ok (.iinc 3 (-1), 3) := by decide +kernel
theorem dX0_reduce_65 : decode cX0_reduce 65 = .ok (.goto (-53), 3) := by decide +kernel
theorem dX0_reduce_68 : decode cX0_reduce 68 = .ok (.iinc 2 (-1), 3) := by decide +kernel
theorem dX0_reduce_71 : decode cX0_reduce 71 = .ok (.goto (-67), 3) := by decide +kernel
theorem dX0_reduce_74 : decode cX0_reduce 74 = .ok (.return_, 1) := by decide +kernel
theorem dX0_cancel_0 : decode cX0_cancel 0 = .ok (.aload_n 0, 1) := by decide +kernel
theorem dX0_cancel_1 : decode cX0_cancel 1 = .ok (.iload_n 2, 1) := by decide +kernel
theorem dX0_cancel_2 : decode cX0_cancel 2 = .ok (.laload, 1) := by decide +kernel
theorem dX0_cancel_3 : decode cX0_cancel 3 = .ok (.lstore_n 3, 1) := by decide +kernel
theorem dX0_cancel_4 : decode cX0_cancel 4 = .ok (.aload_n 1, 1) := by decide +kernel
theorem dX0_cancel_5 : decode cX0_cancel 5 = .ok (.iload_n 2, 1) := by decide +kernel
theorem dX0_cancel_6 : decode cX0_cancel 6 = .ok (.laload, 1) := by decide +kernel
theorem dX0_cancel_7 : decode cX0_cancel 7 = .ok (.lstore 5, 2) := by decide +kernel
theorem dX0_cancel_9 : decode cX0_cancel 9 = .ok (.iconst 0, 1) := by decide +kernel
theorem dX0_cancel_10 : decode cX0_cancel 10 = .ok (.istore 7, 2) := by decide +kernel
theorem dX0_cancel_12 : decode cX0_cancel 12 = .ok (.iload 7, 2) := by decide +kernel
theorem dX0_cancel_14 : decode cX0_cancel 14 = .ok (.iconst 4, 1) := by decide +kernel
theorem dX0_cancel_15 : decode cX0_cancel 15 = .ok (.if_icmp .ge 27, 3) := by decide +kernel
theorem dX0_cancel_18 : decode cX0_cancel 18 = .ok (.aload_n 0, 1) := by decide +kernel
theorem dX0_cancel_19 : decode cX0_cancel 19 = .ok (.iload 7, 2) := by decide +kernel
theorem dX0_cancel_21 : decode cX0_cancel 21 = .ok (.aload_n 0, 1) := by decide +kernel
theorem dX0_cancel_22 : decode cX0_cancel 22 = .ok (.iload 7, 2) := by decide +kernel
theorem dX0_cancel_24 : decode cX0_cancel 24 = .ok (.laload, 1) := by decide +kernel
theorem dX0_cancel_25 : decode cX0_cancel 25 = .ok (.lload 5, 2) := by decide +kernel
theorem dX0_cancel_27 : decode cX0_cancel 27 = .ok (.lmul, 1) := by decide +kernel
theorem dX0_cancel_28 : decode cX0_cancel 28 = .ok (.aload_n 1, 1) := by decide +kernel
theorem dX0_cancel_29 : decode cX0_cancel 29 = .ok (.iload 7, 2) := by decide +kernel
theorem dX0_cancel_31 : decode cX0_cancel 31 = .ok (.laload, 1) := by decide +kernel
theorem dX0_cancel_32 : decode cX0_cancel 32 = .ok (.lload_n 3, 1) := by decide +kernel
theorem dX0_cancel_33 : decode cX0_cancel 33 = .ok (.lmul, 1) := by decide +kernel
theorem dX0_cancel_34 : decode cX0_cancel 34 = .ok (.lsub, 1) := by decide +kernel
theorem dX0_cancel_35 : decode cX0_cancel 35 = .ok (.lastore, 1) := by decide +kernel
theorem dX0_cancel_36 : decode cX0_cancel 36 = .ok (.iinc 7 1, 3) := by decide +kernel
theorem dX0_cancel_39 : decode cX0_cancel 39 = .ok (.goto (-27), 3) := by decide +kernel
theorem dX0_cancel_42 : decode cX0_cancel 42 = .ok (.return_, 1) := by decide +kernel
theorem dX0_writeRow_0 : decode cX0_writeRow 0 = .ok (.lconst 1, 1) := by decide +kernel
theorem dX0_writeRow_1 : decode cX0_writeRow 1 = .ok (.lstore 5, 2) := by decide +kernel
theorem dX0_writeRow_3 : decode cX0_writeRow 3 = .ok (.iload_n 1, 1) := by decide +kernel
theorem dX0_writeRow_4 : decode cX0_writeRow 4 = .ok (.iconst 1, 1) := by decide +kernel
theorem dX0_writeRow_5 : decode cX0_writeRow 5 = .ok (.iadd, 1) := by decide +kernel
theorem dX0_writeRow_6 : decode cX0_writeRow 6 = .ok (.istore 7, 2) := by decide +kernel
theorem dX0_writeRow_8 : decode cX0_writeRow 8 = .ok (.iload 7, 2) := by decide +kernel
theorem dX0_writeRow_10 : decode cX0_writeRow 10 = .ok (.iload_n 2, 1) := by decide +kernel
theorem dX0_writeRow_11 : decode cX0_writeRow 11 = .ok (.if_icmp .ge 36, 3) := by decide +kernel
theorem dX0_writeRow_14 : decode cX0_writeRow 14 = .ok (.aload_n 0, 1) := by decide +kernel
theorem dX0_writeRow_15 : decode cX0_writeRow 15 = .ok (.iload 7, 2) := by decide +kernel
theorem dX0_writeRow_17 : decode cX0_writeRow 17 = .ok (.invokevirtual 35, 3) := by decide +kernel
theorem dX0_writeRow_20 : decode cX0_writeRow 20 = .ok (.ifCond .eq 21, 3) := by decide +kernel
theorem dX0_writeRow_23 : decode cX0_writeRow 23 = .ok (.lload 5, 2) := by decide +kernel
theorem dX0_writeRow_25 : decode cX0_writeRow 25 = .ok (.aload_n 0, 1) := by decide +kernel
theorem dX0_writeRow_26 : decode cX0_writeRow 26 = .ok (.getfield 11, 3) := by decide +kernel
theorem dX0_writeRow_29 : decode cX0_writeRow 29 = .ok (.iload 7, 2) := by decide +kernel
theorem dX0_writeRow_31 : decode cX0_writeRow 31 = .ok (.aaload, 1) := by decide +kernel
theorem dX0_writeRow_32 : decode cX0_writeRow 32 = .ok (.iload 7, 2) := by decide +kernel
theorem dX0_writeRow_34 : decode cX0_writeRow 34 = .ok (.laload, 1) := by decide +kernel
theorem dX0_writeRow_35 : decode cX0_writeRow 35 = .ok (.invokestatic 57, 3) := by decide +kernel
theorem dX0_writeRow_38 : decode cX0_writeRow 38 = .ok (.lmul, 1) := by decide +kernel
theorem dX0_writeRow_39 : decode cX0_writeRow 39 = .ok (.lstore 5, 2) := by decide +kernel
theorem dX0_writeRow_41 : decode cX0_writeRow 41 = .ok (.iinc 7 1, 3) := by decide +kernel
theorem dX0_writeRow_44 : decode cX0_writeRow 44 = .ok (.goto (-36), 3) := by decide +kernel
theorem dX0_writeRow_47 : decode cX0_writeRow 47 = .ok (.aload_n 0, 1) := by decide +kernel
theorem dX0_writeRow_48 : decode cX0_writeRow 48 = .ok (.getfield 14, 3) := by decide +kernel
theorem dX0_writeRow_51 : decode cX0_writeRow 51 = .ok (.lconst 0, 1) := by decide +kernel
theorem dX0_writeRow_52 : decode cX0_writeRow 52 = .ok (.invokestatic 18, 3) := by decide +kernel
theorem dX0_writeRow_55 : decode cX0_writeRow 55 = .ok (.aload_n 0, 1) := by decide +kernel
theorem dX0_writeRow_56 : decode cX0_writeRow 56 = .ok (.getfield 14, 3) := by decide +kernel
theorem dX0_writeRow_59 : decode cX0_writeRow 59 = .ok (.iload_n 1, 1) := by decide +kernel
theorem dX0_writeRow_60 : decode cX0_writeRow 60 = .ok (.lload 5, 2) := by decide +kernel
theorem dX0_writeRow_62 : decode cX0_writeRow 62 = .ok (.lastore, 1) := by decide +kernel
theorem dX0_writeRow_63 : decode cX0_writeRow 63 = .ok (.iload_n 1, 1) := by decide +kernel
theorem dX0_writeRow_64 : decode cX0_writeRow 64 = .ok (.iconst 1, 1) := by decide +kernel
theorem dX0_writeRow_65 : decode cX0_writeRow 65 = .ok (.iadd, 1) := by decide +kernel
theorem dX0_writeRow_66 : decode cX0_writeRow 66 = .ok (.istore 7, 2) := by decide +kernel
theorem dX0_writeRow_68 : decode cX0_writeRow 68 = .ok (.iload 7, 2) := by decide +kernel
theorem dX0_writeRow_70 : decode cX0_writeRow 70 = .ok (.iload_n 2, 1) := by decide +kernel
theorem dX0_writeRow_71 : decode cX0_writeRow 71 = .ok (.if_icmp .ge 51, 3) := by decide +kernel
theorem dX0_writeRow_74 : decode cX0_writeRow 74 = .ok (.aload_n 0, 1) := by decide +kernel
theorem dX0_writeRow_75 : decode cX0_writeRow 75 = .ok (.getfield 11, 3) := by decide +kernel
theorem dX0_writeRow_78 : decode cX0_writeRow 78 = .ok (.iload 7, 2) := by decide +kernel
theorem dX0_writeRow_80 : decode cX0_writeRow 80 = .ok (.aaload, 1) := by decide +kernel
theorem dX0_writeRow_81 : decode cX0_writeRow 81 = .ok (.iload 7, 2) := by decide +kernel
theorem dX0_writeRow_83 : decode cX0_writeRow 83 = .ok (.laload, 1) := by decide +kernel
theorem dX0_writeRow_84 : decode cX0_writeRow 84 = .ok (.lstore 8, 2) := by decide +kernel
theorem dX0_writeRow_86 : decode cX0_writeRow 86 = .ok (.lload 8, 2) := by decide +kernel
theorem dX0_writeRow_88 : decode cX0_writeRow 88 = .ok (.lconst 0, 1) := by decide +kernel
theorem dX0_writeRow_89 : decode cX0_writeRow 89 = .ok (.lcmp, 1) := by decide +kernel
theorem dX0_writeRow_90 : decode cX0_writeRow 90 = .ok (.ifCond .eq 26, 3) := by decide +kernel
theorem dX0_writeRow_93 : decode cX0_writeRow 93 = .ok (.aload_n 0, 1) := by decide +kernel
theorem dX0_writeRow_94 : decode cX0_writeRow 94 = .ok (.getfield 14, 3) := by decide +kernel
theorem dX0_writeRow_97 : decode cX0_writeRow 97 = .ok (.iload 7, 2) := by decide +kernel
theorem dX0_writeRow_99 : decode cX0_writeRow 99 = .ok (.aload_n 0, 1) := by decide +kernel
theorem dX0_writeRow_100 : decode cX0_writeRow 100 = .ok (.getfield 11, 3) := by decide +kernel
theorem dX0_writeRow_103 : decode cX0_writeRow 103 = .ok (.iload 7, 2) := by decide +kernel
theorem dX0_writeRow_105 : decode cX0_writeRow 105 = .ok (.aaload, 1) := by decide +kernel
theorem dX0_writeRow_106 : decode cX0_writeRow 106 = .ok (.iload_n 1, 1) := by decide +kernel
theorem dX0_writeRow_107 : decode cX0_writeRow 107 = .ok (.laload, 1) := by decide +kernel
theorem dX0_writeRow_108 : decode cX0_writeRow 108 = .ok (.lneg, 1) := by decide +kernel
theorem dX0_writeRow_109 : decode cX0_writeRow 109 = .ok (.lload 5, 2) := by decide +kernel
theorem dX0_writeRow_111 : decode cX0_writeRow 111 = .ok (.lload 8, 2) := by decide +kernel
theorem dX0_writeRow_113 : decode cX0_writeRow 113 = .ok (.ldiv, 1) := by decide +kernel
theorem dX0_writeRow_114 : decode cX0_writeRow 114 = .ok (.lmul, 1) := by decide +kernel
theorem dX0_writeRow_115 : decode cX0_writeRow 115 = .ok (.lastore, 1) := by decide +kernel
theorem dX0_writeRow_116 : decode cX0_writeRow 116 = .ok (.iinc 7 1, 3) := by decide +kernel
theorem dX0_writeRow_119 : decode cX0_writeRow 119 = .ok (.goto (-51), 3) := by decide +kernel
theorem dX0_writeRow_122 : decode cX0_writeRow 122 = .ok (.aload_n 0, 1) := by decide +kernel
theorem dX0_writeRow_123 : decode cX0_writeRow 123 = .ok (.getfield 14, 3) := by decide +kernel
theorem dX0_writeRow_126 : decode cX0_writeRow 126 = .ok (.invokestatic 53, 3) := by decide +kernel
theorem dX0_writeRow_129 : decode cX0_writeRow 129 = .ok (.iconst 0, 1) := by decide +kernel
theorem dX0_writeRow_130 : decode cX0_writeRow 130 = .ok (.istore 7, 2) := by decide +kernel
theorem dX0_writeRow_132 : decode cX0_writeRow 132 = .ok (.iload 7, 2) := by decide +kernel
theorem dX0_writeRow_134 : decode cX0_writeRow 134 = .ok (.iload_n 2, 1) := by decide +kernel
theorem dX0_writeRow_135 : decode cX0_writeRow 135 = .ok (.if_icmp .ge 34, 3) := by decide +kernel
theorem dX0_writeRow_138 : decode cX0_writeRow 138 = .ok (.iload 4, 2) := by decide +kernel
theorem dX0_writeRow_140 : decode cX0_writeRow 140 = .ok (.iload 7, 2) := by decide +kernel
theorem dX0_writeRow_142 : decode cX0_writeRow 142 = .ok (.iadd, 1) := by decide +kernel
theorem dX0_writeRow_143 : decode cX0_writeRow 143 = .ok (.aload_n 3, 1) := by decide +kernel
theorem dX0_writeRow_144 : decode cX0_writeRow 144 = .ok (.arraylength, 1) := by decide +kernel
theorem dX0_writeRow_145 : decode cX0_writeRow 145 = .ok (.if_icmp .ge 24, 3) := by decide +kernel
theorem dX0_writeRow_148 : decode cX0_writeRow 148 = .ok (.aload_n 3, 1) := by decide +kernel
theorem dX0_writeRow_149 : decode cX0_writeRow 149 = .ok (.iload 4, 2) := by decide +kernel
theorem dX0_writeRow_151 : decode cX0_writeRow 151 = .ok (.iload 7, 2) := by decide +kernel
theorem dX0_writeRow_153 : decode cX0_writeRow 153 = .ok (.iadd, 1) := by decide +kernel
theorem dX0_writeRow_154 : decode cX0_writeRow 154 = .ok (.aload_n 0, 1) := by decide +kernel
theorem dX0_writeRow_155 : decode cX0_writeRow 155 = .ok (.getfield 14, 3) := by decide +kernel
theorem dX0_writeRow_158 : decode cX0_writeRow 158 = .ok (.iload 7, 2) := by decide +kernel
theorem dX0_writeRow_160 : decode cX0_writeRow 160 = .ok (.laload, 1) := by decide +kernel
theorem dX0_writeRow_161 : decode cX0_writeRow 161 = .ok (.l2i, 1) := by decide +kernel
theorem dX0_writeRow_162 : decode cX0_writeRow 162 = .ok (.iastore, 1) := by decide +kernel
theorem dX0_writeRow_163 : decode cX0_writeRow 163 = .ok (.iinc 7 1, 3) := by decide +kernel
theorem dX0_writeRow_166 : decode cX0_writeRow 166 = .ok (.goto (-34), 3) := by decide +kernel
theorem dX0_writeRow_169 : decode cX0_writeRow 169 = .ok (.return_, 1) := by decide +kernel
theorem dX0_shorten_0 : decode cX0_shorten 0 = .ok (.lconst 0, 1) := by decide +kernel
theorem dX0_shorten_1 : decode cX0_shorten 1 = .ok (.lstore_n 1, 1) := by decide +kernel
theorem dX0_shorten_2 : decode cX0_shorten 2 = .ok (.iconst 0, 1) := by decide +kernel
theorem dX0_shorten_3 : decode cX0_shorten 3 = .ok (.istore_n 3, 1) := by decide +kernel
theorem dX0_shorten_4 : decode cX0_shorten 4 = .ok (.iload_n 3, 1) := by decide +kernel
theorem dX0_shorten_5 : decode cX0_shorten 5 = .ok (.iconst 4, 1) := by decide +kernel
theorem dX0_shorten_6 : decode cX0_shorten 6 = .ok (.if_icmp .ge 20, 3) := by decide +kernel
theorem dX0_shorten_9 : decode cX0_shorten 9 = .ok (.lload_n 1, 1) := by decide +kernel
theorem dX0_shorten_10 : decode cX0_shorten 10 = .ok (.aload_n 0, 1) := by decide +kernel
theorem dX0_shorten_11 : decode cX0_shorten 11 = .ok (.iload_n 3, 1) := by decide +kernel
theorem dX0_shorten_12 : decode cX0_shorten 12 = .ok (.laload, 1) := by decide +kernel
theorem dX0_shorten_13 : decode cX0_shorten 13 = .ok (.invokestatic 57, 3) := by decide +kernel
theorem dX0_shorten_16 : decode cX0_shorten 16 = .ok (.invokestatic 63, 3) := by decide +kernel
theorem dX0_shorten_19 : decode cX0_shorten 19 = .ok (.lstore_n 1, 1) := by decide +kernel
theorem dX0_shorten_20 : decode cX0_shorten 20 = .ok (.iinc 3 1, 3) := by decide +kernel
theorem dX0_shorten_23 : decode cX0_shorten 23 = .ok (.goto (-19), 3) := by decide +kernel
theorem dX0_shorten_26 : decode cX0_shorten 26 = .ok (.iconst 0, 1) := by decide +kernel
theorem dX0_shorten_27 : decode cX0_shorten 27 = .ok (.istore_n 3, 1) := by decide +kernel
theorem dX0_shorten_28 : decode cX0_shorten 28 = .ok (.iload_n 3, 1) := by decide +kernel
theorem dX0_shorten_29 : decode cX0_shorten 29 = .ok (.iconst 4, 1) := by decide +kernel
theorem dX0_shorten_30 : decode cX0_shorten 30 = .ok (.if_icmp .ge 22, 3) := by decide +kernel
theorem dX0_shorten_33 : decode cX0_shorten 33 = .ok (.lload_n 1, 1) := by decide +kernel
theorem dX0_shorten_34 : decode cX0_shorten 34 = .ok (.lconst 1, 1) := by decide +kernel
theorem dX0_shorten_35 : decode cX0_shorten 35 = .ok (.lcmp, 1) := by decide +kernel
theorem dX0_shorten_36 : decode cX0_shorten 36 = .ok (.ifCond .le 16, 3) := by decide +kernel
theorem dX0_shorten_39 : decode cX0_shorten 39 = .ok (.aload_n 0, 1) := by decide +kernel
theorem dX0_shorten_40 : decode cX0_shorten 40 = .ok (.iload_n 3, 1) := by decide +kernel
theorem dX0_shorten_41 : decode cX0_shorten 41 = .ok (.dup2, 1) := by decide +kernel
theorem dX0_shorten_42 : decode cX0_shorten 42 = .ok (.laload, 1) := by decide +kernel
theorem dX0_shorten_43 : decode cX0_shorten 43 = .ok (.lload_n 1, 1) := by decide +kernel
theorem dX0_shorten_44 : decode cX0_shorten 44 = .ok (.ldiv, 1) := by decide +kernel
theorem dX0_shorten_45 : decode cX0_shorten 45 = .ok (.lastore, 1) := by decide +kernel
theorem dX0_shorten_46 : decode cX0_shorten 46 = .ok (.iinc 3 1, 3) := by decide +kernel
theorem dX0_shorten_49 : decode cX0_shorten 49 = .ok (.goto (-21), 3) := by decide +kernel
theorem dX0_shorten_52 : decode cX0_shorten 52 = .ok (.return_, 1) := by decide +kernel
theorem dX0_commonDivisor_0 : decode cX0_commonDivisor 0 = .ok (.lload_n 0, 1) := by decide +kernel
theorem dX0_commonDivisor_1 : decode cX0_commonDivisor 1 = .ok (.lstore 4, 2) := by decide +kernel
theorem dX0_commonDivisor_3 : decode cX0_commonDivisor 3 = .ok (.lload_n 2, 1) := by decide +kernel
theorem dX0_commonDivisor_4 : decode cX0_commonDivisor 4 = .ok (.lstore 6, 2) := by decide +kernel
theorem dX0_commonDivisor_6 : decode cX0_commonDivisor 6 = .ok (.iconst 0, 1) := by decide +kernel
theorem dX0_commonDivisor_7 : decode cX0_commonDivisor 7 = .ok (.istore 8, 2) := by decide +kernel
theorem dX0_commonDivisor_9 : decode cX0_commonDivisor 9 = .ok (.iload 8, 2) := by decide +kernel
theorem dX0_commonDivisor_11 : decode cX0_commonDivisor 11 = .ok (.sipush 200, 3) := by decide +kernel
theorem dX0_commonDivisor_14 : decode cX0_commonDivisor 14 = .ok (.if_icmp .ge 31, 3) := by decide +kernel
theorem dX0_commonDivisor_17 : decode cX0_commonDivisor 17 = .ok (.lload 6, 2) := by decide +kernel
theorem dX0_commonDivisor_19 : decode cX0_commonDivisor 19 = .ok (.lconst 0, 1) := by decide +kernel
theorem dX0_commonDivisor_20 : decode cX0_commonDivisor 20 = .ok (.lcmp, 1) := by decide +kernel
theorem dX0_commonDivisor_21 : decode cX0_commonDivisor 21 = .ok (.ifCond .eq 24, 3) := by decide +kernel
theorem dX0_commonDivisor_24 : decode cX0_commonDivisor 24 = .ok (.lload 4, 2) := by decide +kernel
theorem dX0_commonDivisor_26 : decode cX0_commonDivisor 26 = .ok (.lload 6, 2) := by decide +kernel
theorem dX0_commonDivisor_28 : decode cX0_commonDivisor 28 = .ok (.lrem, 1) := by decide +kernel
theorem dX0_commonDivisor_29 : decode cX0_commonDivisor 29 = .ok (.lstore 9, 2) := by decide +kernel
theorem dX0_commonDivisor_31 : decode cX0_commonDivisor 31 = .ok (.lload 6, 2) := by decide +kernel
theorem dX0_commonDivisor_33 : decode cX0_commonDivisor 33 = .ok (.lstore 4, 2) := by decide +kernel
theorem dX0_commonDivisor_35 : decode cX0_commonDivisor 35 = .ok (.lload 9, 2) := by decide +kernel
theorem dX0_commonDivisor_37 : decode cX0_commonDivisor 37 = .ok (.lstore 6, 2) := by decide +kernel
theorem dX0_commonDivisor_39 : decode cX0_commonDivisor 39 = .ok (.iinc 8 1, 3) := by decide +kernel
theorem dX0_commonDivisor_42 : decode cX0_commonDivisor 42 = .ok (.goto (-33), 3) := by decide +kernel
theorem dX0_commonDivisor_45 : decode cX0_commonDivisor 45 = .ok (.lload 4, 2) := by decide +kernel
theorem dX0_commonDivisor_47 : decode cX0_commonDivisor 47 = .ok (.lreturn, 1) := by decide +kernel
theorem dX1_init_0 : decode cX1_init 0 = .ok (.aload_n 0, 1) := by decide +kernel
theorem dX1_init_1 : decode cX1_init 1 = .ok (.invokespecial 1, 3) := by decide +kernel
theorem dX1_init_4 : decode cX1_init 4 = .ok (.aload_n 0, 1) := by decide +kernel
theorem dX1_init_5 : decode cX1_init 5 = .ok (.sipush 1024, 3) := by decide +kernel
theorem dX1_init_8 : decode cX1_init 8 = .ok (.newarray .long, 2) := by decide +kernel
theorem dX1_init_10 : decode cX1_init 10 = .ok (.putfield 9, 3) := by decide +kernel
theorem dX1_init_13 : decode cX1_init 13 = .ok (.aload_n 0, 1) := by decide +kernel
theorem dX1_init_14 : decode cX1_init 14 = .ok (.iconst 4, 1) := by decide +kernel
theorem dX1_init_15 : decode cX1_init 15 = .ok (.newarray .long, 2) := by decide +kernel
theorem dX1_init_17 : decode cX1_init 17 = .ok (.putfield 13, 3) := by decide +kernel
theorem dX1_init_20 : decode cX1_init 20 = .ok (.return_, 1) := by decide +kernel
theorem dX1_begin_0 : decode cX1_begin 0 = .ok (.aload_n 0, 1) := by decide +kernel
theorem dX1_begin_1 : decode cX1_begin 1 = .ok (.aload_n 1, 1) := by decide +kernel
theorem dX1_begin_2 : decode cX1_begin 2 = .ok (.putfield 16, 3) := by decide +kernel
theorem dX1_begin_5 : decode cX1_begin 5 = .ok (.aload_n 0, 1) := by decide +kernel
theorem dX1_begin_6 : decode cX1_begin 6 = .ok (.iload_n 2, 1) := by decide +kernel
theorem dX1_begin_7 : decode cX1_begin 7 = .ok (.putfield 20, 3) := by decide +kernel
theorem dX1_begin_10 : decode cX1_begin 10 = .ok (.aload_n 0, 1) := by decide +kernel
theorem dX1_begin_11 : decode cX1_begin 11 = .ok (.invokevirtual 24, 3) := by decide +kernel
theorem dX1_begin_14 : decode cX1_begin 14 = .ok (.return_, 1) := by decide +kernel
theorem dX1_clear_0 : decode cX1_clear 0 = .ok (.aload_n 0, 1) := by decide +kernel
theorem dX1_clear_1 : decode cX1_clear 1 = .ok (.getfield 9, 3) := by decide +kernel
theorem dX1_clear_4 : decode cX1_clear 4 = .ok (.lconst 0, 1) := by decide +kernel
theorem dX1_clear_5 : decode cX1_clear 5 = .ok (.invokestatic 27, 3) := by decide +kernel
theorem dX1_clear_8 : decode cX1_clear 8 = .ok (.aload_n 0, 1) := by decide +kernel
theorem dX1_clear_9 : decode cX1_clear 9 = .ok (.iconst 0, 1) := by decide +kernel
theorem dX1_clear_10 : decode cX1_clear 10 = .ok (.putfield 33, 3) := by decide +kernel
theorem dX1_clear_13 : decode cX1_clear 13 = .ok (.aload_n 0, 1) := by decide +kernel
theorem dX1_clear_14 : decode cX1_clear 14 = .ok (.iconst 0, 1) := by decide +kernel
theorem dX1_clear_15 : decode cX1_clear 15 = .ok (.iconst 0, 1) := by decide +kernel
theorem dX1_clear_16 : decode cX1_clear 16 = .ok (.invokevirtual 36, 3) := by decide +kernel
theorem dX1_clear_19 : decode cX1_clear 19 = .ok (.return_, 1) := by decide +kernel
theorem dX1_copyFrom_0 : decode cX1_copyFrom 0 = .ok (.aload_n 1, 1) := by decide +kernel
theorem dX1_copyFrom_1 : decode cX1_copyFrom 1 = .ok (.getfield 9, 3) := by decide +kernel
theorem dX1_copyFrom_4 : decode cX1_copyFrom 4 = .ok (.iconst 0, 1) := by decide +kernel
theorem dX1_copyFrom_5 : decode cX1_copyFrom 5 = .ok (.aload_n 0, 1) := by decide +kernel
theorem dX1_copyFrom_6 : decode cX1_copyFrom 6 = .ok (.getfield 9, 3) := by decide +kernel
theorem dX1_copyFrom_9 : decode cX1_copyFrom 9 = .ok (.iconst 0, 1) := by decide +kernel
theorem dX1_copyFrom_10 : decode cX1_copyFrom 10 = .ok (.aload_n 0, 1) := by decide +kernel
theorem dX1_copyFrom_11 : decode cX1_copyFrom 11 = .ok (.getfield 9, 3) := by decide +kernel
theorem dX1_copyFrom_14 : decode cX1_copyFrom 14 = .ok (.arraylength, 1) := by decide +kernel
theorem dX1_copyFrom_15 : decode cX1_copyFrom 15 = .ok (.invokestatic 40, 3) := by decide +kernel
theorem dX1_copyFrom_18 : decode cX1_copyFrom 18 = .ok (.aload_n 0, 1) := by decide +kernel
theorem dX1_copyFrom_19 : decode cX1_copyFrom 19 = .ok (.aload_n 1, 1) := by decide +kernel
theorem dX1_copyFrom_20 : decode cX1_copyFrom 20 = .ok (.getfield 16, 3) := by decide +kernel
theorem dX1_copyFrom_23 : decode cX1_copyFrom 23 = .ok (.putfield 16, 3) := by decide +kernel
theorem dX1_copyFrom_26 : decode cX1_copyFrom 26 = .ok (.aload_n 0, 1) := by decide +kernel
theorem dX1_copyFrom_27 : decode cX1_copyFrom 27 = .ok (.aload_n 1, 1) := by decide +kernel
theorem dX1_copyFrom_28 : decode cX1_copyFrom 28 = .ok (.getfield 46, 3) := by decide +kernel
theorem dX1_copyFrom_31 : decode cX1_copyFrom 31 = .ok (.putfield 46, 3) := by decide +kernel
theorem dX1_copyFrom_34 : decode cX1_copyFrom 34 = .ok (.aload_n 0, 1) := by decide +kernel
theorem dX1_copyFrom_35 : decode cX1_copyFrom 35 = .ok (.aload_n 1, 1) := by decide +kernel
theorem dX1_copyFrom_36 : decode cX1_copyFrom 36 = .ok (.getfield 49, 3) := by decide +kernel
theorem dX1_copyFrom_39 : decode cX1_copyFrom 39 = .ok (.putfield 49, 3) := by decide +kernel
theorem dX1_copyFrom_42 : decode cX1_copyFrom 42 = .ok (.aload_n 0, 1) := by decide +kernel
theorem dX1_copyFrom_43 : decode cX1_copyFrom 43 = .ok (.aload_n 1, 1) := by decide +kernel
theorem dX1_copyFrom_44 : decode cX1_copyFrom 44 = .ok (.getfield 52, 3) := by decide +kernel
theorem dX1_copyFrom_47 : decode cX1_copyFrom 47 = .ok (.putfield 52, 3) := by decide +kernel
theorem dX1_copyFrom_50 : decode cX1_copyFrom 50 = .ok (.aload_n 0, 1) := by decide +kernel
theorem dX1_copyFrom_51 : decode cX1_copyFrom 51 = .ok (.aload_n 1, 1) := by decide +kernel
theorem dX1_copyFrom_52 : decode cX1_copyFrom 52 = .ok (.getfield 55, 3) := by decide +kernel
theorem dX1_copyFrom_55 : decode cX1_copyFrom 55 = .ok (.putfield 55, 3) := by decide +kernel
theorem dX1_copyFrom_58 : decode cX1_copyFrom 58 = .ok (.aload_n 0, 1) := by decide +kernel
theorem dX1_copyFrom_59 : decode cX1_copyFrom 59 = .ok (.aload_n 1, 1) := by decide +kernel
theorem dX1_copyFrom_60 : decode cX1_copyFrom 60 = .ok (.getfield 58, 3) := by decide +kernel
theorem dX1_copyFrom_63 : decode cX1_copyFrom 63 = .ok (.putfield 58, 3) := by decide +kernel
theorem dX1_copyFrom_66 : decode cX1_copyFrom 66 = .ok (.return_, 1) := by decide +kernel
theorem dX1_age_0 : decode cX1_age 0 = .ok (.aload_n 0, 1) := by decide +kernel
theorem dX1_age_1 : decode cX1_age 1 = .ok (.dup, 1) := by decide +kernel
theorem dX1_age_2 : decode cX1_age 2 = .ok (.getfield 33, 3) := by decide +kernel
theorem dX1_age_5 : decode cX1_age 5 = .ok (.iload_n 1, 1) := by decide +kernel
theorem dX1_age_6 : decode cX1_age 6 = .ok (.iadd, 1) := by decide +kernel
theorem dX1_age_7 : decode cX1_age 7 = .ok (.putfield 33, 3) := by decide +kernel
theorem dX1_age_10 : decode cX1_age 10 = .ok (.aload_n 0, 1) := by decide +kernel
theorem dX1_age_11 : decode cX1_age 11 = .ok (.getfield 33, 3) := by decide +kernel
theorem dX1_age_14 : decode cX1_age 14 = .ok (.ireturn, 1) := by decide +kernel
theorem dX1_isWithin_0 : decode cX1_isWithin 0 = .ok (.iload_n 0, 1) := by decide +kernel
theorem dX1_isWithin_1 : decode cX1_isWithin 1 = .ok (.ifCond .lt 25, 3) := by decide +kernel
theorem dX1_isWithin_4 : decode cX1_isWithin 4 = .ok (.iload_n 0, 1) := by decide +kernel
theorem dX1_isWithin_5 : decode cX1_isWithin 5 = .ok (.sipush 256, 3) := by decide +kernel
theorem dX1_isWithin_8 : decode cX1_isWithin 8 = .ok (.if_icmp .ge 18, 3) := by decide +kernel
theorem dX1_isWithin_11 : decode cX1_isWithin 11 = .ok (.iload_n 1, 1) := by decide +kernel
theorem dX1_isWithin_12 : decode cX1_isWithin 12 = .ok (.ifCond .lt 14, 3) := by decide +kernel
theorem dX1_isWithin_15 : decode cX1_isWithin 15 = .ok (.iload_n 1, 1) := by decide +kernel
theorem dX1_isWithin_16 : decode cX1_isWithin 16 = .ok (.sipush 256, 3) := by decide +kernel
theorem dX1_isWithin_19 : decode cX1_isWithin 19 = .ok (.if_icmp .ge 7, 3) := by decide +kernel
theorem dX1_isWithin_22 : decode cX1_isWithin 22 = .ok (.iconst 1, 1) := by decide +kernel
theorem dX1_isWithin_23 : decode cX1_isWithin 23 = .ok (.goto 4, 3) := by decide +kernel
theorem dX1_isWithin_26 : decode cX1_isWithin 26 = .ok (.iconst 0, 1) := by decide +kernel
theorem dX1_isWithin_27 : decode cX1_isWithin 27 = .ok (.ireturn, 1) := by decide +kernel
theorem dX1_look_0 : decode cX1_look 0 = .ok (.iload_n 1, 1) := by decide +kernel
theorem dX1_look_1 : decode cX1_look 1 = .ok (.iload_n 2, 1) := by decide +kernel
theorem dX1_look_2 : decode cX1_look 2 = .ok (.invokestatic 61, 3) := by decide +kernel
theorem dX1_look_5 : decode cX1_look 5 = .ok (.ifCond .eq 27, 3) := by decide +kernel
theorem dX1_look_8 : decode cX1_look 8 = .ok (.aload_n 0, 1) := by decide +kernel
theorem dX1_look_9 : decode cX1_look 9 = .ok (.getfield 9, 3) := by decide +kernel
theorem dX1_look_12 : decode cX1_look 12 = .ok (.iload_n 2, 1) := by decide +kernel
theorem dX1_look_13 : decode cX1_look 13 = .ok (.iconst 4, 1) := by decide +kernel
theorem dX1_look_14 : decode cX1_look 14 = .ok (.imul, 1) := by decide +kernel
theorem dX1_look_15 : decode cX1_look 15 = .ok (.iload_n 1, 1) := by decide +kernel
theorem dX1_look_16 : decode cX1_look 16 = .ok (.bipush 6, 2) := by decide +kernel
theorem dX1_look_18 : decode cX1_look 18 = .ok (.ishr, 1) := by decide +kernel
theorem dX1_look_19 : decode cX1_look 19 = .ok (.iadd, 1) := by decide +kernel
theorem dX1_look_20 : decode cX1_look 20 = .ok (.laload, 1) := by decide +kernel
theorem dX1_look_21 : decode cX1_look 21 = .ok (.iload_n 1, 1) := by decide +kernel
theorem dX1_look_22 : decode cX1_look 22 = .ok (.bipush 63, 2) := by decide +kernel
theorem dX1_look_24 : decode cX1_look 24 = .ok (.iand, 1) := by decide +kernel
theorem dX1_look_25 : decode cX1_look 25 = .ok (.lushr, 1) := by decide +kernel
theorem dX1_look_26 : decode cX1_look 26 = .ok (.l2i, 1) := by decide +kernel
theorem dX1_look_27 : decode cX1_look 27 = .ok (.iconst 1, 1) := by decide +kernel
theorem dX1_look_28 : decode cX1_look 28 = .ok (.iand, 1) := by decide +kernel
theorem dX1_look_29 : decode cX1_look 29 = .ok (.goto 4, 3) := by decide +kernel
theorem dX1_look_32 : decode cX1_look 32 = .ok (.iconst 0, 1) := by decide +kernel
theorem dX1_look_33 : decode cX1_look 33 = .ok (.ireturn, 1) := by decide +kernel
theorem dX1_write_0 : decode cX1_write 0 = .ok (.iload_n 1, 1) := by decide +kernel
theorem dX1_write_1 : decode cX1_write 1 = .ok (.iload_n 2, 1) := by decide +kernel
theorem dX1_write_2 : decode cX1_write 2 = .ok (.invokestatic 61, 3) := by decide +kernel
theorem dX1_write_5 : decode cX1_write 5 = .ok (.ifCond .eq 35, 3) := by decide +kernel
theorem dX1_write_8 : decode cX1_write 8 = .ok (.aload_n 0, 1) := by decide +kernel
theorem dX1_write_9 : decode cX1_write 9 = .ok (.iload_n 1, 1) := by decide +kernel
theorem dX1_write_10 : decode cX1_write 10 = .ok (.iload_n 2, 1) := by decide +kernel
theorem dX1_write_11 : decode cX1_write 11 = .ok (.invokevirtual 65, 3) := by decide +kernel
theorem dX1_write_14 : decode cX1_write 14 = .ok (.iload_n 3, 1) := by decide +kernel
theorem dX1_write_15 : decode cX1_write 15 = .ok (.if_icmp .eq 25, 3) := by decide +kernel
theorem dX1_write_18 : decode cX1_write 18 = .ok (.aload_n 0, 1) := by decide +kernel
theorem dX1_write_19 : decode cX1_write 19 = .ok (.getfield 9, 3) := by decide +kernel
theorem dX1_write_22 : decode cX1_write 22 = .ok (.iload_n 2, 1) := by decide +kernel
theorem dX1_write_23 : decode cX1_write 23 = .ok (.iconst 4, 1) := by decide +kernel
theorem dX1_write_24 : decode cX1_write 24 = .ok (.imul, 1) := by decide +kernel
theorem dX1_write_25 : decode cX1_write 25 = .ok (.iload_n 1, 1) := by decide +kernel
theorem dX1_write_26 : decode cX1_write 26 = .ok (.bipush 6, 2) := by decide +kernel
theorem dX1_write_28 : decode cX1_write 28 = .ok (.ishr, 1) := by decide +kernel
theorem dX1_write_29 : decode cX1_write 29 = .ok (.iadd, 1) := by decide +kernel
theorem dX1_write_30 : decode cX1_write 30 = .ok (.dup2, 1) := by decide +kernel
theorem dX1_write_31 : decode cX1_write 31 = .ok (.laload, 1) := by decide +kernel
theorem dX1_write_32 : decode cX1_write 32 = .ok (.lconst 1, 1) := by decide +kernel
theorem dX1_write_33 : decode cX1_write 33 = .ok (.iload_n 1, 1) := by decide +kernel
theorem dX1_write_34 : decode cX1_write 34 = .ok (.bipush 63, 2) := by decide +kernel
theorem dX1_write_36 : decode cX1_write 36 = .ok (.iand, 1) := by decide +kernel
theorem dX1_write_37 : decode cX1_write 37 = .ok (.lshl, 1) := by decide +kernel
theorem dX1_write_38 : decode cX1_write 38 = .ok (.lxor, 1) := by decide +kernel
theorem dX1_write_39 : decode cX1_write 39 = .ok (.lastore, 1) := by decide +kernel
theorem dX1_write_40 : decode cX1_write 40 = .ok (.return_, 1) := by decide +kernel
theorem dX1_change_0 : decode cX1_change 0 = .ok (.aload_n 0, 1) := by decide +kernel
theorem dX1_change_1 : decode cX1_change 1 = .ok (.iload_n 1, 1) := by decide +kernel
theorem dX1_change_2 : decode cX1_change 2 = .ok (.iload_n 2, 1) := by decide +kernel
theorem dX1_change_3 : decode cX1_change 3 = .ok (.invokevirtual 65, 3) := by decide +kernel
theorem dX1_change_6 : decode cX1_change 6 = .ok (.istore 4, 2) := by decide +kernel
theorem dX1_change_8 : decode cX1_change 8 = .ok (.aload_n 0, 1) := by decide +kernel
theorem dX1_change_9 : decode cX1_change 9 = .ok (.iload_n 1, 1) := by decide +kernel
theorem dX1_change_10 : decode cX1_change 10 = .ok (.iload_n 2, 1) := by decide +kernel
theorem dX1_change_11 : decode cX1_change 11 = .ok (.iload_n 3, 1) := by decide +kernel
theorem dX1_change_12 : decode cX1_change 12 = .ok (.invokevirtual 69, 3) := by decide +kernel
theorem dX1_change_15 : decode cX1_change 15 = .ok (.aload_n 0, 1) := by decide +kernel
theorem dX1_change_16 : decode cX1_change 16 = .ok (.aload_n 0, 1) := by decide +kernel
theorem dX1_change_17 : decode cX1_change 17 = .ok (.getfield 46, 3) := by decide +kernel
theorem dX1_change_20 : decode cX1_change 20 = .ok (.ifCond .ne 7, 3) := by decide +kernel
theorem dX1_change_23 : decode cX1_change 23 = .ok (.iload_n 2, 1) := by decide +kernel
theorem dX1_change_24 : decode cX1_change 24 = .ok (.goto 11, 3) := by decide +kernel
theorem dX1_change_27 : decode cX1_change 27 = .ok (.aload_n 0, 1) := by decide +kernel
theorem dX1_change_28 : decode cX1_change 28 = .ok (.getfield 52, 3) := by decide +kernel
theorem dX1_change_31 : decode cX1_change 31 = .ok (.iload_n 2, 1) := by decide +kernel
theorem dX1_change_32 : decode cX1_change 32 = .ok (.invokestatic 73, 3) := by decide +kernel
theorem dX1_change_35 : decode cX1_change 35 = .ok (.aload_n 0, 1) := by decide +kernel
theorem dX1_change_36 : decode cX1_change 36 = .ok (.getfield 46, 3) := by decide +kernel
theorem dX1_change_39 : decode cX1_change 39 = .ok (.ifCond .ne 7, 3) := by decide +kernel
theorem dX1_change_42 : decode cX1_change 42 = .ok (.iload_n 2, 1) := by decide +kernel
theorem dX1_change_43 : decode cX1_change 43 = .ok (.goto 11, 3) := by decide +kernel
theorem dX1_change_46 : decode cX1_change 46 = .ok (.aload_n 0, 1) := by decide +kernel
theorem dX1_change_47 : decode cX1_change 47 = .ok (.getfield 58, 3) := by decide +kernel
theorem dX1_change_50 : decode cX1_change 50 = .ok (.iload_n 2, 1) := by decide +kernel
theorem dX1_change_51 : decode cX1_change 51 = .ok (.invokestatic 78, 3) := by decide +kernel
theorem dX1_change_54 : decode cX1_change 54 = .ok (.invokevirtual 36, 3) := by decide +kernel
theorem dX1_change_57 : decode cX1_change 57 = .ok (.iload 4, 2) := by decide +kernel
theorem dX1_change_59 : decode cX1_change 59 = .ok (.ireturn, 1) := by decide +kernel
theorem dX1_wordAt_0 : decode cX1_wordAt 0 = .ok (.iload_n 1, 1) := by decide +kernel
theorem dX1_wordAt_1 : decode cX1_wordAt 1 = .ok (.ifCond .lt 32, 3) := by decide +kernel
theorem dX1_wordAt_4 : decode cX1_wordAt 4 = .ok (.iload_n 1, 1) := by decide +kernel
theorem dX1_wordAt_5 : decode cX1_wordAt 5 = .ok (.sipush 256, 3) := by decide +kernel
theorem dX1_wordAt_8 : decode cX1_wordAt 8 = .ok (.if_icmp .ge 25, 3) := by decide +kernel
theorem dX1_wordAt_11 : decode cX1_wordAt 11 = .ok (.iload_n 2, 1) := by decide +kernel
theorem dX1_wordAt_12 : decode cX1_wordAt 12 = .ok (.ifCond .lt 21, 3) := by decide +kernel
theorem dX1_wordAt_15 : decode cX1_wordAt 15 = .ok (.iload_n 2, 1) := by decide +kernel
theorem dX1_wordAt_16 : decode cX1_wordAt 16 = .ok (.iconst 4, 1) := by decide +kernel
theorem dX1_wordAt_17 : decode cX1_wordAt 17 = .ok (.if_icmp .ge 16, 3) := by decide +kernel
theorem dX1_wordAt_20 : decode cX1_wordAt 20 = .ok (.aload_n 0, 1) := by decide +kernel
theorem dX1_wordAt_21 : decode cX1_wordAt 21 = .ok (.getfield 9, 3) := by decide +kernel
theorem dX1_wordAt_24 : decode cX1_wordAt 24 = .ok (.iload_n 1, 1) := by decide +kernel
theorem dX1_wordAt_25 : decode cX1_wordAt 25 = .ok (.iconst 4, 1) := by decide +kernel
theorem dX1_wordAt_26 : decode cX1_wordAt 26 = .ok (.imul, 1) := by decide +kernel
theorem dX1_wordAt_27 : decode cX1_wordAt 27 = .ok (.iload_n 2, 1) := by decide +kernel
theorem dX1_wordAt_28 : decode cX1_wordAt 28 = .ok (.iadd, 1) := by decide +kernel
theorem dX1_wordAt_29 : decode cX1_wordAt 29 = .ok (.laload, 1) := by decide +kernel
theorem dX1_wordAt_30 : decode cX1_wordAt 30 = .ok (.goto 4, 3) := by decide +kernel
theorem dX1_wordAt_33 : decode cX1_wordAt 33 = .ok (.lconst 0, 1) := by decide +kernel
theorem dX1_wordAt_34 : decode cX1_wordAt 34 = .ok (.lreturn, 1) := by decide +kernel
theorem dX1_setWord_0 : decode cX1_setWord 0 = .ok (.iload_n 1, 1) := by decide +kernel
theorem dX1_setWord_1 : decode cX1_setWord 1 = .ok (.ifCond .lt 30, 3) := by decide +kernel
theorem dX1_setWord_4 : decode cX1_setWord 4 = .ok (.iload_n 1, 1) := by decide +kernel
theorem dX1_setWord_5 : decode cX1_setWord 5 = .ok (.sipush 256, 3) := by decide +kernel
theorem dX1_setWord_8 : decode cX1_setWord 8 = .ok (.if_icmp .ge 23, 3) := by decide +kernel
theorem dX1_setWord_11 : decode cX1_setWord 11 = .ok (.iload_n 2, 1) := by decide +kernel
theorem dX1_setWord_12 : decode cX1_setWord 12 = .ok (.ifCond .lt 19, 3) := by decide +kernel
theorem dX1_setWord_15 : decode cX1_setWord 15 = .ok (.iload_n 2, 1) := by decide +kernel
theorem dX1_setWord_16 : decode cX1_setWord 16 = .ok (.iconst 4, 1) := by decide +kernel
theorem dX1_setWord_17 : decode cX1_setWord 17 = .ok (.if_icmp .ge 14, 3) := by decide +kernel
theorem dX1_setWord_20 : decode cX1_setWord 20 = .ok (.aload_n 0, 1) := by decide +kernel
theorem dX1_setWord_21 : decode cX1_setWord 21 = .ok (.getfield 9, 3) := by decide +kernel
theorem dX1_setWord_24 : decode cX1_setWord 24 = .ok (.iload_n 1, 1) := by decide +kernel
theorem dX1_setWord_25 : decode cX1_setWord 25 = .ok (.iconst 4, 1) := by decide +kernel
theorem dX1_setWord_26 : decode cX1_setWord 26 = .ok (.imul, 1) := by decide +kernel
theorem dX1_setWord_27 : decode cX1_setWord 27 = .ok (.iload_n 2, 1) := by decide +kernel
theorem dX1_setWord_28 : decode cX1_setWord 28 = .ok (.iadd, 1) := by decide +kernel
theorem dX1_setWord_29 : decode cX1_setWord 29 = .ok (.lload_n 3, 1) := by decide +kernel
theorem dX1_setWord_30 : decode cX1_setWord 30 = .ok (.lastore, 1) := by decide +kernel
theorem dX1_setWord_31 : decode cX1_setWord 31 = .ok (.return_, 1) := by decide +kernel
theorem dX1_window_0 : decode cX1_window 0 = .ok (.iload_n 1, 1) := by decide +kernel
theorem dX1_window_1 : decode cX1_window 1 = .ok (.bipush 6, 2) := by decide +kernel
theorem dX1_window_3 : decode cX1_window 3 = .ok (.ishr, 1) := by decide +kernel
theorem dX1_window_4 : decode cX1_window 4 = .ok (.istore_n 3, 1) := by decide +kernel
theorem dX1_window_5 : decode cX1_window 5 = .ok (.iload_n 1, 1) := by decide +kernel
theorem dX1_window_6 : decode cX1_window 6 = .ok (.bipush 63, 2) := by decide +kernel
theorem dX1_window_8 : decode cX1_window 8 = .ok (.iand, 1) := by decide +kernel
theorem dX1_window_9 : decode cX1_window 9 = .ok (.istore 4, 2) := by decide +kernel
theorem dX1_window_11 : decode cX1_window 11 = .ok (.aload_n 0, 1) := by decide +kernel
theorem dX1_window_12 : decode cX1_window 12 = .ok (.iload_n 2, 1) := by decide +kernel
theorem dX1_window_13 : decode cX1_window 13 = .ok (.iload_n 3, 1) := by decide +kernel
theorem dX1_window_14 : decode cX1_window 14 = .ok (.invokevirtual 81, 3) := by decide +kernel
theorem dX1_window_17 : decode cX1_window 17 = .ok (.iload 4, 2) := by decide +kernel
theorem dX1_window_19 : decode cX1_window 19 = .ok (.lushr, 1) := by decide +kernel
theorem dX1_window_20 : decode cX1_window 20 = .ok (.lstore 5, 2) := by decide +kernel
theorem dX1_window_22 : decode cX1_window 22 = .ok (.iload 4, 2) := by decide +kernel
theorem dX1_window_24 : decode cX1_window 24 = .ok (.ifCond .ne 8, 3) := by decide +kernel
theorem dX1_window_27 : decode cX1_window 27 = .ok (.lload 5, 2) := by decide +kernel
theorem dX1_window_29 : decode cX1_window 29 = .ok (.goto 20, 3) := by decide +kernel
theorem dX1_window_32 : decode cX1_window 32 = .ok (.lload 5, 2) := by decide +kernel
theorem dX1_window_34 : decode cX1_window 34 = .ok (.aload_n 0, 1) := by decide +kernel
theorem dX1_window_35 : decode cX1_window 35 = .ok (.iload_n 2, 1) := by decide +kernel
theorem dX1_window_36 : decode cX1_window 36 = .ok (.iload_n 3, 1) := by decide +kernel
theorem dX1_window_37 : decode cX1_window 37 = .ok (.iconst 1, 1) := by decide +kernel
theorem dX1_window_38 : decode cX1_window 38 = .ok (.iadd, 1) := by decide +kernel
theorem dX1_window_39 : decode cX1_window 39 = .ok (.invokevirtual 81, 3) := by decide +kernel
theorem dX1_window_42 : decode cX1_window 42 = .ok (.bipush 64, 2) := by decide +kernel
theorem dX1_window_44 : decode cX1_window 44 = .ok (.iload 4, 2) := by decide +kernel
theorem dX1_window_46 : decode cX1_window 46 = .ok (.isub, 1) := by decide +kernel
theorem dX1_window_47 : decode cX1_window 47 = .ok (.lshl, 1) := by decide +kernel
theorem dX1_window_48 : decode cX1_window 48 = .ok (.lor, 1) := by decide +kernel
theorem dX1_window_49 : decode cX1_window 49 = .ok (.lreturn, 1) := by decide +kernel
theorem dX1_measure_0 : decode cX1_measure 0 = .ok (.aload_n 0, 1) := by decide +kernel
theorem dX1_measure_1 : decode cX1_measure 1 = .ok (.iconst 0, 1) := by decide +kernel
theorem dX1_measure_2 : decode cX1_measure 2 = .ok (.putfield 46, 3) := by decide +kernel
theorem dX1_measure_5 : decode cX1_measure 5 = .ok (.aload_n 0, 1) := by decide +kernel
theorem dX1_measure_6 : decode cX1_measure 6 = .ok (.iconst 0, 1) := by decide +kernel
theorem dX1_measure_7 : decode cX1_measure 7 = .ok (.putfield 49, 3) := by decide +kernel
theorem dX1_measure_10 : decode cX1_measure 10 = .ok (.aload_n 0, 1) := by decide +kernel
theorem dX1_measure_11 : decode cX1_measure 11 = .ok (.iconst 0, 1) := by decide +kernel
theorem dX1_measure_12 : decode cX1_measure 12 = .ok (.putfield 52, 3) := by decide +kernel
theorem dX1_measure_15 : decode cX1_measure 15 = .ok (.aload_n 0, 1) := by decide +kernel
theorem dX1_measure_16 : decode cX1_measure 16 = .ok (.iconst 0, 1) := by decide +kernel
theorem dX1_measure_17 : decode cX1_measure 17 = .ok (.putfield 55, 3) := by decide +kernel
theorem dX1_measure_20 : decode cX1_measure 20 = .ok (.aload_n 0, 1) := by decide +kernel
theorem dX1_measure_21 : decode cX1_measure 21 = .ok (.iconst 0, 1) := by decide +kernel
theorem dX1_measure_22 : decode cX1_measure 22 = .ok (.putfield 58, 3) := by decide +kernel
theorem dX1_measure_25 : decode cX1_measure 25 = .ok (.aload_n 0, 1) := by decide +kernel
theorem dX1_measure_26 : decode cX1_measure 26 = .ok (.getfield 13, 3) := by decide +kernel
theorem dX1_measure_29 : decode cX1_measure 29 = .ok (.lconst 0, 1) := by decide +kernel
theorem dX1_measure_30 : decode cX1_measure 30 = .ok (.invokestatic 27, 3) := by decide +kernel
theorem dX1_measure_33 : decode cX1_measure 33 = .ok (.iload_n 1, 1) := by decide +kernel
theorem dX1_measure_34 : decode cX1_measure 34 = .ok (.iconst 0, 1) := by decide +kernel
theorem dX1_measure_35 : decode cX1_measure 35 = .ok (.invokestatic 78, 3) := by decide +kernel
theorem dX1_measure_38 : decode cX1_measure 38 = .ok (.istore_n 3, 1) := by decide +kernel
theorem dX1_measure_39 : decode cX1_measure 39 = .ok (.iload_n 3, 1) := by decide +kernel
theorem dX1_measure_40 : decode cX1_measure 40 = .ok (.iload_n 2, 1) := by decide +kernel
theorem dX1_measure_41 : decode cX1_measure 41 = .ok (.if_icmp .gt 109, 3) := by decide +kernel
theorem dX1_measure_44 : decode cX1_measure 44 = .ok (.iload_n 3, 1) := by decide +kernel
theorem dX1_measure_45 : decode cX1_measure 45 = .ok (.sipush 256, 3) := by decide +kernel
theorem dX1_measure_48 : decode cX1_measure 48 = .ok (.if_icmp .ge 102, 3) := by decide +kernel
theorem dX1_measure_51 : decode cX1_measure 51 = .ok (.iconst 0, 1) := by decide +kernel
theorem dX1_measure_52 : decode cX1_measure 52 = .ok (.istore 4, 2) := by decide +kernel
theorem dX1_measure_54 : decode cX1_measure 54 = .ok (.iconst 0, 1) := by decide +kernel
theorem dX1_measure_55 : decode cX1_measure 55 = .ok (.istore 5, 2) := by decide +kernel
theorem dX1_measure_57 : decode cX1_measure 57 = .ok (.iload 5, 2) := by decide +kernel
theorem dX1_measure_59 : decode cX1_measure 59 = .ok (.iconst 4, 1) := by decide +kernel
theorem dX1_measure_60 : decode cX1_measure 60 = .ok (.if_icmp .ge 44, 3) := by decide +kernel
theorem dX1_measure_63 : decode cX1_measure 63 = .ok (.aload_n 0, 1) := by decide +kernel
theorem dX1_measure_64 : decode cX1_measure 64 = .ok (.getfield 9, 3) := by decide +kernel
theorem dX1_measure_67 : decode cX1_measure 67 = .ok (.iload_n 3, 1) := by decide +kernel
theorem dX1_measure_68 : decode cX1_measure 68 = .ok (.iconst 4, 1) := by decide +kernel
theorem dX1_measure_69 : decode cX1_measure 69 = .ok (.imul, 1) := by decide +kernel
theorem dX1_measure_70 : decode cX1_measure 70 = .ok (.iload 5, 2) := by decide +kernel
theorem dX1_measure_72 : decode cX1_measure 72 = .ok (.iadd, 1) := by decide +kernel
theorem dX1_measure_73 : decode cX1_measure 73 = .ok (.laload, 1) := by decide +kernel
theorem dX1_measure_74 : decode cX1_measure 74 = .ok (.lstore 6, 2) := by decide +kernel
theorem dX1_measure_76 : decode cX1_measure 76 = .ok (.aload_n 0, 1) := by decide +kernel
theorem dX1_measure_77 : decode cX1_measure 77 = .ok (.getfield 13, 3) := by decide +kernel
theorem dX1_measure_80 : decode cX1_measure 80 = .ok (.iload 5, 2) := by decide +kernel
theorem dX1_measure_82 : decode cX1_measure 82 = .ok (.dup2, 1) := by decide +kernel
theorem dX1_measure_83 : decode cX1_measure 83 = .ok (.laload, 1) := by decide +kernel
theorem dX1_measure_84 : decode cX1_measure 84 = .ok (.lload 6, 2) := by decide +kernel
theorem dX1_measure_86 : decode cX1_measure 86 = .ok (.lor, 1) := by decide +kernel
theorem dX1_measure_87 : decode cX1_measure 87 = .ok (.lastore, 1) := by decide +kernel
theorem dX1_measure_88 : decode cX1_measure 88 = .ok (.iload 4, 2) := by decide +kernel
theorem dX1_measure_90 : decode cX1_measure 90 = .ok (.lload 6, 2) := by decide +kernel
theorem dX1_measure_92 : decode cX1_measure 92 = .ok (.invokestatic 85, 3) := by decide +kernel
theorem dX1_measure_95 : decode cX1_measure 95 = .ok (.iadd, 1) := by decide +kernel
theorem dX1_measure_96 : decode cX1_measure 96 = .ok (.istore 4, 2) := by decide +kernel
theorem dX1_measure_98 : decode cX1_measure 98 = .ok (.iinc 5 1, 3) := by decide +kernel
theorem dX1_measure_101 : decode cX1_measure 101 = .ok (.goto (-44), 3) := by decide +kernel
theorem dX1_measure_104 : decode cX1_measure 104 = .ok (.iload 4, 2) := by decide +kernel
theorem dX1_measure_106 : decode cX1_measure 106 = .ok (.ifCond .le 38, 3) := by decide +kernel
theorem dX1_measure_109 : decode cX1_measure 109 = .ok (.aload_n 0, 1) := by decide +kernel
theorem dX1_measure_110 : decode cX1_measure 110 = .ok (.aload_n 0, 1) := by decide +kernel
theorem dX1_measure_111 : decode cX1_measure 111 = .ok (.getfield 46, 3) := by decide +kernel
theorem dX1_measure_114 : decode cX1_measure 114 = .ok (.ifCond .ne 7, 3) := by decide +kernel
theorem dX1_measure_117 : decode cX1_measure 117 = .ok (.iload_n 3, 1) := by decide +kernel
theorem dX1_measure_118 : decode cX1_measure 118 = .ok (.goto 7, 3) := by decide +kernel
theorem dX1_measure_121 : decode cX1_measure 121 = .ok (.aload_n 0, 1) := by decide +kernel
theorem dX1_measure_122 : decode cX1_measure 122 = .ok (.getfield 52, 3) := by decide +kernel
theorem dX1_measure_125 : decode cX1_measure 125 = .ok (.putfield 52, 3) := by decide +kernel
theorem dX1_measure_128 : decode cX1_measure 128 = .ok (.aload_n 0, 1) := by decide +kernel
theorem dX1_measure_129 : decode cX1_measure 129 = .ok (.iload_n 3, 1) := by decide +kernel
theorem dX1_measure_130 : decode cX1_measure 130 = .ok (.putfield 58, 3) := by decide +kernel
theorem dX1_measure_133 : decode cX1_measure 133 = .ok (.aload_n 0, 1) := by decide +kernel
theorem dX1_measure_134 : decode cX1_measure 134 = .ok (.dup, 1) := by decide +kernel
theorem dX1_measure_135 : decode cX1_measure 135 = .ok (.getfield 46, 3) := by decide +kernel
theorem dX1_measure_138 : decode cX1_measure 138 = .ok (.iload 4, 2) := by decide +kernel
theorem dX1_measure_140 : decode cX1_measure 140 = .ok (.iadd, 1) := by decide +kernel
theorem dX1_measure_141 : decode cX1_measure 141 = .ok (.putfield 46, 3) := by decide +kernel
theorem dX1_measure_144 : decode cX1_measure 144 = .ok (.iinc 3 1, 3) := by decide +kernel
theorem dX1_measure_147 : decode cX1_measure 147 = .ok (.goto (-108), 3) := by decide +kernel
theorem dX1_measure_150 : decode cX1_measure 150 = .ok (.aload_n 0, 1) := by decide +kernel
theorem dX1_measure_151 : decode cX1_measure 151 = .ok (.getfield 46, 3) := by decide +kernel
theorem dX1_measure_154 : decode cX1_measure 154 = .ok (.ifCond .le 26, 3) := by decide +kernel
theorem dX1_measure_157 : decode cX1_measure 157 = .ok (.aload_n 0, 1) := by decide +kernel
theorem dX1_measure_158 : decode cX1_measure 158 = .ok (.aload_n 0, 1) := by decide +kernel
theorem dX1_measure_159 : decode cX1_measure 159 = .ok (.getfield 13, 3) := by decide +kernel
theorem dX1_measure_162 : decode cX1_measure 162 = .ok (.invokestatic 91, 3) := by decide +kernel
theorem dX1_measure_165 : decode cX1_measure 165 = .ok (.putfield 49, 3) := by decide +kernel
theorem dX1_measure_168 : decode cX1_measure 168 = .ok (.aload_n 0, 1) := by decide +kernel
theorem dX1_measure_169 : decode cX1_measure 169 = .ok (.aload_n 0, 1) := by decide +kernel
theorem dX1_measure_170 : decode cX1_measure 170 = .ok (.getfield 13, 3) := by decide +kernel
theorem dX1_measure_173 : decode cX1_measure 173 = .ok (.iconst 0, 1) := by decide +kernel
theorem dX1_measure_174 : decode cX1_measure 174 = .ok (.invokestatic 95, 3) := by decide +kernel
theorem dX1_measure_177 : decode cX1_measure 177 = .ok (.putfield 55, 3) := by decide +kernel
theorem dX1_measure_180 : decode cX1_measure 180 = .ok (.return_, 1) := by decide +kernel
theorem dX1_lowestOf_0 : decode cX1_lowestOf 0 = .ok (.iconst 0, 1) := by decide +kernel
theorem dX1_lowestOf_1 : decode cX1_lowestOf 1 = .ok (.istore_n 1, 1) := by decide +kernel
theorem dX1_lowestOf_2 : decode cX1_lowestOf 2 = .ok (.iload_n 1, 1) := by decide +kernel
theorem dX1_lowestOf_3 : decode cX1_lowestOf 3 = .ok (.iconst 4, 1) := by decide +kernel
theorem dX1_lowestOf_4 : decode cX1_lowestOf 4 = .ok (.if_icmp .ge 36, 3) := by decide +kernel
theorem dX1_lowestOf_7 : decode cX1_lowestOf 7 = .ok (.aload_n 0, 1) := by decide +kernel
theorem dX1_lowestOf_8 : decode cX1_lowestOf 8 = .ok (.iload_n 1, 1) := by decide +kernel
theorem dX1_lowestOf_9 : decode cX1_lowestOf 9 = .ok (.laload, 1) := by decide +kernel
theorem dX1_lowestOf_10 : decode cX1_lowestOf 10 = .ok (.lconst 0, 1) := by decide +kernel
theorem dX1_lowestOf_11 : decode cX1_lowestOf 11 = .ok (.lcmp, 1) := by decide +kernel
theorem dX1_lowestOf_12 : decode cX1_lowestOf 12 = .ok (.ifCond .eq 22, 3) := by decide +kernel
theorem dX1_lowestOf_15 : decode cX1_lowestOf 15 = .ok (.iload_n 1, 1) := by decide +kernel
theorem dX1_lowestOf_16 : decode cX1_lowestOf 16 = .ok (.bipush 64, 2) := by decide +kernel
theorem dX1_lowestOf_18 : decode cX1_lowestOf 18 = .ok (.imul, 1) := by decide +kernel
theorem dX1_lowestOf_19 : decode cX1_lowestOf 19 = .ok (.aload_n 0, 1) := by decide +kernel
theorem dX1_lowestOf_20 : decode cX1_lowestOf 20 = .ok (.iload_n 1, 1) := by decide +kernel
theorem dX1_lowestOf_21 : decode cX1_lowestOf 21 = .ok (.laload, 1) := by decide +kernel
theorem dX1_lowestOf_22 : decode cX1_lowestOf 22 = .ok (.aload_n 0, 1) := by decide +kernel
theorem dX1_lowestOf_23 : decode cX1_lowestOf 23 = .ok (.iload_n 1, 1) := by decide +kernel
theorem dX1_lowestOf_24 : decode cX1_lowestOf 24 = .ok (.laload, 1) := by decide +kernel
theorem dX1_lowestOf_25 : decode cX1_lowestOf 25 = .ok (.lneg, 1) := by decide +kernel
theorem dX1_lowestOf_26 : decode cX1_lowestOf 26 = .ok (.land, 1) := by decide +kernel
theorem dX1_lowestOf_27 : decode cX1_lowestOf 27 = .ok (.lconst 1, 1) := by decide +kernel
theorem dX1_lowestOf_28 : decode cX1_lowestOf 28 = .ok (.lsub, 1) := by decide +kernel
theorem dX1_lowestOf_29 : decode cX1_lowestOf 29 = .ok (.invokestatic 85, 3) := by decide +kernel
theorem dX1_lowestOf_32 : decode cX1_lowestOf 32 = .ok (.iadd, 1) := by decide +kernel
theorem dX1_lowestOf_33 : decode cX1_lowestOf 33 = .ok (.ireturn, 1) := by decide +kernel
theorem dX1_lowestOf_34 : decode cX1_lowestOf 34 = .ok (.iinc 1 1, 3) := by decide +kernel
theorem dX1_lowestOf_37 : decode cX1_lowestOf 37 = .ok (.goto (-35), 3) := by decide +kernel
theorem dX1_lowestOf_40 : decode cX1_lowestOf 40 = .ok (.iconst (-1), 1) := by decide +kernel
theorem dX1_lowestOf_41 : decode cX1_lowestOf 41 = .ok (.ireturn, 1) := by decide +kernel
theorem dX1_highestOf_0 : decode cX1_highestOf 0 = .ok (.iconst 3, 1) := by decide +kernel
theorem dX1_highestOf_1 : decode cX1_highestOf 1 = .ok (.istore_n 2, 1) := by decide +kernel
theorem dX1_highestOf_2 : decode cX1_highestOf 2 = .ok (.iload_n 2, 1) := by decide +kernel
theorem dX1_highestOf_3 : decode cX1_highestOf 3 = .ok (.ifCond .lt 68, 3) := by decide +kernel
theorem dX1_highestOf_6 : decode cX1_highestOf 6 = .ok (.iload_n 1, 1) := by decide +kernel
theorem dX1_highestOf_7 : decode cX1_highestOf 7 = .ok (.iload_n 2, 1) := by decide +kernel
theorem dX1_highestOf_8 : decode cX1_highestOf 8 = .ok (.iadd, 1) := by decide +kernel
theorem dX1_highestOf_9 : decode cX1_highestOf 9 = .ok (.istore_n 3, 1) := by decide +kernel
theorem dX1_highestOf_10 : decode cX1_highestOf 10 = .ok (.iload_n 3, 1) := by decide +kernel
theorem dX1_highestOf_11 : decode cX1_highestOf 11 = .ok (.ifCond .lt 54, 3) := by decide +kernel
theorem dX1_highestOf_14 : decode cX1_highestOf 14 = .ok (.iload_n 3, 1) := by decide +kernel
theorem dX1_highestOf_15 : decode cX1_highestOf 15 = .ok (.aload_n 0, 1) := by decide +kernel
theorem dX1_highestOf_16 : decode cX1_highestOf 16 = .ok (.arraylength, 1) := by decide +kernel
theorem dX1_highestOf_17 : decode cX1_highestOf 17 = .ok (.if_icmp .ge 48, 3) := by decide +kernel
theorem dX1_highestOf_20 : decode cX1_highestOf 20 = .ok (.aload_n 0, 1) := by decide +kernel
theorem dX1_highestOf_21 : decode cX1_highestOf 21 = .ok (.iload_n 3, 1) := by decide +kernel
theorem dX1_highestOf_22 : decode cX1_highestOf 22 = .ok (.laload, 1) := by decide +kernel
theorem dX1_highestOf_23 : decode cX1_highestOf 23 = .ok (.lconst 0, 1) := by decide +kernel
theorem dX1_highestOf_24 : decode cX1_highestOf 24 = .ok (.lcmp, 1) := by decide +kernel
theorem dX1_highestOf_25 : decode cX1_highestOf 25 = .ok (.ifCond .ne 6, 3) := by decide +kernel
theorem dX1_highestOf_28 : decode cX1_highestOf 28 = .ok (.goto 37, 3) := by decide +kernel
theorem dX1_highestOf_31 : decode cX1_highestOf 31 = .ok (.bipush 63, 2) := by decide +kernel
theorem dX1_highestOf_33 : decode cX1_highestOf 33 = .ok (.istore 4, 2) := by decide +kernel
theorem dX1_highestOf_35 : decode cX1_highestOf 35 = .ok (.iload 4, 2) := by decide +kernel
theorem dX1_highestOf_37 : decode cX1_highestOf 37 = .ok (.ifCond .le 20, 3) := by decide +kernel
theorem dX1_highestOf_40 : decode cX1_highestOf 40 = .ok (.aload_n 0, 1) := by decide +kernel
theorem dX1_highestOf_41 : decode cX1_highestOf 41 = .ok (.iload_n 3, 1) := by decide +kernel
theorem dX1_highestOf_42 : decode cX1_highestOf 42 = .ok (.laload, 1) := by decide +kernel
theorem dX1_highestOf_43 : decode cX1_highestOf 43 = .ok (.iload 4, 2) := by decide +kernel
theorem dX1_highestOf_45 : decode cX1_highestOf 45 = .ok (.lushr, 1) := by decide +kernel
theorem dX1_highestOf_46 : decode cX1_highestOf 46 = .ok (.lconst 0, 1) := by decide +kernel
theorem dX1_highestOf_47 : decode cX1_highestOf 47 = .ok (.lcmp, 1) := by decide +kernel
theorem dX1_highestOf_48 : decode cX1_highestOf 48 = .ok (.ifCond .ne 9, 3) := by decide +kernel
theorem dX1_highestOf_51 : decode cX1_highestOf 51 = .ok (.iinc 4 (-1), 3) := by decide +kernel
theorem dX1_highestOf_54 : decode cX1_highestOf 54 = .ok (.goto (-19), 3) := by decide +kernel
theorem dX1_highestOf_57 : decode cX1_highestOf 57 = .ok (.iload_n 2, 1) := by decide +kernel
theorem dX1_highestOf_58 : decode cX1_highestOf 58 = .ok (.bipush 64, 2) := by decide +kernel
theorem dX1_highestOf_60 : decode cX1_highestOf 60 = .ok (.imul, 1) := by decide +kernel
theorem dX1_highestOf_61 : decode cX1_highestOf 61 = .ok (.iload 4, 2) := by decide +kernel
theorem dX1_highestOf_63 : decode cX1_highestOf 63 = .ok (.iadd, 1) := by decide +kernel
theorem dX1_highestOf_64 : decode cX1_highestOf 64 = .ok (.ireturn, 1) := by decide +kernel
theorem dX1_highestOf_65 : decode cX1_highestOf 65 = .ok (.iinc 2 (-1), 3) := by decide +kernel
theorem dX1_highestOf_68 : decode cX1_highestOf 68 = .ok (.goto (-66), 3) := by decide +kernel
theorem dX1_highestOf_71 : decode cX1_highestOf 71 = .ok (.iconst (-1), 1) := by decide +kernel
theorem dX1_highestOf_72 : decode cX1_highestOf 72 = .ok (.ireturn, 1) := by decide +kernel
theorem dX1_lastAliveOf_0 : decode cX1_lastAliveOf 0 = .ok (.aload_n 0, 1) := by decide +kernel
theorem dX1_lastAliveOf_1 : decode cX1_lastAliveOf 1 = .ok (.getfield 9, 3) := by decide +kernel
theorem dX1_lastAliveOf_4 : decode cX1_lastAliveOf 4 = .ok (.iload_n 1, 1) := by decide +kernel
theorem dX1_lastAliveOf_5 : decode cX1_lastAliveOf 5 = .ok (.iconst 4, 1) := by decide +kernel
theorem dX1_lastAliveOf_6 : decode cX1_lastAliveOf 6 = .ok (.imul, 1) := by decide +kernel
theorem dX1_lastAliveOf_7 : decode cX1_lastAliveOf 7 = .ok (.invokestatic 95, 3) := by decide +kernel
theorem dX1_lastAliveOf_10 : decode cX1_lastAliveOf 10 = .ok (.ireturn, 1) := by decide +kernel
theorem dX1_hasRoomFor_0 : decode cX1_hasRoomFor 0 = .ok (.aload_n 0, 1) := by decide +kernel
theorem dX1_hasRoomFor_1 : decode cX1_hasRoomFor 1 = .ok (.getfield 46, 3) := by decide +kernel
theorem dX1_hasRoomFor_4 : decode cX1_hasRoomFor 4 = .ok (.ifCond .eq 43, 3) := by decide +kernel
theorem dX1_hasRoomFor_7 : decode cX1_hasRoomFor 7 = .ok (.aload_n 0, 1) := by decide +kernel
theorem dX1_hasRoomFor_8 : decode cX1_hasRoomFor 8 = .ok (.getfield 49, 3) := by decide +kernel
theorem dX1_hasRoomFor_11 : decode cX1_hasRoomFor 11 = .ok (.iload_n 1, 1) := by decide +kernel
theorem dX1_hasRoomFor_12 : decode cX1_hasRoomFor 12 = .ok (.if_icmp .lt 39, 3) := by decide +kernel
theorem dX1_hasRoomFor_15 : decode cX1_hasRoomFor 15 = .ok (.aload_n 0, 1) := by decide +kernel
theorem dX1_hasRoomFor_16 : decode cX1_hasRoomFor 16 = .ok (.getfield 52, 3) := by decide +kernel
theorem dX1_hasRoomFor_19 : decode cX1_hasRoomFor 19 = .ok (.iload_n 1, 1) := by decide +kernel
theorem dX1_hasRoomFor_20 : decode cX1_hasRoomFor 20 = .ok (.if_icmp .lt 31, 3) := by decide +kernel
theorem dX1_hasRoomFor_23 : decode cX1_hasRoomFor 23 = .ok (.aload_n 0, 1) := by decide +kernel
theorem dX1_hasRoomFor_24 : decode cX1_hasRoomFor 24 = .ok (.getfield 55, 3) := by decide +kernel
theorem dX1_hasRoomFor_27 : decode cX1_hasRoomFor 27 = .ok (.iload_n 1, 1) := by decide +kernel
theorem dX1_hasRoomFor_28 : decode cX1_hasRoomFor 28 = .ok (.iadd, 1) := by decide +kernel
theorem dX1_hasRoomFor_29 : decode cX1_hasRoomFor 29 = .ok (.sipush 256, 3) := by decide +kernel
theorem dX1_hasRoomFor_32 : decode cX1_hasRoomFor 32 = .ok (.if_icmp .ge 19, 3) := by decide +kernel
theorem dX1_hasRoomFor_35 : decode cX1_hasRoomFor 35 = .ok (.aload_n 0, 1) := by decide +kernel
theorem dX1_hasRoomFor_36 : decode cX1_hasRoomFor 36 = .ok (.getfield 58, 3) := by decide +kernel
theorem dX1_hasRoomFor_39 : decode cX1_hasRoomFor 39 = .ok (.iload_n 1, 1) := by decide +kernel
theorem dX1_hasRoomFor_40 : decode cX1_hasRoomFor 40 = .ok (.iadd, 1) := by decide +kernel
theorem dX1_hasRoomFor_41 : decode cX1_hasRoomFor 41 = .ok (.sipush 256, 3) := by decide +kernel
theorem dX1_hasRoomFor_44 : decode cX1_hasRoomFor 44 = .ok (.if_icmp .ge 7, 3) := by decide +kernel
theorem dX1_hasRoomFor_47 : decode cX1_hasRoomFor 47 = .ok (.iconst 1, 1) := by decide +kernel
theorem dX1_hasRoomFor_48 : decode cX1_hasRoomFor 48 = .ok (.goto 4, 3) := by decide +kernel
theorem dX1_hasRoomFor_51 : decode cX1_hasRoomFor 51 = .ok (.iconst 0, 1) := by decide +kernel
theorem dX1_hasRoomFor_52 : decode cX1_hasRoomFor 52 = .ok (.ireturn, 1) := by decide +kernel
theorem dX1_isMovedFrom_0 : decode cX1_isMovedFrom 0 = .ok (.aload_n 0, 1) := by decide +kernel
theorem dX1_isMovedFrom_1 : decode cX1_isMovedFrom 1 = .ok (.getfield 46, 3) := by decide +kernel
theorem dX1_isMovedFrom_4 : decode cX1_isMovedFrom 4 = .ok (.aload_n 1, 1) := by decide +kernel
theorem dX1_isMovedFrom_5 : decode cX1_isMovedFrom 5 = .ok (.getfield 46, 3) := by decide +kernel
theorem dX1_isMovedFrom_8 : decode cX1_isMovedFrom 8 = .ok (.if_icmp .ne 45, 3) := by decide +kernel
theorem dX1_isMovedFrom_11 : decode cX1_isMovedFrom 11 = .ok (.aload_n 0, 1) := by decide +kernel
theorem dX1_isMovedFrom_12 : decode cX1_isMovedFrom 12 = .ok (.getfield 55, 3) := by decide +kernel
theorem dX1_isMovedFrom_15 : decode cX1_isMovedFrom 15 = .ok (.aload_n 0, 1) := by decide +kernel
theorem dX1_isMovedFrom_16 : decode cX1_isMovedFrom 16 = .ok (.getfield 49, 3) := by decide +kernel
theorem dX1_isMovedFrom_19 : decode cX1_isMovedFrom 19 = .ok (.isub, 1) := by decide +kernel
theorem dX1_isMovedFrom_20 : decode cX1_isMovedFrom 20 = .ok (.aload_n 1, 1) := by decide +kernel
theorem dX1_isMovedFrom_21 : decode cX1_isMovedFrom 21 = .ok (.getfield 55, 3) := by decide +kernel
theorem dX1_isMovedFrom_24 : decode cX1_isMovedFrom 24 = .ok (.aload_n 1, 1) := by decide +kernel
theorem dX1_isMovedFrom_25 : decode cX1_isMovedFrom 25 = .ok (.getfield 49, 3) := by decide +kernel
theorem dX1_isMovedFrom_28 : decode cX1_isMovedFrom 28 = .ok (.isub, 1) := by decide +kernel
theorem dX1_isMovedFrom_29 : decode cX1_isMovedFrom 29 = .ok (.if_icmp .ne 24, 3) := by decide +kernel
theorem dX1_isMovedFrom_32 : decode cX1_isMovedFrom 32 = .ok (.aload_n 0, 1) := by decide +kernel
theorem dX1_isMovedFrom_33 : decode cX1_isMovedFrom 33 = .ok (.getfield 58, 3) := by decide +kernel
theorem dX1_isMovedFrom_36 : decode cX1_isMovedFrom 36 = .ok (.aload_n 0, 1) := by decide +kernel
theorem dX1_isMovedFrom_37 : decode cX1_isMovedFrom 37 = .ok (.getfield 52, 3) := by decide +kernel
theorem dX1_isMovedFrom_40 : decode cX1_isMovedFrom 40 = .ok (.isub, 1) := by decide +kernel
theorem dX1_isMovedFrom_41 : decode cX1_isMovedFrom 41 = .ok (.aload_n 1, 1) := by decide +kernel
theorem dX1_isMovedFrom_42 : decode cX1_isMovedFrom 42 = .ok (.getfield 58, 3) := by decide +kernel
theorem dX1_isMovedFrom_45 : decode cX1_isMovedFrom 45 = .ok (.aload_n 1, 1) := by decide +kernel
theorem dX1_isMovedFrom_46 : decode cX1_isMovedFrom 46 = .ok (.getfield 52, 3) := by decide +kernel
theorem dX1_isMovedFrom_49 : decode cX1_isMovedFrom 49 = .ok (.isub, 1) := by decide +kernel
theorem dX1_isMovedFrom_50 : decode cX1_isMovedFrom 50 = .ok (.if_icmp .eq 5, 3) := by decide +kernel
theorem dX1_isMovedFrom_53 : decode cX1_isMovedFrom 53 = .ok (.iconst 0, 1) := by decide +kernel
theorem dX1_isMovedFrom_54 : decode cX1_isMovedFrom 54 = .ok (.ireturn, 1) := by decide +kernel
theorem dX1_isMovedFrom_55 : decode cX1_isMovedFrom 55 = .ok (.iconst 0, 1) := by decide +kernel
theorem dX1_isMovedFrom_56 : decode cX1_isMovedFrom 56 = .ok (.istore_n 2, 1) := by decide +kernel
theorem dX1_isMovedFrom_57 : decode cX1_isMovedFrom 57 = .ok (.iload_n 2, 1) := by decide +kernel
theorem dX1_isMovedFrom_58 : decode cX1_isMovedFrom 58 = .ok (.aload_n 0, 1) := by decide +kernel
theorem dX1_isMovedFrom_59 : decode cX1_isMovedFrom 59 = .ok (.getfield 58, 3) := by decide +kernel
theorem dX1_isMovedFrom_62 : decode cX1_isMovedFrom 62 = .ok (.aload_n 0, 1) := by decide +kernel
theorem dX1_isMovedFrom_63 : decode cX1_isMovedFrom 63 = .ok (.getfield 52, 3) := by decide +kernel
theorem dX1_isMovedFrom_66 : decode cX1_isMovedFrom 66 = .ok (.isub, 1) := by decide +kernel
theorem dX1_isMovedFrom_67 : decode cX1_isMovedFrom 67 = .ok (.if_icmp .gt 68, 3) := by decide +kernel
theorem dX1_isMovedFrom_70 : decode cX1_isMovedFrom 70 = .ok (.iconst 0, 1) := by decide +kernel
theorem dX1_isMovedFrom_71 : decode cX1_isMovedFrom 71 = .ok (.istore_n 3, 1) := by decide +kernel
theorem dX1_isMovedFrom_72 : decode cX1_isMovedFrom 72 = .ok (.iload_n 3, 1) := by decide +kernel
theorem dX1_isMovedFrom_73 : decode cX1_isMovedFrom 73 = .ok (.aload_n 0, 1) := by decide +kernel
theorem dX1_isMovedFrom_74 : decode cX1_isMovedFrom 74 = .ok (.getfield 55, 3) := by decide +kernel
theorem dX1_isMovedFrom_77 : decode cX1_isMovedFrom 77 = .ok (.aload_n 0, 1) := by decide +kernel
theorem dX1_isMovedFrom_78 : decode cX1_isMovedFrom 78 = .ok (.getfield 49, 3) := by decide +kernel
theorem dX1_isMovedFrom_81 : decode cX1_isMovedFrom 81 = .ok (.isub, 1) := by decide +kernel
theorem dX1_isMovedFrom_82 : decode cX1_isMovedFrom 82 = .ok (.if_icmp .gt 47, 3) := by decide +kernel
theorem dX1_isMovedFrom_85 : decode cX1_isMovedFrom 85 = .ok (.aload_n 0, 1) := by decide +kernel
theorem dX1_isMovedFrom_86 : decode cX1_isMovedFrom 86 = .ok (.aload_n 0, 1) := by decide +kernel
theorem dX1_isMovedFrom_87 : decode cX1_isMovedFrom 87 = .ok (.getfield 49, 3) := by decide +kernel
theorem dX1_isMovedFrom_90 : decode cX1_isMovedFrom 90 = .ok (.iload_n 3, 1) := by decide +kernel
theorem dX1_isMovedFrom_91 : decode cX1_isMovedFrom 91 = .ok (.iadd, 1) := by decide +kernel
theorem dX1_isMovedFrom_92 : decode cX1_isMovedFrom 92 = .ok (.aload_n 0, 1) := by decide +kernel
theorem dX1_isMovedFrom_93 : decode cX1_isMovedFrom 93 = .ok (.getfield 52, 3) := by decide +kernel
theorem dX1_isMovedFrom_96 : decode cX1_isMovedFrom 96 = .ok (.iload_n 2, 1) := by decide +kernel
theorem dX1_isMovedFrom_97 : decode cX1_isMovedFrom 97 = .ok (.iadd, 1) := by decide +kernel
theorem dX1_isMovedFrom_98 : decode cX1_isMovedFrom 98 = .ok (.invokevirtual 99, 3) := by decide +kernel
theorem dX1_isMovedFrom_101 : decode cX1_isMovedFrom 101 = .ok (.aload_n 1, 1) := by decide +kernel
theorem dX1_isMovedFrom_102 : decode cX1_isMovedFrom 102 = .ok (.aload_n 1, 1) := by decide +kernel
theorem dX1_isMovedFrom_103 : decode cX1_isMovedFrom 103 = .ok (.getfield 49, 3) := by decide +kernel
theorem dX1_isMovedFrom_106 : decode cX1_isMovedFrom 106 = .ok (.iload_n 3, 1) := by decide +kernel
theorem dX1_isMovedFrom_107 : decode cX1_isMovedFrom 107 = .ok (.iadd, 1) := by decide +kernel
theorem dX1_isMovedFrom_108 : decode cX1_isMovedFrom 108 = .ok (.aload_n 1, 1) := by decide +kernel
theorem dX1_isMovedFrom_109 : decode cX1_isMovedFrom 109 = .ok (.getfield 52, 3) := by decide +kernel
theorem dX1_isMovedFrom_112 : decode cX1_isMovedFrom 112 = .ok (.iload_n 2, 1) := by decide +kernel
theorem dX1_isMovedFrom_113 : decode cX1_isMovedFrom 113 = .ok (.iadd, 1) := by decide +kernel
theorem dX1_isMovedFrom_114 : decode cX1_isMovedFrom 114 = .ok (.invokevirtual 99, 3) := by decide +kernel
theorem dX1_isMovedFrom_117 : decode cX1_isMovedFrom 117 = .ok (.lcmp, 1) := by decide +kernel
theorem dX1_isMovedFrom_118 : decode cX1_isMovedFrom 118 = .ok (.ifCond .eq 5, 3) := by decide +kernel
theorem dX1_isMovedFrom_121 : decode cX1_isMovedFrom 121 = .ok (.iconst 0, 1) := by decide +kernel
theorem dX1_isMovedFrom_122 : decode cX1_isMovedFrom 122 = .ok (.ireturn, 1) := by decide +kernel
theorem dX1_isMovedFrom_123 : decode cX1_isMovedFrom 123 = .ok (.iinc 3 64, 3) := by decide +kernel
theorem dX1_isMovedFrom_126 : decode cX1_isMovedFrom 126 = .ok (.goto (-54), 3) := by decide +kernel
theorem dX1_isMovedFrom_129 : decode cX1_isMovedFrom 129 = .ok (.iinc 2 1, 3) := by decide +kernel
theorem dX1_isMovedFrom_132 : decode cX1_isMovedFrom 132 = .ok (.goto (-75), 3) := by decide +kernel
theorem dX1_isMovedFrom_135 : decode cX1_isMovedFrom 135 = .ok (.iconst 1, 1) := by decide +kernel
theorem dX1_isMovedFrom_136 : decode cX1_isMovedFrom 136 = .ok (.ireturn, 1) := by decide +kernel
theorem dX1_isTurned_0 : decode cX1_isTurned 0 = .ok (.aload_n 1, 1) := by decide +kernel
theorem dX1_isTurned_1 : decode cX1_isTurned 1 = .ok (.getfield 55, 3) := by decide +kernel
theorem dX1_isTurned_4 : decode cX1_isTurned 4 = .ok (.aload_n 1, 1) := by decide +kernel
theorem dX1_isTurned_5 : decode cX1_isTurned 5 = .ok (.getfield 49, 3) := by decide +kernel
theorem dX1_isTurned_8 : decode cX1_isTurned 8 = .ok (.isub, 1) := by decide +kernel
theorem dX1_isTurned_9 : decode cX1_isTurned 9 = .ok (.istore_n 3, 1) := by decide +kernel
theorem dX1_isTurned_10 : decode cX1_isTurned 10 = .ok (.aload_n 1, 1) := by decide +kernel
theorem dX1_isTurned_11 : decode cX1_isTurned 11 = .ok (.getfield 58, 3) := by decide +kernel
theorem dX1_isTurned_14 : decode cX1_isTurned 14 = .ok (.aload_n 1, 1) := by decide +kernel
theorem dX1_isTurned_15 : decode cX1_isTurned 15 = .ok (.getfield 52, 3) := by decide +kernel
theorem dX1_isTurned_18 : decode cX1_isTurned 18 = .ok (.isub, 1) := by decide +kernel
theorem dX1_isTurned_19 : decode cX1_isTurned 19 = .ok (.istore 4, 2) := by decide +kernel
theorem dX1_isTurned_21 : decode cX1_isTurned 21 = .ok (.iload_n 2, 1) := by decide +kernel
theorem dX1_isTurned_22 : decode cX1_isTurned 22 = .ok (.iconst 4, 1) := by decide +kernel
theorem dX1_isTurned_23 : decode cX1_isTurned 23 = .ok (.iand, 1) := by decide +kernel
theorem dX1_isTurned_24 : decode cX1_isTurned 24 = .ok (.ifCond .eq 7, 3) := by decide +kernel
theorem dX1_isTurned_27 : decode cX1_isTurned 27 = .ok (.iconst 1, 1) := by decide +kernel
theorem dX1_isTurned_28 : decode cX1_isTurned 28 = .ok (.goto 4, 3) := by decide +kernel
theorem dX1_isTurned_31 : decode cX1_isTurned 31 = .ok (.iconst 0, 1) := by decide +kernel
theorem dX1_isTurned_32 : decode cX1_isTurned 32 = .ok (.istore 5, 2) := by decide +kernel
theorem dX1_isTurned_34 : decode cX1_isTurned 34 = .ok (.aload_n 0, 1) := by decide +kernel
theorem dX1_isTurned_35 : decode cX1_isTurned 35 = .ok (.getfield 55, 3) := by decide +kernel
theorem dX1_isTurned_38 : decode cX1_isTurned 38 = .ok (.aload_n 0, 1) := by decide +kernel
theorem dX1_isTurned_39 : decode cX1_isTurned 39 = .ok (.getfield 49, 3) := by decide +kernel
theorem dX1_isTurned_42 : decode cX1_isTurned 42 = .ok (.isub, 1) := by decide +kernel
theorem dX1_isTurned_43 : decode cX1_isTurned 43 = .ok (.iload 5, 2) := by decide +kernel
theorem dX1_isTurned_45 : decode cX1_isTurned 45 = .ok (.ifCond .eq 8, 3) := by decide +kernel
theorem dX1_isTurned_48 : decode cX1_isTurned 48 = .ok (.iload 4, 2) := by decide +kernel
theorem dX1_isTurned_50 : decode cX1_isTurned 50 = .ok (.goto 4, 3) := by decide +kernel
theorem dX1_isTurned_53 : decode cX1_isTurned 53 = .ok (.iload_n 3, 1) := by decide +kernel
theorem dX1_isTurned_54 : decode cX1_isTurned 54 = .ok (.if_icmp .ne 26, 3) := by decide +kernel
theorem dX1_isTurned_57 : decode cX1_isTurned 57 = .ok (.aload_n 0, 1) := by decide +kernel
theorem dX1_isTurned_58 : decode cX1_isTurned 58 = .ok (.getfield 58, 3) := by decide +kernel
theorem dX1_isTurned_61 : decode cX1_isTurned 61 = .ok (.aload_n 0, 1) := by decide +kernel
theorem dX1_isTurned_62 : decode cX1_isTurned 62 = .ok (.getfield 52, 3) := by decide +kernel
theorem dX1_isTurned_65 : decode cX1_isTurned 65 = .ok (.isub, 1) := by decide +kernel
theorem dX1_isTurned_66 : decode cX1_isTurned 66 = .ok (.iload 5, 2) := by decide +kernel
theorem dX1_isTurned_68 : decode cX1_isTurned 68 = .ok (.ifCond .eq 7, 3) := by decide +kernel
theorem dX1_isTurned_71 : decode cX1_isTurned 71 = .ok (.iload_n 3, 1) := by decide +kernel
theorem dX1_isTurned_72 : decode cX1_isTurned 72 = .ok (.goto 5, 3) := by decide +kernel
theorem dX1_isTurned_75 : decode cX1_isTurned 75 = .ok (.iload 4, 2) := by decide +kernel
theorem dX1_isTurned_77 : decode cX1_isTurned 77 = .ok (.if_icmp .eq 5, 3) := by decide +kernel
theorem dX1_isTurned_80 : decode cX1_isTurned 80 = .ok (.iconst 0, 1) := by decide +kernel
theorem dX1_isTurned_81 : decode cX1_isTurned 81 = .ok (.ireturn, 1) := by decide +kernel
theorem dX1_isTurned_82 : decode cX1_isTurned 82 = .ok (.aload_n 0, 1) := by decide +kernel
theorem dX1_isTurned_83 : decode cX1_isTurned 83 = .ok (.getfield 52, 3) := by decide +kernel
theorem dX1_isTurned_86 : decode cX1_isTurned 86 = .ok (.istore 6, 2) := by decide +kernel
theorem dX1_isTurned_88 : decode cX1_isTurned 88 = .ok (.iload 6, 2) := by decide +kernel
theorem dX1_isTurned_90 : decode cX1_isTurned 90 = .ok (.aload_n 0, 1) := by decide +kernel
theorem dX1_isTurned_91 : decode cX1_isTurned 91 = .ok (.getfield 58, 3) := by decide +kernel
theorem dX1_isTurned_94 : decode cX1_isTurned 94 = .ok (.if_icmp .gt 144, 3) := by decide +kernel
theorem dX1_isTurned_97 : decode cX1_isTurned 97 = .ok (.aload_n 0, 1) := by decide +kernel
theorem dX1_isTurned_98 : decode cX1_isTurned 98 = .ok (.getfield 49, 3) := by decide +kernel
theorem dX1_isTurned_101 : decode cX1_isTurned 101 = .ok (.istore 7, 2) := by decide +kernel
theorem dX1_isTurned_103 : decode cX1_isTurned 103 = .ok (.iload 7, 2) := by decide +kernel
theorem dX1_isTurned_105 : decode cX1_isTurned 105 = .ok (.aload_n 0, 1) := by decide +kernel
theorem dX1_isTurned_106 : decode cX1_isTurned 106 = .ok (.getfield 55, 3) := by decide +kernel
theorem dX1_isTurned_109 : decode cX1_isTurned 109 = .ok (.if_icmp .gt 123, 3) := by decide +kernel
theorem dX1_isTurned_112 : decode cX1_isTurned 112 = .ok (.iload 5, 2) := by decide +kernel
theorem dX1_isTurned_114 : decode cX1_isTurned 114 = .ok (.ifCond .eq 13, 3) := by decide +kernel
theorem dX1_isTurned_117 : decode cX1_isTurned 117 = .ok (.iload 6, 2) := by decide +kernel
theorem dX1_isTurned_119 : decode cX1_isTurned 119 = .ok (.aload_n 0, 1) := by decide +kernel
theorem dX1_isTurned_120 : decode cX1_isTurned 120 = .ok (.getfield 52, 3) := by decide +kernel
theorem dX1_isTurned_123 : decode cX1_isTurned 123 = .ok (.isub, 1) := by decide +kernel
theorem dX1_isTurned_124 : decode cX1_isTurned 124 = .ok (.goto 10, 3) := by decide +kernel
theorem dX1_isTurned_127 : decode cX1_isTurned 127 = .ok (.iload 7, 2) := by decide +kernel
theorem dX1_isTurned_129 : decode cX1_isTurned 129 = .ok (.aload_n 0, 1) := by decide +kernel
theorem dX1_isTurned_130 : decode cX1_isTurned 130 = .ok (.getfield 49, 3) := by decide +kernel
theorem dX1_isTurned_133 : decode cX1_isTurned 133 = .ok (.isub, 1) := by decide +kernel
theorem dX1_isTurned_134 : decode cX1_isTurned 134 = .ok (.istore 8, 2) := by decide +kernel
theorem dX1_isTurned_136 : decode cX1_isTurned 136 = .ok (.iload 5, 2) := by decide +kernel
theorem dX1_isTurned_138 : decode cX1_isTurned 138 = .ok (.ifCond .eq 13, 3) := by decide +kernel
theorem dX1_isTurned_141 : decode cX1_isTurned 141 = .ok (.iload 7, 2) := by decide +kernel
theorem dX1_isTurned_143 : decode cX1_isTurned 143 = .ok (.aload_n 0, 1) := by decide +kernel
theorem dX1_isTurned_144 : decode cX1_isTurned 144 = .ok (.getfield 49, 3) := by decide +kernel
theorem dX1_isTurned_147 : decode cX1_isTurned 147 = .ok (.isub, 1) := by decide +kernel
theorem dX1_isTurned_148 : decode cX1_isTurned 148 = .ok (.goto 10, 3) := by decide +kernel
theorem dX1_isTurned_151 : decode cX1_isTurned 151 = .ok (.iload 6, 2) := by decide +kernel
theorem dX1_isTurned_153 : decode cX1_isTurned 153 = .ok (.aload_n 0, 1) := by decide +kernel
theorem dX1_isTurned_154 : decode cX1_isTurned 154 = .ok (.getfield 52, 3) := by decide +kernel
theorem dX1_isTurned_157 : decode cX1_isTurned 157 = .ok (.isub, 1) := by decide +kernel
theorem dX1_isTurned_158 : decode cX1_isTurned 158 = .ok (.istore 9, 2) := by decide +kernel
theorem dX1_isTurned_160 : decode cX1_isTurned 160 = .ok (.iload_n 2, 1) := by decide +kernel
theorem dX1_isTurned_161 : decode cX1_isTurned 161 = .ok (.iconst 1, 1) := by decide +kernel
theorem dX1_isTurned_162 : decode cX1_isTurned 162 = .ok (.iand, 1) := by decide +kernel
theorem dX1_isTurned_163 : decode cX1_isTurned 163 = .ok (.ifCond .ne 8, 3) := by decide +kernel
theorem dX1_isTurned_166 : decode cX1_isTurned 166 = .ok (.iload 8, 2) := by decide +kernel
theorem dX1_isTurned_168 : decode cX1_isTurned 168 = .ok (.goto 7, 3) := by decide +kernel
theorem dX1_isTurned_171 : decode cX1_isTurned 171 = .ok (.iload_n 3, 1) := by decide +kernel
theorem dX1_isTurned_172 : decode cX1_isTurned 172 = .ok (.iload 8, 2) := by decide +kernel
theorem dX1_isTurned_174 : decode cX1_isTurned 174 = .ok (.isub, 1) := by decide +kernel
theorem dX1_isTurned_175 : decode cX1_isTurned 175 = .ok (.istore 8, 2) := by decide +kernel
theorem dX1_isTurned_177 : decode cX1_isTurned 177 = .ok (.iload_n 2, 1) := by decide +kernel
theorem dX1_isTurned_178 : decode cX1_isTurned 178 = .ok (.iconst 2, 1) := by decide +kernel
theorem dX1_isTurned_179 : decode cX1_isTurned 179 = .ok (.iand, 1) := by decide +kernel
theorem dX1_isTurned_180 : decode cX1_isTurned 180 = .ok (.ifCond .ne 8, 3) := by decide +kernel
theorem dX1_isTurned_183 : decode cX1_isTurned 183 = .ok (.iload 9, 2) := by decide +kernel
theorem dX1_isTurned_185 : decode cX1_isTurned 185 = .ok (.goto 8, 3) := by decide +kernel
theorem dX1_isTurned_188 : decode cX1_isTurned 188 = .ok (.iload 4, 2) := by decide +kernel
theorem dX1_isTurned_190 : decode cX1_isTurned 190 = .ok (.iload 9, 2) := by decide +kernel
theorem dX1_isTurned_192 : decode cX1_isTurned 192 = .ok (.isub, 1) := by decide +kernel
theorem dX1_isTurned_193 : decode cX1_isTurned 193 = .ok (.istore 9, 2) := by decide +kernel
theorem dX1_isTurned_195 : decode cX1_isTurned 195 = .ok (.aload_n 0, 1) := by decide +kernel
theorem dX1_isTurned_196 : decode cX1_isTurned 196 = .ok (.iload 7, 2) := by decide +kernel
theorem dX1_isTurned_198 : decode cX1_isTurned 198 = .ok (.iload 6, 2) := by decide +kernel
theorem dX1_isTurned_200 : decode cX1_isTurned 200 = .ok (.invokevirtual 65, 3) := by decide +kernel
theorem dX1_isTurned_203 : decode cX1_isTurned 203 = .ok (.aload_n 1, 1) := by decide +kernel
theorem dX1_isTurned_204 : decode cX1_isTurned 204 = .ok (.aload_n 1, 1) := by decide +kernel
theorem dX1_isTurned_205 : decode cX1_isTurned 205 = .ok (.getfield 49, 3) := by decide +kernel
theorem dX1_isTurned_208 : decode cX1_isTurned 208 = .ok (.iload 8, 2) := by decide +kernel
theorem dX1_isTurned_210 : decode cX1_isTurned 210 = .ok (.iadd, 1) := by decide +kernel
theorem dX1_isTurned_211 : decode cX1_isTurned 211 = .ok (.aload_n 1, 1) := by decide +kernel
theorem dX1_isTurned_212 : decode cX1_isTurned 212 = .ok (.getfield 52, 3) := by decide +kernel
theorem dX1_isTurned_215 : decode cX1_isTurned 215 = .ok (.iload 9, 2) := by decide +kernel
theorem dX1_isTurned_217 : decode cX1_isTurned 217 = .ok (.iadd, 1) := by decide +kernel
theorem dX1_isTurned_218 : decode cX1_isTurned 218 = .ok (.invokevirtual 65, 3) := by decide +kernel
theorem dX1_isTurned_221 : decode cX1_isTurned 221 = .ok (.if_icmp .eq 5, 3) := by decide +kernel
theorem dX1_isTurned_224 : decode cX1_isTurned 224 = .ok (.iconst 0, 1) := by decide +kernel
theorem dX1_isTurned_225 : decode cX1_isTurned 225 = .ok (.ireturn, 1) := by decide +kernel
theorem dX1_isTurned_226 : decode cX1_isTurned 226 = .ok (.iinc 7 1, 3) := by decide +kernel
theorem dX1_isTurned_229 : decode cX1_isTurned 229 = .ok (.goto (-126), 3) := by decide +kernel
theorem dX1_isTurned_232 : decode cX1_isTurned 232 = .ok (.iinc 6 1, 3) := by decide +kernel
theorem dX1_isTurned_235 : decode cX1_isTurned 235 = .ok (.goto (-147), 3) := by decide +kernel
theorem dX1_isTurned_238 : decode cX1_isTurned 238 = .ok (.iconst 1, 1) := by decide +kernel
theorem dX1_isTurned_239 : decode cX1_isTurned 239 = .ok (.ireturn, 1) := by decide +kernel
theorem dX2_init_0 : decode cX2_init 0 = .ok (.aload_n 0, 1) := by decide +kernel
theorem dX2_init_1 : decode cX2_init 1 = .ok (.invokespecial 1, 3) := by decide +kernel
theorem dX2_init_4 : decode cX2_init 4 = .ok (.return_, 1) := by decide +kernel
theorem dX2_byteOf_0 : decode cX2_byteOf 0 = .ok (.aload_n 0, 1) := by decide +kernel
theorem dX2_byteOf_1 : decode cX2_byteOf 1 = .ok (.iload_n 2, 1) := by decide +kernel
theorem dX2_byteOf_2 : decode cX2_byteOf 2 = .ok (.putfield 7, 3) := by decide +kernel
theorem dX2_byteOf_5 : decode cX2_byteOf 5 = .ok (.aload_n 0, 1) := by decide +kernel
theorem dX2_byteOf_6 : decode cX2_byteOf 6 = .ok (.iconst 0, 1) := by decide +kernel
theorem dX2_byteOf_7 : decode cX2_byteOf 7 = .ok (.putfield 13, 3) := by decide +kernel
theorem dX2_byteOf_10 : decode cX2_byteOf 10 = .ok (.aload_n 0, 1) := by decide +kernel
theorem dX2_byteOf_11 : decode cX2_byteOf 11 = .ok (.iconst 0, 1) := by decide +kernel
theorem dX2_byteOf_12 : decode cX2_byteOf 12 = .ok (.putfield 16, 3) := by decide +kernel
theorem dX2_byteOf_15 : decode cX2_byteOf 15 = .ok (.aload_n 1, 1) := by decide +kernel
theorem dX2_byteOf_16 : decode cX2_byteOf 16 = .ok (.getfield 19, 3) := by decide +kernel
theorem dX2_byteOf_19 : decode cX2_byteOf 19 = .ok (.istore_n 3, 1) := by decide +kernel
theorem dX2_byteOf_20 : decode cX2_byteOf 20 = .ok (.aload_n 1, 1) := by decide +kernel
theorem dX2_byteOf_21 : decode cX2_byteOf 21 = .ok (.getfield 19, 3) := by decide +kernel
theorem dX2_byteOf_24 : decode cX2_byteOf 24 = .ok (.istore 4, 2) := by decide +kernel
theorem dX2_byteOf_26 : decode cX2_byteOf 26 = .ok (.iload 4, 2) := by decide +kernel
theorem dX2_byteOf_28 : decode cX2_byteOf 28 = .ok (.aload_n 1, 1) := by decide +kernel
theorem dX2_byteOf_29 : decode cX2_byteOf 29 = .ok (.getfield 24, 3) := by decide +kernel
theorem dX2_byteOf_32 : decode cX2_byteOf 32 = .ok (.if_icmp .gt 64, 3) := by decide +kernel
theorem dX2_byteOf_35 : decode cX2_byteOf 35 = .ok (.aload_n 0, 1) := by decide +kernel
theorem dX2_byteOf_36 : decode cX2_byteOf 36 = .ok (.getfield 13, 3) := by decide +kernel
theorem dX2_byteOf_39 : decode cX2_byteOf 39 = .ok (.aload_n 0, 1) := by decide +kernel
theorem dX2_byteOf_40 : decode cX2_byteOf 40 = .ok (.getfield 7, 3) := by decide +kernel
theorem dX2_byteOf_43 : decode cX2_byteOf 43 = .ok (.if_icmp .gt 53, 3) := by decide +kernel
theorem dX2_byteOf_46 : decode cX2_byteOf 46 = .ok (.aload_n 1, 1) := by decide +kernel
theorem dX2_byteOf_47 : decode cX2_byteOf 47 = .ok (.iload 4, 2) := by decide +kernel
theorem dX2_byteOf_49 : decode cX2_byteOf 49 = .ok (.invokevirtual 27, 3) := by decide +kernel
theorem dX2_byteOf_52 : decode cX2_byteOf 52 = .ok (.istore 5, 2) := by decide +kernel
theorem dX2_byteOf_54 : decode cX2_byteOf 54 = .ok (.iload 5, 2) := by decide +kernel
theorem dX2_byteOf_56 : decode cX2_byteOf 56 = .ok (.ifCond .ge 6, 3) := by decide +kernel
theorem dX2_byteOf_59 : decode cX2_byteOf 59 = .ok (.goto 31, 3) := by decide +kernel
theorem dX2_byteOf_62 : decode cX2_byteOf 62 = .ok (.iload 4, 2) := by decide +kernel
theorem dX2_byteOf_64 : decode cX2_byteOf 64 = .ok (.iload_n 3, 1) := by decide +kernel
theorem dX2_byteOf_65 : decode cX2_byteOf 65 = .ok (.if_icmp .le 13, 3) := by decide +kernel
theorem dX2_byteOf_68 : decode cX2_byteOf 68 = .ok (.aload_n 0, 1) := by decide +kernel
theorem dX2_byteOf_69 : decode cX2_byteOf 69 = .ok (.iload 4, 2) := by decide +kernel
theorem dX2_byteOf_71 : decode cX2_byteOf 71 = .ok (.iload_n 3, 1) := by decide +kernel
theorem dX2_byteOf_72 : decode cX2_byteOf 72 = .ok (.isub, 1) := by decide +kernel
theorem dX2_byteOf_73 : decode cX2_byteOf 73 = .ok (.bipush 36, 2) := by decide +kernel
theorem dX2_byteOf_75 : decode cX2_byteOf 75 = .ok (.invokevirtual 31, 3) := by decide +kernel
theorem dX2_byteOf_78 : decode cX2_byteOf 78 = .ok (.iload 4, 2) := by decide +kernel
theorem dX2_byteOf_80 : decode cX2_byteOf 80 = .ok (.istore_n 3, 1) := by decide +kernel
theorem dX2_byteOf_81 : decode cX2_byteOf 81 = .ok (.aload_n 0, 1) := by decide +kernel
theorem dX2_byteOf_82 : decode cX2_byteOf 82 = .ok (.aload_n 1, 1) := by decide +kernel
theorem dX2_byteOf_83 : decode cX2_byteOf 83 = .ok (.iload 4, 2) := by decide +kernel
theorem dX2_byteOf_85 : decode cX2_byteOf 85 = .ok (.iload 5, 2) := by decide +kernel
theorem dX2_byteOf_87 : decode cX2_byteOf 87 = .ok (.invokevirtual 35, 3) := by decide +kernel
theorem dX2_byteOf_90 : decode cX2_byteOf 90 = .ok (.iinc 4 1, 3) := by decide +kernel
theorem dX2_byteOf_93 : decode cX2_byteOf 93 = .ok (.goto (-67), 3) := by decide +kernel
theorem dX2_byteOf_96 : decode cX2_byteOf 96 = .ok (.aload_n 0, 1) := by decide +kernel
theorem dX2_byteOf_97 : decode cX2_byteOf 97 = .ok (.bipush 33, 2) := by decide +kernel
theorem dX2_byteOf_99 : decode cX2_byteOf 99 = .ok (.invokevirtual 39, 3) := by decide +kernel
theorem dX2_byteOf_102 : decode cX2_byteOf 102 = .ok (.aload_n 0, 1) := by decide +kernel
theorem dX2_byteOf_103 : decode cX2_byteOf 103 = .ok (.getfield 16, 3) := by decide +kernel
theorem dX2_byteOf_106 : decode cX2_byteOf 106 = .ok (.ireturn, 1) := by decide +kernel
theorem dX2_writeRow_0 : decode cX2_writeRow 0 = .ok (.aload_n 1, 1) := by decide +kernel
theorem dX2_writeRow_1 : decode cX2_writeRow 1 = .ok (.getfield 43, 3) := by decide +kernel
theorem dX2_writeRow_4 : decode cX2_writeRow 4 = .ok (.istore 4, 2) := by decide +kernel
theorem dX2_writeRow_6 : decode cX2_writeRow 6 = .ok (.iload 4, 2) := by decide +kernel
theorem dX2_writeRow_8 : decode cX2_writeRow 8 = .ok (.iload_n 3, 1) := by decide +kernel
theorem dX2_writeRow_9 : decode cX2_writeRow 9 = .ok (.if_icmp .gt 82, 3) := by decide +kernel
theorem dX2_writeRow_12 : decode cX2_writeRow 12 = .ok (.aload_n 0, 1) := by decide +kernel
theorem dX2_writeRow_13 : decode cX2_writeRow 13 = .ok (.getfield 13, 3) := by decide +kernel
theorem dX2_writeRow_16 : decode cX2_writeRow 16 = .ok (.aload_n 0, 1) := by decide +kernel
theorem dX2_writeRow_17 : decode cX2_writeRow 17 = .ok (.getfield 7, 3) := by decide +kernel
theorem dX2_writeRow_20 : decode cX2_writeRow 20 = .ok (.if_icmp .gt 71, 3) := by decide +kernel
theorem dX2_writeRow_23 : decode cX2_writeRow 23 = .ok (.aload_n 1, 1) := by decide +kernel
theorem dX2_writeRow_24 : decode cX2_writeRow 24 = .ok (.iload 4, 2) := by decide +kernel
theorem dX2_writeRow_26 : decode cX2_writeRow 26 = .ok (.iload_n 2, 1) := by decide +kernel
theorem dX2_writeRow_27 : decode cX2_writeRow 27 = .ok (.invokevirtual 46, 3) := by decide +kernel
theorem dX2_writeRow_30 : decode cX2_writeRow 30 = .ok (.istore 5, 2) := by decide +kernel
theorem dX2_writeRow_32 : decode cX2_writeRow 32 = .ok (.iload 4, 2) := by decide +kernel
theorem dX2_writeRow_34 : decode cX2_writeRow 34 = .ok (.iconst 1, 1) := by decide +kernel
theorem dX2_writeRow_35 : decode cX2_writeRow 35 = .ok (.iadd, 1) := by decide +kernel
theorem dX2_writeRow_36 : decode cX2_writeRow 36 = .ok (.istore 6, 2) := by decide +kernel
theorem dX2_writeRow_38 : decode cX2_writeRow 38 = .ok (.iload 6, 2) := by decide +kernel
theorem dX2_writeRow_40 : decode cX2_writeRow 40 = .ok (.iload_n 3, 1) := by decide +kernel
theorem dX2_writeRow_41 : decode cX2_writeRow 41 = .ok (.if_icmp .gt 21, 3) := by decide +kernel
theorem dX2_writeRow_44 : decode cX2_writeRow 44 = .ok (.aload_n 1, 1) := by decide +kernel
theorem dX2_writeRow_45 : decode cX2_writeRow 45 = .ok (.iload 6, 2) := by decide +kernel
theorem dX2_writeRow_47 : decode cX2_writeRow 47 = .ok (.iload_n 2, 1) := by decide +kernel
theorem dX2_writeRow_48 : decode cX2_writeRow 48 = .ok (.invokevirtual 46, 3) := by decide +kernel
theorem dX2_writeRow_51 : decode cX2_writeRow 51 = .ok (.iload 5, 2) := by decide +kernel
theorem dX2_writeRow_53 : decode cX2_writeRow 53 = .ok (.if_icmp .ne 9, 3) := by decide +kernel
theorem dX2_writeRow_56 : decode cX2_writeRow 56 = .ok (.iinc 6 1, 3) := by decide +kernel
theorem dX2_writeRow_59 : decode cX2_writeRow 59 = .ok (.goto (-21), 3) := by decide +kernel
theorem dX2_writeRow_62 : decode cX2_writeRow 62 = .ok (.aload_n 0, 1) := by decide +kernel
theorem dX2_writeRow_63 : decode cX2_writeRow 63 = .ok (.iload 6, 2) := by decide +kernel
theorem dX2_writeRow_65 : decode cX2_writeRow 65 = .ok (.iload 4, 2) := by decide +kernel
theorem dX2_writeRow_67 : decode cX2_writeRow 67 = .ok (.isub, 1) := by decide +kernel
theorem dX2_writeRow_68 : decode cX2_writeRow 68 = .ok (.iload 5, 2) := by decide +kernel
theorem dX2_writeRow_70 : decode cX2_writeRow 70 = .ok (.iconst 1, 1) := by decide +kernel
theorem dX2_writeRow_71 : decode cX2_writeRow 71 = .ok (.if_icmp .ne 8, 3) := by decide +kernel
theorem dX2_writeRow_74 : decode cX2_writeRow 74 = .ok (.bipush 111, 2) := by decide +kernel
theorem dX2_writeRow_76 : decode cX2_writeRow 76 = .ok (.goto 5, 3) := by decide +kernel
theorem dX2_writeRow_79 : decode cX2_writeRow 79 = .ok (.bipush 98, 2) := by decide +kernel
theorem dX2_writeRow_81 : decode cX2_writeRow 81 = .ok (.invokevirtual 31, 3) := by decide +kernel
theorem dX2_writeRow_84 : decode cX2_writeRow 84 = .ok (.iload 6, 2) := by decide +kernel
theorem dX2_writeRow_86 : decode cX2_writeRow 86 = .ok (.istore 4, 2) := by decide +kernel
theorem dX2_writeRow_88 : decode cX2_writeRow 88 = .ok (.goto (-82), 3) := by decide +kernel
theorem dX2_writeRow_91 : decode cX2_writeRow 91 = .ok (.return_, 1) := by decide +kernel
theorem dX2_writeRun_0 : decode cX2_writeRun 0 = .ok (.iload_n 1, 1) := by decide +kernel
theorem dX2_writeRun_1 : decode cX2_writeRun 1 = .ok (.bipush 100, 2) := by decide +kernel
theorem dX2_writeRun_3 : decode cX2_writeRun 3 = .ok (.if_icmp .lt 17, 3) := by decide +kernel
theorem dX2_writeRun_6 : decode cX2_writeRun 6 = .ok (.aload_n 0, 1) := by decide +kernel
theorem dX2_writeRun_7 : decode cX2_writeRun 7 = .ok (.bipush 48, 2) := by decide +kernel
theorem dX2_writeRun_9 : decode cX2_writeRun 9 = .ok (.iload_n 1, 1) := by decide +kernel
theorem dX2_writeRun_10 : decode cX2_writeRun 10 = .ok (.bipush 100, 2) := by decide +kernel
theorem dX2_writeRun_12 : decode cX2_writeRun 12 = .ok (.idiv, 1) := by decide +kernel
theorem dX2_writeRun_13 : decode cX2_writeRun 13 = .ok (.bipush 10, 2) := by decide +kernel
theorem dX2_writeRun_15 : decode cX2_writeRun 15 = .ok (.irem, 1) := by decide +kernel
theorem dX2_writeRun_16 : decode cX2_writeRun 16 = .ok (.iadd, 1) := by decide +kernel
theorem dX2_writeRun_17 : decode cX2_writeRun 17 = .ok (.invokevirtual 39, 3) := by decide +kernel
theorem dX2_writeRun_20 : decode cX2_writeRun 20 = .ok (.iload_n 1, 1) := by decide +kernel
theorem dX2_writeRun_21 : decode cX2_writeRun 21 = .ok (.bipush 10, 2) := by decide +kernel
theorem dX2_writeRun_23 : decode cX2_writeRun 23 = .ok (.if_icmp .lt 17, 3) := by decide +kernel
theorem dX2_writeRun_26 : decode cX2_writeRun 26 = .ok (.aload_n 0, 1) := by decide +kernel
theorem dX2_writeRun_27 : decode cX2_writeRun 27 = .ok (.bipush 48, 2) := by decide +kernel
theorem dX2_writeRun_29 : decode cX2_writeRun 29 = .ok (.iload_n 1, 1) := by decide +kernel
theorem dX2_writeRun_30 : decode cX2_writeRun 30 = .ok (.bipush 10, 2) := by decide +kernel
theorem dX2_writeRun_32 : decode cX2_writeRun 32 = .ok (.idiv, 1) := by decide +kernel
theorem dX2_writeRun_33 : decode cX2_writeRun 33 = .ok (.bipush 10, 2) := by decide +kernel
theorem dX2_writeRun_35 : decode cX2_writeRun 35 = .ok (.irem, 1) := by decide +kernel
theorem dX2_writeRun_36 : decode cX2_writeRun 36 = .ok (.iadd, 1) := by decide +kernel
theorem dX2_writeRun_37 : decode cX2_writeRun 37 = .ok (.invokevirtual 39, 3) := by decide +kernel
theorem dX2_writeRun_40 : decode cX2_writeRun 40 = .ok (.iload_n 1, 1) := by decide +kernel
theorem dX2_writeRun_41 : decode cX2_writeRun 41 = .ok (.iconst 2, 1) := by decide +kernel
theorem dX2_writeRun_42 : decode cX2_writeRun 42 = .ok (.if_icmp .lt 14, 3) := by decide +kernel
theorem dX2_writeRun_45 : decode cX2_writeRun 45 = .ok (.aload_n 0, 1) := by decide +kernel
theorem dX2_writeRun_46 : decode cX2_writeRun 46 = .ok (.bipush 48, 2) := by decide +kernel
theorem dX2_writeRun_48 : decode cX2_writeRun 48 = .ok (.iload_n 1, 1) := by decide +kernel
theorem dX2_writeRun_49 : decode cX2_writeRun 49 = .ok (.bipush 10, 2) := by decide +kernel
theorem dX2_writeRun_51 : decode cX2_writeRun 51 = .ok (.irem, 1) := by decide +kernel
theorem dX2_writeRun_52 : decode cX2_writeRun 52 = .ok (.iadd, 1) := by decide +kernel
theorem dX2_writeRun_53 : decode cX2_writeRun 53 = .ok (.invokevirtual 39, 3) := by decide +kernel
theorem dX2_writeRun_56 : decode cX2_writeRun 56 = .ok (.aload_n 0, 1) := by decide +kernel
theorem dX2_writeRun_57 : decode cX2_writeRun 57 = .ok (.iload_n 2, 1) := by decide +kernel
theorem dX2_writeRun_58 : decode cX2_writeRun 58 = .ok (.invokevirtual 39, 3) := by decide +kernel
theorem dX2_writeRun_61 : decode cX2_writeRun 61 = .ok (.return_, 1) := by decide +kernel
theorem dX2_writeByte_0 : decode cX2_writeByte 0 = .ok (.aload_n 0, 1) := by decide +kernel
theorem dX2_writeByte_1 : decode cX2_writeByte 1 = .ok (.getfield 13, 3) := by decide +kernel
theorem dX2_writeByte_4 : decode cX2_writeByte 4 = .ok (.aload_n 0, 1) := by decide +kernel
theorem dX2_writeByte_5 : decode cX2_writeByte 5 = .ok (.getfield 7, 3) := by decide +kernel
theorem dX2_writeByte_8 : decode cX2_writeByte 8 = .ok (.if_icmp .ne 8, 3) := by decide +kernel
theorem dX2_writeByte_11 : decode cX2_writeByte 11 = .ok (.aload_n 0, 1) := by decide +kernel
theorem dX2_writeByte_12 : decode cX2_writeByte 12 = .ok (.iload_n 1, 1) := by decide +kernel
theorem dX2_writeByte_13 : decode cX2_writeByte 13 = .ok (.putfield 16, 3) := by decide +kernel
theorem dX2_writeByte_16 : decode cX2_writeByte 16 = .ok (.aload_n 0, 1) := by decide +kernel
theorem dX2_writeByte_17 : decode cX2_writeByte 17 = .ok (.dup, 1) := by decide +kernel
theorem dX2_writeByte_18 : decode cX2_writeByte 18 = .ok (.getfield 13, 3) := by decide +kernel
theorem dX2_writeByte_21 : decode cX2_writeByte 21 = .ok (.iconst 1, 1) := by decide +kernel
theorem dX2_writeByte_22 : decode cX2_writeByte 22 = .ok (.iadd, 1) := by decide +kernel
theorem dX2_writeByte_23 : decode cX2_writeByte 23 = .ok (.putfield 13, 3) := by decide +kernel
theorem dX2_writeByte_26 : decode cX2_writeByte 26 = .ok (.return_, 1) := by decide +kernel
theorem dX3_init_0 : decode cX3_init 0 = .ok (.aload_n 0, 1) := by decide +kernel
theorem dX3_init_1 : decode cX3_init 1 = .ok (.invokespecial 1, 3) := by decide +kernel
theorem dX3_init_4 : decode cX3_init 4 = .ok (.aload_n 0, 1) := by decide +kernel
theorem dX3_init_5 : decode cX3_init 5 = .ok (.sipush 256, 3) := by decide +kernel
theorem dX3_init_8 : decode cX3_init 8 = .ok (.newarray .int, 2) := by decide +kernel
theorem dX3_init_10 : decode cX3_init 10 = .ok (.putfield 9, 3) := by decide +kernel
theorem dX3_init_13 : decode cX3_init 13 = .ok (.return_, 1) := by decide +kernel
theorem dX3_begin_0 : decode cX3_begin 0 = .ok (.aload_n 0, 1) := by decide +kernel
theorem dX3_begin_1 : decode cX3_begin 1 = .ok (.aload_n 1, 1) := by decide +kernel
theorem dX3_begin_2 : decode cX3_begin 2 = .ok (.putfield 13, 3) := by decide +kernel
theorem dX3_begin_5 : decode cX3_begin 5 = .ok (.aload_n 0, 1) := by decide +kernel
theorem dX3_begin_6 : decode cX3_begin 6 = .ok (.aload_n 1, 1) := by decide +kernel
theorem dX3_begin_7 : decode cX3_begin 7 = .ok (.getfield 17, 3) := by decide +kernel
theorem dX3_begin_10 : decode cX3_begin 10 = .ok (.putfield 22, 3) := by decide +kernel
theorem dX3_begin_13 : decode cX3_begin 13 = .ok (.aload_n 0, 1) := by decide +kernel
theorem dX3_begin_14 : decode cX3_begin 14 = .ok (.iload_n 2, 1) := by decide +kernel
theorem dX3_begin_15 : decode cX3_begin 15 = .ok (.putfield 25, 3) := by decide +kernel
theorem dX3_begin_18 : decode cX3_begin 18 = .ok (.aload_n 0, 1) := by decide +kernel
theorem dX3_begin_19 : decode cX3_begin 19 = .ok (.iload_n 3, 1) := by decide +kernel
theorem dX3_begin_20 : decode cX3_begin 20 = .ok (.putfield 28, 3) := by decide +kernel
theorem dX3_begin_23 : decode cX3_begin 23 = .ok (.aload_n 0, 1) := by decide +kernel
theorem dX3_begin_24 : decode cX3_begin 24 = .ok (.iconst 0, 1) := by decide +kernel
theorem dX3_begin_25 : decode cX3_begin 25 = .ok (.putfield 31, 3) := by decide +kernel
theorem dX3_begin_28 : decode cX3_begin 28 = .ok (.aload_n 0, 1) := by decide +kernel
theorem dX3_begin_29 : decode cX3_begin 29 = .ok (.getfield 9, 3) := by decide +kernel
theorem dX3_begin_32 : decode cX3_begin 32 = .ok (.iconst 0, 1) := by decide +kernel
theorem dX3_begin_33 : decode cX3_begin 33 = .ok (.invokestatic 34, 3) := by decide +kernel
theorem dX3_begin_36 : decode cX3_begin 36 = .ok (.return_, 1) := by decide +kernel
theorem dX3_hasCell_0 : decode cX3_hasCell 0 = .ok (.iload_n 1, 1) := by decide +kernel
theorem dX3_hasCell_1 : decode cX3_hasCell 1 = .ok (.ifCond .lt 27, 3) := by decide +kernel
theorem dX3_hasCell_4 : decode cX3_hasCell 4 = .ok (.iload_n 1, 1) := by decide +kernel
theorem dX3_hasCell_5 : decode cX3_hasCell 5 = .ok (.aload_n 0, 1) := by decide +kernel
theorem dX3_hasCell_6 : decode cX3_hasCell 6 = .ok (.getfield 25, 3) := by decide +kernel
theorem dX3_hasCell_9 : decode cX3_hasCell 9 = .ok (.if_icmp .ge 19, 3) := by decide +kernel
theorem dX3_hasCell_12 : decode cX3_hasCell 12 = .ok (.iload_n 2, 1) := by decide +kernel
theorem dX3_hasCell_13 : decode cX3_hasCell 13 = .ok (.ifCond .lt 15, 3) := by decide +kernel
theorem dX3_hasCell_16 : decode cX3_hasCell 16 = .ok (.iload_n 2, 1) := by decide +kernel
theorem dX3_hasCell_17 : decode cX3_hasCell 17 = .ok (.aload_n 0, 1) := by decide +kernel
theorem dX3_hasCell_18 : decode cX3_hasCell 18 = .ok (.getfield 28, 3) := by decide +kernel
theorem dX3_hasCell_21 : decode cX3_hasCell 21 = .ok (.if_icmp .ge 7, 3) := by decide +kernel
theorem dX3_hasCell_24 : decode cX3_hasCell 24 = .ok (.iconst 1, 1) := by decide +kernel
theorem dX3_hasCell_25 : decode cX3_hasCell 25 = .ok (.goto 4, 3) := by decide +kernel
theorem dX3_hasCell_28 : decode cX3_hasCell 28 = .ok (.iconst 0, 1) := by decide +kernel
theorem dX3_hasCell_29 : decode cX3_hasCell 29 = .ok (.ireturn, 1) := by decide +kernel
theorem dX3_hasState_0 : decode cX3_hasState 0 = .ok (.iload_n 1, 1) := by decide +kernel
theorem dX3_hasState_1 : decode cX3_hasState 1 = .ok (.ifCond .lt 15, 3) := by decide +kernel
theorem dX3_hasState_4 : decode cX3_hasState 4 = .ok (.iload_n 1, 1) := by decide +kernel
theorem dX3_hasState_5 : decode cX3_hasState 5 = .ok (.aload_n 0, 1) := by decide +kernel
theorem dX3_hasState_6 : decode cX3_hasState 6 = .ok (.getfield 22, 3) := by decide +kernel
theorem dX3_hasState_9 : decode cX3_hasState 9 = .ok (.if_icmp .ge 7, 3) := by decide +kernel
theorem dX3_hasState_12 : decode cX3_hasState 12 = .ok (.iconst 1, 1) := by decide +kernel
theorem dX3_hasState_13 : decode cX3_hasState 13 = .ok (.goto 4, 3) := by decide +kernel
theorem dX3_hasState_16 : decode cX3_hasState 16 = .ok (.iconst 0, 1) := by decide +kernel
theorem dX3_hasState_17 : decode cX3_hasState 17 = .ok (.ireturn, 1) := by decide +kernel
theorem dX3_look_0 : decode cX3_look 0 = .ok (.aload_n 0, 1) := by decide +kernel
theorem dX3_look_1 : decode cX3_look 1 = .ok (.iload_n 1, 1) := by decide +kernel
theorem dX3_look_2 : decode cX3_look 2 = .ok (.iload_n 2, 1) := by decide +kernel
theorem dX3_look_3 : decode cX3_look 3 = .ok (.invokevirtual 40, 3) := by decide +kernel
theorem dX3_look_6 : decode cX3_look 6 = .ok (.ifCond .eq 19, 3) := by decide +kernel
theorem dX3_look_9 : decode cX3_look 9 = .ok (.aload_n 0, 1) := by decide +kernel
theorem dX3_look_10 : decode cX3_look 10 = .ok (.getfield 9, 3) := by decide +kernel
theorem dX3_look_13 : decode cX3_look 13 = .ok (.iload_n 1, 1) := by decide +kernel
theorem dX3_look_14 : decode cX3_look 14 = .ok (.aload_n 0, 1) := by decide +kernel
theorem dX3_look_15 : decode cX3_look 15 = .ok (.getfield 28, 3) := by decide +kernel
theorem dX3_look_18 : decode cX3_look 18 = .ok (.imul, 1) := by decide +kernel
theorem dX3_look_19 : decode cX3_look 19 = .ok (.iload_n 2, 1) := by decide +kernel
theorem dX3_look_20 : decode cX3_look 20 = .ok (.iadd, 1) := by decide +kernel
theorem dX3_look_21 : decode cX3_look 21 = .ok (.iaload, 1) := by decide +kernel
theorem dX3_look_22 : decode cX3_look 22 = .ok (.goto 4, 3) := by decide +kernel
theorem dX3_look_25 : decode cX3_look 25 = .ok (.iconst 0, 1) := by decide +kernel
theorem dX3_look_26 : decode cX3_look 26 = .ok (.ireturn, 1) := by decide +kernel
theorem dX3_change_0 : decode cX3_change 0 = .ok (.aload_n 0, 1) := by decide +kernel
theorem dX3_change_1 : decode cX3_change 1 = .ok (.iload_n 1, 1) := by decide +kernel
theorem dX3_change_2 : decode cX3_change 2 = .ok (.iload_n 2, 1) := by decide +kernel
theorem dX3_change_3 : decode cX3_change 3 = .ok (.invokevirtual 44, 3) := by decide +kernel
theorem dX3_change_6 : decode cX3_change 6 = .ok (.istore 4, 2) := by decide +kernel
theorem dX3_change_8 : decode cX3_change 8 = .ok (.aload_n 0, 1) := by decide +kernel
theorem dX3_change_9 : decode cX3_change 9 = .ok (.iload_n 1, 1) := by decide +kernel
theorem dX3_change_10 : decode cX3_change 10 = .ok (.iload_n 2, 1) := by decide +kernel
theorem dX3_change_11 : decode cX3_change 11 = .ok (.invokevirtual 40, 3) := by decide +kernel
theorem dX3_change_14 : decode cX3_change 14 = .ok (.ifCond .eq 17, 3) := by decide +kernel
theorem dX3_change_17 : decode cX3_change 17 = .ok (.aload_n 0, 1) := by decide +kernel
theorem dX3_change_18 : decode cX3_change 18 = .ok (.getfield 9, 3) := by decide +kernel
theorem dX3_change_21 : decode cX3_change 21 = .ok (.iload_n 1, 1) := by decide +kernel
theorem dX3_change_22 : decode cX3_change 22 = .ok (.aload_n 0, 1) := by decide +kernel
theorem dX3_change_23 : decode cX3_change 23 = .ok (.getfield 28, 3) := by decide +kernel
theorem dX3_change_26 : decode cX3_change 26 = .ok (.imul, 1) := by decide +kernel
theorem dX3_change_27 : decode cX3_change 27 = .ok (.iload_n 2, 1) := by decide +kernel
theorem dX3_change_28 : decode cX3_change 28 = .ok (.iadd, 1) := by decide +kernel
theorem dX3_change_29 : decode cX3_change 29 = .ok (.iload_n 3, 1) := by decide +kernel
theorem dX3_change_30 : decode cX3_change 30 = .ok (.iastore, 1) := by decide +kernel
theorem dX3_change_31 : decode cX3_change 31 = .ok (.iload 4, 2) := by decide +kernel
theorem dX3_change_33 : decode cX3_change 33 = .ok (.ireturn, 1) := by decide +kernel
theorem dX3_scatter_0 : decode cX3_scatter 0 = .ok (.aload_n 0, 1) := by decide +kernel
theorem dX3_scatter_1 : decode cX3_scatter 1 = .ok (.getfield 22, 3) := by decide +kernel
theorem dX3_scatter_4 : decode cX3_scatter 4 = .ok (.iconst 1, 1) := by decide +kernel
theorem dX3_scatter_5 : decode cX3_scatter 5 = .ok (.isub, 1) := by decide +kernel
theorem dX3_scatter_6 : decode cX3_scatter 6 = .ok (.istore_n 3, 1) := by decide +kernel
theorem dX3_scatter_7 : decode cX3_scatter 7 = .ok (.iload_n 3, 1) := by decide +kernel
theorem dX3_scatter_8 : decode cX3_scatter 8 = .ok (.iconst 1, 1) := by decide +kernel
theorem dX3_scatter_9 : decode cX3_scatter 9 = .ok (.if_icmp .ge 5, 3) := by decide +kernel
theorem dX3_scatter_12 : decode cX3_scatter 12 = .ok (.iconst 0, 1) := by decide +kernel
theorem dX3_scatter_13 : decode cX3_scatter 13 = .ok (.ireturn, 1) := by decide +kernel
theorem dX3_scatter_14 : decode cX3_scatter 14 = .ok (.iload_n 1, 1) := by decide +kernel
theorem dX3_scatter_15 : decode cX3_scatter 15 = .ok (.istore 4, 2) := by decide +kernel
theorem dX3_scatter_17 : decode cX3_scatter 17 = .ok (.iconst 0, 1) := by decide +kernel
theorem dX3_scatter_18 : decode cX3_scatter 18 = .ok (.istore 5, 2) := by decide +kernel
theorem dX3_scatter_20 : decode cX3_scatter 20 = .ok (.iconst 0, 1) := by decide +kernel
theorem dX3_scatter_21 : decode cX3_scatter 21 = .ok (.istore 6, 2) := by decide +kernel
theorem dX3_scatter_23 : decode cX3_scatter 23 = .ok (.iload 6, 2) := by decide +kernel
theorem dX3_scatter_25 : decode cX3_scatter 25 = .ok (.aload_n 0, 1) := by decide +kernel
theorem dX3_scatter_26 : decode cX3_scatter 26 = .ok (.getfield 25, 3) := by decide +kernel
theorem dX3_scatter_29 : decode cX3_scatter 29 = .ok (.aload_n 0, 1) := by decide +kernel
theorem dX3_scatter_30 : decode cX3_scatter 30 = .ok (.getfield 28, 3) := by decide +kernel
theorem dX3_scatter_33 : decode cX3_scatter 33 = .ok (.imul, 1) := by decide +kernel
theorem dX3_scatter_34 : decode cX3_scatter 34 = .ok (.if_icmp .ge 85, 3) := by decide +kernel
theorem dX3_scatter_37 : decode cX3_scatter 37 = .ok (.iload 6, 2) := by decide +kernel
theorem dX3_scatter_39 : decode cX3_scatter 39 = .ok (.aload_n 0, 1) := by decide +kernel
theorem dX3_scatter_40 : decode cX3_scatter 40 = .ok (.getfield 9, 3) := by decide +kernel
theorem dX3_scatter_43 : decode cX3_scatter 43 = .ok (.arraylength, 1) := by decide +kernel
theorem dX3_scatter_44 : decode cX3_scatter 44 = .ok (.if_icmp .ge 75, 3) := by decide +kernel
theorem dX3_scatter_47 : decode cX3_scatter 47 = .ok (.iload 4, 2) := by decide +kernel
theorem dX3_scatter_49 : decode cX3_scatter 49 = .ok (.ldc 48, 2) := by decide +kernel
theorem dX3_scatter_51 : decode cX3_scatter 51 = .ok (.imul, 1) := by decide +kernel
theorem dX3_scatter_52 : decode cX3_scatter 52 = .ok (.ldc 49, 2) := by decide +kernel
theorem dX3_scatter_54 : decode cX3_scatter 54 = .ok (.iadd, 1) := by decide +kernel
theorem dX3_scatter_55 : decode cX3_scatter 55 = .ok (.istore 4, 2) := by decide +kernel
theorem dX3_scatter_57 : decode cX3_scatter 57 = .ok (.iload 4, 2) := by decide +kernel
theorem dX3_scatter_59 : decode cX3_scatter 59 = .ok (.bipush 16, 2) := by decide +kernel
theorem dX3_scatter_61 : decode cX3_scatter 61 = .ok (.iushr, 1) := by decide +kernel
theorem dX3_scatter_62 : decode cX3_scatter 62 = .ok (.istore 7, 2) := by decide +kernel
theorem dX3_scatter_64 : decode cX3_scatter 64 = .ok (.aload_n 0, 1) := by decide +kernel
theorem dX3_scatter_65 : decode cX3_scatter 65 = .ok (.getfield 9, 3) := by decide +kernel
theorem dX3_scatter_68 : decode cX3_scatter 68 = .ok (.iload 6, 2) := by decide +kernel
theorem dX3_scatter_70 : decode cX3_scatter 70 = .ok (.iload 7, 2) := by decide +kernel
theorem dX3_scatter_72 : decode cX3_scatter 72 = .ok (.bipush 100, 2) := by decide +kernel
theorem dX3_scatter_74 : decode cX3_scatter 74 = .ok (.irem, 1) := by decide +kernel
theorem dX3_scatter_75 : decode cX3_scatter 75 = .ok (.iload_n 2, 1) := by decide +kernel
theorem dX3_scatter_76 : decode cX3_scatter 76 = .ok (.if_icmp .ge 15, 3) := by decide +kernel
theorem dX3_scatter_79 : decode cX3_scatter 79 = .ok (.iconst 1, 1) := by decide +kernel
theorem dX3_scatter_80 : decode cX3_scatter 80 = .ok (.iload 7, 2) := by decide +kernel
theorem dX3_scatter_82 : decode cX3_scatter 82 = .ok (.bipush 100, 2) := by decide +kernel
theorem dX3_scatter_84 : decode cX3_scatter 84 = .ok (.idiv, 1) := by decide +kernel
theorem dX3_scatter_85 : decode cX3_scatter 85 = .ok (.iload_n 3, 1) := by decide +kernel
theorem dX3_scatter_86 : decode cX3_scatter 86 = .ok (.irem, 1) := by decide +kernel
theorem dX3_scatter_87 : decode cX3_scatter 87 = .ok (.iadd, 1) := by decide +kernel
theorem dX3_scatter_88 : decode cX3_scatter 88 = .ok (.goto 4, 3) := by decide +kernel
theorem dX3_scatter_91 : decode cX3_scatter 91 = .ok (.iconst 0, 1) := by decide +kernel
theorem dX3_scatter_92 : decode cX3_scatter 92 = .ok (.iastore, 1) := by decide +kernel
theorem dX3_scatter_93 : decode cX3_scatter 93 = .ok (.iload 5, 2) := by decide +kernel
theorem dX3_scatter_95 : decode cX3_scatter 95 = .ok (.aload_n 0, 1) := by decide +kernel
theorem dX3_scatter_96 : decode cX3_scatter 96 = .ok (.getfield 9, 3) := by decide +kernel
theorem dX3_scatter_99 : decode cX3_scatter 99 = .ok (.iload 6, 2) := by decide +kernel
theorem dX3_scatter_101 : decode cX3_scatter 101 = .ok (.iaload, 1) := by decide +kernel
theorem dX3_scatter_102 : decode cX3_scatter 102 = .ok (.ifCond .eq 7, 3) := by decide +kernel
theorem dX3_scatter_105 : decode cX3_scatter 105 = .ok (.iconst 1, 1) := by decide +kernel
theorem dX3_scatter_106 : decode cX3_scatter 106 = .ok (.goto 4, 3) := by decide +kernel
theorem dX3_scatter_109 : decode cX3_scatter 109 = .ok (.iconst 0, 1) := by decide +kernel
theorem dX3_scatter_110 : decode cX3_scatter 110 = .ok (.iadd, 1) := by decide +kernel
theorem dX3_scatter_111 : decode cX3_scatter 111 = .ok (.istore 5, 2) := by decide +kernel
theorem dX3_scatter_113 : decode cX3_scatter 113 = .ok (.iinc 6 1, 3) := by decide +kernel
theorem dX3_scatter_116 : decode cX3_scatter 116 = .ok (.goto (-93), 3) := by decide +kernel
theorem dX3_scatter_119 : decode cX3_scatter 119 = .ok (.iload 5, 2) := by decide +kernel
theorem dX3_scatter_121 : decode cX3_scatter 121 = .ok (.ireturn, 1) := by decide +kernel
theorem dX3_tally_0 : decode cX3_tally 0 = .ok (.iconst 0, 1) := by decide +kernel
theorem dX3_tally_1 : decode cX3_tally 1 = .ok (.istore_n 2, 1) := by decide +kernel
theorem dX3_tally_2 : decode cX3_tally 2 = .ok (.iconst 0, 1) := by decide +kernel
theorem dX3_tally_3 : decode cX3_tally 3 = .ok (.istore_n 3, 1) := by decide +kernel
theorem dX3_tally_4 : decode cX3_tally 4 = .ok (.iload_n 3, 1) := by decide +kernel
theorem dX3_tally_5 : decode cX3_tally 5 = .ok (.aload_n 0, 1) := by decide +kernel
theorem dX3_tally_6 : decode cX3_tally 6 = .ok (.getfield 25, 3) := by decide +kernel
theorem dX3_tally_9 : decode cX3_tally 9 = .ok (.aload_n 0, 1) := by decide +kernel
theorem dX3_tally_10 : decode cX3_tally 10 = .ok (.getfield 28, 3) := by decide +kernel
theorem dX3_tally_13 : decode cX3_tally 13 = .ok (.imul, 1) := by decide +kernel
theorem dX3_tally_14 : decode cX3_tally 14 = .ok (.if_icmp .ge 36, 3) := by decide +kernel
theorem dX3_tally_17 : decode cX3_tally 17 = .ok (.iload_n 3, 1) := by decide +kernel
theorem dX3_tally_18 : decode cX3_tally 18 = .ok (.aload_n 0, 1) := by decide +kernel
theorem dX3_tally_19 : decode cX3_tally 19 = .ok (.getfield 9, 3) := by decide +kernel
theorem dX3_tally_22 : decode cX3_tally 22 = .ok (.arraylength, 1) := by decide +kernel
theorem dX3_tally_23 : decode cX3_tally 23 = .ok (.if_icmp .ge 27, 3) := by decide +kernel
theorem dX3_tally_26 : decode cX3_tally 26 = .ok (.iload_n 2, 1) := by decide +kernel
theorem dX3_tally_27 : decode cX3_tally 27 = .ok (.aload_n 0, 1) := by decide +kernel
theorem dX3_tally_28 : decode cX3_tally 28 = .ok (.getfield 9, 3) := by decide +kernel
theorem dX3_tally_31 : decode cX3_tally 31 = .ok (.iload_n 3, 1) := by decide +kernel
theorem dX3_tally_32 : decode cX3_tally 32 = .ok (.iaload, 1) := by decide +kernel
theorem dX3_tally_33 : decode cX3_tally 33 = .ok (.iload_n 1, 1) := by decide +kernel
theorem dX3_tally_34 : decode cX3_tally 34 = .ok (.if_icmp .ne 7, 3) := by decide +kernel
theorem dX3_tally_37 : decode cX3_tally 37 = .ok (.iconst 1, 1) := by decide +kernel
theorem dX3_tally_38 : decode cX3_tally 38 = .ok (.goto 4, 3) := by decide +kernel
theorem dX3_tally_41 : decode cX3_tally 41 = .ok (.iconst 0, 1) := by decide +kernel
theorem dX3_tally_42 : decode cX3_tally 42 = .ok (.iadd, 1) := by decide +kernel
theorem dX3_tally_43 : decode cX3_tally 43 = .ok (.istore_n 2, 1) := by decide +kernel
theorem dX3_tally_44 : decode cX3_tally 44 = .ok (.iinc 3 1, 3) := by decide +kernel
theorem dX3_tally_47 : decode cX3_tally 47 = .ok (.goto (-43), 3) := by decide +kernel
theorem dX3_tally_50 : decode cX3_tally 50 = .ok (.iload_n 2, 1) := by decide +kernel
theorem dX3_tally_51 : decode cX3_tally 51 = .ok (.ireturn, 1) := by decide +kernel
theorem dX3_canGoBack_0 : decode cX3_canGoBack 0 = .ok (.aload_n 0, 1) := by decide +kernel
theorem dX3_canGoBack_1 : decode cX3_canGoBack 1 = .ok (.getfield 13, 3) := by decide +kernel
theorem dX3_canGoBack_4 : decode cX3_canGoBack 4 = .ok (.ifnull 25, 3) := by decide +kernel
theorem dX3_canGoBack_7 : decode cX3_canGoBack 7 = .ok (.aload_n 0, 1) := by decide +kernel
theorem dX3_canGoBack_8 : decode cX3_canGoBack 8 = .ok (.getfield 13, 3) := by decide +kernel
theorem dX3_canGoBack_11 : decode cX3_canGoBack 11 = .ok (.invokevirtual 50, 3) := by decide +kernel
theorem dX3_canGoBack_14 : decode cX3_canGoBack 14 = .ok (.ifCond .eq 15, 3) := by decide +kernel
theorem dX3_canGoBack_17 : decode cX3_canGoBack 17 = .ok (.aload_n 0, 1) := by decide +kernel
theorem dX3_canGoBack_18 : decode cX3_canGoBack 18 = .ok (.getfield 31, 3) := by decide +kernel
theorem dX3_canGoBack_21 : decode cX3_canGoBack 21 = .ok (.iload_n 1, 1) := by decide +kernel
theorem dX3_canGoBack_22 : decode cX3_canGoBack 22 = .ok (.if_icmp .lt 7, 3) := by decide +kernel
theorem dX3_canGoBack_25 : decode cX3_canGoBack 25 = .ok (.iconst 1, 1) := by decide +kernel
theorem dX3_canGoBack_26 : decode cX3_canGoBack 26 = .ok (.goto 4, 3) := by decide +kernel
theorem dX3_canGoBack_29 : decode cX3_canGoBack 29 = .ok (.iconst 0, 1) := by decide +kernel
theorem dX3_canGoBack_30 : decode cX3_canGoBack 30 = .ok (.ireturn, 1) := by decide +kernel
theorem dX3_forward_0 : decode cX3_forward 0 = .ok (.iconst 0, 1) := by decide +kernel
theorem dX3_forward_1 : decode cX3_forward 1 = .ok (.istore_n 2, 1) := by decide +kernel
theorem dX3_forward_2 : decode cX3_forward 2 = .ok (.iload_n 2, 1) := by decide +kernel
theorem dX3_forward_3 : decode cX3_forward 3 = .ok (.iload_n 1, 1) := by decide +kernel
theorem dX3_forward_4 : decode cX3_forward 4 = .ok (.if_icmp .ge 43, 3) := by decide +kernel
theorem dX3_forward_7 : decode cX3_forward 7 = .ok (.aload_n 0, 1) := by decide +kernel
theorem dX3_forward_8 : decode cX3_forward 8 = .ok (.getfield 13, 3) := by decide +kernel
theorem dX3_forward_11 : decode cX3_forward 11 = .ok (.ifnull 36, 3) := by decide +kernel
theorem dX3_forward_14 : decode cX3_forward 14 = .ok (.aload_n 0, 1) := by decide +kernel
theorem dX3_forward_15 : decode cX3_forward 15 = .ok (.aload_n 0, 1) := by decide +kernel
theorem dX3_forward_16 : decode cX3_forward 16 = .ok (.getfield 13, 3) := by decide +kernel
theorem dX3_forward_19 : decode cX3_forward 19 = .ok (.getfield 54, 3) := by decide +kernel
theorem dX3_forward_22 : decode cX3_forward 22 = .ok (.aload_n 0, 1) := by decide +kernel
theorem dX3_forward_23 : decode cX3_forward 23 = .ok (.getfield 31, 3) := by decide +kernel
theorem dX3_forward_26 : decode cX3_forward 26 = .ok (.iconst 1, 1) := by decide +kernel
theorem dX3_forward_27 : decode cX3_forward 27 = .ok (.iand, 1) := by decide +kernel
theorem dX3_forward_28 : decode cX3_forward 28 = .ok (.invokevirtual 57, 3) := by decide +kernel
theorem dX3_forward_31 : decode cX3_forward 31 = .ok (.aload_n 0, 1) := by decide +kernel
theorem dX3_forward_32 : decode cX3_forward 32 = .ok (.dup, 1) := by decide +kernel
theorem dX3_forward_33 : decode cX3_forward 33 = .ok (.getfield 31, 3) := by decide +kernel
theorem dX3_forward_36 : decode cX3_forward 36 = .ok (.iconst 1, 1) := by decide +kernel
theorem dX3_forward_37 : decode cX3_forward 37 = .ok (.iadd, 1) := by decide +kernel
theorem dX3_forward_38 : decode cX3_forward 38 = .ok (.putfield 31, 3) := by decide +kernel
theorem dX3_forward_41 : decode cX3_forward 41 = .ok (.iinc 2 1, 3) := by decide +kernel
theorem dX3_forward_44 : decode cX3_forward 44 = .ok (.goto (-42), 3) := by decide +kernel
theorem dX3_forward_47 : decode cX3_forward 47 = .ok (.aload_n 0, 1) := by decide +kernel
theorem dX3_forward_48 : decode cX3_forward 48 = .ok (.getfield 31, 3) := by decide +kernel
theorem dX3_forward_51 : decode cX3_forward 51 = .ok (.ireturn, 1) := by decide +kernel
theorem dX3_back_0 : decode cX3_back 0 = .ok (.iconst 0, 1) := by decide +kernel
theorem dX3_back_1 : decode cX3_back 1 = .ok (.istore_n 2, 1) := by decide +kernel
theorem dX3_back_2 : decode cX3_back 2 = .ok (.iload_n 2, 1) := by decide +kernel
theorem dX3_back_3 : decode cX3_back 3 = .ok (.iload_n 1, 1) := by decide +kernel
theorem dX3_back_4 : decode cX3_back 4 = .ok (.if_icmp .ge 43, 3) := by decide +kernel
theorem dX3_back_7 : decode cX3_back 7 = .ok (.aload_n 0, 1) := by decide +kernel
theorem dX3_back_8 : decode cX3_back 8 = .ok (.getfield 13, 3) := by decide +kernel
theorem dX3_back_11 : decode cX3_back 11 = .ok (.ifnull 36, 3) := by decide +kernel
theorem dX3_back_14 : decode cX3_back 14 = .ok (.aload_n 0, 1) := by decide +kernel
theorem dX3_back_15 : decode cX3_back 15 = .ok (.dup, 1) := by decide +kernel
theorem dX3_back_16 : decode cX3_back 16 = .ok (.getfield 31, 3) := by decide +kernel
theorem dX3_back_19 : decode cX3_back 19 = .ok (.iconst 1, 1) := by decide +kernel
theorem dX3_back_20 : decode cX3_back 20 = .ok (.isub, 1) := by decide +kernel
theorem dX3_back_21 : decode cX3_back 21 = .ok (.putfield 31, 3) := by decide +kernel
theorem dX3_back_24 : decode cX3_back 24 = .ok (.aload_n 0, 1) := by decide +kernel
theorem dX3_back_25 : decode cX3_back 25 = .ok (.aload_n 0, 1) := by decide +kernel
theorem dX3_back_26 : decode cX3_back 26 = .ok (.getfield 13, 3) := by decide +kernel
theorem dX3_back_29 : decode cX3_back 29 = .ok (.getfield 60, 3) := by decide +kernel
theorem dX3_back_32 : decode cX3_back 32 = .ok (.aload_n 0, 1) := by decide +kernel
theorem dX3_back_33 : decode cX3_back 33 = .ok (.getfield 31, 3) := by decide +kernel
theorem dX3_back_36 : decode cX3_back 36 = .ok (.iconst 1, 1) := by decide +kernel
theorem dX3_back_37 : decode cX3_back 37 = .ok (.iand, 1) := by decide +kernel
theorem dX3_back_38 : decode cX3_back 38 = .ok (.invokevirtual 57, 3) := by decide +kernel
theorem dX3_back_41 : decode cX3_back 41 = .ok (.iinc 2 1, 3) := by decide +kernel
theorem dX3_back_44 : decode cX3_back 44 = .ok (.goto (-42), 3) := by decide +kernel
theorem dX3_back_47 : decode cX3_back 47 = .ok (.aload_n 0, 1) := by decide +kernel
theorem dX3_back_48 : decode cX3_back 48 = .ok (.getfield 31, 3) := by decide +kernel
theorem dX3_back_51 : decode cX3_back 51 = .ok (.ireturn, 1) := by decide +kernel
theorem dX3_turnBlocks_0 : decode cX3_turnBlocks 0 = .ok (.iload_n 2, 1) := by decide +kernel
theorem dX3_turnBlocks_1 : decode cX3_turnBlocks 1 = .ok (.istore_n 3, 1) := by decide +kernel
theorem dX3_turnBlocks_2 : decode cX3_turnBlocks 2 = .ok (.iload_n 3, 1) := by decide +kernel
theorem dX3_turnBlocks_3 : decode cX3_turnBlocks 3 = .ok (.aload_n 0, 1) := by decide +kernel
theorem dX3_turnBlocks_4 : decode cX3_turnBlocks 4 = .ok (.getfield 25, 3) := by decide +kernel
theorem dX3_turnBlocks_7 : decode cX3_turnBlocks 7 = .ok (.if_icmp .ge 104, 3) := by decide +kernel
theorem dX3_turnBlocks_10 : decode cX3_turnBlocks 10 = .ok (.iload_n 3, 1) := by decide +kernel
theorem dX3_turnBlocks_11 : decode cX3_turnBlocks 11 = .ok (.aload_n 0, 1) := by decide +kernel
theorem dX3_turnBlocks_12 : decode cX3_turnBlocks 12 = .ok (.getfield 28, 3) := by decide +kernel
theorem dX3_turnBlocks_15 : decode cX3_turnBlocks 15 = .ok (.imul, 1) := by decide +kernel
theorem dX3_turnBlocks_16 : decode cX3_turnBlocks 16 = .ok (.istore 4, 2) := by decide +kernel
theorem dX3_turnBlocks_18 : decode cX3_turnBlocks 18 = .ok (.iload_n 3, 1) := by decide +kernel
theorem dX3_turnBlocks_19 : decode cX3_turnBlocks 19 = .ok (.iconst 1, 1) := by decide +kernel
theorem dX3_turnBlocks_20 : decode cX3_turnBlocks 20 = .ok (.iadd, 1) := by decide +kernel
theorem dX3_turnBlocks_21 : decode cX3_turnBlocks 21 = .ok (.aload_n 0, 1) := by decide +kernel
theorem dX3_turnBlocks_22 : decode cX3_turnBlocks 22 = .ok (.getfield 25, 3) := by decide +kernel
theorem dX3_turnBlocks_25 : decode cX3_turnBlocks 25 = .ok (.if_icmp .ge 13, 3) := by decide +kernel
theorem dX3_turnBlocks_28 : decode cX3_turnBlocks 28 = .ok (.iload 4, 2) := by decide +kernel
theorem dX3_turnBlocks_30 : decode cX3_turnBlocks 30 = .ok (.aload_n 0, 1) := by decide +kernel
theorem dX3_turnBlocks_31 : decode cX3_turnBlocks 31 = .ok (.getfield 28, 3) := by decide +kernel
theorem dX3_turnBlocks_34 : decode cX3_turnBlocks 34 = .ok (.iadd, 1) := by decide +kernel
theorem dX3_turnBlocks_35 : decode cX3_turnBlocks 35 = .ok (.goto 4, 3) := by decide +kernel
theorem dX3_turnBlocks_38 : decode cX3_turnBlocks 38 = .ok (.iconst 0, 1) := by decide +kernel
theorem dX3_turnBlocks_39 : decode cX3_turnBlocks 39 = .ok (.istore 5, 2) := by decide +kernel
theorem dX3_turnBlocks_41 : decode cX3_turnBlocks 41 = .ok (.iload_n 2, 1) := by decide +kernel
theorem dX3_turnBlocks_42 : decode cX3_turnBlocks 42 = .ok (.istore 6, 2) := by decide +kernel
theorem dX3_turnBlocks_44 : decode cX3_turnBlocks 44 = .ok (.iload 6, 2) := by decide +kernel
theorem dX3_turnBlocks_46 : decode cX3_turnBlocks 46 = .ok (.aload_n 0, 1) := by decide +kernel
theorem dX3_turnBlocks_47 : decode cX3_turnBlocks 47 = .ok (.getfield 28, 3) := by decide +kernel
theorem dX3_turnBlocks_50 : decode cX3_turnBlocks 50 = .ok (.if_icmp .ge 55, 3) := by decide +kernel
theorem dX3_turnBlocks_53 : decode cX3_turnBlocks 53 = .ok (.iload 6, 2) := by decide +kernel
theorem dX3_turnBlocks_55 : decode cX3_turnBlocks 55 = .ok (.iconst 1, 1) := by decide +kernel
theorem dX3_turnBlocks_56 : decode cX3_turnBlocks 56 = .ok (.iadd, 1) := by decide +kernel
theorem dX3_turnBlocks_57 : decode cX3_turnBlocks 57 = .ok (.aload_n 0, 1) := by decide +kernel
theorem dX3_turnBlocks_58 : decode cX3_turnBlocks 58 = .ok (.getfield 28, 3) := by decide +kernel
theorem dX3_turnBlocks_61 : decode cX3_turnBlocks 61 = .ok (.if_icmp .ge 10, 3) := by decide +kernel
theorem dX3_turnBlocks_64 : decode cX3_turnBlocks 64 = .ok (.iload 6, 2) := by decide +kernel
theorem dX3_turnBlocks_66 : decode cX3_turnBlocks 66 = .ok (.iconst 1, 1) := by decide +kernel
theorem dX3_turnBlocks_67 : decode cX3_turnBlocks 67 = .ok (.iadd, 1) := by decide +kernel
theorem dX3_turnBlocks_68 : decode cX3_turnBlocks 68 = .ok (.goto 4, 3) := by decide +kernel
theorem dX3_turnBlocks_71 : decode cX3_turnBlocks 71 = .ok (.iconst 0, 1) := by decide +kernel
theorem dX3_turnBlocks_72 : decode cX3_turnBlocks 72 = .ok (.istore 7, 2) := by decide +kernel
theorem dX3_turnBlocks_74 : decode cX3_turnBlocks 74 = .ok (.aload_n 0, 1) := by decide +kernel
theorem dX3_turnBlocks_75 : decode cX3_turnBlocks 75 = .ok (.aload_n 1, 1) := by decide +kernel
theorem dX3_turnBlocks_76 : decode cX3_turnBlocks 76 = .ok (.iload 4, 2) := by decide +kernel
theorem dX3_turnBlocks_78 : decode cX3_turnBlocks 78 = .ok (.iload 6, 2) := by decide +kernel
theorem dX3_turnBlocks_80 : decode cX3_turnBlocks 80 = .ok (.iadd, 1) := by decide +kernel
theorem dX3_turnBlocks_81 : decode cX3_turnBlocks 81 = .ok (.iload 4, 2) := by decide +kernel
theorem dX3_turnBlocks_83 : decode cX3_turnBlocks 83 = .ok (.iload 7, 2) := by decide +kernel
theorem dX3_turnBlocks_85 : decode cX3_turnBlocks 85 = .ok (.iadd, 1) := by decide +kernel
theorem dX3_turnBlocks_86 : decode cX3_turnBlocks 86 = .ok (.iload 5, 2) := by decide +kernel
theorem dX3_turnBlocks_88 : decode cX3_turnBlocks 88 = .ok (.iload 6, 2) := by decide +kernel
theorem dX3_turnBlocks_90 : decode cX3_turnBlocks 90 = .ok (.iadd, 1) := by decide +kernel
theorem dX3_turnBlocks_91 : decode cX3_turnBlocks 91 = .ok (.iload 5, 2) := by decide +kernel
theorem dX3_turnBlocks_93 : decode cX3_turnBlocks 93 = .ok (.iload 7, 2) := by decide +kernel
theorem dX3_turnBlocks_95 : decode cX3_turnBlocks 95 = .ok (.iadd, 1) := by decide +kernel
theorem dX3_turnBlocks_96 : decode cX3_turnBlocks 96 = .ok (.invokevirtual 63, 3) := by decide +kernel
theorem dX3_turnBlocks_99 : decode cX3_turnBlocks 99 = .ok (.iinc 6 2, 3) := by decide +kernel
theorem dX3_turnBlocks_102 : decode cX3_turnBlocks 102 = .ok (.goto (-58), 3) := by decide +kernel
theorem dX3_turnBlocks_105 : decode cX3_turnBlocks 105 = .ok (.iinc 3 2, 3) := by decide +kernel
theorem dX3_turnBlocks_108 : decode cX3_turnBlocks 108 = .ok (.goto (-106), 3) := by decide +kernel
theorem dX3_turnBlocks_111 : decode cX3_turnBlocks 111 = .ok (.return_, 1) := by decide +kernel
theorem dX3_turnBlock_0 : decode cX3_turnBlock 0 = .ok (.aload_n 0, 1) := by decide +kernel
theorem dX3_turnBlock_1 : decode cX3_turnBlock 1 = .ok (.getfield 9, 3) := by decide +kernel
theorem dX3_turnBlock_4 : decode cX3_turnBlock 4 = .ok (.iload_n 2, 1) := by decide +kernel
theorem dX3_turnBlock_5 : decode cX3_turnBlock 5 = .ok (.iaload, 1) := by decide +kernel
theorem dX3_turnBlock_6 : decode cX3_turnBlock 6 = .ok (.aload_n 0, 1) := by decide +kernel
theorem dX3_turnBlock_7 : decode cX3_turnBlock 7 = .ok (.getfield 22, 3) := by decide +kernel
theorem dX3_turnBlock_10 : decode cX3_turnBlock 10 = .ok (.imul, 1) := by decide +kernel
theorem dX3_turnBlock_11 : decode cX3_turnBlock 11 = .ok (.aload_n 0, 1) := by decide +kernel
theorem dX3_turnBlock_12 : decode cX3_turnBlock 12 = .ok (.getfield 9, 3) := by decide +kernel
theorem dX3_turnBlock_15 : decode cX3_turnBlock 15 = .ok (.iload_n 3, 1) := by decide +kernel
theorem dX3_turnBlock_16 : decode cX3_turnBlock 16 = .ok (.iaload, 1) := by decide +kernel
theorem dX3_turnBlock_17 : decode cX3_turnBlock 17 = .ok (.iadd, 1) := by decide +kernel
theorem dX3_turnBlock_18 : decode cX3_turnBlock 18 = .ok (.aload_n 0, 1) := by decide +kernel
theorem dX3_turnBlock_19 : decode cX3_turnBlock 19 = .ok (.getfield 22, 3) := by decide +kernel
theorem dX3_turnBlock_22 : decode cX3_turnBlock 22 = .ok (.imul, 1) := by decide +kernel
theorem dX3_turnBlock_23 : decode cX3_turnBlock 23 = .ok (.aload_n 0, 1) := by decide +kernel
theorem dX3_turnBlock_24 : decode cX3_turnBlock 24 = .ok (.getfield 9, 3) := by decide +kernel
theorem dX3_turnBlock_27 : decode cX3_turnBlock 27 = .ok (.iload 4, 2) := by decide +kernel
theorem dX3_turnBlock_29 : decode cX3_turnBlock 29 = .ok (.iaload, 1) := by decide +kernel
theorem dX3_turnBlock_30 : decode cX3_turnBlock 30 = .ok (.iadd, 1) := by decide +kernel
theorem dX3_turnBlock_31 : decode cX3_turnBlock 31 = .ok (.aload_n 0, 1) := by decide +kernel
theorem dX3_turnBlock_32 : decode cX3_turnBlock 32 = .ok (.getfield 22, 3) := by decide +kernel
theorem dX3_turnBlock_35 : decode cX3_turnBlock 35 = .ok (.imul, 1) := by decide +kernel
theorem dX3_turnBlock_36 : decode cX3_turnBlock 36 = .ok (.aload_n 0, 1) := by decide +kernel
theorem dX3_turnBlock_37 : decode cX3_turnBlock 37 = .ok (.getfield 9, 3) := by decide +kernel
theorem dX3_turnBlock_40 : decode cX3_turnBlock 40 = .ok (.iload 5, 2) := by decide +kernel
theorem dX3_turnBlock_42 : decode cX3_turnBlock 42 = .ok (.iaload, 1) := by decide +kernel
theorem dX3_turnBlock_43 : decode cX3_turnBlock 43 = .ok (.iadd, 1) := by decide +kernel
theorem dX3_turnBlock_44 : decode cX3_turnBlock 44 = .ok (.istore 6, 2) := by decide +kernel
theorem dX3_turnBlock_46 : decode cX3_turnBlock 46 = .ok (.aload_n 0, 1) := by decide +kernel
theorem dX3_turnBlock_47 : decode cX3_turnBlock 47 = .ok (.getfield 22, 3) := by decide +kernel
theorem dX3_turnBlock_50 : decode cX3_turnBlock 50 = .ok (.iconst 2, 1) := by decide +kernel
theorem dX3_turnBlock_51 : decode cX3_turnBlock 51 = .ok (.if_icmp .lt 22, 3) := by decide +kernel
theorem dX3_turnBlock_54 : decode cX3_turnBlock 54 = .ok (.iload 6, 2) := by decide +kernel
theorem dX3_turnBlock_56 : decode cX3_turnBlock 56 = .ok (.ifCond .lt 17, 3) := by decide +kernel
theorem dX3_turnBlock_59 : decode cX3_turnBlock 59 = .ok (.iload 6, 2) := by decide +kernel
theorem dX3_turnBlock_61 : decode cX3_turnBlock 61 = .ok (.aload_n 1, 1) := by decide +kernel
theorem dX3_turnBlock_62 : decode cX3_turnBlock 62 = .ok (.arraylength, 1) := by decide +kernel
theorem dX3_turnBlock_63 : decode cX3_turnBlock 63 = .ok (.if_icmp .ge 10, 3) := by decide +kernel
theorem dX3_turnBlock_66 : decode cX3_turnBlock 66 = .ok (.aload_n 1, 1) := by decide +kernel
theorem dX3_turnBlock_67 : decode cX3_turnBlock 67 = .ok (.iload 6, 2) := by decide +kernel
theorem dX3_turnBlock_69 : decode cX3_turnBlock 69 = .ok (.iaload, 1) := by decide +kernel
theorem dX3_turnBlock_70 : decode cX3_turnBlock 70 = .ok (.ifCond .ge 4, 3) := by decide +kernel
theorem dX3_turnBlock_73 : decode cX3_turnBlock 73 = .ok (.return_, 1) := by decide +kernel
theorem dX3_turnBlock_74 : decode cX3_turnBlock 74 = .ok (.aload_n 1, 1) := by decide +kernel
theorem dX3_turnBlock_75 : decode cX3_turnBlock 75 = .ok (.iload 6, 2) := by decide +kernel
theorem dX3_turnBlock_77 : decode cX3_turnBlock 77 = .ok (.iaload, 1) := by decide +kernel
theorem dX3_turnBlock_78 : decode cX3_turnBlock 78 = .ok (.istore 7, 2) := by decide +kernel
theorem dX3_turnBlock_80 : decode cX3_turnBlock 80 = .ok (.aload_n 0, 1) := by decide +kernel
theorem dX3_turnBlock_81 : decode cX3_turnBlock 81 = .ok (.getfield 9, 3) := by decide +kernel
theorem dX3_turnBlock_84 : decode cX3_turnBlock 84 = .ok (.iload 5, 2) := by decide +kernel
theorem dX3_turnBlock_86 : decode cX3_turnBlock 86 = .ok (.iload 7, 2) := by decide +kernel
theorem dX3_turnBlock_88 : decode cX3_turnBlock 88 = .ok (.aload_n 0, 1) := by decide +kernel
theorem dX3_turnBlock_89 : decode cX3_turnBlock 89 = .ok (.getfield 22, 3) := by decide +kernel
theorem dX3_turnBlock_92 : decode cX3_turnBlock 92 = .ok (.irem, 1) := by decide +kernel
theorem dX3_turnBlock_93 : decode cX3_turnBlock 93 = .ok (.iastore, 1) := by decide +kernel
theorem dX3_turnBlock_94 : decode cX3_turnBlock 94 = .ok (.iload 7, 2) := by decide +kernel
theorem dX3_turnBlock_96 : decode cX3_turnBlock 96 = .ok (.aload_n 0, 1) := by decide +kernel
theorem dX3_turnBlock_97 : decode cX3_turnBlock 97 = .ok (.getfield 22, 3) := by decide +kernel
theorem dX3_turnBlock_100 : decode cX3_turnBlock 100 = .ok (.idiv, 1) := by decide +kernel
theorem dX3_turnBlock_101 : decode cX3_turnBlock 101 = .ok (.istore 7, 2) := by decide +kernel
theorem dX3_turnBlock_103 : decode cX3_turnBlock 103 = .ok (.aload_n 0, 1) := by decide +kernel
theorem dX3_turnBlock_104 : decode cX3_turnBlock 104 = .ok (.getfield 9, 3) := by decide +kernel
theorem dX3_turnBlock_107 : decode cX3_turnBlock 107 = .ok (.iload 4, 2) := by decide +kernel
theorem dX3_turnBlock_109 : decode cX3_turnBlock 109 = .ok (.iload 7, 2) := by decide +kernel
theorem dX3_turnBlock_111 : decode cX3_turnBlock 111 = .ok (.aload_n 0, 1) := by decide +kernel
theorem dX3_turnBlock_112 : decode cX3_turnBlock 112 = .ok (.getfield 22, 3) := by decide +kernel
theorem dX3_turnBlock_115 : decode cX3_turnBlock 115 = .ok (.irem, 1) := by decide +kernel
theorem dX3_turnBlock_116 : decode cX3_turnBlock 116 = .ok (.iastore, 1) := by decide +kernel
theorem dX3_turnBlock_117 : decode cX3_turnBlock 117 = .ok (.iload 7, 2) := by decide +kernel
theorem dX3_turnBlock_119 : decode cX3_turnBlock 119 = .ok (.aload_n 0, 1) := by decide +kernel
theorem dX3_turnBlock_120 : decode cX3_turnBlock 120 = .ok (.getfield 22, 3) := by decide +kernel
theorem dX3_turnBlock_123 : decode cX3_turnBlock 123 = .ok (.idiv, 1) := by decide +kernel
theorem dX3_turnBlock_124 : decode cX3_turnBlock 124 = .ok (.istore 7, 2) := by decide +kernel
theorem dX3_turnBlock_126 : decode cX3_turnBlock 126 = .ok (.aload_n 0, 1) := by decide +kernel
theorem dX3_turnBlock_127 : decode cX3_turnBlock 127 = .ok (.getfield 9, 3) := by decide +kernel
theorem dX3_turnBlock_130 : decode cX3_turnBlock 130 = .ok (.iload_n 3, 1) := by decide +kernel
theorem dX3_turnBlock_131 : decode cX3_turnBlock 131 = .ok (.iload 7, 2) := by decide +kernel
theorem dX3_turnBlock_133 : decode cX3_turnBlock 133 = .ok (.aload_n 0, 1) := by decide +kernel
theorem dX3_turnBlock_134 : decode cX3_turnBlock 134 = .ok (.getfield 22, 3) := by decide +kernel
theorem dX3_turnBlock_137 : decode cX3_turnBlock 137 = .ok (.irem, 1) := by decide +kernel
theorem dX3_turnBlock_138 : decode cX3_turnBlock 138 = .ok (.iastore, 1) := by decide +kernel
theorem dX3_turnBlock_139 : decode cX3_turnBlock 139 = .ok (.aload_n 0, 1) := by decide +kernel
theorem dX3_turnBlock_140 : decode cX3_turnBlock 140 = .ok (.getfield 9, 3) := by decide +kernel
theorem dX3_turnBlock_143 : decode cX3_turnBlock 143 = .ok (.iload_n 2, 1) := by decide +kernel
theorem dX3_turnBlock_144 : decode cX3_turnBlock 144 = .ok (.iload 7, 2) := by decide +kernel
theorem dX3_turnBlock_146 : decode cX3_turnBlock 146 = .ok (.aload_n 0, 1) := by decide +kernel
theorem dX3_turnBlock_147 : decode cX3_turnBlock 147 = .ok (.getfield 22, 3) := by decide +kernel
theorem dX3_turnBlock_150 : decode cX3_turnBlock 150 = .ok (.idiv, 1) := by decide +kernel
theorem dX3_turnBlock_151 : decode cX3_turnBlock 151 = .ok (.iastore, 1) := by decide +kernel
theorem dX3_turnBlock_152 : decode cX3_turnBlock 152 = .ok (.return_, 1) := by decide +kernel
theorem dX4_init_0 : decode cX4_init 0 = .ok (.aload_n 0, 1) := by decide +kernel
theorem dX4_init_1 : decode cX4_init 1 = .ok (.invokespecial 1, 3) := by decide +kernel
theorem dX4_init_4 : decode cX4_init 4 = .ok (.aload_n 0, 1) := by decide +kernel
theorem dX4_init_5 : decode cX4_init 5 = .ok (.aload_n 1, 1) := by decide +kernel
theorem dX4_init_6 : decode cX4_init 6 = .ok (.invokevirtual 7, 3) := by decide +kernel
theorem dX4_init_9 : decode cX4_init 9 = .ok (.putfield 13, 3) := by decide +kernel
theorem dX4_init_12 : decode cX4_init 12 = .ok (.aload_n 0, 1) := by decide +kernel
theorem dX4_init_13 : decode cX4_init 13 = .ok (.aload_n 2, 1) := by decide +kernel
theorem dX4_init_14 : decode cX4_init 14 = .ok (.getfield 19, 3) := by decide +kernel
theorem dX4_init_17 : decode cX4_init 17 = .ok (.putfield 25, 3) := by decide +kernel
theorem dX4_init_20 : decode cX4_init 20 = .ok (.aload_n 0, 1) := by decide +kernel
theorem dX4_init_21 : decode cX4_init 21 = .ok (.aload_n 2, 1) := by decide +kernel
theorem dX4_init_22 : decode cX4_init 22 = .ok (.getfield 26, 3) := by decide +kernel
theorem dX4_init_25 : decode cX4_init 25 = .ok (.putfield 29, 3) := by decide +kernel
theorem dX4_init_28 : decode cX4_init 28 = .ok (.aload_n 0, 1) := by decide +kernel
theorem dX4_init_29 : decode cX4_init 29 = .ok (.aload_n 2, 1) := by decide +kernel
theorem dX4_init_30 : decode cX4_init 30 = .ok (.getfield 30, 3) := by decide +kernel
theorem dX4_init_33 : decode cX4_init 33 = .ok (.putfield 33, 3) := by decide +kernel
theorem dX4_init_36 : decode cX4_init 36 = .ok (.aload_n 0, 1) := by decide +kernel
theorem dX4_init_37 : decode cX4_init 37 = .ok (.aload_n 2, 1) := by decide +kernel
theorem dX4_init_38 : decode cX4_init 38 = .ok (.getfield 34, 3) := by decide +kernel
theorem dX4_init_41 : decode cX4_init 41 = .ok (.putfield 37, 3) := by decide +kernel
theorem dX4_init_44 : decode cX4_init 44 = .ok (.aload_n 0, 1) := by decide +kernel
theorem dX4_init_45 : decode cX4_init 45 = .ok (.getfield 37, 3) := by decide +kernel
theorem dX4_init_48 : decode cX4_init 48 = .ok (.aload_n 0, 1) := by decide +kernel
theorem dX4_init_49 : decode cX4_init 49 = .ok (.getfield 37, 3) := by decide +kernel
theorem dX4_init_52 : decode cX4_init 52 = .ok (.imul, 1) := by decide +kernel
theorem dX4_init_53 : decode cX4_init 53 = .ok (.aload_n 0, 1) := by decide +kernel
theorem dX4_init_54 : decode cX4_init 54 = .ok (.getfield 37, 3) := by decide +kernel
theorem dX4_init_57 : decode cX4_init 57 = .ok (.imul, 1) := by decide +kernel
theorem dX4_init_58 : decode cX4_init 58 = .ok (.aload_n 0, 1) := by decide +kernel
theorem dX4_init_59 : decode cX4_init 59 = .ok (.getfield 37, 3) := by decide +kernel
theorem dX4_init_62 : decode cX4_init 62 = .ok (.imul, 1) := by decide +kernel
theorem dX4_init_63 : decode cX4_init 63 = .ok (.istore_n 3, 1) := by decide +kernel
theorem dX4_init_64 : decode cX4_init 64 = .ok (.aload_n 0, 1) := by decide +kernel
theorem dX4_init_65 : decode cX4_init 65 = .ok (.iload_n 3, 1) := by decide +kernel
theorem dX4_init_66 : decode cX4_init 66 = .ok (.newarray .int, 2) := by decide +kernel
theorem dX4_init_68 : decode cX4_init 68 = .ok (.putfield 38, 3) := by decide +kernel
theorem dX4_init_71 : decode cX4_init 71 = .ok (.aload_n 0, 1) := by decide +kernel
theorem dX4_init_72 : decode cX4_init 72 = .ok (.iload_n 3, 1) := by decide +kernel
theorem dX4_init_73 : decode cX4_init 73 = .ok (.newarray .int, 2) := by decide +kernel
theorem dX4_init_75 : decode cX4_init 75 = .ok (.putfield 42, 3) := by decide +kernel
theorem dX4_init_78 : decode cX4_init 78 = .ok (.iconst 0, 1) := by decide +kernel
theorem dX4_init_79 : decode cX4_init 79 = .ok (.istore 4, 2) := by decide +kernel
theorem dX4_init_81 : decode cX4_init 81 = .ok (.iload 4, 2) := by decide +kernel
theorem dX4_init_83 : decode cX4_init 83 = .ok (.iload_n 3, 1) := by decide +kernel
theorem dX4_init_84 : decode cX4_init 84 = .ok (.if_icmp .ge 38, 3) := by decide +kernel
theorem dX4_init_87 : decode cX4_init 87 = .ok (.aload_n 0, 1) := by decide +kernel
theorem dX4_init_88 : decode cX4_init 88 = .ok (.getfield 38, 3) := by decide +kernel
theorem dX4_init_91 : decode cX4_init 91 = .ok (.iload 4, 2) := by decide +kernel
theorem dX4_init_93 : decode cX4_init 93 = .ok (.aload_n 1, 1) := by decide +kernel
theorem dX4_init_94 : decode cX4_init 94 = .ok (.iconst 2, 1) := by decide +kernel
theorem dX4_init_95 : decode cX4_init 95 = .ok (.iconst 4, 1) := by decide +kernel
theorem dX4_init_96 : decode cX4_init 96 = .ok (.iload 4, 2) := by decide +kernel
theorem dX4_init_98 : decode cX4_init 98 = .ok (.imul, 1) := by decide +kernel
theorem dX4_init_99 : decode cX4_init 99 = .ok (.iadd, 1) := by decide +kernel
theorem dX4_init_100 : decode cX4_init 100 = .ok (.aload_n 0, 1) := by decide +kernel
theorem dX4_init_101 : decode cX4_init 101 = .ok (.getfield 37, 3) := by decide +kernel
theorem dX4_init_104 : decode cX4_init 104 = .ok (.invokestatic 45, 3) := by decide +kernel
theorem dX4_init_107 : decode cX4_init 107 = .ok (.iastore, 1) := by decide +kernel
theorem dX4_init_108 : decode cX4_init 108 = .ok (.aload_n 0, 1) := by decide +kernel
theorem dX4_init_109 : decode cX4_init 109 = .ok (.getfield 42, 3) := by decide +kernel
theorem dX4_init_112 : decode cX4_init 112 = .ok (.iload 4, 2) := by decide +kernel
theorem dX4_init_114 : decode cX4_init 114 = .ok (.iconst (-1), 1) := by decide +kernel
theorem dX4_init_115 : decode cX4_init 115 = .ok (.iastore, 1) := by decide +kernel
theorem dX4_init_116 : decode cX4_init 116 = .ok (.iinc 4 1, 3) := by decide +kernel
theorem dX4_init_119 : decode cX4_init 119 = .ok (.goto (-38), 3) := by decide +kernel
theorem dX4_init_122 : decode cX4_init 122 = .ok (.iconst (-1), 1) := by decide +kernel
theorem dX4_init_123 : decode cX4_init 123 = .ok (.istore 4, 2) := by decide +kernel
theorem dX4_init_125 : decode cX4_init 125 = .ok (.iconst (-1), 1) := by decide +kernel
theorem dX4_init_126 : decode cX4_init 126 = .ok (.istore 5, 2) := by decide +kernel
theorem dX4_init_128 : decode cX4_init 128 = .ok (.iload_n 3, 1) := by decide +kernel
theorem dX4_init_129 : decode cX4_init 129 = .ok (.iconst 1, 1) := by decide +kernel
theorem dX4_init_130 : decode cX4_init 130 = .ok (.isub, 1) := by decide +kernel
theorem dX4_init_131 : decode cX4_init 131 = .ok (.istore 6, 2) := by decide +kernel
theorem dX4_init_133 : decode cX4_init 133 = .ok (.iload 6, 2) := by decide +kernel
theorem dX4_init_135 : decode cX4_init 135 = .ok (.ifCond .lt 64, 3) := by decide +kernel
theorem dX4_init_138 : decode cX4_init 138 = .ok (.aload_n 0, 1) := by decide +kernel
theorem dX4_init_139 : decode cX4_init 139 = .ok (.getfield 38, 3) := by decide +kernel
theorem dX4_init_142 : decode cX4_init 142 = .ok (.iload 6, 2) := by decide +kernel
theorem dX4_init_144 : decode cX4_init 144 = .ok (.iaload, 1) := by decide +kernel
theorem dX4_init_145 : decode cX4_init 145 = .ok (.istore 7, 2) := by decide +kernel
theorem dX4_init_147 : decode cX4_init 147 = .ok (.iload 7, 2) := by decide +kernel
theorem dX4_init_149 : decode cX4_init 149 = .ok (.ifCond .lt 44, 3) := by decide +kernel
theorem dX4_init_152 : decode cX4_init 152 = .ok (.iload 7, 2) := by decide +kernel
theorem dX4_init_154 : decode cX4_init 154 = .ok (.iload_n 3, 1) := by decide +kernel
theorem dX4_init_155 : decode cX4_init 155 = .ok (.if_icmp .lt 6, 3) := by decide +kernel
theorem dX4_init_158 : decode cX4_init 158 = .ok (.goto 35, 3) := by decide +kernel
theorem dX4_init_161 : decode cX4_init 161 = .ok (.aload_n 0, 1) := by decide +kernel
theorem dX4_init_162 : decode cX4_init 162 = .ok (.getfield 42, 3) := by decide +kernel
theorem dX4_init_165 : decode cX4_init 165 = .ok (.iload 7, 2) := by decide +kernel
theorem dX4_init_167 : decode cX4_init 167 = .ok (.iaload, 1) := by decide +kernel
theorem dX4_init_168 : decode cX4_init 168 = .ok (.ifCond .lt 16, 3) := by decide +kernel
theorem dX4_init_171 : decode cX4_init 171 = .ok (.iload 6, 2) := by decide +kernel
theorem dX4_init_173 : decode cX4_init 173 = .ok (.istore 4, 2) := by decide +kernel
theorem dX4_init_175 : decode cX4_init 175 = .ok (.aload_n 0, 1) := by decide +kernel
theorem dX4_init_176 : decode cX4_init 176 = .ok (.getfield 42, 3) := by decide +kernel
theorem dX4_init_179 : decode cX4_init 179 = .ok (.iload 7, 2) := by decide +kernel
theorem dX4_init_181 : decode cX4_init 181 = .ok (.iaload, 1) := by decide +kernel
theorem dX4_init_182 : decode cX4_init 182 = .ok (.istore 5, 2) := by decide +kernel
theorem dX4_init_184 : decode cX4_init 184 = .ok (.aload_n 0, 1) := by decide +kernel
theorem dX4_init_185 : decode cX4_init 185 = .ok (.getfield 42, 3) := by decide +kernel
theorem dX4_init_188 : decode cX4_init 188 = .ok (.iload 7, 2) := by decide +kernel
theorem dX4_init_190 : decode cX4_init 190 = .ok (.iload 6, 2) := by decide +kernel
theorem dX4_init_192 : decode cX4_init 192 = .ok (.iastore, 1) := by decide +kernel
theorem dX4_init_193 : decode cX4_init 193 = .ok (.iinc 6 (-1), 3) := by decide +kernel
theorem dX4_init_196 : decode cX4_init 196 = .ok (.goto (-63), 3) := by decide +kernel
theorem dX4_init_199 : decode cX4_init 199 = .ok (.aload_n 0, 1) := by decide +kernel
theorem dX4_init_200 : decode cX4_init 200 = .ok (.iload 4, 2) := by decide +kernel
theorem dX4_init_202 : decode cX4_init 202 = .ok (.putfield 49, 3) := by decide +kernel
theorem dX4_init_205 : decode cX4_init 205 = .ok (.aload_n 0, 1) := by decide +kernel
theorem dX4_init_206 : decode cX4_init 206 = .ok (.iload 5, 2) := by decide +kernel
theorem dX4_init_208 : decode cX4_init 208 = .ok (.putfield 52, 3) := by decide +kernel
theorem dX4_init_211 : decode cX4_init 211 = .ok (.aload_n 0, 1) := by decide +kernel
theorem dX4_init_212 : decode cX4_init 212 = .ok (.aload_n 0, 1) := by decide +kernel
theorem dX4_init_213 : decode cX4_init 213 = .ok (.getfield 37, 3) := by decide +kernel
theorem dX4_init_216 : decode cX4_init 216 = .ok (.aload_n 0, 1) := by decide +kernel
theorem dX4_init_217 : decode cX4_init 217 = .ok (.getfield 37, 3) := by decide +kernel
theorem dX4_init_220 : decode cX4_init 220 = .ok (.imul, 1) := by decide +kernel
theorem dX4_init_221 : decode cX4_init 221 = .ok (.newarray .int, 2) := by decide +kernel
theorem dX4_init_223 : decode cX4_init 223 = .ok (.putfield 55, 3) := by decide +kernel
theorem dX4_init_226 : decode cX4_init 226 = .ok (.return_, 1) := by decide +kernel
theorem dX4_weigh_0 : decode cX4_weigh 0 = .ok (.aload_n 0, 1) := by decide +kernel
theorem dX4_weigh_1 : decode cX4_weigh 1 = .ok (.aload_n 1, 1) := by decide +kernel
theorem dX4_weigh_2 : decode cX4_weigh 2 = .ok (.aload_n 0, 1) := by decide +kernel
theorem dX4_weigh_3 : decode cX4_weigh 3 = .ok (.getfield 38, 3) := by decide +kernel
theorem dX4_weigh_6 : decode cX4_weigh 6 = .ok (.aload_n 0, 1) := by decide +kernel
theorem dX4_weigh_7 : decode cX4_weigh 7 = .ok (.getfield 37, 3) := by decide +kernel
theorem dX4_weigh_10 : decode cX4_weigh 10 = .ok (.aload_n 0, 1) := by decide +kernel
theorem dX4_weigh_11 : decode cX4_weigh 11 = .ok (.getfield 55, 3) := by decide +kernel
theorem dX4_weigh_14 : decode cX4_weigh 14 = .ok (.invokevirtual 58, 3) := by decide +kernel
theorem dX4_weigh_17 : decode cX4_weigh 17 = .ok (.putfield 64, 3) := by decide +kernel
theorem dX4_weigh_20 : decode cX4_weigh 20 = .ok (.return_, 1) := by decide +kernel
theorem dX4_numberAt_0 : decode cX4_numberAt 0 = .ok (.iconst 0, 1) := by decide +kernel
theorem dX4_numberAt_1 : decode cX4_numberAt 1 = .ok (.istore_n 3, 1) := by decide +kernel
theorem dX4_numberAt_2 : decode cX4_numberAt 2 = .ok (.iconst 0, 1) := by decide +kernel
theorem dX4_numberAt_3 : decode cX4_numberAt 3 = .ok (.istore 4, 2) := by decide +kernel
theorem dX4_numberAt_5 : decode cX4_numberAt 5 = .ok (.iload 4, 2) := by decide +kernel
theorem dX4_numberAt_7 : decode cX4_numberAt 7 = .ok (.iconst 4, 1) := by decide +kernel
theorem dX4_numberAt_8 : decode cX4_numberAt 8 = .ok (.if_icmp .ge 25, 3) := by decide +kernel
theorem dX4_numberAt_11 : decode cX4_numberAt 11 = .ok (.iload_n 3, 1) := by decide +kernel
theorem dX4_numberAt_12 : decode cX4_numberAt 12 = .ok (.iload_n 2, 1) := by decide +kernel
theorem dX4_numberAt_13 : decode cX4_numberAt 13 = .ok (.imul, 1) := by decide +kernel
theorem dX4_numberAt_14 : decode cX4_numberAt 14 = .ok (.aload_n 0, 1) := by decide +kernel
theorem dX4_numberAt_15 : decode cX4_numberAt 15 = .ok (.iload_n 1, 1) := by decide +kernel
theorem dX4_numberAt_16 : decode cX4_numberAt 16 = .ok (.iload 4, 2) := by decide +kernel
theorem dX4_numberAt_18 : decode cX4_numberAt 18 = .ok (.iadd, 1) := by decide +kernel
theorem dX4_numberAt_19 : decode cX4_numberAt 19 = .ok (.invokevirtual 67, 3) := by decide +kernel
theorem dX4_numberAt_22 : decode cX4_numberAt 22 = .ok (.iadd, 1) := by decide +kernel
theorem dX4_numberAt_23 : decode cX4_numberAt 23 = .ok (.bipush 48, 2) := by decide +kernel
theorem dX4_numberAt_25 : decode cX4_numberAt 25 = .ok (.isub, 1) := by decide +kernel
theorem dX4_numberAt_26 : decode cX4_numberAt 26 = .ok (.istore_n 3, 1) := by decide +kernel
theorem dX4_numberAt_27 : decode cX4_numberAt 27 = .ok (.iinc 4 1, 3) := by decide +kernel
theorem dX4_numberAt_30 : decode cX4_numberAt 30 = .ok (.goto (-25), 3) := by decide +kernel
theorem dX4_numberAt_33 : decode cX4_numberAt 33 = .ok (.iload_n 3, 1) := by decide +kernel
theorem dX4_numberAt_34 : decode cX4_numberAt 34 = .ok (.ireturn, 1) := by decide +kernel
