theorem dX0_behind_0 : decode cX0_behind 0 = .ok (.iload_n 1, 1) := by decide +kernel
theorem dX0_behind_1 : decode cX0_behind 1 = .ok (.ifCond .ne 7, 3) := by decide +kernel
theorem dX0_behind_4 : decode cX0_behind 4 = .ok (.iconst 0, 1) := by decide +kernel
theorem dX0_behind_5 : decode cX0_behind 5 = .ok (.goto 6, 3) := by decide +kernel
theorem dX0_behind_8 : decode cX0_behind 8 = .ok (.iload_n 0, 1) := by decide +kernel
theorem dX0_behind_9 : decode cX0_behind 9 = .ok (.iload_n 1, 1) := by decide +kernel
theorem dX0_behind_10 : decode cX0_behind 10 = .ok (.iadd, 1) := by decide +kernel
theorem dX0_behind_11 : decode cX0_behind 11 = .ok (.ireturn, 1) := by decide +kernel
theorem dX0_judgeBy_0 : decode cX0_judgeBy 0 = .ok (.aload_n 0, 1) := by decide +kernel
theorem dX0_judgeBy_1 : decode cX0_judgeBy 1 = .ok (.iconst 1, 1) := by decide +kernel
theorem dX0_judgeBy_2 : decode cX0_judgeBy 2 = .ok (.putfield 28, 3) := by decide +kernel
theorem dX0_judgeBy_5 : decode cX0_judgeBy 5 = .ok (.aload_n 0, 1) := by decide +kernel
theorem dX0_judgeBy_6 : decode cX0_judgeBy 6 = .ok (.iconst 0, 1) := by decide +kernel
theorem dX0_judgeBy_7 : decode cX0_judgeBy 7 = .ok (.putfield 32, 3) := by decide +kernel
theorem dX0_judgeBy_10 : decode cX0_judgeBy 10 = .ok (.aload_n 0, 1) := by decide +kernel
theorem dX0_judgeBy_11 : decode cX0_judgeBy 11 = .ok (.iconst 0, 1) := by decide +kernel
theorem dX0_judgeBy_12 : decode cX0_judgeBy 12 = .ok (.putfield 35, 3) := by decide +kernel
theorem dX0_judgeBy_15 : decode cX0_judgeBy 15 = .ok (.aload_n 0, 1) := by decide +kernel
theorem dX0_judgeBy_16 : decode cX0_judgeBy 16 = .ok (.getfield 35, 3) := by decide +kernel
theorem dX0_judgeBy_19 : decode cX0_judgeBy 19 = .ok (.aload_n 0, 1) := by decide +kernel
theorem dX0_judgeBy_20 : decode cX0_judgeBy 20 = .ok (.getfield 24, 3) := by decide +kernel
theorem dX0_judgeBy_23 : decode cX0_judgeBy 23 = .ok (.if_icmp .ge 43, 3) := by decide +kernel
theorem dX0_judgeBy_26 : decode cX0_judgeBy 26 = .ok (.aload_n 0, 1) := by decide +kernel
theorem dX0_judgeBy_27 : decode cX0_judgeBy 27 = .ok (.getfield 32, 3) := by decide +kernel
theorem dX0_judgeBy_30 : decode cX0_judgeBy 30 = .ok (.ifCond .ne 36, 3) := by decide +kernel
theorem dX0_judgeBy_33 : decode cX0_judgeBy 33 = .ok (.aload_n 0, 1) := by decide +kernel
theorem dX0_judgeBy_34 : decode cX0_judgeBy 34 = .ok (.aload_n 0, 1) := by decide +kernel
theorem dX0_judgeBy_35 : decode cX0_judgeBy 35 = .ok (.aload_n 1, 1) := by decide +kernel
theorem dX0_judgeBy_36 : decode cX0_judgeBy 36 = .ok (.aload_n 0, 1) := by decide +kernel
theorem dX0_judgeBy_37 : decode cX0_judgeBy 37 = .ok (.getfield 35, 3) := by decide +kernel
theorem dX0_judgeBy_40 : decode cX0_judgeBy 40 = .ok (.invokevirtual 94, 3) := by decide +kernel
theorem dX0_judgeBy_43 : decode cX0_judgeBy 43 = .ok (.putfield 32, 3) := by decide +kernel
theorem dX0_judgeBy_46 : decode cX0_judgeBy 46 = .ok (.aload_n 0, 1) := by decide +kernel
theorem dX0_judgeBy_47 : decode cX0_judgeBy 47 = .ok (.getfield 32, 3) := by decide +kernel
theorem dX0_judgeBy_50 : decode cX0_judgeBy 50 = .ok (.ifCond .ne (-35), 3) := by decide +kernel
theorem dX0_judgeBy_53 : decode cX0_judgeBy 53 = .ok (.aload_n 0, 1) := by decide +kernel
theorem dX0_judgeBy_54 : decode cX0_judgeBy 54 = .ok (.dup, 1) := by decide +kernel
theorem dX0_judgeBy_55 : decode cX0_judgeBy 55 = .ok (.getfield 35, 3) := by decide +kernel
theorem dX0_judgeBy_58 : decode cX0_judgeBy 58 = .ok (.iconst 1, 1) := by decide +kernel
theorem dX0_judgeBy_59 : decode cX0_judgeBy 59 = .ok (.iadd, 1) := by decide +kernel
theorem dX0_judgeBy_60 : decode cX0_judgeBy 60 = .ok (.putfield 35, 3) := by decide +kernel
theorem dX0_judgeBy_63 : decode cX0_judgeBy 63 = .ok (.goto (-48), 3) := by decide +kernel
theorem dX0_judgeBy_66 : decode cX0_judgeBy 66 = .ok (.aload_n 0, 1) := by decide +kernel
theorem dX0_judgeBy_67 : decode cX0_judgeBy 67 = .ok (.aload_n 1, 1) := by decide +kernel
theorem dX0_judgeBy_68 : decode cX0_judgeBy 68 = .ok (.getfield 98, 3) := by decide +kernel
theorem dX0_judgeBy_71 : decode cX0_judgeBy 71 = .ok (.putfield 38, 3) := by decide +kernel
theorem dX0_judgeBy_74 : decode cX0_judgeBy 74 = .ok (.aload_n 0, 1) := by decide +kernel
theorem dX0_judgeBy_75 : decode cX0_judgeBy 75 = .ok (.aload_n 1, 1) := by decide +kernel
theorem dX0_judgeBy_76 : decode cX0_judgeBy 76 = .ok (.getfield 103, 3) := by decide +kernel
theorem dX0_judgeBy_79 : decode cX0_judgeBy 79 = .ok (.putfield 41, 3) := by decide +kernel
theorem dX0_judgeBy_82 : decode cX0_judgeBy 82 = .ok (.return_, 1) := by decide +kernel
theorem dX0_live_0 : decode cX0_live 0 = .ok (.aload_n 0, 1) := by decide +kernel
theorem dX0_live_1 : decode cX0_live 1 = .ok (.getfield 15, 3) := by decide +kernel
theorem dX0_live_4 : decode cX0_live 4 = .ok (.iload_n 2, 1) := by decide +kernel
theorem dX0_live_5 : decode cX0_live 5 = .ok (.iaload, 1) := by decide +kernel
theorem dX0_live_6 : decode cX0_live 6 = .ok (.istore_n 3, 1) := by decide +kernel
theorem dX0_live_7 : decode cX0_live 7 = .ok (.aload_n 0, 1) := by decide +kernel
theorem dX0_live_8 : decode cX0_live 8 = .ok (.getfield 11, 3) := by decide +kernel
theorem dX0_live_11 : decode cX0_live 11 = .ok (.iload_n 2, 1) := by decide +kernel
theorem dX0_live_12 : decode cX0_live 12 = .ok (.iaload, 1) := by decide +kernel
theorem dX0_live_13 : decode cX0_live 13 = .ok (.tableswitch 124 10 15 #[39, 57, 80, 91, 102, 113], 39) := by decide +kernel
theorem dX0_live_52 : decode cX0_live 52 = .ok (.aload_n 1, 1) := by decide +kernel
theorem dX0_live_53 : decode cX0_live 53 = .ok (.iload_n 3, 1) := by decide +kernel
theorem dX0_live_54 : decode cX0_live 54 = .ok (.aload_n 0, 1) := by decide +kernel
theorem dX0_live_55 : decode cX0_live 55 = .ok (.getfield 18, 3) := by decide +kernel
theorem dX0_live_58 : decode cX0_live 58 = .ok (.iload_n 2, 1) := by decide +kernel
theorem dX0_live_59 : decode cX0_live 59 = .ok (.iaload, 1) := by decide +kernel
theorem dX0_live_60 : decode cX0_live 60 = .ok (.aload_n 0, 1) := by decide +kernel
theorem dX0_live_61 : decode cX0_live 61 = .ok (.getfield 21, 3) := by decide +kernel
theorem dX0_live_64 : decode cX0_live 64 = .ok (.iload_n 2, 1) := by decide +kernel
theorem dX0_live_65 : decode cX0_live 65 = .ok (.iaload, 1) := by decide +kernel
theorem dX0_live_66 : decode cX0_live 66 = .ok (.invokevirtual 106, 3) := by decide +kernel
theorem dX0_live_69 : decode cX0_live 69 = .ok (.ireturn, 1) := by decide +kernel
theorem dX0_live_70 : decode cX0_live 70 = .ok (.bipush 10, 2) := by decide +kernel
theorem dX0_live_72 : decode cX0_live 72 = .ok (.aload_n 1, 1) := by decide +kernel
theorem dX0_live_73 : decode cX0_live 73 = .ok (.iload_n 3, 1) := by decide +kernel
theorem dX0_live_74 : decode cX0_live 74 = .ok (.aload_n 0, 1) := by decide +kernel
theorem dX0_live_75 : decode cX0_live 75 = .ok (.getfield 18, 3) := by decide +kernel
theorem dX0_live_78 : decode cX0_live 78 = .ok (.iload_n 2, 1) := by decide +kernel
theorem dX0_live_79 : decode cX0_live 79 = .ok (.iaload, 1) := by decide +kernel
theorem dX0_live_80 : decode cX0_live 80 = .ok (.aload_n 0, 1) := by decide +kernel
theorem dX0_live_81 : decode cX0_live 81 = .ok (.getfield 21, 3) := by decide +kernel
theorem dX0_live_84 : decode cX0_live 84 = .ok (.iload_n 2, 1) := by decide +kernel
theorem dX0_live_85 : decode cX0_live 85 = .ok (.iaload, 1) := by decide +kernel
theorem dX0_live_86 : decode cX0_live 86 = .ok (.invokevirtual 110, 3) := by decide +kernel
theorem dX0_live_89 : decode cX0_live 89 = .ok (.invokestatic 113, 3) := by decide +kernel
theorem dX0_live_92 : decode cX0_live 92 = .ok (.ireturn, 1) := by decide +kernel
theorem dX0_live_93 : decode cX0_live 93 = .ok (.bipush 20, 2) := by decide +kernel
theorem dX0_live_95 : decode cX0_live 95 = .ok (.aload_n 1, 1) := by decide +kernel
theorem dX0_live_96 : decode cX0_live 96 = .ok (.iload_n 3, 1) := by decide +kernel
theorem dX0_live_97 : decode cX0_live 97 = .ok (.invokevirtual 116, 3) := by decide +kernel
theorem dX0_live_100 : decode cX0_live 100 = .ok (.invokestatic 113, 3) := by decide +kernel
theorem dX0_live_103 : decode cX0_live 103 = .ok (.ireturn, 1) := by decide +kernel
theorem dX0_live_104 : decode cX0_live 104 = .ok (.bipush 30, 2) := by decide +kernel
theorem dX0_live_106 : decode cX0_live 106 = .ok (.aload_n 1, 1) := by decide +kernel
theorem dX0_live_107 : decode cX0_live 107 = .ok (.iload_n 3, 1) := by decide +kernel
theorem dX0_live_108 : decode cX0_live 108 = .ok (.invokevirtual 119, 3) := by decide +kernel
theorem dX0_live_111 : decode cX0_live 111 = .ok (.invokestatic 113, 3) := by decide +kernel
theorem dX0_live_114 : decode cX0_live 114 = .ok (.ireturn, 1) := by decide +kernel
theorem dX0_live_115 : decode cX0_live 115 = .ok (.bipush 40, 2) := by decide +kernel
theorem dX0_live_117 : decode cX0_live 117 = .ok (.aload_n 1, 1) := by decide +kernel
theorem dX0_live_118 : decode cX0_live 118 = .ok (.iload_n 3, 1) := by decide +kernel
theorem dX0_live_119 : decode cX0_live 119 = .ok (.invokevirtual 122, 3) := by decide +kernel
theorem dX0_live_122 : decode cX0_live 122 = .ok (.invokestatic 113, 3) := by decide +kernel
theorem dX0_live_125 : decode cX0_live 125 = .ok (.ireturn, 1) := by decide +kernel
theorem dX0_live_126 : decode cX0_live 126 = .ok (.bipush 50, 2) := by decide +kernel
theorem dX0_live_128 : decode cX0_live 128 = .ok (.aload_n 1, 1) := by decide +kernel
theorem dX0_live_129 : decode cX0_live 129 = .ok (.iload_n 3, 1) := by decide +kernel
theorem dX0_live_130 : decode cX0_live 130 = .ok (.invokevirtual 125, 3) := by decide +kernel
theorem dX0_live_133 : decode cX0_live 133 = .ok (.invokestatic 113, 3) := by decide +kernel
theorem dX0_live_136 : decode cX0_live 136 = .ok (.ireturn, 1) := by decide +kernel
theorem dX0_live_137 : decode cX0_live 137 = .ok (.aload_n 1, 1) := by decide +kernel
theorem dX0_live_138 : decode cX0_live 138 = .ok (.aload_n 0, 1) := by decide +kernel
theorem dX0_live_139 : decode cX0_live 139 = .ok (.getfield 21, 3) := by decide +kernel
theorem dX0_live_142 : decode cX0_live 142 = .ok (.iload_n 2, 1) := by decide +kernel
theorem dX0_live_143 : decode cX0_live 143 = .ok (.iaload, 1) := by decide +kernel
theorem dX0_live_144 : decode cX0_live 144 = .ok (.invokestatic 128, 3) := by decide +kernel
theorem dX0_live_147 : decode cX0_live 147 = .ok (.ireturn, 1) := by decide +kernel
theorem dX0_liveMeals_0 : decode cX0_liveMeals 0 = .ok (.sipush 200, 3) := by decide +kernel
theorem dX0_liveMeals_3 : decode cX0_liveMeals 3 = .ok (.aload_n 0, 1) := by decide +kernel
theorem dX0_liveMeals_4 : decode cX0_liveMeals 4 = .ok (.getfield 98, 3) := by decide +kernel
theorem dX0_liveMeals_7 : decode cX0_liveMeals 7 = .ok (.isub, 1) := by decide +kernel
theorem dX0_liveMeals_8 : decode cX0_liveMeals 8 = .ok (.iload_n 1, 1) := by decide +kernel
theorem dX0_liveMeals_9 : decode cX0_liveMeals 9 = .ok (.if_icmp .ge 6, 3) := by decide +kernel
theorem dX0_liveMeals_12 : decode cX0_liveMeals 12 = .ok (.bipush 61, 2) := by decide +kernel
theorem dX0_liveMeals_14 : decode cX0_liveMeals 14 = .ok (.ireturn, 1) := by decide +kernel
theorem dX0_liveMeals_15 : decode cX0_liveMeals 15 = .ok (.aload_n 0, 1) := by decide +kernel
theorem dX0_liveMeals_16 : decode cX0_liveMeals 16 = .ok (.iload_n 1, 1) := by decide +kernel
theorem dX0_liveMeals_17 : decode cX0_liveMeals 17 = .ok (.invokevirtual 131, 3) := by decide +kernel
theorem dX0_liveMeals_20 : decode cX0_liveMeals 20 = .ok (.pop, 1) := by decide +kernel
theorem dX0_liveMeals_21 : decode cX0_liveMeals 21 = .ok (.iconst 0, 1) := by decide +kernel
theorem dX0_liveMeals_22 : decode cX0_liveMeals 22 = .ok (.ireturn, 1) := by decide +kernel
theorem dX0_mostOf_0 : decode cX0_mostOf 0 = .ok (.iload_n 0, 1) := by decide +kernel
theorem dX0_mostOf_1 : decode cX0_mostOf 1 = .ok (.lookupswitch 44 #[(10, 35), (11, 38), (16, 41)], 35) := by decide +kernel
theorem dX0_mostOf_42 : decode cX0_mostOf 42 = .ok (.bipush 60, 2) := by decide +kernel
theorem dX0_mostOf_44 : decode cX0_mostOf 44 = .ok (.ireturn, 1) := by decide +kernel
theorem dX0_mostOf_45 : decode cX0_mostOf 45 = .ok (.iconst 0, 1) := by decide +kernel
theorem dX0_mostOf_46 : decode cX0_mostOf 46 = .ok (.ireturn, 1) := by decide +kernel
theorem dX0_readAct_0 : decode cX0_readAct 0 = .ok (.aload_n 1, 1) := by decide +kernel
theorem dX0_readAct_1 : decode cX0_readAct 1 = .ok (.getfield 50, 3) := by decide +kernel
theorem dX0_readAct_4 : decode cX0_readAct 4 = .ok (.istore_n 3, 1) := by decide +kernel
theorem dX0_readAct_5 : decode cX0_readAct 5 = .ok (.aload_n 0, 1) := by decide +kernel
theorem dX0_readAct_6 : decode cX0_readAct 6 = .ok (.getfield 15, 3) := by decide +kernel
theorem dX0_readAct_9 : decode cX0_readAct 9 = .ok (.aload_n 0, 1) := by decide +kernel
theorem dX0_readAct_10 : decode cX0_readAct 10 = .ok (.getfield 24, 3) := by decide +kernel
theorem dX0_readAct_13 : decode cX0_readAct 13 = .ok (.iaload, 1) := by decide +kernel
theorem dX0_readAct_14 : decode cX0_readAct 14 = .ok (.iconst (-1), 1) := by decide +kernel
theorem dX0_readAct_15 : decode cX0_readAct 15 = .ok (.if_icmp .ne 7, 3) := by decide +kernel
theorem dX0_readAct_18 : decode cX0_readAct 18 = .ok (.iconst 1, 1) := by decide +kernel
theorem dX0_readAct_19 : decode cX0_readAct 19 = .ok (.goto 4, 3) := by decide +kernel
theorem dX0_readAct_22 : decode cX0_readAct 22 = .ok (.iconst 0, 1) := by decide +kernel
theorem dX0_readAct_23 : decode cX0_readAct 23 = .ok (.istore 4, 2) := by decide +kernel
theorem dX0_readAct_25 : decode cX0_readAct 25 = .ok (.iload 4, 2) := by decide +kernel
theorem dX0_readAct_27 : decode cX0_readAct 27 = .ok (.ifCond .eq 17, 3) := by decide +kernel
theorem dX0_readAct_30 : decode cX0_readAct 30 = .ok (.iload_n 3, 1) := by decide +kernel
theorem dX0_readAct_31 : decode cX0_readAct 31 = .ok (.bipush 16, 2) := by decide +kernel
theorem dX0_readAct_33 : decode cX0_readAct 33 = .ok (.if_icmp .ne 7, 3) := by decide +kernel
theorem dX0_readAct_36 : decode cX0_readAct 36 = .ok (.iconst 1, 1) := by decide +kernel
theorem dX0_readAct_37 : decode cX0_readAct 37 = .ok (.goto 24, 3) := by decide +kernel
theorem dX0_readAct_40 : decode cX0_readAct 40 = .ok (.iconst 0, 1) := by decide +kernel
theorem dX0_readAct_41 : decode cX0_readAct 41 = .ok (.goto 20, 3) := by decide +kernel
theorem dX0_readAct_44 : decode cX0_readAct 44 = .ok (.iload_n 3, 1) := by decide +kernel
theorem dX0_readAct_45 : decode cX0_readAct 45 = .ok (.bipush 10, 2) := by decide +kernel
theorem dX0_readAct_47 : decode cX0_readAct 47 = .ok (.if_icmp .lt 13, 3) := by decide +kernel
theorem dX0_readAct_50 : decode cX0_readAct 50 = .ok (.iload_n 3, 1) := by decide +kernel
theorem dX0_readAct_51 : decode cX0_readAct 51 = .ok (.bipush 15, 2) := by decide +kernel
theorem dX0_readAct_53 : decode cX0_readAct 53 = .ok (.if_icmp .gt 7, 3) := by decide +kernel
theorem dX0_readAct_56 : decode cX0_readAct 56 = .ok (.iconst 1, 1) := by decide +kernel
theorem dX0_readAct_57 : decode cX0_readAct 57 = .ok (.goto 4, 3) := by decide +kernel
theorem dX0_readAct_60 : decode cX0_readAct 60 = .ok (.iconst 0, 1) := by decide +kernel
theorem dX0_readAct_61 : decode cX0_readAct 61 = .ok (.istore 5, 2) := by decide +kernel
theorem dX0_readAct_63 : decode cX0_readAct 63 = .ok (.iload 5, 2) := by decide +kernel
theorem dX0_readAct_65 : decode cX0_readAct 65 = .ok (.ifCond .ne 9, 3) := by decide +kernel
theorem dX0_readAct_68 : decode cX0_readAct 68 = .ok (.aload_n 1, 1) := by decide +kernel
theorem dX0_readAct_69 : decode cX0_readAct 69 = .ok (.iconst 1, 1) := by decide +kernel
theorem dX0_readAct_70 : decode cX0_readAct 70 = .ok (.invokevirtual 57, 3) := by decide +kernel
theorem dX0_readAct_73 : decode cX0_readAct 73 = .ok (.ireturn, 1) := by decide +kernel
theorem dX0_readAct_74 : decode cX0_readAct 74 = .ok (.aload_n 1, 1) := by decide +kernel
theorem dX0_readAct_75 : decode cX0_readAct 75 = .ok (.invokevirtual 71, 3) := by decide +kernel
theorem dX0_readAct_78 : decode cX0_readAct 78 = .ok (.aload_n 0, 1) := by decide +kernel
theorem dX0_readAct_79 : decode cX0_readAct 79 = .ok (.getfield 11, 3) := by decide +kernel
theorem dX0_readAct_82 : decode cX0_readAct 82 = .ok (.aload_n 0, 1) := by decide +kernel
theorem dX0_readAct_83 : decode cX0_readAct 83 = .ok (.getfield 24, 3) := by decide +kernel
theorem dX0_readAct_86 : decode cX0_readAct 86 = .ok (.iload_n 3, 1) := by decide +kernel
theorem dX0_readAct_87 : decode cX0_readAct 87 = .ok (.iastore, 1) := by decide +kernel
theorem dX0_readAct_88 : decode cX0_readAct 88 = .ok (.iload_n 3, 1) := by decide +kernel
theorem dX0_readAct_89 : decode cX0_readAct 89 = .ok (.bipush 10, 2) := by decide +kernel
theorem dX0_readAct_91 : decode cX0_readAct 91 = .ok (.if_icmp .eq 9, 3) := by decide +kernel
theorem dX0_readAct_94 : decode cX0_readAct 94 = .ok (.iload_n 3, 1) := by decide +kernel
theorem dX0_readAct_95 : decode cX0_readAct 95 = .ok (.bipush 11, 2) := by decide +kernel
theorem dX0_readAct_97 : decode cX0_readAct 97 = .ok (.if_icmp .ne 39, 3) := by decide +kernel
theorem dX0_readAct_100 : decode cX0_readAct 100 = .ok (.aload_n 0, 1) := by decide +kernel
theorem dX0_readAct_101 : decode cX0_readAct 101 = .ok (.getfield 18, 3) := by decide +kernel
theorem dX0_readAct_104 : decode cX0_readAct 104 = .ok (.aload_n 0, 1) := by decide +kernel
theorem dX0_readAct_105 : decode cX0_readAct 105 = .ok (.getfield 24, 3) := by decide +kernel
theorem dX0_readAct_108 : decode cX0_readAct 108 = .ok (.aload_n 1, 1) := by decide +kernel
theorem dX0_readAct_109 : decode cX0_readAct 109 = .ok (.aload_n 2, 1) := by decide +kernel
theorem dX0_readAct_110 : decode cX0_readAct 110 = .ok (.aload_n 1, 1) := by decide +kernel
theorem dX0_readAct_111 : decode cX0_readAct 111 = .ok (.getfield 61, 3) := by decide +kernel
theorem dX0_readAct_114 : decode cX0_readAct 114 = .ok (.invokevirtual 80, 3) := by decide +kernel
theorem dX0_readAct_117 : decode cX0_readAct 117 = .ok (.invokevirtual 83, 3) := by decide +kernel
theorem dX0_readAct_120 : decode cX0_readAct 120 = .ok (.iastore, 1) := by decide +kernel
theorem dX0_readAct_121 : decode cX0_readAct 121 = .ok (.aload_n 0, 1) := by decide +kernel
theorem dX0_readAct_122 : decode cX0_readAct 122 = .ok (.getfield 18, 3) := by decide +kernel
theorem dX0_readAct_125 : decode cX0_readAct 125 = .ok (.aload_n 0, 1) := by decide +kernel
theorem dX0_readAct_126 : decode cX0_readAct 126 = .ok (.getfield 24, 3) := by decide +kernel
theorem dX0_readAct_129 : decode cX0_readAct 129 = .ok (.iaload, 1) := by decide +kernel
theorem dX0_readAct_130 : decode cX0_readAct 130 = .ok (.iconst (-1), 1) := by decide +kernel
theorem dX0_readAct_131 : decode cX0_readAct 131 = .ok (.if_icmp .ne 5, 3) := by decide +kernel
theorem dX0_readAct_134 : decode cX0_readAct 134 = .ok (.iconst 0, 1) := by decide +kernel
theorem dX0_readAct_135 : decode cX0_readAct 135 = .ok (.ireturn, 1) := by decide +kernel
theorem dX0_readAct_136 : decode cX0_readAct 136 = .ok (.iload_n 3, 1) := by decide +kernel
theorem dX0_readAct_137 : decode cX0_readAct 137 = .ok (.invokestatic 87, 3) := by decide +kernel
theorem dX0_readAct_140 : decode cX0_readAct 140 = .ok (.istore 6, 2) := by decide +kernel
theorem dX0_readAct_142 : decode cX0_readAct 142 = .ok (.iload 6, 2) := by decide +kernel
theorem dX0_readAct_144 : decode cX0_readAct 144 = .ok (.ifCond .ne 5, 3) := by decide +kernel
theorem dX0_readAct_147 : decode cX0_readAct 147 = .ok (.iconst 1, 1) := by decide +kernel
theorem dX0_readAct_148 : decode cX0_readAct 148 = .ok (.ireturn, 1) := by decide +kernel
theorem dX0_readAct_149 : decode cX0_readAct 149 = .ok (.aload_n 0, 1) := by decide +kernel
theorem dX0_readAct_150 : decode cX0_readAct 150 = .ok (.getfield 21, 3) := by decide +kernel
theorem dX0_readAct_153 : decode cX0_readAct 153 = .ok (.aload_n 0, 1) := by decide +kernel
theorem dX0_readAct_154 : decode cX0_readAct 154 = .ok (.getfield 24, 3) := by decide +kernel
theorem dX0_readAct_157 : decode cX0_readAct 157 = .ok (.aload_n 1, 1) := by decide +kernel
theorem dX0_readAct_158 : decode cX0_readAct 158 = .ok (.iconst 1, 1) := by decide +kernel
theorem dX0_readAct_159 : decode cX0_readAct 159 = .ok (.iload 6, 2) := by decide +kernel
theorem dX0_readAct_161 : decode cX0_readAct 161 = .ok (.invokevirtual 90, 3) := by decide +kernel
theorem dX0_readAct_164 : decode cX0_readAct 164 = .ok (.iastore, 1) := by decide +kernel
theorem dX0_readAct_165 : decode cX0_readAct 165 = .ok (.aload_n 0, 1) := by decide +kernel
theorem dX0_readAct_166 : decode cX0_readAct 166 = .ok (.getfield 21, 3) := by decide +kernel
theorem dX0_readAct_169 : decode cX0_readAct 169 = .ok (.aload_n 0, 1) := by decide +kernel
theorem dX0_readAct_170 : decode cX0_readAct 170 = .ok (.getfield 24, 3) := by decide +kernel
theorem dX0_readAct_173 : decode cX0_readAct 173 = .ok (.iaload, 1) := by decide +kernel
theorem dX0_readAct_174 : decode cX0_readAct 174 = .ok (.iconst (-1), 1) := by decide +kernel
theorem dX0_readAct_175 : decode cX0_readAct 175 = .ok (.if_icmp .eq 7, 3) := by decide +kernel
theorem dX0_readAct_178 : decode cX0_readAct 178 = .ok (.iconst 1, 1) := by decide +kernel
theorem dX0_readAct_179 : decode cX0_readAct 179 = .ok (.goto 4, 3) := by decide +kernel
theorem dX0_readAct_182 : decode cX0_readAct 182 = .ok (.iconst 0, 1) := by decide +kernel
theorem dX0_readAct_183 : decode cX0_readAct 183 = .ok (.ireturn, 1) := by decide +kernel
theorem dX11_byteAt_0 : decode cX11_byteAt 0 = .ok (.iload_n 1, 1) := by decide +kernel
theorem dX11_byteAt_1 : decode cX11_byteAt 1 = .ok (.ifCond .lt 20, 3) := by decide +kernel
theorem dX11_byteAt_4 : decode cX11_byteAt 4 = .ok (.iload_n 1, 1) := by decide +kernel
theorem dX11_byteAt_5 : decode cX11_byteAt 5 = .ok (.aload_n 0, 1) := by decide +kernel
theorem dX11_byteAt_6 : decode cX11_byteAt 6 = .ok (.getfield 97, 3) := by decide +kernel
theorem dX11_byteAt_9 : decode cX11_byteAt 9 = .ok (.if_icmp .ge 12, 3) := by decide +kernel
theorem dX11_byteAt_12 : decode cX11_byteAt 12 = .ok (.aload_n 0, 1) := by decide +kernel
theorem dX11_byteAt_13 : decode cX11_byteAt 13 = .ok (.getfield 93, 3) := by decide +kernel
theorem dX11_byteAt_16 : decode cX11_byteAt 16 = .ok (.iload_n 1, 1) := by decide +kernel
theorem dX11_byteAt_17 : decode cX11_byteAt 17 = .ok (.baload, 1) := by decide +kernel
theorem dX11_byteAt_18 : decode cX11_byteAt 18 = .ok (.goto 4, 3) := by decide +kernel
theorem dX11_byteAt_21 : decode cX11_byteAt 21 = .ok (.iconst (-1), 1) := by decide +kernel
theorem dX11_byteAt_22 : decode cX11_byteAt 22 = .ok (.ireturn, 1) := by decide +kernel
theorem dX11_drawn_0 : decode cX11_drawn 0 = .ok (.iload_n 1, 1) := by decide +kernel
theorem dX11_drawn_1 : decode cX11_drawn 1 = .ok (.iconst 1, 1) := by decide +kernel
theorem dX11_drawn_2 : decode cX11_drawn 2 = .ok (.if_icmp .lt 19, 3) := by decide +kernel
theorem dX11_drawn_5 : decode cX11_drawn 5 = .ok (.iload_n 1, 1) := by decide +kernel
theorem dX11_drawn_6 : decode cX11_drawn 6 = .ok (.bipush 60, 2) := by decide +kernel
theorem dX11_drawn_8 : decode cX11_drawn 8 = .ok (.if_icmp .gt 13, 3) := by decide +kernel
theorem dX11_drawn_11 : decode cX11_drawn 11 = .ok (.aload_n 0, 1) := by decide +kernel
theorem dX11_drawn_12 : decode cX11_drawn 12 = .ok (.getfield 19, 3) := by decide +kernel
theorem dX11_drawn_15 : decode cX11_drawn 15 = .ok (.getfield 213, 3) := by decide +kernel
theorem dX11_drawn_18 : decode cX11_drawn 18 = .ok (.ifCond .ne 5, 3) := by decide +kernel
theorem dX11_drawn_21 : decode cX11_drawn 21 = .ok (.iconst (-1), 1) := by decide +kernel
theorem dX11_drawn_22 : decode cX11_drawn 22 = .ok (.ireturn, 1) := by decide +kernel
theorem dX11_drawn_23 : decode cX11_drawn 23 = .ok (.aload_n 0, 1) := by decide +kernel
theorem dX11_drawn_24 : decode cX11_drawn 24 = .ok (.getfield 38, 3) := by decide +kernel
theorem dX11_drawn_27 : decode cX11_drawn 27 = .ok (.aload_n 0, 1) := by decide +kernel
theorem dX11_drawn_28 : decode cX11_drawn 28 = .ok (.getfield 28, 3) := by decide +kernel
theorem dX11_drawn_31 : decode cX11_drawn 31 = .ok (.invokevirtual 225, 3) := by decide +kernel
theorem dX11_drawn_34 : decode cX11_drawn 34 = .ok (.aload_n 0, 1) := by decide +kernel
theorem dX11_drawn_35 : decode cX11_drawn 35 = .ok (.aload_n 0, 1) := by decide +kernel
theorem dX11_drawn_36 : decode cX11_drawn 36 = .ok (.getfield 28, 3) := by decide +kernel
theorem dX11_drawn_39 : decode cX11_drawn 39 = .ok (.iload_n 1, 1) := by decide +kernel
theorem dX11_drawn_40 : decode cX11_drawn 40 = .ok (.iload_n 2, 1) := by decide +kernel
theorem dX11_drawn_41 : decode cX11_drawn 41 = .ok (.invokevirtual 337, 3) := by decide +kernel
theorem dX11_drawn_44 : decode cX11_drawn 44 = .ok (.invokevirtual 253, 3) := by decide +kernel
theorem dX11_drawn_47 : decode cX11_drawn 47 = .ok (.ireturn, 1) := by decide +kernel
theorem dX11_odds_0 : decode cX11_odds 0 = .ok (.aload_n 0, 1) := by decide +kernel
theorem dX11_odds_1 : decode cX11_odds 1 = .ok (.getfield 19, 3) := by decide +kernel
theorem dX11_odds_4 : decode cX11_odds 4 = .ok (.iload_n 1, 1) := by decide +kernel
theorem dX11_odds_5 : decode cX11_odds 5 = .ok (.invokevirtual 133, 3) := by decide +kernel
theorem dX11_odds_8 : decode cX11_odds 8 = .ok (.ifCond .eq 14, 3) := by decide +kernel
theorem dX11_odds_11 : decode cX11_odds 11 = .ok (.iload_n 2, 1) := by decide +kernel
theorem dX11_odds_12 : decode cX11_odds 12 = .ok (.iconst 1, 1) := by decide +kernel
theorem dX11_odds_13 : decode cX11_odds 13 = .ok (.if_icmp .lt 9, 3) := by decide +kernel
theorem dX11_odds_16 : decode cX11_odds 16 = .ok (.iload_n 2, 1) := by decide +kernel
theorem dX11_odds_17 : decode cX11_odds 17 = .ok (.bipush 30, 2) := by decide +kernel
theorem dX11_odds_19 : decode cX11_odds 19 = .ok (.if_icmp .le 5, 3) := by decide +kernel
theorem dX11_odds_22 : decode cX11_odds 22 = .ok (.iconst (-1), 1) := by decide +kernel
theorem dX11_odds_23 : decode cX11_odds 23 = .ok (.ireturn, 1) := by decide +kernel
theorem dX11_odds_24 : decode cX11_odds 24 = .ok (.iconst 0, 1) := by decide +kernel
theorem dX11_odds_25 : decode cX11_odds 25 = .ok (.istore 4, 2) := by decide +kernel
theorem dX11_odds_27 : decode cX11_odds 27 = .ok (.iconst 0, 1) := by decide +kernel
theorem dX11_odds_28 : decode cX11_odds 28 = .ok (.istore 5, 2) := by decide +kernel
theorem dX11_odds_30 : decode cX11_odds 30 = .ok (.iload 5, 2) := by decide +kernel
theorem dX11_odds_32 : decode cX11_odds 32 = .ok (.iload_n 2, 1) := by decide +kernel
theorem dX11_odds_33 : decode cX11_odds 33 = .ok (.if_icmp .ge 48, 3) := by decide +kernel
theorem dX11_odds_36 : decode cX11_odds 36 = .ok (.aload_n 0, 1) := by decide +kernel
theorem dX11_odds_37 : decode cX11_odds 37 = .ok (.getfield 32, 3) := by decide +kernel
theorem dX11_odds_40 : decode cX11_odds 40 = .ok (.aload_n 0, 1) := by decide +kernel
theorem dX11_odds_41 : decode cX11_odds 41 = .ok (.getfield 28, 3) := by decide +kernel
theorem dX11_odds_44 : decode cX11_odds 44 = .ok (.invokevirtual 126, 3) := by decide +kernel
theorem dX11_odds_47 : decode cX11_odds 47 = .ok (.aload_n 0, 1) := by decide +kernel
theorem dX11_odds_48 : decode cX11_odds 48 = .ok (.getfield 32, 3) := by decide +kernel
theorem dX11_odds_51 : decode cX11_odds 51 = .ok (.bipush 10, 2) := by decide +kernel
theorem dX11_odds_53 : decode cX11_odds 53 = .ok (.iload_n 3, 1) := by decide +kernel
theorem dX11_odds_54 : decode cX11_odds 54 = .ok (.iload 5, 2) := by decide +kernel
theorem dX11_odds_56 : decode cX11_odds 56 = .ok (.iadd, 1) := by decide +kernel
theorem dX11_odds_57 : decode cX11_odds 57 = .ok (.invokevirtual 337, 3) := by decide +kernel
theorem dX11_odds_60 : decode cX11_odds 60 = .ok (.pop, 1) := by decide +kernel
theorem dX11_odds_61 : decode cX11_odds 61 = .ok (.aload_n 0, 1) := by decide +kernel
theorem dX11_odds_62 : decode cX11_odds 62 = .ok (.getfield 32, 3) := by decide +kernel
theorem dX11_odds_65 : decode cX11_odds 65 = .ok (.iload_n 1, 1) := by decide +kernel
theorem dX11_odds_66 : decode cX11_odds 66 = .ok (.invokevirtual 301, 3) := by decide +kernel
theorem dX11_odds_69 : decode cX11_odds 69 = .ok (.ifCond .eq 6, 3) := by decide +kernel
theorem dX11_odds_72 : decode cX11_odds 72 = .ok (.iinc 4 1, 3) := by decide +kernel
theorem dX11_odds_75 : decode cX11_odds 75 = .ok (.iinc 5 1, 3) := by decide +kernel
theorem dX11_odds_78 : decode cX11_odds 78 = .ok (.goto (-48), 3) := by decide +kernel
theorem dX11_odds_81 : decode cX11_odds 81 = .ok (.iload 4, 2) := by decide +kernel
theorem dX11_odds_83 : decode cX11_odds 83 = .ok (.ireturn, 1) := by decide +kernel
theorem dX11_writeByte_0 : decode cX11_writeByte 0 = .ok (.aload_n 0, 1) := by decide +kernel
theorem dX11_writeByte_1 : decode cX11_writeByte 1 = .ok (.getfield 97, 3) := by decide +kernel
theorem dX11_writeByte_4 : decode cX11_writeByte 4 = .ok (.aload_n 0, 1) := by decide +kernel
theorem dX11_writeByte_5 : decode cX11_writeByte 5 = .ok (.getfield 93, 3) := by decide +kernel
theorem dX11_writeByte_8 : decode cX11_writeByte 8 = .ok (.arraylength, 1) := by decide +kernel
theorem dX11_writeByte_9 : decode cX11_writeByte 9 = .ok (.if_icmp .ge 24, 3) := by decide +kernel
theorem dX11_writeByte_12 : decode cX11_writeByte 12 = .ok (.aload_n 0, 1) := by decide +kernel
theorem dX11_writeByte_13 : decode cX11_writeByte 13 = .ok (.getfield 93, 3) := by decide +kernel
theorem dX11_writeByte_16 : decode cX11_writeByte 16 = .ok (.aload_n 0, 1) := by decide +kernel
theorem dX11_writeByte_17 : decode cX11_writeByte 17 = .ok (.getfield 97, 3) := by decide +kernel
theorem dX11_writeByte_20 : decode cX11_writeByte 20 = .ok (.iload_n 1, 1) := by decide +kernel
theorem dX11_writeByte_21 : decode cX11_writeByte 21 = .ok (.i2b, 1) := by decide +kernel
theorem dX11_writeByte_22 : decode cX11_writeByte 22 = .ok (.bastore, 1) := by decide +kernel
theorem dX11_writeByte_23 : decode cX11_writeByte 23 = .ok (.aload_n 0, 1) := by decide +kernel
theorem dX11_writeByte_24 : decode cX11_writeByte 24 = .ok (.dup, 1) := by decide +kernel
theorem dX11_writeByte_25 : decode cX11_writeByte 25 = .ok (.getfield 97, 3) := by decide +kernel
theorem dX11_writeByte_28 : decode cX11_writeByte 28 = .ok (.iconst 1, 1) := by decide +kernel
theorem dX11_writeByte_29 : decode cX11_writeByte 29 = .ok (.iadd, 1) := by decide +kernel
theorem dX11_writeByte_30 : decode cX11_writeByte 30 = .ok (.putfield 97, 3) := by decide +kernel
theorem dX11_writeByte_33 : decode cX11_writeByte 33 = .ok (.return_, 1) := by decide +kernel
theorem dX11_writeName_0 : decode cX11_writeName 0 = .ok (.bipush 6, 2) := by decide +kernel
theorem dX11_writeName_2 : decode cX11_writeName 2 = .ok (.istore_n 3, 1) := by decide +kernel
theorem dX11_writeName_3 : decode cX11_writeName 3 = .ok (.iload_n 3, 1) := by decide +kernel
theorem dX11_writeName_4 : decode cX11_writeName 4 = .ok (.ifCond .lt 36, 3) := by decide +kernel
theorem dX11_writeName_7 : decode cX11_writeName 7 = .ok (.lload_n 1, 1) := by decide +kernel
theorem dX11_writeName_8 : decode cX11_writeName 8 = .ok (.iload_n 3, 1) := by decide +kernel
theorem dX11_writeName_9 : decode cX11_writeName 9 = .ok (.iconst 5, 1) := by decide +kernel
theorem dX11_writeName_10 : decode cX11_writeName 10 = .ok (.imul, 1) := by decide +kernel
theorem dX11_writeName_11 : decode cX11_writeName 11 = .ok (.lshr, 1) := by decide +kernel
theorem dX11_writeName_12 : decode cX11_writeName 12 = .ok (.l2i, 1) := by decide +kernel
theorem dX11_writeName_13 : decode cX11_writeName 13 = .ok (.bipush 31, 2) := by decide +kernel
theorem dX11_writeName_15 : decode cX11_writeName 15 = .ok (.iand, 1) := by decide +kernel
theorem dX11_writeName_16 : decode cX11_writeName 16 = .ok (.istore 4, 2) := by decide +kernel
theorem dX11_writeName_18 : decode cX11_writeName 18 = .ok (.iload 4, 2) := by decide +kernel
theorem dX11_writeName_20 : decode cX11_writeName 20 = .ok (.ifCond .eq 14, 3) := by decide +kernel
theorem dX11_writeName_23 : decode cX11_writeName 23 = .ok (.aload_n 0, 1) := by decide +kernel
theorem dX11_writeName_24 : decode cX11_writeName 24 = .ok (.bipush 97, 2) := by decide +kernel
theorem dX11_writeName_26 : decode cX11_writeName 26 = .ok (.iload 4, 2) := by decide +kernel
theorem dX11_writeName_28 : decode cX11_writeName 28 = .ok (.iadd, 1) := by decide +kernel
theorem dX11_writeName_29 : decode cX11_writeName 29 = .ok (.iconst 1, 1) := by decide +kernel
theorem dX11_writeName_30 : decode cX11_writeName 30 = .ok (.isub, 1) := by decide +kernel
theorem dX11_writeName_31 : decode cX11_writeName 31 = .ok (.invokevirtual 334, 3) := by decide +kernel
theorem dX11_writeName_34 : decode cX11_writeName 34 = .ok (.iinc 3 (-1), 3) := by decide +kernel
theorem dX11_writeName_37 : decode cX11_writeName 37 = .ok (.goto (-34), 3) := by decide +kernel
theorem dX11_writeName_40 : decode cX11_writeName 40 = .ok (.return_, 1) := by decide +kernel
theorem dX1_actByDraw_0 : decode cX1_actByDraw 0 = .ok (.aload_n 0, 1) := by decide +kernel
theorem dX1_actByDraw_1 : decode cX1_actByDraw 1 = .ok (.bipush 6, 2) := by decide +kernel
theorem dX1_actByDraw_3 : decode cX1_actByDraw 3 = .ok (.invokevirtual 130, 3) := by decide +kernel
theorem dX1_actByDraw_6 : decode cX1_actByDraw 6 = .ok (.istore_n 2, 1) := by decide +kernel
theorem dX1_actByDraw_7 : decode cX1_actByDraw 7 = .ok (.iload_n 2, 1) := by decide +kernel
theorem dX1_actByDraw_8 : decode cX1_actByDraw 8 = .ok (.ifCond .ne 12, 3) := by decide +kernel
theorem dX1_actByDraw_11 : decode cX1_actByDraw 11 = .ok (.aload_n 0, 1) := by decide +kernel
theorem dX1_actByDraw_12 : decode cX1_actByDraw 12 = .ok (.iload_n 1, 1) := by decide +kernel
theorem dX1_actByDraw_13 : decode cX1_actByDraw 13 = .ok (.invokevirtual 133, 3) := by decide +kernel
theorem dX1_actByDraw_16 : decode cX1_actByDraw 16 = .ok (.pop, 1) := by decide +kernel
theorem dX1_actByDraw_17 : decode cX1_actByDraw 17 = .ok (.goto 30, 3) := by decide +kernel
theorem dX1_actByDraw_20 : decode cX1_actByDraw 20 = .ok (.iload_n 2, 1) := by decide +kernel
theorem dX1_actByDraw_21 : decode cX1_actByDraw 21 = .ok (.iconst 1, 1) := by decide +kernel
theorem dX1_actByDraw_22 : decode cX1_actByDraw 22 = .ok (.if_icmp .le 11, 3) := by decide +kernel
theorem dX1_actByDraw_25 : decode cX1_actByDraw 25 = .ok (.aload_n 0, 1) := by decide +kernel
theorem dX1_actByDraw_26 : decode cX1_actByDraw 26 = .ok (.iload_n 1, 1) := by decide +kernel
theorem dX1_actByDraw_27 : decode cX1_actByDraw 27 = .ok (.invokevirtual 136, 3) := by decide +kernel
theorem dX1_actByDraw_30 : decode cX1_actByDraw 30 = .ok (.goto 17, 3) := by decide +kernel
theorem dX1_actByDraw_33 : decode cX1_actByDraw 33 = .ok (.aload_n 0, 1) := by decide +kernel
theorem dX1_actByDraw_34 : decode cX1_actByDraw 34 = .ok (.iconst 4, 1) := by decide +kernel
theorem dX1_actByDraw_35 : decode cX1_actByDraw 35 = .ok (.invokevirtual 130, 3) := by decide +kernel
theorem dX1_actByDraw_38 : decode cX1_actByDraw 38 = .ok (.ifCond .ne 9, 3) := by decide +kernel
theorem dX1_actByDraw_41 : decode cX1_actByDraw 41 = .ok (.aload_n 0, 1) := by decide +kernel
theorem dX1_actByDraw_42 : decode cX1_actByDraw 42 = .ok (.iload_n 1, 1) := by decide +kernel
theorem dX1_actByDraw_43 : decode cX1_actByDraw 43 = .ok (.invokevirtual 139, 3) := by decide +kernel
theorem dX1_actByDraw_46 : decode cX1_actByDraw 46 = .ok (.pop, 1) := by decide +kernel
theorem dX1_actByDraw_47 : decode cX1_actByDraw 47 = .ok (.return_, 1) := by decide +kernel
theorem dX1_draw_0 : decode cX1_draw 0 = .ok (.aload_n 0, 1) := by decide +kernel
theorem dX1_draw_1 : decode cX1_draw 1 = .ok (.aload_n 0, 1) := by decide +kernel
theorem dX1_draw_2 : decode cX1_draw 2 = .ok (.getfield 49, 3) := by decide +kernel
theorem dX1_draw_5 : decode cX1_draw 5 = .ok (.ldc 129, 2) := by decide +kernel
theorem dX1_draw_7 : decode cX1_draw 7 = .ok (.imul, 1) := by decide +kernel
theorem dX1_draw_8 : decode cX1_draw 8 = .ok (.sipush 12345, 3) := by decide +kernel
theorem dX1_draw_11 : decode cX1_draw 11 = .ok (.iadd, 1) := by decide +kernel
theorem dX1_draw_12 : decode cX1_draw 12 = .ok (.putfield 49, 3) := by decide +kernel
theorem dX1_draw_15 : decode cX1_draw 15 = .ok (.iload_n 1, 1) := by decide +kernel
theorem dX1_draw_16 : decode cX1_draw 16 = .ok (.ifCond .le 15, 3) := by decide +kernel
theorem dX1_draw_19 : decode cX1_draw 19 = .ok (.aload_n 0, 1) := by decide +kernel
theorem dX1_draw_20 : decode cX1_draw 20 = .ok (.getfield 49, 3) := by decide +kernel
theorem dX1_draw_23 : decode cX1_draw 23 = .ok (.bipush 8, 2) := by decide +kernel
theorem dX1_draw_25 : decode cX1_draw 25 = .ok (.iushr, 1) := by decide +kernel
theorem dX1_draw_26 : decode cX1_draw 26 = .ok (.iload_n 1, 1) := by decide +kernel
theorem dX1_draw_27 : decode cX1_draw 27 = .ok (.irem, 1) := by decide +kernel
theorem dX1_draw_28 : decode cX1_draw 28 = .ok (.goto 4, 3) := by decide +kernel
theorem dX1_draw_32 : decode cX1_draw 32 = .ok (.ireturn, 1) := by decide +kernel
theorem dX1_drawMeals_0 : decode cX1_drawMeals 0 = .ok (.aload_n 0, 1) := by decide +kernel
theorem dX1_drawMeals_1 : decode cX1_drawMeals 1 = .ok (.iload_n 2, 1) := by decide +kernel
theorem dX1_drawMeals_2 : decode cX1_drawMeals 2 = .ok (.putfield 49, 3) := by decide +kernel
theorem dX1_drawMeals_5 : decode cX1_drawMeals 5 = .ok (.iconst 0, 1) := by decide +kernel
theorem dX1_drawMeals_6 : decode cX1_drawMeals 6 = .ok (.istore_n 3, 1) := by decide +kernel
theorem dX1_drawMeals_7 : decode cX1_drawMeals 7 = .ok (.iload_n 3, 1) := by decide +kernel
theorem dX1_drawMeals_8 : decode cX1_drawMeals 8 = .ok (.iload_n 1, 1) := by decide +kernel
theorem dX1_drawMeals_9 : decode cX1_drawMeals 9 = .ok (.if_icmp .ge 59, 3) := by decide +kernel
theorem dX1_drawMeals_12 : decode cX1_drawMeals 12 = .ok (.aload_n 0, 1) := by decide +kernel
theorem dX1_drawMeals_13 : decode cX1_drawMeals 13 = .ok (.getfield 37, 3) := by decide +kernel
theorem dX1_drawMeals_16 : decode cX1_drawMeals 16 = .ok (.sipush 200, 3) := by decide +kernel
theorem dX1_drawMeals_19 : decode cX1_drawMeals 19 = .ok (.if_icmp .ge 49, 3) := by decide +kernel
theorem dX1_drawMeals_22 : decode cX1_drawMeals 22 = .ok (.iconst 0, 1) := by decide +kernel
theorem dX1_drawMeals_23 : decode cX1_drawMeals 23 = .ok (.istore 4, 2) := by decide +kernel
theorem dX1_drawMeals_25 : decode cX1_drawMeals 25 = .ok (.iload 4, 2) := by decide +kernel
theorem dX1_drawMeals_27 : decode cX1_drawMeals 27 = .ok (.aload_n 0, 1) := by decide +kernel
theorem dX1_drawMeals_28 : decode cX1_drawMeals 28 = .ok (.getfield 52, 3) := by decide +kernel
theorem dX1_drawMeals_31 : decode cX1_drawMeals 31 = .ok (.getfield 68, 3) := by decide +kernel
theorem dX1_drawMeals_34 : decode cX1_drawMeals 34 = .ok (.if_icmp .ge 24, 3) := by decide +kernel
theorem dX1_drawMeals_37 : decode cX1_drawMeals 37 = .ok (.aload_n 0, 1) := by decide +kernel
theorem dX1_drawMeals_38 : decode cX1_drawMeals 38 = .ok (.iload 4, 2) := by decide +kernel
theorem dX1_drawMeals_40 : decode cX1_drawMeals 40 = .ok (.invokevirtual 115, 3) := by decide +kernel
theorem dX1_drawMeals_43 : decode cX1_drawMeals 43 = .ok (.ifCond .eq 9, 3) := by decide +kernel
theorem dX1_drawMeals_46 : decode cX1_drawMeals 46 = .ok (.aload_n 0, 1) := by decide +kernel
theorem dX1_drawMeals_47 : decode cX1_drawMeals 47 = .ok (.iload 4, 2) := by decide +kernel
theorem dX1_drawMeals_49 : decode cX1_drawMeals 49 = .ok (.invokevirtual 142, 3) := by decide +kernel
theorem dX1_drawMeals_52 : decode cX1_drawMeals 52 = .ok (.iinc 4 1, 3) := by decide +kernel
theorem dX1_drawMeals_55 : decode cX1_drawMeals 55 = .ok (.goto (-30), 3) := by decide +kernel
theorem dX1_drawMeals_58 : decode cX1_drawMeals 58 = .ok (.aload_n 0, 1) := by decide +kernel
theorem dX1_drawMeals_59 : decode cX1_drawMeals 59 = .ok (.invokevirtual 126, 3) := by decide +kernel
theorem dX1_drawMeals_62 : decode cX1_drawMeals 62 = .ok (.iinc 3 1, 3) := by decide +kernel
theorem dX1_drawMeals_65 : decode cX1_drawMeals 65 = .ok (.goto (-58), 3) := by decide +kernel
theorem dX1_drawMeals_68 : decode cX1_drawMeals 68 = .ok (.iload_n 3, 1) := by decide +kernel
theorem dX1_drawMeals_69 : decode cX1_drawMeals 69 = .ok (.ireturn, 1) := by decide +kernel
theorem rc_11 : Rg 11 11 11 := ⟨by decide, by decide⟩
theorem rc_15 : Rg 15 15 15 := ⟨by decide, by decide⟩
theorem rc_30 : Rg 30 30 30 := ⟨by decide, by decide⟩
theorem rc_31 : Rg 31 31 31 := ⟨by decide, by decide⟩
theorem rc_50 : Rg 50 50 50 := ⟨by decide, by decide⟩
theorem rc_61 : Rg 61 61 61 := ⟨by decide, by decide⟩
theorem rc_12345 : Rg 12345 12345 12345 := ⟨by decide, by decide⟩
theorem rc_1103515245 : Rg 1103515245 1103515245 1103515245 := ⟨by decide, by decide⟩
set_option maxRecDepth 100000 in
set_option maxHeartbeats 8000000 in
theorem c_X11_writeByte {l : Launch} {D : va_G} {cy : Nat → ClassId} {L : List Nat} {κ ln : Nat → Nat} {R : Nat → Nat → Option Nat} {I : Nat → Nat → Int32} {J : Nat → Nat → Int64} {ow : Nat → Nat × Nat} (W9 : ∀ a ∈ L, Shp L κ ln R ow a) {x : Nat} (hLx : x ∈ L) (hkx : κ x = 11) (a0 : Int32) (ra0 : Rg 97 127 a0) (hU : Iv L κ R ow I) : CtV l yX11_writeByte cX11_writeByte 2 none { frames := 0, cells := 0, slots := 0, locals := 0 } D cy L κ ln R I J [.ref x, .int a0] (fun I2 J2 => Iv L κ R ow I2 ∧ Fq L κ ow [1114, 77300] I I2 ∧ Fq L κ ow [] J J2) := by
  refine CtV.of (by decide +kernel) (Nat.le_of_ble_eq_true rfl) ?_
  intro p e s m below meth c B K
  have C := B.1
  have hF : Fq L κ ow [1114, 77300] I I := fq_rf
  have hG : Fq L κ ow [] J J := fq_rf
  obtain ⟨b_500316, hb_500316, hb_500316L, hb_500316k, hb_500316n, hb_500316o⟩ := shp_a (W9 x hLx) hkx 13 13 40 rfl (by decide)
  refine g_lo (is := [0, 1]) (lo2 := [(0, .ref x), (1, .int a0)]) rfl ?_
  refine g_aload_n C 0 dX11_writeByte_0 rfl rfl ?_
  obtain ⟨x_500317, hx_500317, rx_500317⟩ := ex_get (I := I) (a := x) (j := 14) (lo := 0) (hi := 40) hU.1 hLx (ro_o hkx (by decide)) rfl
  refine g_getI C K hLx hkx f_11_97 (v := x_500317) hx_500317 dX11_writeByte_1 ?_
  refine g_aload_n C 0 dX11_writeByte_4 rfl rfl ?_
  refine g_getR C K hLx hkx f_11_93 hb_500316 dX11_writeByte_5 ?_
  refine g_alenB C K hb_500316L hb_500316k (v := 40) (by rw [hb_500316n]; rfl) dX11_writeByte_8 ?_
  refine g_icmp_ge C (tgt := 33) dX11_writeByte_9 (by decide) (fun h_500318 => ?_) (fun h_500318 => ?_)
  · skip
    have r_500319 := le_r (h_500318) rc_40 rx_500317
    exact g_vret B K rfl ⟨hU, hF, hG⟩ dX11_writeByte_33
  · skip
    have r_500320 := lt_l (hi := 39) (nle h_500318) rx_500317 rc_40 (by decide)
    refine g_aload_n C 0 dX11_writeByte_12 rfl rfl ?_
    refine g_getR C K hLx hkx f_11_93 hb_500316 dX11_writeByte_13 ?_
    refine g_aload_n C 0 dX11_writeByte_16 rfl rfl ?_
    refine g_getI C K hLx hkx f_11_97 (v := x_500317) hx_500317 dX11_writeByte_17 ?_
    refine g_iload_n C 1 dX11_writeByte_20 rfl rfl ?_
    obtain ⟨x_500321, hx_500321, rx_500321⟩ := ex_b2 (x := a0)
    refine g_i2b C (v := x_500321) dX11_writeByte_21 hx_500321 ?_
    refine h_bast C K hb_500316L hb_500316k (x_500317.toNatClampNeg) (rfl) (ix_0 r_500320 (by decide)) (ix_lt r_500320 (by decide) hb_500316n (by decide)) dX11_writeByte_22 (fun I_500322 hI_500322 => ?_)
    have hU_500323 := iv_put W9 hU hI_500322 (ro_a hb_500316k (by decide) hb_500316o hkx rfl) (lo := (-128)) (hi := 127) (rfl) (nar_b _) rfl
    have hF_500324 := fq_puta hF hI_500322 (ro_a hb_500316k (by decide) hb_500316o hkx rfl) (by decide) (by decide)
    refine g_aload_n C 0 dX11_writeByte_23 rfl rfl ?_
    refine g_dup C dX11_writeByte_24 rfl ?_
    refine g_getI C K hLx hkx f_11_97 (v := x_500317) (kp_k (κ := κ) hI_500322 (by rw [hkx, hb_500316k]; decide) hx_500317) dX11_writeByte_25 ?_
    refine g_iconst C (v := 1) dX11_writeByte_28 (by decide) ?_
    obtain ⟨x_500325, hx_500325, rx_500325, tx_500325⟩ := ex_add 1 40 r_500320 rc_1 (by decide) (by decide) (by decide) (by decide)
    refine g_iadd C (v := x_500325) dX11_writeByte_29 hx_500325 ?_
    refine h_putI C K hLx hkx f_11_97 p_11_14 dX11_writeByte_30 (fun I_500326 hI_500326 => ?_)
    have hU_500327 := iv_put W9 hU_500323 hI_500326 (ro_o hkx (by decide)) (lo := 0) (hi := 40) (rfl) (rg_w rx_500325 (by decide) (by decide)) rfl
    have hF_500328 := fq_puto hF_500324 hI_500326 hkx (by decide) (by decide)
    exact g_vret B K rfl ⟨hU_500327, hF_500328, hG⟩ dX11_writeByte_33
set_option maxRecDepth 100000 in
set_option maxHeartbeats 8000000 in
theorem c_X11_writeName {l : Launch} {D : va_G} {cy : Nat → ClassId} {L : List Nat} {κ ln : Nat → Nat} {R : Nat → Nat → Option Nat} {I : Nat → Nat → Int32} {J : Nat → Nat → Int64} {ow : Nat → Nat × Nat} (W9 : ∀ a ∈ L, Shp L κ ln R ow a) {x : Nat} (hLx : x ∈ L) (hkx : κ x = 11) (a0 : Int64) (hU : Iv L κ R ow I) : CtV l yX11_writeName cX11_writeName 5 none { frames := 1, cells := 0, slots := 0, locals := 21 } D cy L κ ln R I J [.ref x, .long a0] (fun I2 J2 => Iv L κ R ow I2 ∧ Fq L κ ow [1114, 77300] I I2 ∧ Fq L κ ow [] J J2) := by
  refine CtV.of (by decide +kernel) (Nat.le_of_ble_eq_true rfl) ?_
  intro p e s m below meth c B K
  have C := B.1
  have hF : Fq L κ ow [1114, 77300] I I := fq_rf
  have hG : Fq L κ ow [] J J := fq_rf
  refine g_lo (is := [0, 1]) (lo2 := [(0, .ref x), (1, .long a0)]) rfl ?_
  have l_3 : ∀ (n_3 : Nat) (I_500498 : Nat → Nat → Int32) (J_500499 : Nat → Nat → Int64) (hU_500500 : Iv L κ R ow I_500498) (hF_500501 : Fq L κ ow [1114, 77300] I I_500498) (hG_500502 : Fq L κ ow [] J J_500499) (y_500503 : Int64) (v_500504 : Int32) (rv_500504 : Rg (-1) 6 v_500504) (hm_500505 : (v_500504 : Int32).toInt - (-1) < (n_3 : Int)), WG p l e { frames := 1, cells := 0, slots := 0, locals := 21 } s m ([.ref x, .long a0] : List Value).toArray below meth c 5 0 0 (MQ below (Qv_ D cy L κ ln R (fun I2 J2 => Iv L κ R ow I2 ∧ Fq L κ ow [1114, 77300] I I2 ∧ Fq L κ ow [] J J2)) ([.ref x, .long a0] : List Value).toArray s 0 0 (Al_ L)) D cy (Al_ L) s.heap L κ ln R I_500498 J_500499 3 [(0, .ref x), (1, .long y_500503), (3, .int v_500504)] [] := by
    intro n_3
    induction n_3 with
    | zero =>
      intro I_500498 J_500499 hU_500500 hF_500501 hG_500502 y_500503 v_500504 rv_500504 hm_500505
      exact md_0 rv_500504 hm_500505
    | succ n_3 ih_3 =>
      intro I_500498 J_500499 hU_500500 hF_500501 hG_500502 y_500503 v_500504 rv_500504 hm_500505
      have j_34 : ∀ (I_500506 : Nat → Nat → Int32) (J_500507 : Nat → Nat → Int64) (hU_500508 : Iv L κ R ow I_500506) (hF_500509 : Fq L κ ow [1114, 77300] I I_500506) (hG_500510 : Fq L κ ow [] J J_500507) (y_500511 : Int64) (v_500512 : Int32) (rv_500512 : Rg 0 6 v_500512) (v_500513 : Int32) (rv_500513 : Rg 0 31 v_500513) (hm_500514 : (v_500512 : Int32).toInt - (-1) < ((n_3 + 1 : Nat) : Int)), WG p l e { frames := 1, cells := 0, slots := 0, locals := 21 } s m ([.ref x, .long a0] : List Value).toArray below meth c 5 0 0 (MQ below (Qv_ D cy L κ ln R (fun I2 J2 => Iv L κ R ow I2 ∧ Fq L κ ow [1114, 77300] I I2 ∧ Fq L κ ow [] J J2)) ([.ref x, .long a0] : List Value).toArray s 0 0 (Al_ L)) D cy (Al_ L) s.heap L κ ln R I_500506 J_500507 34 [(0, .ref x), (1, .long y_500511), (3, .int v_500512), (4, .int v_500513)] [] := by
        intro I_500506 J_500507 hU_500508 hF_500509 hG_500510 y_500511 v_500512 rv_500512 v_500513 rv_500513 hm_500514
        obtain ⟨x_500515, hx_500515, rx_500515, tx_500515⟩ := ex_add (y := (-1)) (-1) 5 rv_500512 rc_m1 (by decide) (by decide) (by decide) (by decide)
        refine g_iinc C dX11_writeName_34 (k := 2) (v := x_500515) rfl hx_500515 (by decide) (lo2 := [(3, .int x_500515), (0, .ref x), (1, .long y_500511), (4, .int v_500513)]) rfl ?_
        refine g_goto C (tgt := 3) dX11_writeName_37 (by decide) ?_
        refine g_lo (is := [1, 2, 0]) (lo2 := [(0, .ref x), (1, .long y_500511), (3, .int x_500515)]) rfl ?_
        exact ih_3 I_500506 J_500507 hU_500508 hF_500509 hG_500510 y_500511 x_500515 (rg_w rx_500515 (by decide) (by decide)) (md_1 hm_500514 (ti_k tx_500515 rc_m1) (by decide))
      refine g_iload_n C 2 dX11_writeName_3 rfl rfl ?_
      refine g_if_lt C (tgt := 40) dX11_writeName_4 (by decide) (fun h_500516 => ?_) (fun h_500516 => ?_)
      · skip
        have r_500517 := lt_l (hi := (-1)) (h_500516) rv_500504 rc_0 (by decide)
        exact g_vret B K rfl ⟨hU_500500, hF_500501, hG_500502⟩ dX11_writeName_40
      · skip
        have r_500518 := le_r (nlt h_500516) rc_0 rv_500504
        refine g_lload_n C 1 dX11_writeName_7 rfl rfl ?_
        refine g_iload_n C 2 dX11_writeName_8 rfl rfl ?_
        refine g_iconst C (v := 5) dX11_writeName_9 (by decide) ?_
        obtain ⟨x_500519, hx_500519, rx_500519⟩ := ex_mulk 0 30 r_500518 rc_5 (by decide) (by decide) (by decide) (by decide) (by decide)
        refine g_imul C (v := x_500519) dX11_writeName_10 hx_500519 ?_
        refine g_lshr C dX11_writeName_11 (fun y_500520 => ?_)
        obtain ⟨x_500521, hx_500521, rx_500521⟩ := ex_any (z0 := Int64.toInt32 y_500520)
        refine g_l2i C (v := x_500521) dX11_writeName_12 hx_500521 ?_
        refine g_bipush C (v := 31) dX11_writeName_13 (by decide) ?_
        obtain ⟨x_500522, hx_500522, rx_500522⟩ := ex_andr (x := x_500521) (y := 31) (b := 31) (rg_w rc_31 (by decide) (by decide))
        refine g_iand C (v := x_500522) dX11_writeName_15 hx_500522 ?_
        refine g_istore C dX11_writeName_16 (by decide) (lo2 := [(4, .int x_500522), (0, .ref x), (1, .long y_500503), (3, .int v_500504)]) rfl ?_
        refine g_iload C 0 dX11_writeName_18 rfl ?_
        refine g_if_eq C (tgt := 34) dX11_writeName_20 (by decide) (fun h_500523 => ?_) (fun h_500523 => ?_)
        · skip
          have r_500524 := (⟨(rx_500522).1, (eq_rg (h_500523) rc_0).2⟩ : Rg 0 0 x_500522)
          refine g_lo (is := [1, 2, 3, 0]) (lo2 := [(0, .ref x), (1, .long y_500503), (3, .int v_500504), (4, .int x_500522)]) rfl ?_
          exact j_34 I_500498 J_500499 hU_500500 hF_500501 hG_500502 y_500503 v_500504 (r_500518) x_500522 (rg_w r_500524 (by decide) (by decide)) hm_500505
        · skip
          have n_500525 : ¬ x_500522 = 0 := h_500523
          have r_500526 := ne_lo (lo := 1) n_500525 rx_500522 rc_0 rfl (by decide)
          refine g_aload_n C 1 dX11_writeName_23 rfl rfl ?_
          refine g_bipush C (v := 97) dX11_writeName_24 (by decide) ?_
          refine g_iload C 0 dX11_writeName_26 rfl ?_
          obtain ⟨x_500527, hx_500527, rx_500527, tx_500527⟩ := ex_add 98 128 rc_97 r_500526 (by decide) (by decide) (by decide) (by decide)
          refine g_iadd C (v := x_500527) dX11_writeName_28 hx_500527 ?_
          refine g_iconst C (v := 1) dX11_writeName_29 (by decide) ?_
          obtain ⟨x_500528, hx_500528, rx_500528, tx_500528⟩ := ex_sub 97 127 rx_500527 rc_1 (by decide) (by decide) (by decide) (by decide)
          refine g_isub C (v := x_500528) dX11_writeName_30 hx_500528 ?_
          refine g_callVV C K (c_X11_writeByte W9 hLx hkx x_500528 (rx_500528) hU_500500) hLx hkx (by decide) rfl v_11_334 rfl ⟨rfl, rfl⟩ ⟨Nat.le_of_ble_eq_true rfl, Nat.le_of_ble_eq_true rfl⟩ (Nat.le_of_ble_eq_true rfl) ⟨Nat.le_of_ble_eq_true rfl, Nat.le_of_ble_eq_true rfl⟩ dX11_writeName_31 rfl (st := []) (fun I_500530 J_500531 h_500532 => ?_)
          obtain ⟨hUI_500530, hFI_500530, hGJ_500531⟩ := h_500532
          have hF_500533 := fq_tr hF_500501 hFI_500530 (by decide)
          have hG_500534 := fq_tr hG_500502 hGJ_500531 (by decide)
          refine g_lo (is := [1, 2, 3, 0]) (lo2 := [(0, .ref x), (1, .long y_500503), (3, .int v_500504), (4, .int x_500522)]) rfl ?_
          exact j_34 I_500530 J_500531 hUI_500530 hF_500533 hG_500534 y_500503 v_500504 (r_500518) x_500522 (rg_w r_500526 (by decide) (by decide)) hm_500505
  refine g_bipush C (v := 6) dX11_writeName_0 (by decide) ?_
  refine g_istore_n C dX11_writeName_2 rfl (by decide) (lo2 := [(3, .int 6), (0, .ref x), (1, .long a0)]) rfl ?_
  refine g_lo (is := [1, 2, 0]) (lo2 := [(0, .ref x), (1, .long a0), (3, .int 6)]) rfl ?_
  exact l_3 8 I J hU hF hG a0 6 (rg_w rc_6 (by decide) (by decide)) (md_s (a := (-1)) (b := 6) (N := 8) (rg_w rc_6 (by decide) (by decide)) (by decide))
set_option maxRecDepth 100000 in
set_option maxHeartbeats 8000000 in
theorem c_X11_byteAt {l : Launch} {D : va_G} {cy : Nat → ClassId} {L : List Nat} {κ ln : Nat → Nat} {R : Nat → Nat → Option Nat} {I : Nat → Nat → Int32} {J : Nat → Nat → Int64} {ow : Nat → Nat × Nat} (W9 : ∀ a ∈ L, Shp L κ ln R ow a) {x : Nat} (hLx : x ∈ L) (hkx : κ x = 11) (a0 : Int32) (hU : Iv L κ R ow I) : CtI l yX11_byteAt cX11_byteAt 2 (some .int) { frames := 0, cells := 0, slots := 0, locals := 0 } D cy L κ ln R I J [.ref x, .int a0] (fun r I2 J2 => I = I2 ∧ J = J2 ∧ Rg (-128) 127 r) := by
  refine CtI.of (by decide +kernel) (Nat.le_of_ble_eq_true rfl) ?_
  intro p e s m below meth c B K
  have C := B.1
  obtain ⟨b_500553, hb_500553, hb_500553L, hb_500553k, hb_500553n, hb_500553o⟩ := shp_a (W9 x hLx) hkx 13 13 40 rfl (by decide)
  refine g_lo (is := [0, 1]) (lo2 := [(0, .ref x), (1, .int a0)]) rfl ?_
  refine g_iload_n C 1 dX11_byteAt_0 rfl rfl ?_
  refine g_if_lt C (tgt := 21) dX11_byteAt_1 (by decide) (fun h_500554 => ?_) (fun h_500554 => ?_)
  · skip
    have r_500555 := lt_l (hi := (-1)) (h_500554) (rg_all a0) rc_0 (by decide)
    refine g_iconst C (v := (-1)) dX11_byteAt_21 (by decide) ?_
    exact g_zret (ty := .int) (r := (-1)) B K rfl (rfl) ⟨rfl, rfl, rg_w rc_m1 (by decide) (by decide)⟩ dX11_byteAt_22
  · skip
    have r_500556 := le_r (nlt h_500554) rc_0 (rg_all a0)
    refine g_iload_n C 1 dX11_byteAt_4 rfl rfl ?_
    refine g_aload_n C 0 dX11_byteAt_5 rfl rfl ?_
    obtain ⟨x_500557, hx_500557, rx_500557⟩ := ex_get (I := I) (a := x) (j := 14) (lo := 0) (hi := 40) hU.1 hLx (ro_o hkx (by decide)) rfl
    refine g_getI C K hLx hkx f_11_97 (v := x_500557) hx_500557 dX11_byteAt_6 ?_
    refine g_icmp_ge C (tgt := 21) dX11_byteAt_9 (by decide) (fun h_500558 => ?_) (fun h_500558 => ?_)
    · skip
      refine g_iconst C (v := (-1)) dX11_byteAt_21 (by decide) ?_
      exact g_zret (ty := .int) (r := (-1)) B K rfl (rfl) ⟨rfl, rfl, rg_w rc_m1 (by decide) (by decide)⟩ dX11_byteAt_22
    · skip
      have r_500559 := lt_l (hi := 39) (nle h_500558) r_500556 rx_500557 (by decide)
      have r_500560 := lt_r (lo := 1) (nle h_500558) r_500556 rx_500557 (by decide)
      refine g_aload_n C 0 dX11_byteAt_12 rfl rfl ?_
      refine g_getR C K hLx hkx f_11_93 hb_500553 dX11_byteAt_13 ?_
      refine g_iload_n C 1 dX11_byteAt_16 rfl rfl ?_
      obtain ⟨x_500561, hx_500561, rx_500561⟩ := ex_get (I := I) (a := b_500553) (j := a0.toNatClampNeg) (lo := (-128)) (hi := 127) hU.1 hb_500553L (ro_a hb_500553k (by decide) hb_500553o hkx rfl) (rfl)
      refine h_bald C K hb_500553L hb_500553k (v := x_500561) (a0.toNatClampNeg) (rfl) (ix_0 r_500559 (by decide)) (ix_lt r_500559 (by decide) hb_500553n (by decide)) hx_500561 dX11_byteAt_17 ?_
      refine g_goto C (tgt := 22) dX11_byteAt_18 (by decide) ?_
      exact g_zret (ty := .int) (r := x_500561) B K rfl (rfl) ⟨rfl, rfl, rx_500561⟩ dX11_byteAt_22
set_option maxRecDepth 100000 in
set_option maxHeartbeats 8000000 in
theorem c_X1_draw {l : Launch} {D : va_G} {cy : Nat → ClassId} {L : List Nat} {κ ln : Nat → Nat} {R : Nat → Nat → Option Nat} {I : Nat → Nat → Int32} {J : Nat → Nat → Int64} {ow : Nat → Nat × Nat} (W9 : ∀ a ∈ L, Shp L κ ln R ow a) {x : Nat} (hLx : x ∈ L) (hkx : κ x = 1) (a0 : Int32) (ra0 : Rg 4 6 a0) (hU : Iv L κ R ow I) : CtI l yX1_draw cX1_draw 2 (some .int) { frames := 0, cells := 0, slots := 0, locals := 0 } D cy L κ ln R I J [.ref x, .int a0] (fun r I2 J2 => Iv L κ R ow I2 ∧ Fq L κ ow [113] I I2 ∧ Fq L κ ow [] J J2 ∧ Rg 0 5 r) := by
  refine CtI.of (by decide +kernel) (Nat.le_of_ble_eq_true rfl) ?_
  intro p e s m below meth c B K
  have C := B.1
  have hF : Fq L κ ow [113] I I := fq_rf
  have hG : Fq L κ ow [] J J := fq_rf
  refine g_lo (is := [0, 1]) (lo2 := [(0, .ref x), (1, .int a0)]) rfl ?_
  refine g_aload_n C 0 dX1_draw_0 rfl rfl ?_
  refine g_aload_n C 0 dX1_draw_1 rfl rfl ?_
  obtain ⟨x_500582, hx_500582, rx_500582⟩ := ex_get (I := I) (a := x) (j := 13) (lo := (-2147483648)) (hi := 2147483647) hU.1 hLx (ro_o hkx (by decide)) rfl
  refine g_getI C K hLx hkx f_1_49 (v := x_500582) hx_500582 dX1_draw_2 ?_
  refine g_ldcw C k_SecondHelpings_Course_129 dX1_draw_5 ?_
  obtain ⟨x_500583, hx_500583, rx_500583⟩ := ex_any (z0 := x_500582 * 1103515245)
  refine g_imul C (v := x_500583) dX1_draw_7 hx_500583 ?_
  refine g_sipush C (v := 12345) dX1_draw_8 (by decide) ?_
  obtain ⟨x_500584, hx_500584, rx_500584⟩ := ex_any (z0 := x_500583 + 12345)
  refine g_iadd C (v := x_500584) dX1_draw_11 hx_500584 ?_
  refine h_putI C K hLx hkx f_1_49 p_1_13 dX1_draw_12 (fun I_500585 hI_500585 => ?_)
  have hU_500586 := iv_put W9 hU hI_500585 (ro_o hkx (by decide)) (lo := (-2147483648)) (hi := 2147483647) (rfl) (rx_500584) rfl
  have hF_500587 := fq_puto hF hI_500585 hkx (by decide) (by decide)
  refine g_iload_n C 1 dX1_draw_15 rfl rfl ?_
  refine g_if_le C (tgt := 31) dX1_draw_16 (by decide) (fun h_500588 => ?_) (fun h_500588 => ?_)
  · skip
    have r_500589 := le_l (h_500588) ra0 rc_0
    exact rg_no r_500589 (by decide)
  · skip
    refine g_aload_n C 0 dX1_draw_19 rfl rfl ?_
    refine g_getI C K hLx hkx f_1_49 (v := x_500584) (kp_s hI_500585) dX1_draw_20 ?_
    refine g_bipush C (v := 8) dX1_draw_23 (by decide) ?_
    obtain ⟨x_500590, hx_500590, rx_500590⟩ := ex_ushr8 (x := x_500584)
    refine g_iushr C (v := x_500590) dX1_draw_25 hx_500590 ?_
    refine g_iload_n C 1 dX1_draw_26 rfl rfl ?_
    obtain ⟨x_500591, hx_500591, rx_500591⟩ := ex_rem (b := 16777215) (d := 6) 5 (rx_500590) (rg_w ra0 (by decide) (by decide)) (by decide)
    refine g_irem C (v := x_500591) dX1_draw_27 (rg_ne0 ra0 (by decide)) hx_500591 ?_
    refine g_goto C (tgt := 32) dX1_draw_28 (by decide) ?_
    exact g_zret (ty := .int) (r := x_500591) B K rfl (rfl) ⟨hU_500586, hF_500587, hG, rx_500591⟩ dX1_draw_32
set_option maxRecDepth 100000 in
set_option maxHeartbeats 8000000 in
theorem c_X1_actByDraw {l : Launch} {D : va_G} {cy : Nat → ClassId} {L : List Nat} {κ ln : Nat → Nat} {R : Nat → Nat → Option Nat} {I : Nat → Nat → Int32} {J : Nat → Nat → Int64} {ow : Nat → Nat × Nat} (W9 : ∀ a ∈ L, Shp L κ ln R ow a) {x : Nat} (hLx : x ∈ L) (hkx : κ x = 1) (a0 : Int32) (ra0 : Rg 0 6 a0) (hU : Iv L κ R ow I) : CtV l yX1_actByDraw cX1_actByDraw 3 none { frames := 4, cells := 0, slots := 0, locals := 107 } D cy L κ ln R I J [.ref x, .int a0] (fun I2 J2 => Iv L κ R ow I2 ∧ Fq L κ ow [107, 110, 112, 113, 16100, 16200, 16300, 16400, 16500] I I2 ∧ Fq L κ ow [] J J2) := by
  refine CtV.of (by decide +kernel) (Nat.le_of_ble_eq_true rfl) ?_
  intro p e s m below meth c B K
  have C := B.1
  have hF : Fq L κ ow [107, 110, 112, 113, 16100, 16200, 16300, 16400, 16500] I I := fq_rf
  have hG : Fq L κ ow [] J J := fq_rf
  refine g_lo (is := [0, 1]) (lo2 := [(0, .ref x), (1, .int a0)]) rfl ?_
  refine g_aload_n C 0 dX1_actByDraw_0 rfl rfl ?_
  refine g_bipush C (v := 6) dX1_actByDraw_1 (by decide) ?_
  refine g_callVI C K (c_X1_draw W9 hLx hkx 6 (rg_w rc_6 (by decide) (by decide)) hU) hLx hkx (by decide) rfl v_1_130 rfl ⟨rfl, rfl⟩ ⟨Nat.le_of_ble_eq_true rfl, Nat.le_of_ble_eq_true rfl⟩ (Nat.le_of_ble_eq_true rfl) ⟨Nat.le_of_ble_eq_true rfl, Nat.le_of_ble_eq_true rfl⟩ dX1_actByDraw_3 rfl (st := []) (fun x_500674 I_500675 J_500676 h_500677 => ?_)
  obtain ⟨hUI_500675, hFI_500675, hGJ_500676, rx_500674⟩ := h_500677
  have hF_500678 := fq_tr hF hFI_500675 (by decide)
  have hG_500679 := fq_tr hG hGJ_500676 (by decide)
  refine g_istore_n C dX1_actByDraw_6 rfl (by decide) (lo2 := [(2, .int x_500674), (0, .ref x), (1, .int a0)]) rfl ?_
  refine g_iload_n C 0 dX1_actByDraw_7 rfl rfl ?_
  refine g_if_ne C (tgt := 20) dX1_actByDraw_8 (by decide) (fun h_500680 => ?_) (fun h_500680 => ?_)
  · skip
    have n_500681 : ¬ x_500674 = 0 := h_500680
    have r_500682 := ne_lo (lo := 1) n_500681 rx_500674 rc_0 rfl (by decide)
    refine g_iload_n C 0 dX1_actByDraw_20 rfl rfl ?_
    refine g_iconst C (v := 1) dX1_actByDraw_21 (by decide) ?_
    refine g_icmp_le C (tgt := 33) dX1_actByDraw_22 (by decide) (fun h_500683 => ?_) (fun h_500683 => ?_)
    · skip
      have r_500684 := le_l (h_500683) r_500682 rc_1
      refine g_aload_n C 1 dX1_actByDraw_33 rfl rfl ?_
      refine g_iconst C (v := 4) dX1_actByDraw_34 (by decide) ?_
      refine g_callVI C K (c_X1_draw W9 hLx hkx 4 (rg_w rc_4 (by decide) (by decide)) hUI_500675) hLx hkx (by decide) rfl v_1_130 rfl ⟨rfl, rfl⟩ ⟨Nat.le_of_ble_eq_true rfl, Nat.le_of_ble_eq_true rfl⟩ (Nat.le_of_ble_eq_true rfl) ⟨Nat.le_of_ble_eq_true rfl, Nat.le_of_ble_eq_true rfl⟩ dX1_actByDraw_35 rfl (st := []) (fun x_500685 I_500686 J_500687 h_500688 => ?_)
      obtain ⟨hUI_500686, hFI_500686, hGJ_500687, rx_500685⟩ := h_500688
      have hF_500689 := fq_tr hF_500678 hFI_500686 (by decide)
      have hG_500690 := fq_tr hG_500679 hGJ_500687 (by decide)
      refine g_if_ne C (tgt := 47) dX1_actByDraw_38 (by decide) (fun h_500691 => ?_) (fun h_500691 => ?_)
      · skip
        have n_500692 : ¬ x_500685 = 0 := h_500691
        have r_500693 := ne_lo (lo := 1) n_500692 rx_500685 rc_0 rfl (by decide)
        exact g_vret B K rfl ⟨hUI_500686, hF_500689, hG_500690⟩ dX1_actByDraw_47
      · skip
        have r_500694 := (⟨(rx_500685).1, (eq_rg (h_500691) rc_0).2⟩ : Rg 0 0 x_500685)
        refine g_aload_n C 1 dX1_actByDraw_41 rfl rfl ?_
        refine g_iload_n C 2 dX1_actByDraw_42 rfl rfl ?_
        refine g_callVI C K (c_X1_tryToDie W9 hLx hkx a0 (ra0) hUI_500686) hLx hkx (by decide) rfl v_1_139 rfl ⟨rfl, rfl⟩ ⟨Nat.le_of_ble_eq_true rfl, Nat.le_of_ble_eq_true rfl⟩ (Nat.le_of_ble_eq_true rfl) ⟨Nat.le_of_ble_eq_true rfl, Nat.le_of_ble_eq_true rfl⟩ dX1_actByDraw_43 rfl (st := []) (fun x_500695 I_500696 J_500697 h_500698 => ?_)
        obtain ⟨hUI_500696, hFI_500696, hGJ_500697, rx_500695⟩ := h_500698
        have hF_500699 := fq_tr hF_500689 hFI_500696 (by decide)
        have hG_500700 := fq_tr hG_500690 hGJ_500697 (by decide)
        refine g_pop C dX1_actByDraw_46 rfl ?_
        exact g_vret B K rfl ⟨hUI_500696, hF_500699, hG_500700⟩ dX1_actByDraw_47
    · skip
      have r_500701 := lt_r (lo := 2) (nle h_500683) rc_1 r_500682 (by decide)
      refine g_aload_n C 1 dX1_actByDraw_25 rfl rfl ?_
      refine g_iload_n C 2 dX1_actByDraw_26 rfl rfl ?_
      refine g_callVV C K (c_X1_eatAll W9 hLx hkx a0 (ra0) hUI_500675) hLx hkx (by decide) rfl v_1_136 rfl ⟨rfl, rfl⟩ ⟨Nat.le_of_ble_eq_true rfl, Nat.le_of_ble_eq_true rfl⟩ (Nat.le_of_ble_eq_true rfl) ⟨Nat.le_of_ble_eq_true rfl, Nat.le_of_ble_eq_true rfl⟩ dX1_actByDraw_27 rfl (st := []) (fun I_500703 J_500704 h_500705 => ?_)
      obtain ⟨hUI_500703, hFI_500703, hGJ_500704⟩ := h_500705
      have hF_500706 := fq_tr hF_500678 hFI_500703 (by decide)
      have hG_500707 := fq_tr hG_500679 hGJ_500704 (by decide)
      refine g_goto C (tgt := 47) dX1_actByDraw_30 (by decide) ?_
      exact g_vret B K rfl ⟨hUI_500703, hF_500706, hG_500707⟩ dX1_actByDraw_47
  · skip
    have r_500708 := (⟨(rx_500674).1, (eq_rg (h_500680) rc_0).2⟩ : Rg 0 0 x_500674)
    refine g_aload_n C 1 dX1_actByDraw_11 rfl rfl ?_
    refine g_iload_n C 2 dX1_actByDraw_12 rfl rfl ?_
    refine g_callVI C K (c_X1_tryToRise W9 hLx hkx a0 (ra0) hUI_500675) hLx hkx (by decide) rfl v_1_133 rfl ⟨rfl, rfl⟩ ⟨Nat.le_of_ble_eq_true rfl, Nat.le_of_ble_eq_true rfl⟩ (Nat.le_of_ble_eq_true rfl) ⟨Nat.le_of_ble_eq_true rfl, Nat.le_of_ble_eq_true rfl⟩ dX1_actByDraw_13 rfl (st := []) (fun x_500709 I_500710 J_500711 h_500712 => ?_)
    obtain ⟨hUI_500710, hFI_500710, hGJ_500711, rx_500709⟩ := h_500712
    have hF_500713 := fq_tr hF_500678 hFI_500710 (by decide)
    have hG_500714 := fq_tr hG_500679 hGJ_500711 (by decide)
    refine g_pop C dX1_actByDraw_16 rfl ?_
    refine g_goto C (tgt := 47) dX1_actByDraw_17 (by decide) ?_
    exact g_vret B K rfl ⟨hUI_500710, hF_500713, hG_500714⟩ dX1_actByDraw_47
set_option maxRecDepth 100000 in
set_option maxHeartbeats 8000000 in
theorem c_X1_drawMeals {l : Launch} {D : va_G} {cy : Nat → ClassId} {L : List Nat} {κ ln : Nat → Nat} {R : Nat → Nat → Option Nat} {I : Nat → Nat → Int32} {J : Nat → Nat → Int64} {ow : Nat → Nat × Nat} (W9 : ∀ a ∈ L, Shp L κ ln R ow a) {x : Nat} (hLx : x ∈ L) (hkx : κ x = 1) (a0 : Int32) (a1 : Int32) (ra0 : Rg 1 60 a0) (hU : Iv L κ R ow I) : CtI l yX1_drawMeals cX1_drawMeals 5 (some .int) { frames := 5, cells := 0, slots := 0, locals := 129 } D cy L κ ln R I J [.ref x, .int a0, .int a1] (fun r I2 J2 => Iv L κ R ow I2 ∧ Fq L κ ow [107, 109, 110, 111, 112, 113, 16100, 16200, 16300, 16400, 16500, 16600] I I2 ∧ Fq L κ ow [] J J2 ∧ Rg 0 64 r) := by
  refine CtI.of (by decide +kernel) (Nat.le_of_ble_eq_true rfl) ?_
  intro p e s m below meth c B K
  have C := B.1
  have hF : Fq L κ ow [107, 109, 110, 111, 112, 113, 16100, 16200, 16300, 16400, 16500, 16600] I I := fq_rf
  have hG : Fq L κ ow [] J J := fq_rf
  obtain ⟨b_501620, hb_501620, hb_501620L, hb_501620k⟩ := shp_o (W9 x hLx) hkx 0 8 rfl (by decide)
  refine g_lo (is := [0, 1, 2]) (lo2 := [(0, .ref x), (1, .int a0), (2, .int a1)]) rfl ?_
  have l_7 : ∀ (n_7 : Nat) (I_501621 : Nat → Nat → Int32) (J_501622 : Nat → Nat → Int64) (hU_501623 : Iv L κ R ow I_501621) (hF_501624 : Fq L κ ow [107, 109, 110, 111, 112, 113, 16100, 16200, 16300, 16400, 16500, 16600] I I_501621) (hG_501625 : Fq L κ ow [] J J_501622) (v_501626 : Int32) (rv_501626 : Rg 1 60 v_501626) (v_501627 : Int32) (v_501628 : Int32) (rv_501628 : Rg 0 64 v_501628) (hm_501629 : 64 < (v_501628 : Int32).toInt + (n_7 : Int)), WG p l e { frames := 5, cells := 0, slots := 0, locals := 129 } s m ([.ref x, .int a0, .int a1] : List Value).toArray below meth c 5 0 0 (MQ below (Qi_ D cy L κ ln R (fun r I2 J2 => Iv L κ R ow I2 ∧ Fq L κ ow [107, 109, 110, 111, 112, 113, 16100, 16200, 16300, 16400, 16500, 16600] I I2 ∧ Fq L κ ow [] J J2 ∧ Rg 0 64 r)) ([.ref x, .int a0, .int a1] : List Value).toArray s 0 0 (Al_ L)) D cy (Al_ L) s.heap L κ ln R I_501621 J_501622 7 [(0, .ref x), (1, .int v_501626), (2, .int v_501627), (3, .int v_501628)] [] := by
    intro n_7
    induction n_7 with
    | zero =>
      intro I_501621 J_501622 hU_501623 hF_501624 hG_501625 v_501626 rv_501626 v_501627 v_501628 rv_501628 hm_501629
      exact ms_0 rv_501628 hm_501629
    | succ n_7 ih_7 =>
      intro I_501621 J_501622 hU_501623 hF_501624 hG_501625 v_501626 rv_501626 v_501627 v_501628 rv_501628 hm_501629
      have l_25 : ∀ (n_25 : Nat) (I_501630 : Nat → Nat → Int32) (J_501631 : Nat → Nat → Int64) (hU_501632 : Iv L κ R ow I_501630) (hF_501633 : Fq L κ ow [107, 109, 110, 111, 112, 113, 16100, 16200, 16300, 16400, 16500, 16600] I I_501630) (hG_501634 : Fq L κ ow [] J J_501631) (v_501635 : Int32) (rv_501635 : Rg 1 60 v_501635) (v_501636 : Int32) (v_501637 : Int32) (rv_501637 : Rg 0 63 v_501637) (v_501638 : Int32) (rv_501638 : Rg 0 7 v_501638) (v_501639 : Int32) (rv_501639 : Rg (-2147483648) 199 v_501639) (q_501640 : I_501630 x 9 = v_501639) (hm_501641 : 64 < (v_501637 : Int32).toInt + ((n_7 + 1 : Nat) : Int)) (hm_501642 : 7 < (v_501638 : Int32).toInt + (n_25 : Int)), WG p l e { frames := 5, cells := 0, slots := 0, locals := 129 } s m ([.ref x, .int a0, .int a1] : List Value).toArray below meth c 5 0 0 (MQ below (Qi_ D cy L κ ln R (fun r I2 J2 => Iv L κ R ow I2 ∧ Fq L κ ow [107, 109, 110, 111, 112, 113, 16100, 16200, 16300, 16400, 16500, 16600] I I2 ∧ Fq L κ ow [] J J2 ∧ Rg 0 64 r)) ([.ref x, .int a0, .int a1] : List Value).toArray s 0 0 (Al_ L)) D cy (Al_ L) s.heap L κ ln R I_501630 J_501631 25 [(0, .ref x), (1, .int v_501635), (2, .int v_501636), (3, .int v_501637), (4, .int v_501638)] [] := by
        intro n_25
        induction n_25 with
        | zero =>
          intro I_501630 J_501631 hU_501632 hF_501633 hG_501634 v_501635 rv_501635 v_501636 v_501637 rv_501637 v_501638 rv_501638 v_501639 rv_501639 q_501640 hm_501641 hm_501642
          exact ms_0 rv_501638 hm_501642
        | succ n_25 ih_25 =>
          intro I_501630 J_501631 hU_501632 hF_501633 hG_501634 v_501635 rv_501635 v_501636 v_501637 rv_501637 v_501638 rv_501638 v_501639 rv_501639 q_501640 hm_501641 hm_501642
          have j_52 : ∀ (I_501643 : Nat → Nat → Int32) (J_501644 : Nat → Nat → Int64) (hU_501645 : Iv L κ R ow I_501643) (hF_501646 : Fq L κ ow [107, 109, 110, 111, 112, 113, 16100, 16200, 16300, 16400, 16500, 16600] I I_501643) (hG_501647 : Fq L κ ow [] J J_501644) (v_501648 : Int32) (rv_501648 : Rg 1 60 v_501648) (v_501649 : Int32) (v_501650 : Int32) (rv_501650 : Rg 0 63 v_501650) (v_501651 : Int32) (rv_501651 : Rg 0 6 v_501651) (v_501652 : Int32) (rv_501652 : Rg (-2147483648) 199 v_501652) (v_501653 : Int32) (rv_501653 : Rg 1 7 v_501653) (q_501654 : I_501643 x 9 = v_501652) (q_501655 : I_501643 b_501620 5 = v_501653) (hm_501656 : 64 < (v_501650 : Int32).toInt + ((n_7 + 1 : Nat) : Int)) (hm_501657 : 7 < (v_501651 : Int32).toInt + ((n_25 + 1 : Nat) : Int)), WG p l e { frames := 5, cells := 0, slots := 0, locals := 129 } s m ([.ref x, .int a0, .int a1] : List Value).toArray below meth c 5 0 0 (MQ below (Qi_ D cy L κ ln R (fun r I2 J2 => Iv L κ R ow I2 ∧ Fq L κ ow [107, 109, 110, 111, 112, 113, 16100, 16200, 16300, 16400, 16500, 16600] I I2 ∧ Fq L κ ow [] J J2 ∧ Rg 0 64 r)) ([.ref x, .int a0, .int a1] : List Value).toArray s 0 0 (Al_ L)) D cy (Al_ L) s.heap L κ ln R I_501643 J_501644 52 [(0, .ref x), (1, .int v_501648), (2, .int v_501649), (3, .int v_501650), (4, .int v_501651)] [] := by
            intro I_501643 J_501644 hU_501645 hF_501646 hG_501647 v_501648 rv_501648 v_501649 v_501650 rv_501650 v_501651 rv_501651 v_501652 rv_501652 v_501653 rv_501653 q_501654 q_501655 hm_501656 hm_501657
            obtain ⟨x_501658, hx_501658, rx_501658, tx_501658⟩ := ex_add (y := 1) 1 7 rv_501651 rc_1 (by decide) (by decide) (by decide) (by decide)
            refine g_iinc C dX1_drawMeals_52 (k := 4) (v := x_501658) rfl hx_501658 (by decide) (lo2 := [(4, .int x_501658), (0, .ref x), (1, .int v_501648), (2, .int v_501649), (3, .int v_501650)]) rfl ?_
            refine g_goto C (tgt := 25) dX1_drawMeals_55 (by decide) ?_
            refine g_lo (is := [1, 2, 3, 4, 0]) (lo2 := [(0, .ref x), (1, .int v_501648), (2, .int v_501649), (3, .int v_501650), (4, .int x_501658)]) rfl ?_
            exact ih_25 I_501643 J_501644 hU_501645 hF_501646 hG_501647 v_501648 (rv_501648) v_501649 v_501650 (rv_501650) x_501658 (rg_w rx_501658 (by decide) (by decide)) v_501652 (rv_501652) q_501654 hm_501656 (ms_1 hm_501657 (ti_k tx_501658 rc_1) (by decide))
          refine g_iload C 4 dX1_drawMeals_25 rfl ?_
          refine g_aload_n C 0 dX1_drawMeals_27 rfl rfl ?_
          refine g_getR C K hLx hkx f_1_52 hb_501620 dX1_drawMeals_28 ?_
          obtain ⟨x_501659, hx_501659, rx_501659⟩ := ex_get (I := I_501630) (a := b_501620) (j := 5) (lo := 0) (hi := 7) hU_501632.1 hb_501620L (ro_o hb_501620k (by decide)) rfl
          refine g_getI C K hb_501620L hb_501620k f_1_68 (v := x_501659) hx_501659 dX1_drawMeals_31 ?_
          refine g_icmp_ge C (tgt := 58) dX1_drawMeals_34 (by decide) (fun h_501660 => ?_) (fun h_501660 => ?_)
          · skip
            refine g_aload_n C 0 dX1_drawMeals_58 rfl rfl ?_
            refine g_callVV C K (c_X1_endMeal W9 hLx hkx   hU_501632) hLx hkx (by decide) rfl v_1_126 rfl ⟨rfl, rfl⟩ ⟨Nat.le_of_ble_eq_true rfl, Nat.le_of_ble_eq_true rfl⟩ (Nat.le_of_ble_eq_true rfl) ⟨Nat.le_of_ble_eq_true rfl, Nat.le_of_ble_eq_true rfl⟩ dX1_drawMeals_59 rfl (st := []) (fun I_501662 J_501663 h_501664 => ?_)
            obtain ⟨hUI_501662, hFI_501662, hGJ_501663⟩ := h_501664
            have hF_501665 := fq_tr hF_501633 hFI_501662 (by decide)
            have hG_501666 := fq_tr hG_501634 hGJ_501663 (by decide)
            obtain ⟨x_501667, hx_501667, rx_501667, tx_501667⟩ := ex_add (y := 1) 1 64 rv_501637 rc_1 (by decide) (by decide) (by decide) (by decide)
            refine g_iinc C dX1_drawMeals_62 (k := 3) (v := x_501667) rfl hx_501667 (by decide) (lo2 := [(3, .int x_501667), (0, .ref x), (1, .int v_501635), (2, .int v_501636), (4, .int v_501638)]) rfl ?_
            refine g_goto C (tgt := 7) dX1_drawMeals_65 (by decide) ?_
            refine g_lo (is := [1, 2, 3, 0]) (lo2 := [(0, .ref x), (1, .int v_501635), (2, .int v_501636), (3, .int x_501667)]) rfl ?_
            exact ih_7 I_501662 J_501663 hUI_501662 hF_501665 hG_501666 v_501635 (rv_501635) v_501636 x_501667 (rg_w rx_501667 (by decide) (by decide)) (ms_1 hm_501641 (ti_k tx_501667 rc_1) (by decide))
          · skip
            have r_501668 := lt_l (hi := 6) (nle h_501660) rv_501638 rx_501659 (by decide)
            have r_501669 := lt_r (lo := 1) (nle h_501660) rv_501638 rx_501659 (by decide)
            refine g_aload_n C 0 dX1_drawMeals_37 rfl rfl ?_
            refine g_iload C 4 dX1_drawMeals_38 rfl ?_
            refine g_callVI C K (c_X1_lives W9 hLx hkx v_501638 (r_501668) hU_501632) hLx hkx (by decide) rfl v_1_115 rfl ⟨rfl, rfl⟩ ⟨Nat.le_of_ble_eq_true rfl, Nat.le_of_ble_eq_true rfl⟩ (Nat.le_of_ble_eq_true rfl) ⟨Nat.le_of_ble_eq_true rfl, Nat.le_of_ble_eq_true rfl⟩ dX1_drawMeals_40 rfl (st := []) (fun x_501670 I_501671 J_501672 h_501673 => ?_)
            obtain ⟨rfl, rfl, rx_501670⟩ := h_501673
            refine g_if_eq C (tgt := 52) dX1_drawMeals_43 (by decide) (fun h_501674 => ?_) (fun h_501674 => ?_)
            · skip
              have r_501675 := (⟨(rx_501670).1, (eq_rg (h_501674) rc_0).2⟩ : Rg 0 0 x_501670)
              refine g_lo (is := [0, 1, 2, 3, 4]) (lo2 := [(0, .ref x), (1, .int v_501635), (2, .int v_501636), (3, .int v_501637), (4, .int v_501638)]) rfl ?_
              exact j_52 I_501630 J_501631 hU_501632 hF_501633 hG_501634 v_501635 (rv_501635) v_501636 v_501637 (rv_501637) v_501638 (r_501668) v_501639 (rv_501639) x_501659 (r_501669) q_501640 hx_501659 hm_501641 hm_501642
            · skip
              have n_501676 : ¬ x_501670 = 0 := h_501674
              have r_501677 := ne_lo (lo := 1) n_501676 rx_501670 rc_0 rfl (by decide)
              refine g_aload_n C 0 dX1_drawMeals_46 rfl rfl ?_
              refine g_iload C 4 dX1_drawMeals_47 rfl ?_
              refine g_callVV C K (c_X1_actByDraw W9 hLx hkx v_501638 (r_501668) hU_501632) hLx hkx (by decide) rfl v_1_142 rfl ⟨rfl, rfl⟩ ⟨Nat.le_of_ble_eq_true rfl, Nat.le_of_ble_eq_true rfl⟩ (Nat.le_of_ble_eq_true rfl) ⟨Nat.le_of_ble_eq_true rfl, Nat.le_of_ble_eq_true rfl⟩ dX1_drawMeals_49 rfl (st := []) (fun I_501679 J_501680 h_501681 => ?_)
              obtain ⟨hUI_501679, hFI_501679, hGJ_501680⟩ := h_501681
              have hF_501682 := fq_tr hF_501633 hFI_501679 (by decide)
              have hG_501683 := fq_tr hG_501634 hGJ_501680 (by decide)
              refine g_lo (is := [0, 1, 2, 3, 4]) (lo2 := [(0, .ref x), (1, .int v_501635), (2, .int v_501636), (3, .int v_501637), (4, .int v_501638)]) rfl ?_
              exact j_52 I_501679 J_501680 hUI_501679 hF_501682 hG_501683 v_501635 (rv_501635) v_501636 v_501637 (rv_501637) v_501638 (r_501668) v_501639 (rv_501639) x_501659 (r_501669) (fq_at hFI_501679 hLx hkx (by decide) (by decide) q_501640) (fq_at hFI_501679 hb_501620L hb_501620k (by decide) (by decide) hx_501659) hm_501641 hm_501642
      refine g_iload_n C 3 dX1_drawMeals_7 rfl rfl ?_
      refine g_iload_n C 1 dX1_drawMeals_8 rfl rfl ?_
      refine g_icmp_ge C (tgt := 68) dX1_drawMeals_9 (by decide) (fun h_501684 => ?_) (fun h_501684 => ?_)
      · skip
        have r_501685 := le_r (h_501684) rv_501626 rv_501628
        refine g_iload_n C 3 dX1_drawMeals_68 rfl rfl ?_
        exact g_zret (ty := .int) (r := v_501628) B K rfl (rfl) ⟨hU_501623, hF_501624, hG_501625, rg_w r_501685 (by decide) (by decide)⟩ dX1_drawMeals_69
      · skip
        have r_501686 := lt_l (hi := 59) (nle h_501684) rv_501628 rv_501626 (by decide)
        refine g_aload_n C 0 dX1_drawMeals_12 rfl rfl ?_
        obtain ⟨x_501687, hx_501687, rx_501687⟩ := ex_get (I := I_501621) (a := x) (j := 9) (lo := (-2147483648)) (hi := 2147483647) hU_501623.1 hLx (ro_o hkx (by decide)) rfl
        refine g_getI C K hLx hkx f_1_37 (v := x_501687) hx_501687 dX1_drawMeals_13 ?_
        refine g_sipush C (v := 200) dX1_drawMeals_16 (by decide) ?_
        refine g_icmp_ge C (tgt := 68) dX1_drawMeals_19 (by decide) (fun h_501688 => ?_) (fun h_501688 => ?_)
        · skip
          have r_501689 := le_r (h_501688) rc_200 rx_501687
          refine g_iload_n C 3 dX1_drawMeals_68 rfl rfl ?_
          exact g_zret (ty := .int) (r := v_501628) B K rfl (rfl) ⟨hU_501623, hF_501624, hG_501625, rg_w r_501686 (by decide) (by decide)⟩ dX1_drawMeals_69
        · skip
          have r_501690 := lt_l (hi := 199) (nle h_501688) rx_501687 rc_200 (by decide)
          refine g_iconst C (v := 0) dX1_drawMeals_22 (by decide) ?_
          refine g_istore C dX1_drawMeals_23 (by decide) (lo2 := [(4, .int 0), (0, .ref x), (1, .int v_501626), (2, .int v_501627), (3, .int v_501628)]) rfl ?_
          refine g_lo (is := [1, 2, 3, 4, 0]) (lo2 := [(0, .ref x), (1, .int v_501626), (2, .int v_501627), (3, .int v_501628), (4, .int 0)]) rfl ?_
          exact l_25 8 I_501621 J_501622 hU_501623 hF_501624 hG_501625 v_501626 (rv_501626) v_501627 v_501628 (rg_w r_501686 (by decide) (by decide)) 0 (rg_w rc_0 (by decide) (by decide)) x_501687 (r_501690) hx_501687 hm_501629 (ms_s (a := 0) (b := 7) (N := 8) (rg_w rc_0 (by decide) (by decide)) (by decide))
  refine g_aload_n C 0 dX1_drawMeals_0 rfl rfl ?_
  refine g_iload_n C 2 dX1_drawMeals_1 rfl rfl ?_
  refine h_putI C K hLx hkx f_1_49 p_1_13 dX1_drawMeals_2 (fun I_501691 hI_501691 => ?_)
  have hU_501692 := iv_put W9 hU hI_501691 (ro_o hkx (by decide)) (lo := (-2147483648)) (hi := 2147483647) (rfl) ((rg_all a1)) rfl
  have hF_501693 := fq_puto hF hI_501691 hkx (by decide) (by decide)
  refine g_iconst C (v := 0) dX1_drawMeals_5 (by decide) ?_
  refine g_istore_n C dX1_drawMeals_6 rfl (by decide) (lo2 := [(3, .int 0), (0, .ref x), (1, .int a0), (2, .int a1)]) rfl ?_
  refine g_lo (is := [1, 2, 3, 0]) (lo2 := [(0, .ref x), (1, .int a0), (2, .int a1), (3, .int 0)]) rfl ?_
  exact l_7 65 I_501691 J hU_501692 hF_501693 hG a0 (ra0) a1 0 (rg_w rc_0 (by decide) (by decide)) (ms_s (a := 0) (b := 64) (N := 65) (rg_w rc_0 (by decide) (by decide)) (by decide))
set_option maxRecDepth 100000 in
set_option maxHeartbeats 8000000 in
theorem c_X11_drawn {l : Launch} {D : va_G} {cy : Nat → ClassId} {L : List Nat} {κ ln : Nat → Nat} {R : Nat → Nat → Option Nat} {I : Nat → Nat → Int32} {J : Nat → Nat → Int64} {ow : Nat → Nat × Nat} (W9 : ∀ a ∈ L, Shp L κ ln R ow a) {x : Nat} (hLx : x ∈ L) (hkx : κ x = 11) (a0 : Int32) (a1 : Int32) (hU : Iv L κ R ow I) : CtI l yX11_drawn cX11_drawn 3 (some .int) { frames := 6, cells := 0, slots := 0, locals := 153 } D cy L κ ln R I J [.ref x, .int a0, .int a1] (fun r I2 J2 => Iv L κ R ow I2 ∧ Fq L κ ow [107, 108, 109, 110, 111, 112, 113, 501, 502, 16100, 16200, 16300, 16400, 16500, 16600] I I2 ∧ Fq L κ ow [] J J2 ∧ Rg (-1) 2147483647 r) := by
  refine CtI.of (by decide +kernel) (Nat.le_of_ble_eq_true rfl) ?_
  intro p e s m below meth c B K
  have C := B.1
  have hF : Fq L κ ow [107, 108, 109, 110, 111, 112, 113, 501, 502, 16100, 16200, 16300, 16400, 16500, 16600] I I := fq_rf
  have hG : Fq L κ ow [] J J := fq_rf
  obtain ⟨b_501758, hb_501758, hb_501758L, hb_501758k⟩ := shp_o (W9 x hLx) hkx 4 5 rfl (by decide)
  obtain ⟨b_501759, hb_501759, hb_501759L, hb_501759k⟩ := shp_o (W9 x hLx) hkx 1 8 rfl (by decide)
  obtain ⟨b_501760, hb_501760, hb_501760L, hb_501760k⟩ := shp_o (W9 x hLx) hkx 2 1 rfl (by decide)
  refine g_lo (is := [0, 1, 2]) (lo2 := [(0, .ref x), (1, .int a0), (2, .int a1)]) rfl ?_
  refine g_iload_n C 1 dX11_drawn_0 rfl rfl ?_
  refine g_iconst C (v := 1) dX11_drawn_1 (by decide) ?_
  refine g_icmp_lt C (tgt := 21) dX11_drawn_2 (by decide) (fun h_501761 => ?_) (fun h_501761 => ?_)
  · skip
    have r_501762 := lt_l (hi := 0) (h_501761) (rg_all a0) rc_1 (by decide)
    refine g_iconst C (v := (-1)) dX11_drawn_21 (by decide) ?_
    exact g_zret (ty := .int) (r := (-1)) B K rfl (rfl) ⟨hU, hF, hG, rg_w rc_m1 (by decide) (by decide)⟩ dX11_drawn_22
  · skip
    have r_501763 := le_r (nlt h_501761) rc_1 (rg_all a0)
    refine g_iload_n C 1 dX11_drawn_5 rfl rfl ?_
    refine g_bipush C (v := 60) dX11_drawn_6 (by decide) ?_
    refine g_icmp_gt C (tgt := 21) dX11_drawn_8 (by decide) (fun h_501764 => ?_) (fun h_501764 => ?_)
    · skip
      have r_501765 := lt_r (lo := 61) (h_501764) rc_60 r_501763 (by decide)
      refine g_iconst C (v := (-1)) dX11_drawn_21 (by decide) ?_
      exact g_zret (ty := .int) (r := (-1)) B K rfl (rfl) ⟨hU, hF, hG, rg_w rc_m1 (by decide) (by decide)⟩ dX11_drawn_22
    · skip
      have r_501766 := le_l (nlt h_501764) r_501763 rc_60
      refine g_aload_n C 0 dX11_drawn_11 rfl rfl ?_
      refine g_getR C K hLx hkx f_11_19 hb_501759 dX11_drawn_12 ?_
      obtain ⟨x_501767, hx_501767, rx_501767⟩ := ex_get (I := I) (a := b_501759) (j := 5) (lo := 0) (hi := 7) hU.1 hb_501759L (ro_o hb_501759k (by decide)) rfl
      refine g_getI C K hb_501759L hb_501759k f_11_213 (v := x_501767) hx_501767 dX11_drawn_15 ?_
      refine g_if_ne C (tgt := 23) dX11_drawn_18 (by decide) (fun h_501768 => ?_) (fun h_501768 => ?_)
      · skip
        have n_501769 : ¬ x_501767 = 0 := h_501768
        have r_501770 := ne_lo (lo := 1) n_501769 rx_501767 rc_0 rfl (by decide)
        refine g_aload_n C 0 dX11_drawn_23 rfl rfl ?_
        refine g_getR C K hLx hkx f_11_38 hb_501758 dX11_drawn_24 ?_
        refine g_aload_n C 0 dX11_drawn_27 rfl rfl ?_
        refine g_getR C K hLx hkx f_11_28 hb_501760 dX11_drawn_28 ?_
        refine g_callVV C K (c_X5_note W9 hb_501758L hb_501758k hb_501760L hb_501760k  hU) hb_501758L hb_501758k (by decide) rfl v_11_225 rfl ⟨rfl, rfl⟩ ⟨Nat.le_of_ble_eq_true rfl, Nat.le_of_ble_eq_true rfl⟩ (Nat.le_of_ble_eq_true rfl) ⟨Nat.le_of_ble_eq_true rfl, Nat.le_of_ble_eq_true rfl⟩ dX11_drawn_31 rfl (st := []) (fun I_501772 J_501773 h_501774 => ?_)
        obtain ⟨hUI_501772, hFI_501772, hGJ_501773⟩ := h_501774
        have hF_501775 := fq_tr hF hFI_501772 (by decide)
        have hG_501776 := fq_tr hG hGJ_501773 (by decide)
        refine g_aload_n C 0 dX11_drawn_34 rfl rfl ?_
        refine g_aload_n C 0 dX11_drawn_35 rfl rfl ?_
        refine g_getR C K hLx hkx f_11_28 hb_501760 dX11_drawn_36 ?_
        refine g_iload_n C 1 dX11_drawn_39 rfl rfl ?_
        refine g_iload_n C 2 dX11_drawn_40 rfl rfl ?_
        refine g_callVI C K (c_X1_drawMeals W9 hb_501760L hb_501760k a0 a1 (r_501766) hUI_501772) hb_501760L hb_501760k (by decide) rfl v_11_337 rfl ⟨rfl, rfl⟩ ⟨Nat.le_of_ble_eq_true rfl, Nat.le_of_ble_eq_true rfl⟩ (Nat.le_of_ble_eq_true rfl) ⟨Nat.le_of_ble_eq_true rfl, Nat.le_of_ble_eq_true rfl⟩ dX11_drawn_41 rfl (st := [.ref x]) (fun x_501777 I_501778 J_501779 h_501780 => ?_)
        obtain ⟨hUI_501778, hFI_501778, hGJ_501779, rx_501777⟩ := h_501780
        have hF_501781 := fq_tr hF_501775 hFI_501778 (by decide)
        have hG_501782 := fq_tr hG_501776 hGJ_501779 (by decide)
        refine g_callVI C K (c_X11_keptIfAny W9 hLx hkx x_501777 (rg_w rx_501777 (by decide) (by decide)) hUI_501778) hLx hkx (by decide) rfl v_11_253 rfl ⟨rfl, rfl⟩ ⟨Nat.le_of_ble_eq_true rfl, Nat.le_of_ble_eq_true rfl⟩ (Nat.le_of_ble_eq_true rfl) ⟨Nat.le_of_ble_eq_true rfl, Nat.le_of_ble_eq_true rfl⟩ dX11_drawn_44 rfl (st := []) (fun x_501783 I_501784 J_501785 h_501786 => ?_)
        obtain ⟨hUI_501784, hFI_501784, hGJ_501785, rx_501783⟩ := h_501786
        have hF_501787 := fq_tr hF_501781 hFI_501784 (by decide)
        have hG_501788 := fq_tr hG_501782 hGJ_501785 (by decide)
        exact g_zret (ty := .int) (r := x_501783) B K rfl (rfl) ⟨hUI_501784, hF_501787, hG_501788, rg_w rx_501783 (by decide) (by decide)⟩ dX11_drawn_47
      · skip
        have r_501789 := (⟨(rx_501767).1, (eq_rg (h_501768) rc_0).2⟩ : Rg 0 0 x_501767)
        refine g_iconst C (v := (-1)) dX11_drawn_21 (by decide) ?_
        exact g_zret (ty := .int) (r := (-1)) B K rfl (rfl) ⟨hU, hF, hG, rg_w rc_m1 (by decide) (by decide)⟩ dX11_drawn_22
set_option maxRecDepth 100000 in
set_option maxHeartbeats 8000000 in
theorem c_X11_odds {l : Launch} {D : va_G} {cy : Nat → ClassId} {L : List Nat} {κ ln : Nat → Nat} {R : Nat → Nat → Option Nat} {I : Nat → Nat → Int32} {J : Nat → Nat → Int64} {ow : Nat → Nat × Nat} (W9 : ∀ a ∈ L, Shp L κ ln R ow a) {x : Nat} (hLx : x ∈ L) (hkx : κ x = 11) (a0 : Int32) (a1 : Int32) (a2 : Int32) (hU : Iv L κ R ow I) : CtI l yX11_odds cX11_odds 6 (some .int) { frames := 6, cells := 0, slots := 0, locals := 153 } D cy L κ ln R I J [.ref x, .int a0, .int a1, .int a2] (fun r I2 J2 => Iv L κ R ow I2 ∧ Fq L κ ow [107, 108, 109, 110, 111, 112, 113, 16100, 16200, 16300, 16400, 16500, 16600] I I2 ∧ Fq L κ ow [] J J2 ∧ Rg (-2147483648) 2147483647 r) := by
  refine CtI.of (by decide +kernel) (Nat.le_of_ble_eq_true rfl) ?_
  intro p e s m below meth c B K
  have C := B.1
  have hF : Fq L κ ow [107, 108, 109, 110, 111, 112, 113, 16100, 16200, 16300, 16400, 16500, 16600] I I := fq_rf
  have hG : Fq L κ ow [] J J := fq_rf
  obtain ⟨b_503276, hb_503276, hb_503276L, hb_503276k⟩ := shp_o (W9 x hLx) hkx 3 1 rfl (by decide)
  obtain ⟨b_503277, hb_503277, hb_503277L, hb_503277k⟩ := shp_o (W9 x hLx) hkx 1 8 rfl (by decide)
  obtain ⟨b_503278, hb_503278, hb_503278L, hb_503278k⟩ := shp_o (W9 x hLx) hkx 2 1 rfl (by decide)
  refine g_lo (is := [0, 1, 2, 3]) (lo2 := [(0, .ref x), (1, .int a0), (2, .int a1), (3, .int a2)]) rfl ?_
  have l_30 : ∀ (n_30 : Nat) (I_503279 : Nat → Nat → Int32) (J_503280 : Nat → Nat → Int64) (hU_503281 : Iv L κ R ow I_503279) (hF_503282 : Fq L κ ow [107, 108, 109, 110, 111, 112, 113, 16100, 16200, 16300, 16400, 16500, 16600] I I_503279) (hG_503283 : Fq L κ ow [] J J_503280) (v_503284 : Int32) (rv_503284 : Rg 0 6 v_503284) (v_503285 : Int32) (rv_503285 : Rg 1 30 v_503285) (v_503286 : Int32) (v_503287 : Int32) (v_503288 : Int32) (rv_503288 : Rg 0 30 v_503288) (hm_503289 : 30 < (v_503288 : Int32).toInt + (n_30 : Int)), WG p l e { frames := 6, cells := 0, slots := 0, locals := 153 } s m ([.ref x, .int a0, .int a1, .int a2] : List Value).toArray below meth c 6 0 0 (MQ below (Qi_ D cy L κ ln R (fun r I2 J2 => Iv L κ R ow I2 ∧ Fq L κ ow [107, 108, 109, 110, 111, 112, 113, 16100, 16200, 16300, 16400, 16500, 16600] I I2 ∧ Fq L κ ow [] J J2 ∧ Rg (-2147483648) 2147483647 r)) ([.ref x, .int a0, .int a1, .int a2] : List Value).toArray s 0 0 (Al_ L)) D cy (Al_ L) s.heap L κ ln R I_503279 J_503280 30 [(0, .ref x), (1, .int v_503284), (2, .int v_503285), (3, .int v_503286), (4, .int v_503287), (5, .int v_503288)] [] := by
    intro n_30
    induction n_30 with
    | zero =>
      intro I_503279 J_503280 hU_503281 hF_503282 hG_503283 v_503284 rv_503284 v_503285 rv_503285 v_503286 v_503287 v_503288 rv_503288 hm_503289
      exact ms_0 rv_503288 hm_503289
    | succ n_30 ih_30 =>
      intro I_503279 J_503280 hU_503281 hF_503282 hG_503283 v_503284 rv_503284 v_503285 rv_503285 v_503286 v_503287 v_503288 rv_503288 hm_503289
      have j_75 : ∀ (I_503290 : Nat → Nat → Int32) (J_503291 : Nat → Nat → Int64) (hU_503292 : Iv L κ R ow I_503290) (hF_503293 : Fq L κ ow [107, 108, 109, 110, 111, 112, 113, 16100, 16200, 16300, 16400, 16500, 16600] I I_503290) (hG_503294 : Fq L κ ow [] J J_503291) (v_503295 : Int32) (rv_503295 : Rg 0 6 v_503295) (v_503296 : Int32) (rv_503296 : Rg 1 30 v_503296) (v_503297 : Int32) (v_503298 : Int32) (v_503299 : Int32) (rv_503299 : Rg 0 29 v_503299) (hm_503300 : 30 < (v_503299 : Int32).toInt + ((n_30 + 1 : Nat) : Int)), WG p l e { frames := 6, cells := 0, slots := 0, locals := 153 } s m ([.ref x, .int a0, .int a1, .int a2] : List Value).toArray below meth c 6 0 0 (MQ below (Qi_ D cy L κ ln R (fun r I2 J2 => Iv L κ R ow I2 ∧ Fq L κ ow [107, 108, 109, 110, 111, 112, 113, 16100, 16200, 16300, 16400, 16500, 16600] I I2 ∧ Fq L κ ow [] J J2 ∧ Rg (-2147483648) 2147483647 r)) ([.ref x, .int a0, .int a1, .int a2] : List Value).toArray s 0 0 (Al_ L)) D cy (Al_ L) s.heap L κ ln R I_503290 J_503291 75 [(0, .ref x), (1, .int v_503295), (2, .int v_503296), (3, .int v_503297), (4, .int v_503298), (5, .int v_503299)] [] := by
        intro I_503290 J_503291 hU_503292 hF_503293 hG_503294 v_503295 rv_503295 v_503296 rv_503296 v_503297 v_503298 v_503299 rv_503299 hm_503300
        obtain ⟨x_503301, hx_503301, rx_503301, tx_503301⟩ := ex_add (y := 1) 1 30 rv_503299 rc_1 (by decide) (by decide) (by decide) (by decide)
        refine g_iinc C dX11_odds_75 (k := 5) (v := x_503301) rfl hx_503301 (by decide) (lo2 := [(5, .int x_503301), (0, .ref x), (1, .int v_503295), (2, .int v_503296), (3, .int v_503297), (4, .int v_503298)]) rfl ?_
        refine g_goto C (tgt := 30) dX11_odds_78 (by decide) ?_
        refine g_lo (is := [1, 2, 3, 4, 5, 0]) (lo2 := [(0, .ref x), (1, .int v_503295), (2, .int v_503296), (3, .int v_503297), (4, .int v_503298), (5, .int x_503301)]) rfl ?_
        exact ih_30 I_503290 J_503291 hU_503292 hF_503293 hG_503294 v_503295 (rv_503295) v_503296 (rv_503296) v_503297 v_503298 x_503301 (rg_w rx_503301 (by decide) (by decide)) (ms_1 hm_503300 (ti_k tx_503301 rc_1) (by decide))
      refine g_iload C 5 dX11_odds_30 rfl ?_
      refine g_iload_n C 2 dX11_odds_32 rfl rfl ?_
      refine g_icmp_ge C (tgt := 81) dX11_odds_33 (by decide) (fun h_503302 => ?_) (fun h_503302 => ?_)
      · skip
        have r_503303 := le_r (h_503302) rv_503285 rv_503288
        refine g_iload C 4 dX11_odds_81 rfl ?_
        exact g_zret (ty := .int) (r := v_503287) B K rfl (rfl) ⟨hU_503281, hF_503282, hG_503283, (rg_all v_503287)⟩ dX11_odds_83
      · skip
        have r_503304 := lt_l (hi := 29) (nle h_503302) rv_503288 rv_503285 (by decide)
        refine g_aload_n C 0 dX11_odds_36 rfl rfl ?_
        refine g_getR C K hLx hkx f_11_32 hb_503276 dX11_odds_37 ?_
        refine g_aload_n C 0 dX11_odds_40 rfl rfl ?_
        refine g_getR C K hLx hkx f_11_28 hb_503278 dX11_odds_41 ?_
        refine g_callVV C K (c_X1_become W9 hb_503276L hb_503276k hb_503278L hb_503278k  hU_503281) hb_503276L hb_503276k (by decide) rfl v_11_126 rfl ⟨rfl, rfl⟩ ⟨Nat.le_of_ble_eq_true rfl, Nat.le_of_ble_eq_true rfl⟩ (Nat.le_of_ble_eq_true rfl) ⟨Nat.le_of_ble_eq_true rfl, Nat.le_of_ble_eq_true rfl⟩ dX11_odds_44 rfl (st := []) (fun I_503306 J_503307 h_503308 => ?_)
        obtain ⟨hUI_503306, hFI_503306, hGJ_503307⟩ := h_503308
        have hF_503309 := fq_tr hF_503282 hFI_503306 (by decide)
        have hG_503310 := fq_tr hG_503283 hGJ_503307 (by decide)
        refine g_aload_n C 0 dX11_odds_47 rfl rfl ?_
        refine g_getR C K hLx hkx f_11_32 hb_503276 dX11_odds_48 ?_
        refine g_bipush C (v := 10) dX11_odds_51 (by decide) ?_
        refine g_iload_n C 3 dX11_odds_53 rfl rfl ?_
        refine g_iload C 5 dX11_odds_54 rfl ?_
        obtain ⟨x_503311, hx_503311, rx_503311⟩ := ex_any (z0 := v_503286 + v_503288)
        refine g_iadd C (v := x_503311) dX11_odds_56 hx_503311 ?_
        refine g_callVI C K (c_X1_drawMeals W9 hb_503276L hb_503276k 10 x_503311 (rg_w rc_10 (by decide) (by decide)) hUI_503306) hb_503276L hb_503276k (by decide) rfl v_11_337 rfl ⟨rfl, rfl⟩ ⟨Nat.le_of_ble_eq_true rfl, Nat.le_of_ble_eq_true rfl⟩ (Nat.le_of_ble_eq_true rfl) ⟨Nat.le_of_ble_eq_true rfl, Nat.le_of_ble_eq_true rfl⟩ dX11_odds_57 rfl (st := []) (fun x_503312 I_503313 J_503314 h_503315 => ?_)
        obtain ⟨hUI_503313, hFI_503313, hGJ_503314, rx_503312⟩ := h_503315
        have hF_503316 := fq_tr hF_503309 hFI_503313 (by decide)
        have hG_503317 := fq_tr hG_503310 hGJ_503314 (by decide)
        refine g_pop C dX11_odds_60 rfl ?_
        refine g_aload_n C 0 dX11_odds_61 rfl rfl ?_
        refine g_getR C K hLx hkx f_11_32 hb_503276 dX11_odds_62 ?_
        refine g_iload_n C 1 dX11_odds_65 rfl rfl ?_
        refine g_callVI C K (c_X1_lives W9 hb_503276L hb_503276k v_503284 (rv_503284) hUI_503313) hb_503276L hb_503276k (by decide) rfl v_11_301 rfl ⟨rfl, rfl⟩ ⟨Nat.le_of_ble_eq_true rfl, Nat.le_of_ble_eq_true rfl⟩ (Nat.le_of_ble_eq_true rfl) ⟨Nat.le_of_ble_eq_true rfl, Nat.le_of_ble_eq_true rfl⟩ dX11_odds_66 rfl (st := []) (fun x_503318 I_503319 J_503320 h_503321 => ?_)
        obtain ⟨rfl, rfl, rx_503318⟩ := h_503321
        refine g_if_eq C (tgt := 75) dX11_odds_69 (by decide) (fun h_503322 => ?_) (fun h_503322 => ?_)
        · skip
          have r_503323 := (⟨(rx_503318).1, (eq_rg (h_503322) rc_0).2⟩ : Rg 0 0 x_503318)
          refine g_lo (is := [0, 1, 2, 3, 4, 5]) (lo2 := [(0, .ref x), (1, .int v_503284), (2, .int v_503285), (3, .int v_503286), (4, .int v_503287), (5, .int v_503288)]) rfl ?_
          exact j_75 I_503313 J_503314 hUI_503313 hF_503316 hG_503317 v_503284 (rv_503284) v_503285 (rv_503285) v_503286 v_503287 v_503288 (r_503304) hm_503289
        · skip
          have n_503324 : ¬ x_503318 = 0 := h_503322
          have r_503325 := ne_lo (lo := 1) n_503324 rx_503318 rc_0 rfl (by decide)
          obtain ⟨x_503326, hx_503326, rx_503326⟩ := ex_any (z0 := v_503287 + 1)
          refine g_iinc C dX11_odds_72 (k := 4) (v := x_503326) rfl hx_503326 (by decide) (lo2 := [(4, .int x_503326), (0, .ref x), (1, .int v_503284), (2, .int v_503285), (3, .int v_503286), (5, .int v_503288)]) rfl ?_
          refine g_lo (is := [1, 2, 3, 4, 0, 5]) (lo2 := [(0, .ref x), (1, .int v_503284), (2, .int v_503285), (3, .int v_503286), (4, .int x_503326), (5, .int v_503288)]) rfl ?_
          exact j_75 I_503313 J_503314 hUI_503313 hF_503316 hG_503317 v_503284 (rv_503284) v_503285 (rv_503285) v_503286 x_503326 v_503288 (r_503304) hm_503289
  refine g_aload_n C 0 dX11_odds_0 rfl rfl ?_
  refine g_getR C K hLx hkx f_11_19 hb_503277 dX11_odds_1 ?_
  refine g_iload_n C 1 dX11_odds_4 rfl rfl ?_
  refine g_callVI C K (c_X8_hasPerson W9 hb_503277L hb_503277k a0  hU) hb_503277L hb_503277k (by decide) rfl v_11_133 rfl ⟨rfl, rfl⟩ ⟨Nat.le_of_ble_eq_true rfl, Nat.le_of_ble_eq_true rfl⟩ (Nat.le_of_ble_eq_true rfl) ⟨Nat.le_of_ble_eq_true rfl, Nat.le_of_ble_eq_true rfl⟩ dX11_odds_5 rfl (st := []) (fun x_503327 I_503328 J_503329 h_503330 => ?_)
  obtain ⟨rfl, rfl, rx_503327, ex_503327⟩ := h_503330
  refine g_if_eq C (tgt := 22) dX11_odds_8 (by decide) (fun h_503331 => ?_) (fun h_503331 => ?_)
  · skip
    have r_503332 := (⟨(rx_503327).1, (eq_rg (h_503331) rc_0).2⟩ : Rg 0 0 x_503327)
    refine g_iconst C (v := (-1)) dX11_odds_22 (by decide) ?_
    exact g_zret (ty := .int) (r := (-1)) B K rfl (rfl) ⟨hU, hF, hG, rg_all _⟩ dX11_odds_23
  · skip
    have n_503333 : ¬ x_503327 = 0 := h_503331
    have r_503334 := ne_lo (lo := 1) n_503333 rx_503327 rc_0 rfl (by decide)
    have r_503335 := rg_i (rg_all a0) ((ex_503327) (rg_nz r_503334 (by decide))) (lo := 0) (hi := 6) (by decide) (by decide)
    refine g_iload_n C 2 dX11_odds_11 rfl rfl ?_
    refine g_iconst C (v := 1) dX11_odds_12 (by decide) ?_
    refine g_icmp_lt C (tgt := 22) dX11_odds_13 (by decide) (fun h_503336 => ?_) (fun h_503336 => ?_)
    · skip
      have r_503337 := lt_l (hi := 0) (h_503336) (rg_all a1) rc_1 (by decide)
      refine g_iconst C (v := (-1)) dX11_odds_22 (by decide) ?_
      exact g_zret (ty := .int) (r := (-1)) B K rfl (rfl) ⟨hU, hF, hG, rg_all _⟩ dX11_odds_23
    · skip
      have r_503338 := le_r (nlt h_503336) rc_1 (rg_all a1)
      refine g_iload_n C 2 dX11_odds_16 rfl rfl ?_
      refine g_bipush C (v := 30) dX11_odds_17 (by decide) ?_
      refine g_icmp_le C (tgt := 24) dX11_odds_19 (by decide) (fun h_503339 => ?_) (fun h_503339 => ?_)
      · skip
        have r_503340 := le_l (h_503339) r_503338 rc_30
        refine g_iconst C (v := 0) dX11_odds_24 (by decide) ?_
        refine g_istore C dX11_odds_25 (by decide) (lo2 := [(4, .int 0), (0, .ref x), (1, .int a0), (2, .int a1), (3, .int a2)]) rfl ?_
        refine g_iconst C (v := 0) dX11_odds_27 (by decide) ?_
        refine g_istore C dX11_odds_28 (by decide) (lo2 := [(5, .int 0), (4, .int 0), (0, .ref x), (1, .int a0), (2, .int a1), (3, .int a2)]) rfl ?_
        refine g_lo (is := [2, 3, 4, 5, 1, 0]) (lo2 := [(0, .ref x), (1, .int a0), (2, .int a1), (3, .int a2), (4, .int 0), (5, .int 0)]) rfl ?_
        exact l_30 31 I J hU hF hG a0 (r_503335) a1 (r_503340) a2 0 0 (rg_w rc_0 (by decide) (by decide)) (ms_s (a := 0) (b := 30) (N := 31) (rg_w rc_0 (by decide) (by decide)) (by decide))
      · skip
        have r_503341 := lt_r (lo := 31) (nle h_503339) rc_30 r_503338 (by decide)
        refine g_iconst C (v := (-1)) dX11_odds_22 (by decide) ?_
        exact g_zret (ty := .int) (r := (-1)) B K rfl (rfl) ⟨hU, hF, hG, rg_all _⟩ dX11_odds_23
set_option maxRecDepth 100000 in
set_option maxHeartbeats 8000000 in
theorem c_X0_behind {l : Launch} {D : va_G} {cy : Nat → ClassId} {L : List Nat} {κ ln : Nat → Nat} {R : Nat → Nat → Option Nat} {I : Nat → Nat → Int32} {J : Nat → Nat → Int64} {ow : Nat → Nat × Nat} (W9 : ∀ a ∈ L, Shp L κ ln R ow a) (a0 : Int32) (a1 : Int32) (ra0 : Rg 10 50 a0) (ra1 : Rg 0 2 a1) (hU : Iv L κ R ow I) : CtI l yX0_behind cX0_behind 2 (some .int) { frames := 0, cells := 0, slots := 0, locals := 0 } D cy L κ ln R I J [.int a0, .int a1] (fun r I2 J2 => I = I2 ∧ J = J2 ∧ Rg 0 52 r) := by
  refine CtI.of (by decide +kernel) (Nat.le_of_ble_eq_true rfl) ?_
  intro p e s m below meth c B K
  have C := B.1
  refine g_lo (is := [0, 1]) (lo2 := [(0, .int a0), (1, .int a1)]) rfl ?_
  refine g_iload_n C 1 dX0_behind_0 rfl rfl ?_
  refine g_if_ne C (tgt := 8) dX0_behind_1 (by decide) (fun h_503352 => ?_) (fun h_503352 => ?_)
  · skip
    have n_503353 : ¬ a1 = 0 := h_503352
    have r_503354 := ne_lo (lo := 1) n_503353 ra1 rc_0 rfl (by decide)
    refine g_iload_n C 0 dX0_behind_8 rfl rfl ?_
    refine g_iload_n C 1 dX0_behind_9 rfl rfl ?_
    obtain ⟨x_503355, hx_503355, rx_503355, tx_503355⟩ := ex_add 11 52 ra0 r_503354 (by decide) (by decide) (by decide) (by decide)
    refine g_iadd C (v := x_503355) dX0_behind_10 hx_503355 ?_
    exact g_zret (ty := .int) (r := x_503355) B K rfl (rfl) ⟨rfl, rfl, rg_w rx_503355 (by decide) (by decide)⟩ dX0_behind_11
  · skip
    have r_503356 := (⟨(ra1).1, (eq_rg (h_503352) rc_0).2⟩ : Rg 0 0 a1)
    refine g_iconst C (v := 0) dX0_behind_4 (by decide) ?_
    refine g_goto C (tgt := 11) dX0_behind_5 (by decide) ?_
    exact g_zret (ty := .int) (r := 0) B K rfl (rfl) ⟨rfl, rfl, rg_w rc_0 (by decide) (by decide)⟩ dX0_behind_11
set_option maxRecDepth 100000 in
set_option maxHeartbeats 8000000 in
theorem c_X0_liveMeals {l : Launch} {D : va_G} {cy : Nat → ClassId} {L : List Nat} {κ ln : Nat → Nat} {R : Nat → Nat → Option Nat} {I : Nat → Nat → Int32} {J : Nat → Nat → Int64} {ow : Nat → Nat × Nat} (W9 : ∀ a ∈ L, Shp L κ ln R ow a) {a0 : Nat} (hLa0 : a0 ∈ L) (hka0 : κ a0 = 1) (a1 : Int32) (hU : Iv L κ R ow I) : CtI l yX0_liveMeals cX0_liveMeals 2 (some .int) { frames := 3, cells := 0, slots := 0, locals := 105 } D cy L κ ln R I J [.ref a0, .int a1] (fun r I2 J2 => Iv L κ R ow I2 ∧ Fq L κ ow [109, 111, 16200, 16300, 16500, 16600] I I2 ∧ Fq L κ ow [] J J2 ∧ Rg 0 61 r) := by
  refine CtI.of (by decide +kernel) (Nat.le_of_ble_eq_true rfl) ?_
  intro p e s m below meth c B K
  have C := B.1
  have hF : Fq L κ ow [109, 111, 16200, 16300, 16500, 16600] I I := fq_rf
  have hG : Fq L κ ow [] J J := fq_rf
  refine g_lo (is := [0, 1]) (lo2 := [(0, .ref a0), (1, .int a1)]) rfl ?_
  refine g_sipush C (v := 200) dX0_liveMeals_0 (by decide) ?_
  refine g_aload_n C 0 dX0_liveMeals_3 rfl rfl ?_
  obtain ⟨x_503379, hx_503379, rx_503379⟩ := ex_get (I := I) (a := a0) (j := 9) (lo := (-2147483648)) (hi := 2147483647) hU.1 hLa0 (ro_o hka0 (by decide)) rfl
  refine g_getI C K hLa0 hka0 f_0_98 (v := x_503379) hx_503379 dX0_liveMeals_4 ?_
  obtain ⟨x_503380, hx_503380, rx_503380⟩ := ex_any (z0 := 200 - x_503379)
  refine g_isub C (v := x_503380) dX0_liveMeals_7 hx_503380 ?_
  refine g_iload_n C 1 dX0_liveMeals_8 rfl rfl ?_
  refine g_icmp_ge C (tgt := 15) dX0_liveMeals_9 (by decide) (fun h_503381 => ?_) (fun h_503381 => ?_)
  · skip
    refine g_aload_n C 0 dX0_liveMeals_15 rfl rfl ?_
    refine g_iload_n C 1 dX0_liveMeals_16 rfl rfl ?_
    refine g_callVI C K (c_X1_letMealsGo W9 hLa0 hka0 a1  hU) hLa0 hka0 (by decide) rfl v_0_131 rfl ⟨rfl, rfl⟩ ⟨Nat.le_of_ble_eq_true rfl, Nat.le_of_ble_eq_true rfl⟩ (Nat.le_of_ble_eq_true rfl) ⟨Nat.le_of_ble_eq_true rfl, Nat.le_of_ble_eq_true rfl⟩ dX0_liveMeals_17 rfl (st := []) (fun x_503382 I_503383 J_503384 h_503385 => ?_)
    obtain ⟨hUI_503383, hFI_503383, hGJ_503384, rx_503382⟩ := h_503385
    have hF_503386 := fq_tr hF hFI_503383 (by decide)
    have hG_503387 := fq_tr hG hGJ_503384 (by decide)
    refine g_pop C dX0_liveMeals_20 rfl ?_
    refine g_iconst C (v := 0) dX0_liveMeals_21 (by decide) ?_
    exact g_zret (ty := .int) (r := 0) B K rfl (rfl) ⟨hUI_503383, hF_503386, hG_503387, rg_w rc_0 (by decide) (by decide)⟩ dX0_liveMeals_22
  · skip
    have r_503388 := lt_l (hi := 2147483646) (nle h_503381) rx_503380 (rg_all a1) (by decide)
    have r_503389 := lt_r (lo := (-2147483647)) (nle h_503381) rx_503380 (rg_all a1) (by decide)
    refine g_bipush C (v := 61) dX0_liveMeals_12 (by decide) ?_
    exact g_zret (ty := .int) (r := 61) B K rfl (rfl) ⟨hU, hF, hG, rg_w rc_61 (by decide) (by decide)⟩ dX0_liveMeals_14
set_option maxRecDepth 100000 in
set_option maxHeartbeats 8000000 in
theorem c_X0_live {l : Launch} {D : va_G} {cy : Nat → ClassId} {L : List Nat} {κ ln : Nat → Nat} {R : Nat → Nat → Option Nat} {I : Nat → Nat → Int32} {J : Nat → Nat → Int64} {ow : Nat → Nat × Nat} (W9 : ∀ a ∈ L, Shp L κ ln R ow a) {x : Nat} (hLx : x ∈ L) (hkx : κ x = 0) {a0 : Nat} (hLa0 : a0 ∈ L) (hka0 : κ a0 = 1) (a1 : Int32) (ra1 : Rg 0 39 a1) (hU : Iv L κ R ow I) (hb : bk_ R I x a1.toNatClampNeg) : CtI l yX0_live cX0_live 4 (some .int) { frames := 4, cells := 0, slots := 0, locals := 126 } D cy L κ ln R I J [.ref x, .ref a0, .int a1] (fun r I2 J2 => Iv L κ R ow I2 ∧ Fq L κ ow [109, 111, 16100, 16200, 16300, 16400, 16500, 16600] I I2 ∧ Fq L κ ow [] J J2 ∧ Rg 0 61 r) := by
  refine CtI.of (by decide +kernel) (Nat.le_of_ble_eq_true rfl) ?_
  intro p e s m below meth c B K
  have C := B.1
  have hF : Fq L κ ow [109, 111, 16100, 16200, 16300, 16400, 16500, 16600] I I := fq_rf
  have hG : Fq L κ ow [] J J := fq_rf
  obtain ⟨b_503726, hb_503726, hb_503726L, hb_503726k, hb_503726n, hb_503726o⟩ := shp_a (W9 x hLx) hkx 3 14 40 rfl (by decide)
  obtain ⟨b_503727, hb_503727, hb_503727L, hb_503727k, hb_503727n, hb_503727o⟩ := shp_a (W9 x hLx) hkx 0 14 40 rfl (by decide)
  obtain ⟨b_503728, hb_503728, hb_503728L, hb_503728k, hb_503728n, hb_503728o⟩ := shp_a (W9 x hLx) hkx 1 14 40 rfl (by decide)
  obtain ⟨b_503729, hb_503729, hb_503729L, hb_503729k, hb_503729n, hb_503729o⟩ := shp_a (W9 x hLx) hkx 2 14 40 rfl (by decide)
  refine g_lo (is := [0, 1, 2]) (lo2 := [(0, .ref x), (1, .ref a0), (2, .int a1)]) rfl ?_
  refine g_aload_n C 0 dX0_live_0 rfl rfl ?_
  refine g_getR C K hLx hkx f_0_15 hb_503728 dX0_live_1 ?_
  refine g_iload_n C 2 dX0_live_4 rfl rfl ?_
  obtain ⟨x_503730, hx_503730, rx_503730⟩ := ex_get (I := I) (a := b_503728) (j := a1.toNatClampNeg) (lo := (-1)) (hi := 6) hU.1 hb_503728L (ro_a hb_503728k (by decide) hb_503728o hkx rfl) (rfl)
  refine h_iald C K hb_503728L hb_503728k (v := x_503730) (a1.toNatClampNeg) (rfl) (ix_0 ra1 (by decide)) (ix_lt ra1 (by decide) hb_503728n (by decide)) hx_503730 dX0_live_5 ?_
  refine g_istore_n C dX0_live_6 rfl (by decide) (lo2 := [(3, .int x_503730), (0, .ref x), (1, .ref a0), (2, .int a1)]) rfl ?_
  refine g_aload_n C 1 dX0_live_7 rfl rfl ?_
  refine g_getR C K hLx hkx f_0_11 hb_503727 dX0_live_8 ?_
  refine g_iload_n C 3 dX0_live_11 rfl rfl ?_
  obtain ⟨x_503731, hx_503731, rx_503731⟩ := ex_get (I := I) (a := b_503727) (j := a1.toNatClampNeg) (lo := (-2147483648)) (hi := 2147483647) hU.1 hb_503727L (ro_a hb_503727k (by decide) hb_503727o hkx rfl) (rfl)
  refine h_iald C K hb_503727L hb_503727k (v := x_503731) (a1.toNatClampNeg) (rfl) (ix_0 ra1 (by decide)) (ix_lt ra1 (by decide) hb_503727n (by decide)) hx_503731 dX0_live_12 ?_
  rcases hb _ _ _ hb_503727 hb_503728 hb_503729 with hb_503732 | hb_503732 | hb_503732
  · skip
    have r_503733 := (⟨(eq_rg ((Eq.trans hx_503731.symm hb_503732)) rc_16).1, (eq_rg ((Eq.trans hx_503731.symm hb_503732)) rc_16).2⟩ : Rg 16 16 x_503731)
    obtain ⟨q_5037341, q_5037342⟩ := r_503733
    refine g_tableOut C (tgt := 137) dX0_live_13 (by omega) (by decide) ?_
    refine g_aload_n C 2 dX0_live_137 rfl rfl ?_
    refine g_aload_n C 1 dX0_live_138 rfl rfl ?_
    refine g_getR C K hLx hkx f_0_21 hb_503726 dX0_live_139 ?_
    refine g_iload_n C 3 dX0_live_142 rfl rfl ?_
    obtain ⟨x_503735, hx_503735, rx_503735⟩ := ex_get (I := I) (a := b_503726) (j := a1.toNatClampNeg) (lo := (-2147483648)) (hi := 2147483647) hU.1 hb_503726L (ro_a hb_503726k (by decide) hb_503726o hkx rfl) (rfl)
    refine h_iald C K hb_503726L hb_503726k (v := x_503735) (a1.toNatClampNeg) (rfl) (ix_0 ra1 (by decide)) (ix_lt ra1 (by decide) hb_503726n (by decide)) hx_503735 dX0_live_143 ?_
    refine g_callSI C K (c_X0_liveMeals W9 hLa0 hka0 x_503735  hU) s_0_128 rfl ⟨rfl, rfl⟩ ⟨Nat.le_of_ble_eq_true rfl, Nat.le_of_ble_eq_true rfl⟩ (Nat.le_of_ble_eq_true rfl) ⟨Nat.le_of_ble_eq_true rfl, Nat.le_of_ble_eq_true rfl⟩ dX0_live_144 rfl (st := []) (fun x_503736 I_503737 J_503738 h_503739 => ?_)
    obtain ⟨hUI_503737, hFI_503737, hGJ_503738, rx_503736⟩ := h_503739
    have hF_503740 := fq_tr hF hFI_503737 (by decide)
    have hG_503741 := fq_tr hG hGJ_503738 (by decide)
    exact g_zret (ty := .int) (r := x_503736) B K rfl (rfl) ⟨hUI_503737, hF_503740, hG_503741, rx_503736⟩ dX0_live_147
  · skip
    have r_503742 := rg_g0 rx_503730 hx_503730 hb_503732.1
    by_cases c_503743 : x_503731.toInt = 10
    · skip
      have r_503744 := rg_of (a := 10) (b := 10) 10 c_503743 (by decide) (by decide)
      refine g_tableIn C (tgt := 52) dX0_live_13 (by omega) (by omega) (off := 39) (by rw [c_503743]; rfl) (by decide) ?_
      refine g_aload_n C 2 dX0_live_52 rfl rfl ?_
      refine g_iload_n C 0 dX0_live_53 rfl rfl ?_
      refine g_aload_n C 1 dX0_live_54 rfl rfl ?_
      refine g_getR C K hLx hkx f_0_18 hb_503729 dX0_live_55 ?_
      refine g_iload_n C 3 dX0_live_58 rfl rfl ?_
      obtain ⟨x_503745, hx_503745, rx_503745⟩ := ex_get (I := I) (a := b_503729) (j := a1.toNatClampNeg) (lo := (-1)) (hi := 5) hU.1 hb_503729L (ro_a hb_503729k (by decide) hb_503729o hkx rfl) (rfl)
      refine h_iald C K hb_503729L hb_503729k (v := x_503745) (a1.toNatClampNeg) (rfl) (ix_0 ra1 (by decide)) (ix_lt ra1 (by decide) hb_503729n (by decide)) hx_503745 dX0_live_59 ?_
      have r_503746 := rg_g0 rx_503745 hx_503745 hb_503732.2
      refine g_aload_n C 1 dX0_live_60 rfl rfl ?_
      refine g_getR C K hLx hkx f_0_21 hb_503726 dX0_live_61 ?_
      refine g_iload_n C 3 dX0_live_64 rfl rfl ?_
      obtain ⟨x_503747, hx_503747, rx_503747⟩ := ex_get (I := I) (a := b_503726) (j := a1.toNatClampNeg) (lo := (-2147483648)) (hi := 2147483647) hU.1 hb_503726L (ro_a hb_503726k (by decide) hb_503726o hkx rfl) (rfl)
      refine h_iald C K hb_503726L hb_503726k (v := x_503747) (a1.toNatClampNeg) (rfl) (ix_0 ra1 (by decide)) (ix_lt ra1 (by decide) hb_503726n (by decide)) hx_503747 dX0_live_65 ?_
      refine g_callVI C K (c_X1_tryToEat W9 hLa0 hka0 x_503730 x_503745 x_503747 (r_503742) (r_503746) hU) hLa0 hka0 (by decide) rfl v_0_106 rfl ⟨rfl, rfl⟩ ⟨Nat.le_of_ble_eq_true rfl, Nat.le_of_ble_eq_true rfl⟩ (Nat.le_of_ble_eq_true rfl) ⟨Nat.le_of_ble_eq_true rfl, Nat.le_of_ble_eq_true rfl⟩ dX0_live_66 rfl (st := []) (fun x_503748 I_503749 J_503750 h_503751 => ?_)
      obtain ⟨hUI_503749, hFI_503749, hGJ_503750, rx_503748⟩ := h_503751
      have hF_503752 := fq_tr hF hFI_503749 (by decide)
      have hG_503753 := fq_tr hG hGJ_503750 (by decide)
      exact g_zret (ty := .int) (r := x_503748) B K rfl (rfl) ⟨hUI_503749, hF_503752, hG_503753, rg_w rx_503748 (by decide) (by decide)⟩ dX0_live_69
    by_cases c_503754 : x_503731.toInt = 11
    · skip
      have r_503755 := rg_of (a := 11) (b := 11) 11 c_503754 (by decide) (by decide)
      refine g_tableIn C (tgt := 70) dX0_live_13 (by omega) (by omega) (off := 57) (by rw [c_503754]; rfl) (by decide) ?_
      refine g_bipush C (v := 10) dX0_live_70 (by decide) ?_
      refine g_aload_n C 2 dX0_live_72 rfl rfl ?_
      refine g_iload_n C 0 dX0_live_73 rfl rfl ?_
      refine g_aload_n C 1 dX0_live_74 rfl rfl ?_
      refine g_getR C K hLx hkx f_0_18 hb_503729 dX0_live_75 ?_
      refine g_iload_n C 3 dX0_live_78 rfl rfl ?_
      obtain ⟨x_503756, hx_503756, rx_503756⟩ := ex_get (I := I) (a := b_503729) (j := a1.toNatClampNeg) (lo := (-1)) (hi := 5) hU.1 hb_503729L (ro_a hb_503729k (by decide) hb_503729o hkx rfl) (rfl)
      refine h_iald C K hb_503729L hb_503729k (v := x_503756) (a1.toNatClampNeg) (rfl) (ix_0 ra1 (by decide)) (ix_lt ra1 (by decide) hb_503729n (by decide)) hx_503756 dX0_live_79 ?_
      have r_503757 := rg_g0 rx_503756 hx_503756 hb_503732.2
      refine g_aload_n C 1 dX0_live_80 rfl rfl ?_
      refine g_getR C K hLx hkx f_0_21 hb_503726 dX0_live_81 ?_
      refine g_iload_n C 3 dX0_live_84 rfl rfl ?_
      obtain ⟨x_503758, hx_503758, rx_503758⟩ := ex_get (I := I) (a := b_503726) (j := a1.toNatClampNeg) (lo := (-2147483648)) (hi := 2147483647) hU.1 hb_503726L (ro_a hb_503726k (by decide) hb_503726o hkx rfl) (rfl)
      refine h_iald C K hb_503726L hb_503726k (v := x_503758) (a1.toNatClampNeg) (rfl) (ix_0 ra1 (by decide)) (ix_lt ra1 (by decide) hb_503726n (by decide)) hx_503758 dX0_live_85 ?_
      refine g_callVI C K (c_X1_tryToServe W9 hLa0 hka0 x_503730 x_503756 x_503758 (r_503742) (r_503757) hU) hLa0 hka0 (by decide) rfl v_0_110 rfl ⟨rfl, rfl⟩ ⟨Nat.le_of_ble_eq_true rfl, Nat.le_of_ble_eq_true rfl⟩ (Nat.le_of_ble_eq_true rfl) ⟨Nat.le_of_ble_eq_true rfl, Nat.le_of_ble_eq_true rfl⟩ dX0_live_86 rfl (st := [.int 10]) (fun x_503759 I_503760 J_503761 h_503762 => ?_)
      obtain ⟨hUI_503760, hFI_503760, hGJ_503761, rx_503759⟩ := h_503762
      have hF_503763 := fq_tr hF hFI_503760 (by decide)
      have hG_503764 := fq_tr hG hGJ_503761 (by decide)
      refine g_callSI C K (c_X0_behind W9 10 x_503759 (rg_w rc_10 (by decide) (by decide)) (rx_503759) hUI_503760) s_0_113 rfl ⟨rfl, rfl⟩ ⟨Nat.le_of_ble_eq_true rfl, Nat.le_of_ble_eq_true rfl⟩ (Nat.le_of_ble_eq_true rfl) ⟨Nat.le_of_ble_eq_true rfl, Nat.le_of_ble_eq_true rfl⟩ dX0_live_89 rfl (st := []) (fun x_503765 I_503766 J_503767 h_503768 => ?_)
      obtain ⟨rfl, rfl, rx_503765⟩ := h_503768
      exact g_zret (ty := .int) (r := x_503765) B K rfl (rfl) ⟨hUI_503760, hF_503763, hG_503764, rg_w rx_503765 (by decide) (by decide)⟩ dX0_live_92
    by_cases c_503769 : x_503731.toInt = 12
    · skip
      have r_503770 := rg_of (a := 12) (b := 12) 12 c_503769 (by decide) (by decide)
      refine g_tableIn C (tgt := 93) dX0_live_13 (by omega) (by omega) (off := 80) (by rw [c_503769]; rfl) (by decide) ?_
      refine g_bipush C (v := 20) dX0_live_93 (by decide) ?_
      refine g_aload_n C 2 dX0_live_95 rfl rfl ?_
      refine g_iload_n C 0 dX0_live_96 rfl rfl ?_
      refine g_callVI C K (c_X1_tryToRise W9 hLa0 hka0 x_503730 (r_503742) hU) hLa0 hka0 (by decide) rfl v_0_116 rfl ⟨rfl, rfl⟩ ⟨Nat.le_of_ble_eq_true rfl, Nat.le_of_ble_eq_true rfl⟩ (Nat.le_of_ble_eq_true rfl) ⟨Nat.le_of_ble_eq_true rfl, Nat.le_of_ble_eq_true rfl⟩ dX0_live_97 rfl (st := [.int 20]) (fun x_503771 I_503772 J_503773 h_503774 => ?_)
      obtain ⟨hUI_503772, hFI_503772, hGJ_503773, rx_503771⟩ := h_503774
      have hF_503775 := fq_tr hF hFI_503772 (by decide)
      have hG_503776 := fq_tr hG hGJ_503773 (by decide)
      refine g_callSI C K (c_X0_behind W9 20 x_503771 (rg_w rc_20 (by decide) (by decide)) (rx_503771) hUI_503772) s_0_113 rfl ⟨rfl, rfl⟩ ⟨Nat.le_of_ble_eq_true rfl, Nat.le_of_ble_eq_true rfl⟩ (Nat.le_of_ble_eq_true rfl) ⟨Nat.le_of_ble_eq_true rfl, Nat.le_of_ble_eq_true rfl⟩ dX0_live_100 rfl (st := []) (fun x_503777 I_503778 J_503779 h_503780 => ?_)
      obtain ⟨rfl, rfl, rx_503777⟩ := h_503780
      exact g_zret (ty := .int) (r := x_503777) B K rfl (rfl) ⟨hUI_503772, hF_503775, hG_503776, rg_w rx_503777 (by decide) (by decide)⟩ dX0_live_103
    by_cases c_503781 : x_503731.toInt = 13
    · skip
      have r_503782 := rg_of (a := 13) (b := 13) 13 c_503781 (by decide) (by decide)
      refine g_tableIn C (tgt := 104) dX0_live_13 (by omega) (by omega) (off := 91) (by rw [c_503781]; rfl) (by decide) ?_
      refine g_bipush C (v := 30) dX0_live_104 (by decide) ?_
      refine g_aload_n C 2 dX0_live_106 rfl rfl ?_
      refine g_iload_n C 0 dX0_live_107 rfl rfl ?_
      refine g_callVI C K (c_X1_tryToRefuse W9 hLa0 hka0 x_503730 (r_503742) hU) hLa0 hka0 (by decide) rfl v_0_119 rfl ⟨rfl, rfl⟩ ⟨Nat.le_of_ble_eq_true rfl, Nat.le_of_ble_eq_true rfl⟩ (Nat.le_of_ble_eq_true rfl) ⟨Nat.le_of_ble_eq_true rfl, Nat.le_of_ble_eq_true rfl⟩ dX0_live_108 rfl (st := [.int 30]) (fun x_503783 I_503784 J_503785 h_503786 => ?_)
      obtain ⟨hUI_503784, hFI_503784, hGJ_503785, rx_503783⟩ := h_503786
      have hF_503787 := fq_tr hF hFI_503784 (by decide)
      have hG_503788 := fq_tr hG hGJ_503785 (by decide)
      refine g_callSI C K (c_X0_behind W9 30 x_503783 (rg_w rc_30 (by decide) (by decide)) (rx_503783) hUI_503784) s_0_113 rfl ⟨rfl, rfl⟩ ⟨Nat.le_of_ble_eq_true rfl, Nat.le_of_ble_eq_true rfl⟩ (Nat.le_of_ble_eq_true rfl) ⟨Nat.le_of_ble_eq_true rfl, Nat.le_of_ble_eq_true rfl⟩ dX0_live_111 rfl (st := []) (fun x_503789 I_503790 J_503791 h_503792 => ?_)
      obtain ⟨rfl, rfl, rx_503789⟩ := h_503792
      exact g_zret (ty := .int) (r := x_503789) B K rfl (rfl) ⟨hUI_503784, hF_503787, hG_503788, rg_w rx_503789 (by decide) (by decide)⟩ dX0_live_114
    by_cases c_503793 : x_503731.toInt = 14
    · skip
      have r_503794 := rg_of (a := 14) (b := 14) 14 c_503793 (by decide) (by decide)
      refine g_tableIn C (tgt := 115) dX0_live_13 (by omega) (by omega) (off := 102) (by rw [c_503793]; rfl) (by decide) ?_
      refine g_bipush C (v := 40) dX0_live_115 (by decide) ?_
      refine g_aload_n C 2 dX0_live_117 rfl rfl ?_
      refine g_iload_n C 0 dX0_live_118 rfl rfl ?_
      refine g_callVI C K (c_X1_tryToAccept W9 hLa0 hka0 x_503730 (r_503742) hU) hLa0 hka0 (by decide) rfl v_0_122 rfl ⟨rfl, rfl⟩ ⟨Nat.le_of_ble_eq_true rfl, Nat.le_of_ble_eq_true rfl⟩ (Nat.le_of_ble_eq_true rfl) ⟨Nat.le_of_ble_eq_true rfl, Nat.le_of_ble_eq_true rfl⟩ dX0_live_119 rfl (st := [.int 40]) (fun x_503795 I_503796 J_503797 h_503798 => ?_)
      obtain ⟨hUI_503796, hFI_503796, hGJ_503797, rx_503795⟩ := h_503798
      have hF_503799 := fq_tr hF hFI_503796 (by decide)
      have hG_503800 := fq_tr hG hGJ_503797 (by decide)
      refine g_callSI C K (c_X0_behind W9 40 x_503795 (rg_w rc_40 (by decide) (by decide)) (rx_503795) hUI_503796) s_0_113 rfl ⟨rfl, rfl⟩ ⟨Nat.le_of_ble_eq_true rfl, Nat.le_of_ble_eq_true rfl⟩ (Nat.le_of_ble_eq_true rfl) ⟨Nat.le_of_ble_eq_true rfl, Nat.le_of_ble_eq_true rfl⟩ dX0_live_122 rfl (st := []) (fun x_503801 I_503802 J_503803 h_503804 => ?_)
      obtain ⟨rfl, rfl, rx_503801⟩ := h_503804
      exact g_zret (ty := .int) (r := x_503801) B K rfl (rfl) ⟨hUI_503796, hF_503799, hG_503800, rg_w rx_503801 (by decide) (by decide)⟩ dX0_live_125
    by_cases c_503805 : x_503731.toInt = 15
    · skip
      have r_503806 := rg_of (a := 15) (b := 15) 15 c_503805 (by decide) (by decide)
      refine g_tableIn C (tgt := 126) dX0_live_13 (by omega) (by omega) (off := 113) (by rw [c_503805]; rfl) (by decide) ?_
      refine g_bipush C (v := 50) dX0_live_126 (by decide) ?_
      refine g_aload_n C 2 dX0_live_128 rfl rfl ?_
      refine g_iload_n C 0 dX0_live_129 rfl rfl ?_
      refine g_callVI C K (c_X1_tryToDie W9 hLa0 hka0 x_503730 (r_503742) hU) hLa0 hka0 (by decide) rfl v_0_125 rfl ⟨rfl, rfl⟩ ⟨Nat.le_of_ble_eq_true rfl, Nat.le_of_ble_eq_true rfl⟩ (Nat.le_of_ble_eq_true rfl) ⟨Nat.le_of_ble_eq_true rfl, Nat.le_of_ble_eq_true rfl⟩ dX0_live_130 rfl (st := [.int 50]) (fun x_503807 I_503808 J_503809 h_503810 => ?_)
      obtain ⟨hUI_503808, hFI_503808, hGJ_503809, rx_503807⟩ := h_503810
      have hF_503811 := fq_tr hF hFI_503808 (by decide)
      have hG_503812 := fq_tr hG hGJ_503809 (by decide)
      refine g_callSI C K (c_X0_behind W9 50 x_503807 (rg_w rc_50 (by decide) (by decide)) (rg_w rx_503807 (by decide) (by decide)) hUI_503808) s_0_113 rfl ⟨rfl, rfl⟩ ⟨Nat.le_of_ble_eq_true rfl, Nat.le_of_ble_eq_true rfl⟩ (Nat.le_of_ble_eq_true rfl) ⟨Nat.le_of_ble_eq_true rfl, Nat.le_of_ble_eq_true rfl⟩ dX0_live_133 rfl (st := []) (fun x_503813 I_503814 J_503815 h_503816 => ?_)
      obtain ⟨rfl, rfl, rx_503813⟩ := h_503816
      exact g_zret (ty := .int) (r := x_503813) B K rfl (rfl) ⟨hUI_503808, hF_503811, hG_503812, rg_w rx_503813 (by decide) (by decide)⟩ dX0_live_136
    obtain ⟨q_5038171, q_5038172⟩ := rx_503731
    refine g_tableOut C (tgt := 137) dX0_live_13 (by omega) (by decide) ?_
    refine g_aload_n C 2 dX0_live_137 rfl rfl ?_
    refine g_aload_n C 1 dX0_live_138 rfl rfl ?_
    refine g_getR C K hLx hkx f_0_21 hb_503726 dX0_live_139 ?_
    refine g_iload_n C 3 dX0_live_142 rfl rfl ?_
    obtain ⟨x_503818, hx_503818, rx_503818⟩ := ex_get (I := I) (a := b_503726) (j := a1.toNatClampNeg) (lo := (-2147483648)) (hi := 2147483647) hU.1 hb_503726L (ro_a hb_503726k (by decide) hb_503726o hkx rfl) (rfl)
    refine h_iald C K hb_503726L hb_503726k (v := x_503818) (a1.toNatClampNeg) (rfl) (ix_0 ra1 (by decide)) (ix_lt ra1 (by decide) hb_503726n (by decide)) hx_503818 dX0_live_143 ?_
    refine g_callSI C K (c_X0_liveMeals W9 hLa0 hka0 x_503818  hU) s_0_128 rfl ⟨rfl, rfl⟩ ⟨Nat.le_of_ble_eq_true rfl, Nat.le_of_ble_eq_true rfl⟩ (Nat.le_of_ble_eq_true rfl) ⟨Nat.le_of_ble_eq_true rfl, Nat.le_of_ble_eq_true rfl⟩ dX0_live_144 rfl (st := []) (fun x_503819 I_503820 J_503821 h_503822 => ?_)
    obtain ⟨hUI_503820, hFI_503820, hGJ_503821, rx_503819⟩ := h_503822
    have hF_503823 := fq_tr hF hFI_503820 (by decide)
    have hG_503824 := fq_tr hG hGJ_503821 (by decide)
    exact g_zret (ty := .int) (r := x_503819) B K rfl (rfl) ⟨hUI_503820, hF_503823, hG_503824, rx_503819⟩ dX0_live_147
  · skip
    have r_503825 := rg_g0 rx_503730 hx_503730 hb_503732.1
    have n_503826 : ¬ x_503731 = 10 := (fun q => hb_503732.2.1 (Eq.trans hx_503731 q))
    have n_503827 : ¬ x_503731 = 11 := (fun q => hb_503732.2.2 (Eq.trans hx_503731 q))
    by_cases c_503828 : x_503731.toInt = 10
    · skip
      have r_503829 := rg_of (a := 10) (b := 10) 10 c_503828 (by decide) (by decide)
      have r_503830 := ne_lo (lo := 11) n_503826 r_503829 rc_10 rfl (by decide)
      exact rg_no r_503830 (by decide)
    by_cases c_503831 : x_503731.toInt = 11
    · skip
      have r_503832 := rg_of (a := 11) (b := 11) 11 c_503831 (by decide) (by decide)
      have r_503833 := ne_lo (lo := 12) n_503827 r_503832 rc_11 rfl (by decide)
      exact rg_no r_503833 (by decide)
    by_cases c_503834 : x_503731.toInt = 12
    · skip
      have r_503835 := rg_of (a := 12) (b := 12) 12 c_503834 (by decide) (by decide)
      refine g_tableIn C (tgt := 93) dX0_live_13 (by omega) (by omega) (off := 80) (by rw [c_503834]; rfl) (by decide) ?_
      refine g_bipush C (v := 20) dX0_live_93 (by decide) ?_
      refine g_aload_n C 2 dX0_live_95 rfl rfl ?_
      refine g_iload_n C 0 dX0_live_96 rfl rfl ?_
      refine g_callVI C K (c_X1_tryToRise W9 hLa0 hka0 x_503730 (r_503825) hU) hLa0 hka0 (by decide) rfl v_0_116 rfl ⟨rfl, rfl⟩ ⟨Nat.le_of_ble_eq_true rfl, Nat.le_of_ble_eq_true rfl⟩ (Nat.le_of_ble_eq_true rfl) ⟨Nat.le_of_ble_eq_true rfl, Nat.le_of_ble_eq_true rfl⟩ dX0_live_97 rfl (st := [.int 20]) (fun x_503836 I_503837 J_503838 h_503839 => ?_)
      obtain ⟨hUI_503837, hFI_503837, hGJ_503838, rx_503836⟩ := h_503839
      have hF_503840 := fq_tr hF hFI_503837 (by decide)
      have hG_503841 := fq_tr hG hGJ_503838 (by decide)
      refine g_callSI C K (c_X0_behind W9 20 x_503836 (rg_w rc_20 (by decide) (by decide)) (rx_503836) hUI_503837) s_0_113 rfl ⟨rfl, rfl⟩ ⟨Nat.le_of_ble_eq_true rfl, Nat.le_of_ble_eq_true rfl⟩ (Nat.le_of_ble_eq_true rfl) ⟨Nat.le_of_ble_eq_true rfl, Nat.le_of_ble_eq_true rfl⟩ dX0_live_100 rfl (st := []) (fun x_503842 I_503843 J_503844 h_503845 => ?_)
      obtain ⟨rfl, rfl, rx_503842⟩ := h_503845
      exact g_zret (ty := .int) (r := x_503842) B K rfl (rfl) ⟨hUI_503837, hF_503840, hG_503841, rg_w rx_503842 (by decide) (by decide)⟩ dX0_live_103
    by_cases c_503846 : x_503731.toInt = 13
    · skip
      have r_503847 := rg_of (a := 13) (b := 13) 13 c_503846 (by decide) (by decide)
      refine g_tableIn C (tgt := 104) dX0_live_13 (by omega) (by omega) (off := 91) (by rw [c_503846]; rfl) (by decide) ?_
      refine g_bipush C (v := 30) dX0_live_104 (by decide) ?_
      refine g_aload_n C 2 dX0_live_106 rfl rfl ?_
      refine g_iload_n C 0 dX0_live_107 rfl rfl ?_
      refine g_callVI C K (c_X1_tryToRefuse W9 hLa0 hka0 x_503730 (r_503825) hU) hLa0 hka0 (by decide) rfl v_0_119 rfl ⟨rfl, rfl⟩ ⟨Nat.le_of_ble_eq_true rfl, Nat.le_of_ble_eq_true rfl⟩ (Nat.le_of_ble_eq_true rfl) ⟨Nat.le_of_ble_eq_true rfl, Nat.le_of_ble_eq_true rfl⟩ dX0_live_108 rfl (st := [.int 30]) (fun x_503848 I_503849 J_503850 h_503851 => ?_)
      obtain ⟨hUI_503849, hFI_503849, hGJ_503850, rx_503848⟩ := h_503851
      have hF_503852 := fq_tr hF hFI_503849 (by decide)
      have hG_503853 := fq_tr hG hGJ_503850 (by decide)
      refine g_callSI C K (c_X0_behind W9 30 x_503848 (rg_w rc_30 (by decide) (by decide)) (rx_503848) hUI_503849) s_0_113 rfl ⟨rfl, rfl⟩ ⟨Nat.le_of_ble_eq_true rfl, Nat.le_of_ble_eq_true rfl⟩ (Nat.le_of_ble_eq_true rfl) ⟨Nat.le_of_ble_eq_true rfl, Nat.le_of_ble_eq_true rfl⟩ dX0_live_111 rfl (st := []) (fun x_503854 I_503855 J_503856 h_503857 => ?_)
      obtain ⟨rfl, rfl, rx_503854⟩ := h_503857
      exact g_zret (ty := .int) (r := x_503854) B K rfl (rfl) ⟨hUI_503849, hF_503852, hG_503853, rg_w rx_503854 (by decide) (by decide)⟩ dX0_live_114
    by_cases c_503858 : x_503731.toInt = 14
    · skip
      have r_503859 := rg_of (a := 14) (b := 14) 14 c_503858 (by decide) (by decide)
      refine g_tableIn C (tgt := 115) dX0_live_13 (by omega) (by omega) (off := 102) (by rw [c_503858]; rfl) (by decide) ?_
      refine g_bipush C (v := 40) dX0_live_115 (by decide) ?_
      refine g_aload_n C 2 dX0_live_117 rfl rfl ?_
      refine g_iload_n C 0 dX0_live_118 rfl rfl ?_
      refine g_callVI C K (c_X1_tryToAccept W9 hLa0 hka0 x_503730 (r_503825) hU) hLa0 hka0 (by decide) rfl v_0_122 rfl ⟨rfl, rfl⟩ ⟨Nat.le_of_ble_eq_true rfl, Nat.le_of_ble_eq_true rfl⟩ (Nat.le_of_ble_eq_true rfl) ⟨Nat.le_of_ble_eq_true rfl, Nat.le_of_ble_eq_true rfl⟩ dX0_live_119 rfl (st := [.int 40]) (fun x_503860 I_503861 J_503862 h_503863 => ?_)
      obtain ⟨hUI_503861, hFI_503861, hGJ_503862, rx_503860⟩ := h_503863
      have hF_503864 := fq_tr hF hFI_503861 (by decide)
      have hG_503865 := fq_tr hG hGJ_503862 (by decide)
      refine g_callSI C K (c_X0_behind W9 40 x_503860 (rg_w rc_40 (by decide) (by decide)) (rx_503860) hUI_503861) s_0_113 rfl ⟨rfl, rfl⟩ ⟨Nat.le_of_ble_eq_true rfl, Nat.le_of_ble_eq_true rfl⟩ (Nat.le_of_ble_eq_true rfl) ⟨Nat.le_of_ble_eq_true rfl, Nat.le_of_ble_eq_true rfl⟩ dX0_live_122 rfl (st := []) (fun x_503866 I_503867 J_503868 h_503869 => ?_)
      obtain ⟨rfl, rfl, rx_503866⟩ := h_503869
      exact g_zret (ty := .int) (r := x_503866) B K rfl (rfl) ⟨hUI_503861, hF_503864, hG_503865, rg_w rx_503866 (by decide) (by decide)⟩ dX0_live_125
    by_cases c_503870 : x_503731.toInt = 15
    · skip
      have r_503871 := rg_of (a := 15) (b := 15) 15 c_503870 (by decide) (by decide)
      refine g_tableIn C (tgt := 126) dX0_live_13 (by omega) (by omega) (off := 113) (by rw [c_503870]; rfl) (by decide) ?_
      refine g_bipush C (v := 50) dX0_live_126 (by decide) ?_
      refine g_aload_n C 2 dX0_live_128 rfl rfl ?_
      refine g_iload_n C 0 dX0_live_129 rfl rfl ?_
      refine g_callVI C K (c_X1_tryToDie W9 hLa0 hka0 x_503730 (r_503825) hU) hLa0 hka0 (by decide) rfl v_0_125 rfl ⟨rfl, rfl⟩ ⟨Nat.le_of_ble_eq_true rfl, Nat.le_of_ble_eq_true rfl⟩ (Nat.le_of_ble_eq_true rfl) ⟨Nat.le_of_ble_eq_true rfl, Nat.le_of_ble_eq_true rfl⟩ dX0_live_130 rfl (st := [.int 50]) (fun x_503872 I_503873 J_503874 h_503875 => ?_)
      obtain ⟨hUI_503873, hFI_503873, hGJ_503874, rx_503872⟩ := h_503875
      have hF_503876 := fq_tr hF hFI_503873 (by decide)
      have hG_503877 := fq_tr hG hGJ_503874 (by decide)
      refine g_callSI C K (c_X0_behind W9 50 x_503872 (rg_w rc_50 (by decide) (by decide)) (rg_w rx_503872 (by decide) (by decide)) hUI_503873) s_0_113 rfl ⟨rfl, rfl⟩ ⟨Nat.le_of_ble_eq_true rfl, Nat.le_of_ble_eq_true rfl⟩ (Nat.le_of_ble_eq_true rfl) ⟨Nat.le_of_ble_eq_true rfl, Nat.le_of_ble_eq_true rfl⟩ dX0_live_133 rfl (st := []) (fun x_503878 I_503879 J_503880 h_503881 => ?_)
      obtain ⟨rfl, rfl, rx_503878⟩ := h_503881
      exact g_zret (ty := .int) (r := x_503878) B K rfl (rfl) ⟨hUI_503873, hF_503876, hG_503877, rg_w rx_503878 (by decide) (by decide)⟩ dX0_live_136
    obtain ⟨q_5038821, q_5038822⟩ := rx_503731
    refine g_tableOut C (tgt := 137) dX0_live_13 (by omega) (by decide) ?_
    refine g_aload_n C 2 dX0_live_137 rfl rfl ?_
    refine g_aload_n C 1 dX0_live_138 rfl rfl ?_
    refine g_getR C K hLx hkx f_0_21 hb_503726 dX0_live_139 ?_
    refine g_iload_n C 3 dX0_live_142 rfl rfl ?_
    obtain ⟨x_503883, hx_503883, rx_503883⟩ := ex_get (I := I) (a := b_503726) (j := a1.toNatClampNeg) (lo := (-2147483648)) (hi := 2147483647) hU.1 hb_503726L (ro_a hb_503726k (by decide) hb_503726o hkx rfl) (rfl)
    refine h_iald C K hb_503726L hb_503726k (v := x_503883) (a1.toNatClampNeg) (rfl) (ix_0 ra1 (by decide)) (ix_lt ra1 (by decide) hb_503726n (by decide)) hx_503883 dX0_live_143 ?_
    refine g_callSI C K (c_X0_liveMeals W9 hLa0 hka0 x_503883  hU) s_0_128 rfl ⟨rfl, rfl⟩ ⟨Nat.le_of_ble_eq_true rfl, Nat.le_of_ble_eq_true rfl⟩ (Nat.le_of_ble_eq_true rfl) ⟨Nat.le_of_ble_eq_true rfl, Nat.le_of_ble_eq_true rfl⟩ dX0_live_144 rfl (st := []) (fun x_503884 I_503885 J_503886 h_503887 => ?_)
    obtain ⟨hUI_503885, hFI_503885, hGJ_503886, rx_503884⟩ := h_503887
    have hF_503888 := fq_tr hF hFI_503885 (by decide)
    have hG_503889 := fq_tr hG hGJ_503886 (by decide)
    exact g_zret (ty := .int) (r := x_503884) B K rfl (rfl) ⟨hUI_503885, hF_503888, hG_503889, rx_503884⟩ dX0_live_147
set_option maxRecDepth 100000 in
set_option maxHeartbeats 8000000 in
theorem c_X0_judgeBy {l : Launch} {D : va_G} {cy : Nat → ClassId} {L : List Nat} {κ ln : Nat → Nat} {R : Nat → Nat → Option Nat} {I : Nat → Nat → Int32} {J : Nat → Nat → Int64} {ow : Nat → Nat × Nat} (W9 : ∀ a ∈ L, Shp L κ ln R ow a) {x : Nat} (hLx : x ∈ L) (hkx : κ x = 0) {a0 : Nat} (hLa0 : a0 ∈ L) (hka0 : κ a0 = 1) (hU : Iv L κ R ow I) : CtV l yX0_judgeBy cX0_judgeBy 2 none { frames := 5, cells := 0, slots := 0, locals := 149 } D cy L κ ln R I J [.ref x, .ref a0] (fun I2 J2 => Iv L κ R ow I2 ∧ Fq L κ ow [5, 6, 7, 8, 9, 109, 111, 16100, 16200, 16300, 16400, 16500, 16600] I I2 ∧ Fq L κ ow [] J J2) := by
  refine CtV.of (by decide +kernel) (Nat.le_of_ble_eq_true rfl) ?_
  intro p e s m below meth c B K
  have C := B.1
  have hF : Fq L κ ow [5, 6, 7, 8, 9, 109, 111, 16100, 16200, 16300, 16400, 16500, 16600] I I := fq_rf
  have hG : Fq L κ ow [] J J := fq_rf
  refine g_lo (is := [0, 1]) (lo2 := [(0, .ref x), (1, .ref a0)]) rfl ?_
  have j_66 : ∀ (I_504435 : Nat → Nat → Int32) (J_504436 : Nat → Nat → Int64) (hU_504437 : Iv L κ R ow I_504435) (hF_504438 : Fq L κ ow [5, 6, 7, 8, 9, 109, 111, 16100, 16200, 16300, 16400, 16500, 16600] I I_504435) (hG_504439 : Fq L κ ow [] J J_504436) (v_504440 : Int32) (rv_504440 : Rg 0 40 v_504440) (v_504441 : Int32) (rv_504441 : Rg 0 61 v_504441) (v_504442 : Int32) (rv_504442 : Rg 0 40 v_504442) (q_504443 : I_504435 x 4 = v_504440) (q_504444 : I_504435 x 5 = 1) (q_504445 : I_504435 x 6 = v_504441) (q_504446 : I_504435 x 7 = v_504442), WG p l e { frames := 5, cells := 0, slots := 0, locals := 149 } s m ([.ref x, .ref a0] : List Value).toArray below meth c 2 0 0 (MQ below (Qv_ D cy L κ ln R (fun I2 J2 => Iv L κ R ow I2 ∧ Fq L κ ow [5, 6, 7, 8, 9, 109, 111, 16100, 16200, 16300, 16400, 16500, 16600] I I2 ∧ Fq L κ ow [] J J2)) ([.ref x, .ref a0] : List Value).toArray s 0 0 (Al_ L)) D cy (Al_ L) s.heap L κ ln R I_504435 J_504436 66 [(0, .ref x), (1, .ref a0)] [] := by
    intro I_504435 J_504436 hU_504437 hF_504438 hG_504439 v_504440 rv_504440 v_504441 rv_504441 v_504442 rv_504442 q_504443 q_504444 q_504445 q_504446
    refine g_aload_n C 0 dX0_judgeBy_66 rfl rfl ?_
    refine g_aload_n C 1 dX0_judgeBy_67 rfl rfl ?_
    obtain ⟨x_504447, hx_504447, rx_504447⟩ := ex_get (I := I_504435) (a := a0) (j := 9) (lo := (-2147483648)) (hi := 2147483647) hU_504437.1 hLa0 (ro_o hka0 (by decide)) rfl
    refine g_getI C K hLa0 hka0 f_0_98 (v := x_504447) hx_504447 dX0_judgeBy_68 ?_
    refine h_putI C K hLx hkx f_0_38 p_0_8 dX0_judgeBy_71 (fun I_504448 hI_504448 => ?_)
    have hU_504449 := iv_put W9 hU_504437 hI_504448 (ro_o hkx (by decide)) (lo := (-2147483648)) (hi := 2147483647) (rfl) (rx_504447) rfl
    have hF_504450 := fq_puto hF_504438 hI_504448 hkx (by decide) (by decide)
    refine g_aload_n C 0 dX0_judgeBy_74 rfl rfl ?_
    refine g_aload_n C 1 dX0_judgeBy_75 rfl rfl ?_
    obtain ⟨x_504451, hx_504451, rx_504451⟩ := ex_get (I := I_504448) (a := a0) (j := 7) (lo := (-2147483648)) (hi := 2147483647) hU_504449.1 hLa0 (ro_o hka0 (by decide)) rfl
    refine g_getI C K hLa0 hka0 f_0_103 (v := x_504451) hx_504451 dX0_judgeBy_76 ?_
    refine h_putI C K hLx hkx f_0_41 p_0_9 dX0_judgeBy_79 (fun I_504452 hI_504452 => ?_)
    have hU_504453 := iv_put W9 hU_504449 hI_504452 (ro_o hkx (by decide)) (lo := (-2147483648)) (hi := 2147483647) (rfl) (rx_504451) rfl
    have hF_504454 := fq_puto hF_504450 hI_504452 hkx (by decide) (by decide)
    exact g_vret B K rfl ⟨hU_504453, hF_504454, hG_504439⟩ dX0_judgeBy_82
  have l_15 : ∀ (n_15 : Nat) (I_504455 : Nat → Nat → Int32) (J_504456 : Nat → Nat → Int64) (hU_504457 : Iv L κ R ow I_504455) (hF_504458 : Fq L κ ow [5, 6, 7, 8, 9, 109, 111, 16100, 16200, 16300, 16400, 16500, 16600] I I_504455) (hG_504459 : Fq L κ ow [] J J_504456) (v_504460 : Int32) (rv_504460 : Rg 0 0 v_504460) (v_504461 : Int32) (rv_504461 : Rg 0 40 v_504461) (q_504462 : I_504455 x 5 = 1) (q_504463 : I_504455 x 6 = v_504460) (q_504464 : I_504455 x 7 = v_504461) (hm_504465 : 40 < (v_504461 : Int32).toInt + (n_15 : Int)), WG p l e { frames := 5, cells := 0, slots := 0, locals := 149 } s m ([.ref x, .ref a0] : List Value).toArray below meth c 2 0 0 (MQ below (Qv_ D cy L κ ln R (fun I2 J2 => Iv L κ R ow I2 ∧ Fq L κ ow [5, 6, 7, 8, 9, 109, 111, 16100, 16200, 16300, 16400, 16500, 16600] I I2 ∧ Fq L κ ow [] J J2)) ([.ref x, .ref a0] : List Value).toArray s 0 0 (Al_ L)) D cy (Al_ L) s.heap L κ ln R I_504455 J_504456 15 [(0, .ref x), (1, .ref a0)] [] := by
    intro n_15
    induction n_15 with
    | zero =>
      intro I_504455 J_504456 hU_504457 hF_504458 hG_504459 v_504460 rv_504460 v_504461 rv_504461 q_504462 q_504463 q_504464 hm_504465
      exact ms_0 rv_504461 hm_504465
    | succ n_15 ih_15 =>
      intro I_504455 J_504456 hU_504457 hF_504458 hG_504459 v_504460 rv_504460 v_504461 rv_504461 q_504462 q_504463 q_504464 hm_504465
      refine g_aload_n C 0 dX0_judgeBy_15 rfl rfl ?_
      refine g_getI C K hLx hkx f_0_35 (v := v_504461) q_504464 dX0_judgeBy_16 ?_
      refine g_aload_n C 0 dX0_judgeBy_19 rfl rfl ?_
      obtain ⟨x_504466, hx_504466, rx_504466⟩ := ex_get (I := I_504455) (a := x) (j := 4) (lo := 0) (hi := 40) hU_504457.1 hLx (ro_o hkx (by decide)) rfl
      refine g_getI C K hLx hkx f_0_24 (v := x_504466) hx_504466 dX0_judgeBy_20 ?_
      refine g_icmp_ge C (tgt := 66) dX0_judgeBy_23 (by decide) (fun h_504467 => ?_) (fun h_504467 => ?_)
      · skip
        refine g_lo (is := [0, 1]) (lo2 := [(0, .ref x), (1, .ref a0)]) rfl ?_
        exact j_66 I_504455 J_504456 hU_504457 hF_504458 hG_504459 x_504466 (rx_504466) v_504460 (rg_w rv_504460 (by decide) (by decide)) v_504461 (rv_504461) hx_504466 q_504462 q_504463 q_504464
      · skip
        have r_504468 := lt_l (hi := 39) (nle h_504467) rv_504461 rx_504466 (by decide)
        have r_504469 := lt_r (lo := 1) (nle h_504467) rv_504461 rx_504466 (by decide)
        refine g_aload_n C 0 dX0_judgeBy_26 rfl rfl ?_
        refine g_getI C K hLx hkx f_0_32 (v := v_504460) q_504463 dX0_judgeBy_27 ?_
        refine g_if_ne C (tgt := 66) dX0_judgeBy_30 (by decide) (fun h_504470 => ?_) (fun h_504470 => ?_)
        · skip
          exact ne_no (h_504470) rv_504460 rc_0
        · skip
          refine g_aload_n C 0 dX0_judgeBy_33 rfl rfl ?_
          refine g_aload_n C 0 dX0_judgeBy_34 rfl rfl ?_
          refine g_aload_n C 1 dX0_judgeBy_35 rfl rfl ?_
          refine g_aload_n C 0 dX0_judgeBy_36 rfl rfl ?_
          refine g_getI C K hLx hkx f_0_35 (v := v_504461) q_504464 dX0_judgeBy_37 ?_
          refine g_callVI C K (c_X0_live W9 hLx hkx hLa0 hka0 v_504461 (r_504468) hU_504457  (hU_504457.2.2 x hLx hkx _ (bk_lt (nle h_504467) hx_504466 (r_504468)))) hLx hkx (by decide) rfl v_0_94 rfl ⟨rfl, rfl⟩ ⟨Nat.le_of_ble_eq_true rfl, Nat.le_of_ble_eq_true rfl⟩ (Nat.le_of_ble_eq_true rfl) ⟨Nat.le_of_ble_eq_true rfl, Nat.le_of_ble_eq_true rfl⟩ dX0_judgeBy_40 rfl (st := [.ref x]) (fun x_504471 I_504472 J_504473 h_504474 => ?_)
          obtain ⟨hUI_504472, hFI_504472, hGJ_504473, rx_504471⟩ := h_504474
          have hF_504475 := fq_tr hF_504458 hFI_504472 (by decide)
          have hG_504476 := fq_tr hG_504459 hGJ_504473 (by decide)
          refine h_putI C K hLx hkx f_0_32 p_0_6 dX0_judgeBy_43 (fun I_504477 hI_504477 => ?_)
          have hU_504478 := iv_put W9 hUI_504472 hI_504477 (ro_o hkx (by decide)) (lo := (-2147483648)) (hi := 2147483647) (rfl) (rg_all _) rfl
          have hF_504479 := fq_puto hF_504475 hI_504477 hkx (by decide) (by decide)
          refine g_aload_n C 0 dX0_judgeBy_46 rfl rfl ?_
          refine g_getI C K hLx hkx f_0_32 (v := x_504471) (kp_s hI_504477) dX0_judgeBy_47 ?_
          refine g_if_ne C (tgt := 15) dX0_judgeBy_50 (by decide) (fun h_504480 => ?_) (fun h_504480 => ?_)
          · skip
            have n_504481 : ¬ x_504471 = 0 := h_504480
            have r_504482 := ne_lo (lo := 1) n_504481 rx_504471 rc_0 rfl (by decide)
            refine g_aload_n C 0 dX0_judgeBy_15 rfl rfl ?_
            refine g_getI C K hLx hkx f_0_35 (v := v_504461) (kp_j hI_504477 (by decide) (fq_at hFI_504472 hLx hkx (by decide) (by decide) q_504464)) dX0_judgeBy_16 ?_
            refine g_aload_n C 0 dX0_judgeBy_19 rfl rfl ?_
            refine g_getI C K hLx hkx f_0_24 (v := x_504466) (kp_j hI_504477 (by decide) (fq_at hFI_504472 hLx hkx (by decide) (by decide) hx_504466)) dX0_judgeBy_20 ?_
            refine g_icmp_ge C (tgt := 66) dX0_judgeBy_23 (by decide) (fun h_504483 => ?_) (fun h_504483 => ?_)
            · skip
              have r_504484 := le_l (h_504483) r_504469 r_504468
              have r_504485 := le_r (h_504483) r_504469 r_504468
              refine g_lo (is := [0, 1]) (lo2 := [(0, .ref x), (1, .ref a0)]) rfl ?_
              exact j_66 I_504477 J_504473 hU_504478 hF_504479 hG_504476 x_504466 (rg_w r_504484 (by decide) (by decide)) x_504471 (rg_w r_504482 (by decide) (by decide)) v_504461 (rg_w r_504485 (by decide) (by decide)) (kp_j hI_504477 (by decide) (fq_at hFI_504472 hLx hkx (by decide) (by decide) hx_504466)) (kp_j hI_504477 (by decide) (fq_at hFI_504472 hLx hkx (by decide) (by decide) q_504462)) (kp_s hI_504477) (kp_j hI_504477 (by decide) (fq_at hFI_504472 hLx hkx (by decide) (by decide) q_504464))
            · skip
              refine g_aload_n C 0 dX0_judgeBy_26 rfl rfl ?_
              refine g_getI C K hLx hkx f_0_32 (v := x_504471) (kp_s hI_504477) dX0_judgeBy_27 ?_
              refine g_if_ne C (tgt := 66) dX0_judgeBy_30 (by decide) (fun h_504486 => ?_) (fun h_504486 => ?_)
              · skip
                have n_504487 : ¬ x_504471 = 0 := h_504486
                refine g_lo (is := [0, 1]) (lo2 := [(0, .ref x), (1, .ref a0)]) rfl ?_
                exact j_66 I_504477 J_504473 hU_504478 hF_504479 hG_504476 x_504466 (rg_w r_504469 (by decide) (by decide)) x_504471 (rg_w r_504482 (by decide) (by decide)) v_504461 (rg_w r_504468 (by decide) (by decide)) (kp_j hI_504477 (by decide) (fq_at hFI_504472 hLx hkx (by decide) (by decide) hx_504466)) (kp_j hI_504477 (by decide) (fq_at hFI_504472 hLx hkx (by decide) (by decide) q_504462)) (kp_s hI_504477) (kp_j hI_504477 (by decide) (fq_at hFI_504472 hLx hkx (by decide) (by decide) q_504464))
              · skip
                exact eq_no (h_504486) r_504482 rc_0 (by decide)
          · skip
            have r_504488 := (⟨(rx_504471).1, (eq_rg (h_504480) rc_0).2⟩ : Rg 0 0 x_504471)
            refine g_aload_n C 0 dX0_judgeBy_53 rfl rfl ?_
            refine g_dup C dX0_judgeBy_54 rfl ?_
            refine g_getI C K hLx hkx f_0_35 (v := v_504461) (kp_j hI_504477 (by decide) (fq_at hFI_504472 hLx hkx (by decide) (by decide) q_504464)) dX0_judgeBy_55 ?_
            refine g_iconst C (v := 1) dX0_judgeBy_58 (by decide) ?_
            obtain ⟨x_504489, hx_504489, rx_504489, tx_504489⟩ := ex_add 1 40 r_504468 rc_1 (by decide) (by decide) (by decide) (by decide)
            refine g_iadd C (v := x_504489) dX0_judgeBy_59 hx_504489 ?_
            refine h_putI C K hLx hkx f_0_35 p_0_7 dX0_judgeBy_60 (fun I_504490 hI_504490 => ?_)
            have hU_504491 := iv_put W9 hU_504478 hI_504490 (ro_o hkx (by decide)) (lo := 0) (hi := 40) (rfl) (rg_w rx_504489 (by decide) (by decide)) rfl
            have hF_504492 := fq_puto hF_504479 hI_504490 hkx (by decide) (by decide)
            refine g_goto C (tgt := 15) dX0_judgeBy_63 (by decide) ?_
            refine g_lo (is := [0, 1]) (lo2 := [(0, .ref x), (1, .ref a0)]) rfl ?_
            exact ih_15 I_504490 J_504473 hU_504491 hF_504492 hG_504476 x_504471 (r_504488) x_504489 (rg_w rx_504489 (by decide) (by decide)) (kp_j hI_504490 (by decide) (kp_j hI_504477 (by decide) (fq_at hFI_504472 hLx hkx (by decide) (by decide) q_504462))) (kp_j hI_504490 (by decide) (kp_s hI_504477)) (kp_s hI_504490) (ms_1 hm_504465 (ti_k tx_504489 rc_1) (by decide))
  refine g_aload_n C 0 dX0_judgeBy_0 rfl rfl ?_
  refine g_iconst C (v := 1) dX0_judgeBy_1 (by decide) ?_
  refine h_putZ C K hLx hkx f_0_28 p_0_5 (rg_bool (rg_w rc_1 (by decide) (by decide))) dX0_judgeBy_2 (fun I_504493 hI_504493 => ?_)
  have hU_504494 := iv_put W9 hU hI_504493 (ro_o hkx (by decide)) (lo := 0) (hi := 1) (rfl) (rg_w rc_1 (by decide) (by decide)) rfl
  have hF_504495 := fq_puto hF hI_504493 hkx (by decide) (by decide)
  refine g_aload_n C 0 dX0_judgeBy_5 rfl rfl ?_
  refine g_iconst C (v := 0) dX0_judgeBy_6 (by decide) ?_
  refine h_putI C K hLx hkx f_0_32 p_0_6 dX0_judgeBy_7 (fun I_504496 hI_504496 => ?_)
  have hU_504497 := iv_put W9 hU_504494 hI_504496 (ro_o hkx (by decide)) (lo := (-2147483648)) (hi := 2147483647) (rfl) (rg_all _) rfl
  have hF_504498 := fq_puto hF_504495 hI_504496 hkx (by decide) (by decide)
  refine g_aload_n C 0 dX0_judgeBy_10 rfl rfl ?_
  refine g_iconst C (v := 0) dX0_judgeBy_11 (by decide) ?_
  refine h_putI C K hLx hkx f_0_35 p_0_7 dX0_judgeBy_12 (fun I_504499 hI_504499 => ?_)
  have hU_504500 := iv_put W9 hU_504497 hI_504499 (ro_o hkx (by decide)) (lo := 0) (hi := 40) (rfl) (rg_w rc_0 (by decide) (by decide)) rfl
  have hF_504501 := fq_puto hF_504498 hI_504499 hkx (by decide) (by decide)
  refine g_lo (is := [0, 1]) (lo2 := [(0, .ref x), (1, .ref a0)]) rfl ?_
  exact l_15 41 I_504499 J hU_504500 hF_504501 hG 0 (rc_0) 0 (rg_w rc_0 (by decide) (by decide)) (kp_j hI_504499 (by decide) (kp_j hI_504496 (by decide) (kp_s hI_504493))) (kp_j hI_504499 (by decide) (kp_s hI_504496)) (kp_s hI_504499) (ms_s (a := 0) (b := 40) (N := 41) (rg_w rc_0 (by decide) (by decide)) (by decide))
set_option maxRecDepth 100000 in
set_option maxHeartbeats 8000000 in
theorem c_X0_mostOf {l : Launch} {D : va_G} {cy : Nat → ClassId} {L : List Nat} {κ ln : Nat → Nat} {R : Nat → Nat → Option Nat} {I : Nat → Nat → Int32} {J : Nat → Nat → Int64} {ow : Nat → Nat × Nat} (W9 : ∀ a ∈ L, Shp L κ ln R ow a) (a0 : Int32) (ra0 : Rg 16 16 a0) (hU : Iv L κ R ow I) : CtI l yX0_mostOf cX0_mostOf 1 (some .int) { frames := 0, cells := 0, slots := 0, locals := 0 } D cy L κ ln R I J [.int a0] (fun r I2 J2 => I = I2 ∧ J = J2 ∧ Rg 0 60 r) := by
  refine CtI.of (by decide +kernel) (Nat.le_of_ble_eq_true rfl) ?_
  intro p e s m below meth c B K
  have C := B.1
  refine g_lo (is := [0]) (lo2 := [(0, .int a0)]) rfl ?_
  refine g_iload_n C 0 dX0_mostOf_0 rfl rfl ?_
  by_cases c_504508 : a0.toInt = 16
  · skip
    have r_504509 := rg_of (a := 16) (b := 16) 16 c_504508 (by decide) (by decide)
    refine g_lookup C (tgt := 42) (off := 41) dX0_mostOf_1 (by decide) (by rw [c_504508]; decide) (by decide) ?_
    refine g_bipush C (v := 60) dX0_mostOf_42 (by decide) ?_
    exact g_zret (ty := .int) (r := 60) B K rfl (rfl) ⟨rfl, rfl, rg_w rc_60 (by decide) (by decide)⟩ dX0_mostOf_44
  obtain ⟨q_5045101, q_5045102⟩ := ra0
  refine g_lookup C (tgt := 45) (off := 44) dX0_mostOf_1 (by decide) (by simp [Op.lookupswitch.offset, c_504508]) (by decide) ?_
  refine g_iconst C (v := 0) dX0_mostOf_45 (by decide) ?_
  exact g_zret (ty := .int) (r := 0) B K rfl (rfl) ⟨rfl, rfl, rg_w rc_0 (by decide) (by decide)⟩ dX0_mostOf_46
set_option maxRecDepth 100000 in
set_option maxHeartbeats 8000000 in
theorem c_X0_readAct {l : Launch} {D : va_G} {cy : Nat → ClassId} {L : List Nat} {κ ln : Nat → Nat} {R : Nat → Nat → Option Nat} {I : Nat → Nat → Int32} {J : Nat → Nat → Int64} {ow : Nat → Nat × Nat} (W9 : ∀ a ∈ L, Shp L κ ln R ow a) {x : Nat} (hLx : x ∈ L) (hkx : κ x = 0) {a0 : Nat} (hLa0 : a0 ∈ L) (hka0 : κ a0 = 10) {a1 : Nat} (hLa1 : a1 ∈ L) (hka1 : κ a1 = 8) (hU : Iv L κ R ow I) (hp0 : Rg 0 39 (I x 4)) : CtI l yX0_readAct cX0_readAct 7 (some .boolean) { frames := 2, cells := 0, slots := 0, locals := 44 } D cy L κ ln R I J [.ref x, .ref a0, .ref a1] (fun r I2 J2 => Iv L κ R ow I2 ∧ Fq L κ ow [1007, 1008, 1009, 1011, 1012, 10000, 10200, 10300] I I2 ∧ Fq L κ ow [1010] J J2 ∧ Rg 0 1 r ∧ (¬ r = 0 → bk_ R I2 x (I2 x 4).toNatClampNeg)) := by
  refine CtI.of (by decide +kernel) (Nat.le_of_ble_eq_true rfl) ?_
  intro p e s m below meth c B K
  have C := B.1
  have hF : Fq L κ ow [1007, 1008, 1009, 1011, 1012, 10000, 10200, 10300] I I := fq_rf
  have hG : Fq L κ ow [1010] J J := fq_rf
  obtain ⟨xp0, hxp0, rxp0⟩ : ∃ z, I x 4 = z ∧ Rg 0 39 z := ⟨_, rfl, hp0⟩
  obtain ⟨b_504907, hb_504907, hb_504907L, hb_504907k, hb_504907n, hb_504907o⟩ := shp_a (W9 x hLx) hkx 3 14 40 rfl (by decide)
  obtain ⟨b_504908, hb_504908, hb_504908L, hb_504908k, hb_504908n, hb_504908o⟩ := shp_a (W9 x hLx) hkx 0 14 40 rfl (by decide)
  obtain ⟨b_504909, hb_504909, hb_504909L, hb_504909k, hb_504909n, hb_504909o⟩ := shp_a (W9 x hLx) hkx 1 14 40 rfl (by decide)
  obtain ⟨b_504910, hb_504910, hb_504910L, hb_504910k, hb_504910n, hb_504910o⟩ := shp_a (W9 x hLx) hkx 2 14 40 rfl (by decide)
  refine g_lo (is := [0, 1, 2]) (lo2 := [(0, .ref x), (1, .ref a0), (2, .ref a1)]) rfl ?_
  have j_60 : ∀ (I_504911 : Nat → Nat → Int32) (J_504912 : Nat → Nat → Int64) (hU_504913 : Iv L κ R ow I_504911) (hF_504914 : Fq L κ ow [1007, 1008, 1009, 1011, 1012, 10000, 10200, 10300] I I_504911) (hG_504915 : Fq L κ ow [1010] J J_504912) (v_504916 : Int32) (v_504917 : Int32) (rv_504917 : Rg 0 39 v_504917) (q_504918 : I_504911 a0 8 = v_504916) (q_504919 : I_504911 x 4 = v_504917), WG p l e { frames := 2, cells := 0, slots := 0, locals := 44 } s m ([.ref x, .ref a0, .ref a1] : List Value).toArray below meth c 7 0 0 (MQ below (Qi_ D cy L κ ln R (fun r I2 J2 => Iv L κ R ow I2 ∧ Fq L κ ow [1007, 1008, 1009, 1011, 1012, 10000, 10200, 10300] I I2 ∧ Fq L κ ow [1010] J J2 ∧ Rg 0 1 r ∧ (¬ r = 0 → bk_ R I2 x (I2 x 4).toNatClampNeg))) ([.ref x, .ref a0, .ref a1] : List Value).toArray s 0 0 (Al_ L)) D cy (Al_ L) s.heap L κ ln R I_504911 J_504912 60 [(0, .ref x), (1, .ref a0), (2, .ref a1), (3, .int v_504916), (4, .int 0)] [] := by
    intro I_504911 J_504912 hU_504913 hF_504914 hG_504915 v_504916 v_504917 rv_504917 q_504918 q_504919
    refine g_iconst C (v := 0) dX0_readAct_60 (by decide) ?_
    refine g_istore C dX0_readAct_61 (by decide) (lo2 := [(5, .int 0), (0, .ref x), (1, .ref a0), (2, .ref a1), (3, .int v_504916), (4, .int 0)]) rfl ?_
    refine g_iload C 0 dX0_readAct_63 rfl ?_
    refine g_if_ne C (tgt := 74) dX0_readAct_65 (by decide) (fun h_504920 => ?_) (fun h_504920 => ?_)
    · skip
      exact absurd h_504920 (by decide)
    · skip
      refine g_aload_n C 2 dX0_readAct_68 rfl rfl ?_
      refine g_iconst C (v := 1) dX0_readAct_69 (by decide) ?_
      refine g_callVI C K (c_X10_fail W9 hLa0 hka0 1 (rg_w rc_1 (by decide) (by decide)) hU_504913) hLa0 hka0 (by decide) rfl v_0_57 rfl ⟨rfl, rfl⟩ ⟨Nat.le_of_ble_eq_true rfl, Nat.le_of_ble_eq_true rfl⟩ (Nat.le_of_ble_eq_true rfl) ⟨Nat.le_of_ble_eq_true rfl, Nat.le_of_ble_eq_true rfl⟩ dX0_readAct_70 rfl (st := []) (fun x_504921 I_504922 J_504923 h_504924 => ?_)
      obtain ⟨hUI_504922, hFI_504922, hGJ_504923, rx_504921⟩ := h_504924
      have hF_504925 := fq_tr hF_504914 hFI_504922 (by decide)
      have hG_504926 := fq_tr hG_504915 hGJ_504923 (by decide)
      exact g_zret (ty := .boolean) (r := x_504921) B K rfl (nar_z (rg_w rx_504921 (by decide) (by decide))) ⟨hUI_504922, hF_504925, hG_504926, rg_w rx_504921 (by decide) (by decide), (fun q => ne_no q rx_504921 rc_0)⟩ dX0_readAct_73
  refine g_aload_n C 1 dX0_readAct_0 rfl rfl ?_
  obtain ⟨x_504927, hx_504927, rx_504927⟩ := ex_get (I := I) (a := a0) (j := 8) (lo := (-2147483648)) (hi := 2147483647) hU.1 hLa0 (ro_o hka0 (by decide)) rfl
  refine g_getI C K hLa0 hka0 f_0_50 (v := x_504927) hx_504927 dX0_readAct_1 ?_
  refine g_istore_n C dX0_readAct_4 rfl (by decide) (lo2 := [(3, .int x_504927), (0, .ref x), (1, .ref a0), (2, .ref a1)]) rfl ?_
  refine g_aload_n C 1 dX0_readAct_5 rfl rfl ?_
  refine g_getR C K hLx hkx f_0_15 hb_504909 dX0_readAct_6 ?_
  refine g_aload_n C 1 dX0_readAct_9 rfl rfl ?_
  refine g_getI C K hLx hkx f_0_24 (v := xp0) hxp0 dX0_readAct_10 ?_
  obtain ⟨x_504928, hx_504928, rx_504928⟩ := ex_get (I := I) (a := b_504909) (j := xp0.toNatClampNeg) (lo := (-1)) (hi := 6) hU.1 hb_504909L (ro_a hb_504909k (by decide) hb_504909o hkx rfl) (rfl)
  refine h_iald C K hb_504909L hb_504909k (v := x_504928) (xp0.toNatClampNeg) (rfl) (ix_0 rxp0 (by decide)) (ix_lt rxp0 (by decide) hb_504909n (by decide)) hx_504928 dX0_readAct_13 ?_
  refine g_iconst C (v := (-1)) dX0_readAct_14 (by decide) ?_
  refine g_icmp_ne C (tgt := 22) dX0_readAct_15 (by decide) (fun h_504929 => ?_) (fun h_504929 => ?_)
  · skip
    have n_504930 : ¬ x_504928 = (-1) := h_504929
    have r_504931 := ne_lo (lo := 0) n_504930 rx_504928 rc_m1 rfl (by decide)
    refine g_iconst C (v := 0) dX0_readAct_22 (by decide) ?_
    refine g_istore C dX0_readAct_23 (by decide) (lo2 := [(4, .int 0), (3, .int x_504927), (0, .ref x), (1, .ref a0), (2, .ref a1)]) rfl ?_
    refine g_iload C 0 dX0_readAct_25 rfl ?_
    refine g_if_eq C (tgt := 44) dX0_readAct_27 (by decide) (fun h_504932 => ?_) (fun h_504932 => ?_)
    · skip
      refine g_iload_n C 1 dX0_readAct_44 rfl rfl ?_
      refine g_bipush C (v := 10) dX0_readAct_45 (by decide) ?_
      refine g_icmp_lt C (tgt := 60) dX0_readAct_47 (by decide) (fun h_504933 => ?_) (fun h_504933 => ?_)
      · skip
        have r_504934 := lt_l (hi := 9) (h_504933) rx_504927 rc_10 (by decide)
        refine g_lo (is := [2, 3, 4, 1, 0]) (lo2 := [(0, .ref x), (1, .ref a0), (2, .ref a1), (3, .int x_504927), (4, .int 0)]) rfl ?_
        exact j_60 I J hU hF hG x_504927 xp0 (rxp0) hx_504927 hxp0
      · skip
        have r_504935 := le_r (nlt h_504933) rc_10 rx_504927
        refine g_iload_n C 1 dX0_readAct_50 rfl rfl ?_
        refine g_bipush C (v := 15) dX0_readAct_51 (by decide) ?_
        refine g_icmp_gt C (tgt := 60) dX0_readAct_53 (by decide) (fun h_504936 => ?_) (fun h_504936 => ?_)
        · skip
          have r_504937 := lt_r (lo := 16) (h_504936) rc_15 r_504935 (by decide)
          refine g_lo (is := [2, 3, 4, 1, 0]) (lo2 := [(0, .ref x), (1, .ref a0), (2, .ref a1), (3, .int x_504927), (4, .int 0)]) rfl ?_
          exact j_60 I J hU hF hG x_504927 xp0 (rxp0) hx_504927 hxp0
        · skip
          have r_504938 := le_l (nlt h_504936) r_504935 rc_15
          refine g_iconst C (v := 1) dX0_readAct_56 (by decide) ?_
          refine g_goto C (tgt := 61) dX0_readAct_57 (by decide) ?_
          refine g_istore C dX0_readAct_61 (by decide) (lo2 := [(5, .int 1), (4, .int 0), (3, .int x_504927), (0, .ref x), (1, .ref a0), (2, .ref a1)]) rfl ?_
          refine g_iload C 0 dX0_readAct_63 rfl ?_
          refine g_if_ne C (tgt := 74) dX0_readAct_65 (by decide) (fun h_504939 => ?_) (fun h_504939 => ?_)
          · skip
            refine g_aload_n C 4 dX0_readAct_74 rfl rfl ?_
            refine g_callVV C K (c_X10_advance W9 hLa0 hka0   hU) hLa0 hka0 (by decide) rfl v_0_71 rfl ⟨rfl, rfl⟩ ⟨Nat.le_of_ble_eq_true rfl, Nat.le_of_ble_eq_true rfl⟩ (Nat.le_of_ble_eq_true rfl) ⟨Nat.le_of_ble_eq_true rfl, Nat.le_of_ble_eq_true rfl⟩ dX0_readAct_75 rfl (st := []) (fun I_504941 J_504942 h_504943 => ?_)
            obtain ⟨hUI_504941, hFI_504941, hGJ_504942⟩ := h_504943
            have hF_504944 := fq_tr hF hFI_504941 (by decide)
            have hG_504945 := fq_tr hG hGJ_504942 (by decide)
            refine g_aload_n C 3 dX0_readAct_78 rfl rfl ?_
            refine g_getR C K hLx hkx f_0_11 hb_504908 dX0_readAct_79 ?_
            refine g_aload_n C 3 dX0_readAct_82 rfl rfl ?_
            refine g_getI C K hLx hkx f_0_24 (v := xp0) (fq_at hFI_504941 hLx hkx (by decide) (by decide) hxp0) dX0_readAct_83 ?_
            refine g_iload_n C 2 dX0_readAct_86 rfl rfl ?_
            refine h_iast C K hb_504908L hb_504908k (xp0.toNatClampNeg) (rfl) (ix_0 rxp0 (by decide)) (ix_lt rxp0 (by decide) hb_504908n (by decide)) dX0_readAct_87 (fun I_504946 hI_504946 => ?_)
            have hU_504947 := iv_row W9 hUI_504941 (uv_put hUI_504941.1 hI_504946 (ro_a hb_504908k (by decide) hb_504908o hkx rfl) (lo := (-2147483648)) (hi := 2147483647) (rfl) (rg_all _)) hI_504946 (ro_a hb_504908k (by decide) hb_504908o hkx rfl) hb_504908o (by decide) (fq_at hFI_504941 hLx hkx (by decide) (by decide) hxp0) rfl
            have hF_504948 := fq_puta hF_504944 hI_504946 (ro_a hb_504908k (by decide) hb_504908o hkx rfl) (by decide) (by decide)
            refine g_iload_n C 2 dX0_readAct_88 rfl rfl ?_
            refine g_bipush C (v := 10) dX0_readAct_89 (by decide) ?_
            refine g_icmp_eq C (tgt := 100) dX0_readAct_91 (by decide) (fun h_504949 => ?_) (fun h_504949 => ?_)
            · skip
              have r_504950 := (⟨(r_504938).1, (eq_rg (h_504949) rc_10).2⟩ : Rg 10 10 x_504927)
              refine g_aload_n C 3 dX0_readAct_100 rfl rfl ?_
              refine g_getR C K hLx hkx f_0_18 hb_504910 dX0_readAct_101 ?_
              refine g_aload_n C 3 dX0_readAct_104 rfl rfl ?_
              refine g_getI C K hLx hkx f_0_24 (v := xp0) (kp_k (κ := κ) hI_504946 (by rw [hkx, hb_504908k]; decide) (fq_at hFI_504941 hLx hkx (by decide) (by decide) hxp0)) dX0_readAct_105 ?_
              refine g_aload_n C 4 dX0_readAct_108 rfl rfl ?_
              refine g_aload_n C 5 dX0_readAct_109 rfl rfl ?_
              refine g_aload_n C 4 dX0_readAct_110 rfl rfl ?_
              obtain ⟨y_504951, hy_504951⟩ : ∃ z, J_504942 a0 10 = z := ⟨_, rfl⟩
              refine g_getJ C K hLa0 hka0 f_0_61 (v := y_504951) hy_504951 dX0_readAct_111 ?_
              refine g_callVI C K (c_X8_dishNamed W9 hLa1 hka1 y_504951  hU_504947) hLa1 hka1 (by decide) rfl v_0_80 rfl ⟨rfl, rfl⟩ ⟨Nat.le_of_ble_eq_true rfl, Nat.le_of_ble_eq_true rfl⟩ (Nat.le_of_ble_eq_true rfl) ⟨Nat.le_of_ble_eq_true rfl, Nat.le_of_ble_eq_true rfl⟩ dX0_readAct_114 rfl (st := [.ref a0, .int xp0, .ref b_504910]) (fun x_504952 I_504953 J_504954 h_504955 => ?_)
              obtain ⟨rfl, rfl, rx_504952⟩ := h_504955
              refine g_callVI C K (c_X10_takeName W9 hLa0 hka0 x_504952 (rg_w rx_504952 (by decide) (by decide)) hU_504947) hLa0 hka0 (by decide) rfl v_0_83 rfl ⟨rfl, rfl⟩ ⟨Nat.le_of_ble_eq_true rfl, Nat.le_of_ble_eq_true rfl⟩ (Nat.le_of_ble_eq_true rfl) ⟨Nat.le_of_ble_eq_true rfl, Nat.le_of_ble_eq_true rfl⟩ dX0_readAct_117 rfl (st := [.int xp0, .ref b_504910]) (fun x_504956 I_504957 J_504958 h_504959 => ?_)
              obtain ⟨hUI_504957, hFI_504957, hGJ_504958, rx_504956, ex_504956⟩ := h_504959
              have hF_504960 := fq_tr hF_504948 hFI_504957 (by decide)
              have hG_504961 := fq_tr hG_504945 hGJ_504958 (by decide)
              have r_504962 := rg_or ex_504956 (rx_504952) (by decide) (by decide)
              refine h_iast C K hb_504910L hb_504910k (xp0.toNatClampNeg) (rfl) (ix_0 rxp0 (by decide)) (ix_lt rxp0 (by decide) hb_504910n (by decide)) dX0_readAct_120 (fun I_504963 hI_504963 => ?_)
              have hU_504964 := iv_row W9 hUI_504957 (uv_put hUI_504957.1 hI_504963 (ro_a hb_504910k (by decide) hb_504910o hkx rfl) (lo := (-1)) (hi := 5) (rfl) (r_504962)) hI_504963 (ro_a hb_504910k (by decide) hb_504910o hkx rfl) hb_504910o (by decide) (fq_at hFI_504957 hLx hkx (by decide) (by decide) (kp_k (κ := κ) hI_504946 (by rw [hkx, hb_504908k]; decide) (fq_at hFI_504941 hLx hkx (by decide) (by decide) hxp0))) rfl
              have hF_504965 := fq_puta hF_504960 hI_504963 (ro_a hb_504910k (by decide) hb_504910o hkx rfl) (by decide) (by decide)
              refine g_aload_n C 3 dX0_readAct_121 rfl rfl ?_
              refine g_getR C K hLx hkx f_0_18 hb_504910 dX0_readAct_122 ?_
              refine g_aload_n C 3 dX0_readAct_125 rfl rfl ?_
              have q_504966 := (kp_k (κ := κ) hI_504963 (by rw [hkx, hb_504910k]; decide) (fq_at hFI_504957 hLx hkx (by decide) (by decide) (kp_k (κ := κ) hI_504946 (by rw [hkx, hb_504908k]; decide) (fq_at hFI_504941 hLx hkx (by decide) (by decide) hxp0))))
              refine g_getI C K hLx hkx f_0_24 (v := xp0) q_504966 dX0_readAct_126 ?_
              refine h_iald C K hb_504910L hb_504910k (v := x_504956) (xp0.toNatClampNeg) (rfl) (ix_0 rxp0 (by decide)) (ix_lt rxp0 (by decide) hb_504910n (by decide)) (kp_s hI_504963) dX0_readAct_129 ?_
              refine g_iconst C (v := (-1)) dX0_readAct_130 (by decide) ?_
              refine g_icmp_ne C (tgt := 136) dX0_readAct_131 (by decide) (fun h_504968 => ?_) (fun h_504968 => ?_)
              · skip
                have n_504969 : ¬ x_504956 = (-1) := h_504968
                have r_504970 := ne_lo (lo := 0) n_504969 r_504962 rc_m1 rfl (by decide)
                have r_504971 := eq_rg (Eq.symm (Or.resolve_left ex_504956 (rg_nek r_504970 rc_m1 (by decide)))) r_504970
                refine g_iload_n C 2 dX0_readAct_136 rfl rfl ?_
                refine g_callSI C K (c_X0_mostOf W9 x_504927 (rg_w r_504950 (by decide) (by decide)) hU_504964) s_0_87 rfl ⟨rfl, rfl⟩ ⟨Nat.le_of_ble_eq_true rfl, Nat.le_of_ble_eq_true rfl⟩ (Nat.le_of_ble_eq_true rfl) ⟨Nat.le_of_ble_eq_true rfl, Nat.le_of_ble_eq_true rfl⟩ dX0_readAct_137 rfl (st := []) (fun x_504972 I_504973 J_504974 h_504975 => ?_)
                obtain ⟨rfl, rfl, rx_504972⟩ := h_504975
                refine g_istore C dX0_readAct_140 (by decide) (lo2 := [(6, .int x_504972), (5, .int 1), (4, .int 0), (3, .int x_504927), (0, .ref x), (1, .ref a0), (2, .ref a1)]) rfl ?_
                refine g_iload C 0 dX0_readAct_142 rfl ?_
                refine g_if_ne C (tgt := 149) dX0_readAct_144 (by decide) (fun h_504976 => ?_) (fun h_504976 => ?_)
                · skip
                  have n_504977 : ¬ x_504972 = 0 := h_504976
                  have r_504978 := ne_lo (lo := 1) n_504977 rx_504972 rc_0 rfl (by decide)
                  refine g_aload_n C 4 dX0_readAct_149 rfl rfl ?_
                  refine g_getR C K hLx hkx f_0_21 hb_504907 dX0_readAct_150 ?_
                  refine g_aload_n C 4 dX0_readAct_153 rfl rfl ?_
                  refine g_getI C K hLx hkx f_0_24 (v := xp0) q_504966 dX0_readAct_154 ?_
                  refine g_aload_n C 5 dX0_readAct_157 rfl rfl ?_
                  refine g_iconst C (v := 1) dX0_readAct_158 (by decide) ?_
                  refine g_iload C 0 dX0_readAct_159 rfl ?_
                  refine g_callVI C K (c_X10_takeNumber W9 hLa0 hka0 1 x_504972 (rg_w rc_1 (by decide) (by decide)) (rg_w r_504978 (by decide) (by decide)) hU_504964) hLa0 hka0 (by decide) rfl v_0_90 rfl ⟨rfl, rfl⟩ ⟨Nat.le_of_ble_eq_true rfl, Nat.le_of_ble_eq_true rfl⟩ (Nat.le_of_ble_eq_true rfl) ⟨Nat.le_of_ble_eq_true rfl, Nat.le_of_ble_eq_true rfl⟩ dX0_readAct_161 rfl (st := [.int xp0, .ref b_504907]) (fun x_504979 I_504980 J_504981 h_504982 => ?_)
                  obtain ⟨hUI_504980, hFI_504980, hGJ_504981, rx_504979⟩ := h_504982
                  have hF_504983 := fq_tr hF_504965 hFI_504980 (by decide)
                  have hG_504984 := fq_tr hG_504961 hGJ_504981 (by decide)
                  refine h_iast C K hb_504907L hb_504907k (xp0.toNatClampNeg) (rfl) (ix_0 rxp0 (by decide)) (ix_lt rxp0 (by decide) hb_504907n (by decide)) dX0_readAct_164 (fun I_504985 hI_504985 => ?_)
                  have hU_504986 := iv_put W9 hUI_504980 hI_504985 (ro_a hb_504907k (by decide) hb_504907o hkx rfl) (lo := (-2147483648)) (hi := 2147483647) (rfl) (rx_504979) rfl
                  have hF_504987 := fq_puta hF_504983 hI_504985 (ro_a hb_504907k (by decide) hb_504907o hkx rfl) (by decide) (by decide)
                  refine g_aload_n C 4 dX0_readAct_165 rfl rfl ?_
                  refine g_getR C K hLx hkx f_0_21 hb_504907 dX0_readAct_166 ?_
                  refine g_aload_n C 4 dX0_readAct_169 rfl rfl ?_
                  refine g_getI C K hLx hkx f_0_24 (v := xp0) (kp_k (κ := κ) hI_504985 (by rw [hkx, hb_504907k]; decide) (fq_at hFI_504980 hLx hkx (by decide) (by decide) q_504966)) dX0_readAct_170 ?_
                  refine h_iald C K hb_504907L hb_504907k (v := x_504979) (xp0.toNatClampNeg) (rfl) (ix_0 rxp0 (by decide)) (ix_lt rxp0 (by decide) hb_504907n (by decide)) (kp_s hI_504985) dX0_readAct_173 ?_
                  refine g_iconst C (v := (-1)) dX0_readAct_174 (by decide) ?_
                  refine g_icmp_eq C (tgt := 182) dX0_readAct_175 (by decide) (fun h_504989 => ?_) (fun h_504989 => ?_)
                  · skip
                    have r_504990 := (⟨(eq_rg (h_504989) rc_m1).1, (eq_rg (h_504989) rc_m1).2⟩ : Rg (-1) (-1) x_504979)
                    refine g_iconst C (v := 0) dX0_readAct_182 (by decide) ?_
                    exact g_zret (ty := .boolean) (r := 0) B K rfl (rfl) ⟨hU_504986, hF_504987, hG_504984, rg_w rc_0 (by decide) (by decide), (fun q => absurd rfl q)⟩ dX0_readAct_183
                  · skip
                    have n_504991 : ¬ x_504979 = (-1) := h_504989
                    refine g_iconst C (v := 1) dX0_readAct_178 (by decide) ?_
                    refine g_goto C (tgt := 183) dX0_readAct_179 (by decide) ?_
                    have q_504992 := (kp_r hI_504985 (ro_a hb_504909k (by decide) hb_504909o hkx rfl) (ro_a hb_504907k (by decide) hb_504907o hkx rfl) (by decide) (fq_ar hFI_504980 hb_504909L (ro_a hb_504909k (by decide) hb_504909o hkx rfl) (by decide) (by decide) (kp_r hI_504963 (ro_a hb_504909k (by decide) hb_504909o hkx rfl) (ro_a hb_504910k (by decide) hb_504910o hkx rfl) (by decide) (fq_ar hFI_504957 hb_504909L (ro_a hb_504909k (by decide) hb_504909o hkx rfl) (by decide) (by decide) (kp_r hI_504946 (ro_a hb_504909k (by decide) hb_504909o hkx rfl) (ro_a hb_504908k (by decide) hb_504908o hkx rfl) (by decide) (fq_ar hFI_504941 hb_504909L (ro_a hb_504909k (by decide) hb_504909o hkx rfl) (by decide) (by decide) hx_504928))))))
                    have q_504993 := (kp_r hI_504985 (ro_a hb_504910k (by decide) hb_504910o hkx rfl) (ro_a hb_504907k (by decide) hb_504907o hkx rfl) (by decide) (fq_ar hFI_504980 hb_504910L (ro_a hb_504910k (by decide) hb_504910o hkx rfl) (by decide) (by decide) (kp_s hI_504963)))
                    exact g_zret (ty := .boolean) (r := 1) B K rfl (rfl) ⟨hU_504986, hF_504987, hG_504984, rg_w rc_1 (by decide) (by decide), (fun _ => bk_m2 (kp_k (κ := κ) hI_504985 (by rw [hkx, hb_504907k]; decide) (fq_at hFI_504980 hLx hkx (by decide) (by decide) q_504966)) hb_504909 hb_504910 q_504992 (r_504931) q_504993 (r_504970))⟩ dX0_readAct_183
                · skip
                  have r_504994 := (⟨(rx_504972).1, (eq_rg (h_504976) rc_0).2⟩ : Rg 0 0 x_504972)
                  refine g_iconst C (v := 1) dX0_readAct_147 (by decide) ?_
                  have q_504995 := (kp_r hI_504963 (ro_a hb_504909k (by decide) hb_504909o hkx rfl) (ro_a hb_504910k (by decide) hb_504910o hkx rfl) (by decide) (fq_ar hFI_504957 hb_504909L (ro_a hb_504909k (by decide) hb_504909o hkx rfl) (by decide) (by decide) (kp_r hI_504946 (ro_a hb_504909k (by decide) hb_504909o hkx rfl) (ro_a hb_504908k (by decide) hb_504908o hkx rfl) (by decide) (fq_ar hFI_504941 hb_504909L (ro_a hb_504909k (by decide) hb_504909o hkx rfl) (by decide) (by decide) hx_504928))))
                  exact g_zret (ty := .boolean) (r := 1) B K rfl (rfl) ⟨hU_504964, hF_504965, hG_504961, rg_w rc_1 (by decide) (by decide), (fun _ => bk_m2 q_504966 hb_504909 hb_504910 q_504995 (r_504931) (kp_s hI_504963) (r_504970))⟩ dX0_readAct_148
              · skip
                have r_504996 := (⟨(r_504962).1, (eq_rg (h_504968) rc_m1).2⟩ : Rg (-1) (-1) x_504956)
                refine g_iconst C (v := 0) dX0_readAct_134 (by decide) ?_
                exact g_zret (ty := .boolean) (r := 0) B K rfl (rfl) ⟨hU_504964, hF_504965, hG_504961, rg_w rc_0 (by decide) (by decide), (fun q => absurd rfl q)⟩ dX0_readAct_135
            · skip
              have n_504997 : ¬ x_504927 = 10 := h_504949
              have r_504998 := ne_lo (lo := 11) n_504997 r_504938 rc_10 rfl (by decide)
              refine g_iload_n C 2 dX0_readAct_94 rfl rfl ?_
              refine g_bipush C (v := 11) dX0_readAct_95 (by decide) ?_
              refine g_icmp_ne C (tgt := 136) dX0_readAct_97 (by decide) (fun h_504999 => ?_) (fun h_504999 => ?_)
              · skip
                have n_505000 : ¬ x_504927 = 11 := h_504999
                have r_505001 := ne_lo (lo := 12) n_505000 r_504998 rc_11 rfl (by decide)
                refine g_iload_n C 2 dX0_readAct_136 rfl rfl ?_
                refine g_callSI C K (c_X0_mostOf W9 x_504927 (rg_w r_505001 (by decide) (by decide)) hU_504947) s_0_87 rfl ⟨rfl, rfl⟩ ⟨Nat.le_of_ble_eq_true rfl, Nat.le_of_ble_eq_true rfl⟩ (Nat.le_of_ble_eq_true rfl) ⟨Nat.le_of_ble_eq_true rfl, Nat.le_of_ble_eq_true rfl⟩ dX0_readAct_137 rfl (st := []) (fun x_505002 I_505003 J_505004 h_505005 => ?_)
                obtain ⟨rfl, rfl, rx_505002⟩ := h_505005
                refine g_istore C dX0_readAct_140 (by decide) (lo2 := [(6, .int x_505002), (5, .int 1), (4, .int 0), (3, .int x_504927), (0, .ref x), (1, .ref a0), (2, .ref a1)]) rfl ?_
                refine g_iload C 0 dX0_readAct_142 rfl ?_
                refine g_if_ne C (tgt := 149) dX0_readAct_144 (by decide) (fun h_505006 => ?_) (fun h_505006 => ?_)
                · skip
                  have n_505007 : ¬ x_505002 = 0 := h_505006
                  have r_505008 := ne_lo (lo := 1) n_505007 rx_505002 rc_0 rfl (by decide)
                  refine g_aload_n C 4 dX0_readAct_149 rfl rfl ?_
                  refine g_getR C K hLx hkx f_0_21 hb_504907 dX0_readAct_150 ?_
                  refine g_aload_n C 4 dX0_readAct_153 rfl rfl ?_
                  refine g_getI C K hLx hkx f_0_24 (v := xp0) (kp_k (κ := κ) hI_504946 (by rw [hkx, hb_504908k]; decide) (fq_at hFI_504941 hLx hkx (by decide) (by decide) hxp0)) dX0_readAct_154 ?_
                  refine g_aload_n C 5 dX0_readAct_157 rfl rfl ?_
                  refine g_iconst C (v := 1) dX0_readAct_158 (by decide) ?_
                  refine g_iload C 0 dX0_readAct_159 rfl ?_
                  refine g_callVI C K (c_X10_takeNumber W9 hLa0 hka0 1 x_505002 (rg_w rc_1 (by decide) (by decide)) (rg_w r_505008 (by decide) (by decide)) hU_504947) hLa0 hka0 (by decide) rfl v_0_90 rfl ⟨rfl, rfl⟩ ⟨Nat.le_of_ble_eq_true rfl, Nat.le_of_ble_eq_true rfl⟩ (Nat.le_of_ble_eq_true rfl) ⟨Nat.le_of_ble_eq_true rfl, Nat.le_of_ble_eq_true rfl⟩ dX0_readAct_161 rfl (st := [.int xp0, .ref b_504907]) (fun x_505009 I_505010 J_505011 h_505012 => ?_)
                  obtain ⟨hUI_505010, hFI_505010, hGJ_505011, rx_505009⟩ := h_505012
                  have hF_505013 := fq_tr hF_504948 hFI_505010 (by decide)
                  have hG_505014 := fq_tr hG_504945 hGJ_505011 (by decide)
                  refine h_iast C K hb_504907L hb_504907k (xp0.toNatClampNeg) (rfl) (ix_0 rxp0 (by decide)) (ix_lt rxp0 (by decide) hb_504907n (by decide)) dX0_readAct_164 (fun I_505015 hI_505015 => ?_)
                  have hU_505016 := iv_put W9 hUI_505010 hI_505015 (ro_a hb_504907k (by decide) hb_504907o hkx rfl) (lo := (-2147483648)) (hi := 2147483647) (rfl) (rx_505009) rfl
                  have hF_505017 := fq_puta hF_505013 hI_505015 (ro_a hb_504907k (by decide) hb_504907o hkx rfl) (by decide) (by decide)
                  refine g_aload_n C 4 dX0_readAct_165 rfl rfl ?_
                  refine g_getR C K hLx hkx f_0_21 hb_504907 dX0_readAct_166 ?_
                  refine g_aload_n C 4 dX0_readAct_169 rfl rfl ?_
                  have q_505018 := (kp_k (κ := κ) hI_505015 (by rw [hkx, hb_504907k]; decide) (fq_at hFI_505010 hLx hkx (by decide) (by decide) (kp_k (κ := κ) hI_504946 (by rw [hkx, hb_504908k]; decide) (fq_at hFI_504941 hLx hkx (by decide) (by decide) hxp0))))
                  refine g_getI C K hLx hkx f_0_24 (v := xp0) q_505018 dX0_readAct_170 ?_
                  refine h_iald C K hb_504907L hb_504907k (v := x_505009) (xp0.toNatClampNeg) (rfl) (ix_0 rxp0 (by decide)) (ix_lt rxp0 (by decide) hb_504907n (by decide)) (kp_s hI_505015) dX0_readAct_173 ?_
                  refine g_iconst C (v := (-1)) dX0_readAct_174 (by decide) ?_
                  refine g_icmp_eq C (tgt := 182) dX0_readAct_175 (by decide) (fun h_505020 => ?_) (fun h_505020 => ?_)
                  · skip
                    have r_505021 := (⟨(eq_rg (h_505020) rc_m1).1, (eq_rg (h_505020) rc_m1).2⟩ : Rg (-1) (-1) x_505009)
                    refine g_iconst C (v := 0) dX0_readAct_182 (by decide) ?_
                    exact g_zret (ty := .boolean) (r := 0) B K rfl (rfl) ⟨hU_505016, hF_505017, hG_505014, rg_w rc_0 (by decide) (by decide), (fun q => absurd rfl q)⟩ dX0_readAct_183
                  · skip
                    have n_505022 : ¬ x_505009 = (-1) := h_505020
                    refine g_iconst C (v := 1) dX0_readAct_178 (by decide) ?_
                    refine g_goto C (tgt := 183) dX0_readAct_179 (by decide) ?_
                    have q_505023 := (kp_r hI_505015 (ro_a hb_504909k (by decide) hb_504909o hkx rfl) (ro_a hb_504907k (by decide) hb_504907o hkx rfl) (by decide) (fq_ar hFI_505010 hb_504909L (ro_a hb_504909k (by decide) hb_504909o hkx rfl) (by decide) (by decide) (kp_r hI_504946 (ro_a hb_504909k (by decide) hb_504909o hkx rfl) (ro_a hb_504908k (by decide) hb_504908o hkx rfl) (by decide) (fq_ar hFI_504941 hb_504909L (ro_a hb_504909k (by decide) hb_504909o hkx rfl) (by decide) (by decide) hx_504928))))
                    have q_505024 := (kp_r hI_505015 (ro_a hb_504908k (by decide) hb_504908o hkx rfl) (ro_a hb_504907k (by decide) hb_504907o hkx rfl) (by decide) (fq_ar hFI_505010 hb_504908L (ro_a hb_504908k (by decide) hb_504908o hkx rfl) (by decide) (by decide) (kp_s hI_504946)))
                    exact g_zret (ty := .boolean) (r := 1) B K rfl (rfl) ⟨hU_505016, hF_505017, hG_505014, rg_w rc_1 (by decide) (by decide), (fun _ => bk_m3 q_505018 hb_504908 hb_504909 q_505023 (r_504931) q_505024 r_505001 (by decide))⟩ dX0_readAct_183
                · skip
                  have r_505025 := (⟨(rx_505002).1, (eq_rg (h_505006) rc_0).2⟩ : Rg 0 0 x_505002)
                  refine g_iconst C (v := 1) dX0_readAct_147 (by decide) ?_
                  have q_505026 := (kp_r hI_504946 (ro_a hb_504909k (by decide) hb_504909o hkx rfl) (ro_a hb_504908k (by decide) hb_504908o hkx rfl) (by decide) (fq_ar hFI_504941 hb_504909L (ro_a hb_504909k (by decide) hb_504909o hkx rfl) (by decide) (by decide) hx_504928))
                  exact g_zret (ty := .boolean) (r := 1) B K rfl (rfl) ⟨hU_504947, hF_504948, hG_504945, rg_w rc_1 (by decide) (by decide), (fun _ => bk_m3 (kp_k (κ := κ) hI_504946 (by rw [hkx, hb_504908k]; decide) (fq_at hFI_504941 hLx hkx (by decide) (by decide) hxp0)) hb_504908 hb_504909 q_505026 (r_504931) (kp_s hI_504946) r_505001 (by decide))⟩ dX0_readAct_148
              · skip
                have r_505027 := (⟨(r_504998).1, (eq_rg (h_504999) rc_11).2⟩ : Rg 11 11 x_504927)
                refine g_aload_n C 3 dX0_readAct_100 rfl rfl ?_
                refine g_getR C K hLx hkx f_0_18 hb_504910 dX0_readAct_101 ?_
                refine g_aload_n C 3 dX0_readAct_104 rfl rfl ?_
                refine g_getI C K hLx hkx f_0_24 (v := xp0) (kp_k (κ := κ) hI_504946 (by rw [hkx, hb_504908k]; decide) (fq_at hFI_504941 hLx hkx (by decide) (by decide) hxp0)) dX0_readAct_105 ?_
                refine g_aload_n C 4 dX0_readAct_108 rfl rfl ?_
                refine g_aload_n C 5 dX0_readAct_109 rfl rfl ?_
                refine g_aload_n C 4 dX0_readAct_110 rfl rfl ?_
                obtain ⟨y_505028, hy_505028⟩ : ∃ z, J_504942 a0 10 = z := ⟨_, rfl⟩
                refine g_getJ C K hLa0 hka0 f_0_61 (v := y_505028) hy_505028 dX0_readAct_111 ?_
                refine g_callVI C K (c_X8_dishNamed W9 hLa1 hka1 y_505028  hU_504947) hLa1 hka1 (by decide) rfl v_0_80 rfl ⟨rfl, rfl⟩ ⟨Nat.le_of_ble_eq_true rfl, Nat.le_of_ble_eq_true rfl⟩ (Nat.le_of_ble_eq_true rfl) ⟨Nat.le_of_ble_eq_true rfl, Nat.le_of_ble_eq_true rfl⟩ dX0_readAct_114 rfl (st := [.ref a0, .int xp0, .ref b_504910]) (fun x_505029 I_505030 J_505031 h_505032 => ?_)
                obtain ⟨rfl, rfl, rx_505029⟩ := h_505032
                refine g_callVI C K (c_X10_takeName W9 hLa0 hka0 x_505029 (rg_w rx_505029 (by decide) (by decide)) hU_504947) hLa0 hka0 (by decide) rfl v_0_83 rfl ⟨rfl, rfl⟩ ⟨Nat.le_of_ble_eq_true rfl, Nat.le_of_ble_eq_true rfl⟩ (Nat.le_of_ble_eq_true rfl) ⟨Nat.le_of_ble_eq_true rfl, Nat.le_of_ble_eq_true rfl⟩ dX0_readAct_117 rfl (st := [.int xp0, .ref b_504910]) (fun x_505033 I_505034 J_505035 h_505036 => ?_)
                obtain ⟨hUI_505034, hFI_505034, hGJ_505035, rx_505033, ex_505033⟩ := h_505036
                have hF_505037 := fq_tr hF_504948 hFI_505034 (by decide)
                have hG_505038 := fq_tr hG_504945 hGJ_505035 (by decide)
                have r_505039 := rg_or ex_505033 (rx_505029) (by decide) (by decide)
                refine h_iast C K hb_504910L hb_504910k (xp0.toNatClampNeg) (rfl) (ix_0 rxp0 (by decide)) (ix_lt rxp0 (by decide) hb_504910n (by decide)) dX0_readAct_120 (fun I_505040 hI_505040 => ?_)
                have hU_505041 := iv_row W9 hUI_505034 (uv_put hUI_505034.1 hI_505040 (ro_a hb_504910k (by decide) hb_504910o hkx rfl) (lo := (-1)) (hi := 5) (rfl) (r_505039)) hI_505040 (ro_a hb_504910k (by decide) hb_504910o hkx rfl) hb_504910o (by decide) (fq_at hFI_505034 hLx hkx (by decide) (by decide) (kp_k (κ := κ) hI_504946 (by rw [hkx, hb_504908k]; decide) (fq_at hFI_504941 hLx hkx (by decide) (by decide) hxp0))) rfl
                have hF_505042 := fq_puta hF_505037 hI_505040 (ro_a hb_504910k (by decide) hb_504910o hkx rfl) (by decide) (by decide)
                refine g_aload_n C 3 dX0_readAct_121 rfl rfl ?_
                refine g_getR C K hLx hkx f_0_18 hb_504910 dX0_readAct_122 ?_
                refine g_aload_n C 3 dX0_readAct_125 rfl rfl ?_
                have q_505043 := (kp_k (κ := κ) hI_505040 (by rw [hkx, hb_504910k]; decide) (fq_at hFI_505034 hLx hkx (by decide) (by decide) (kp_k (κ := κ) hI_504946 (by rw [hkx, hb_504908k]; decide) (fq_at hFI_504941 hLx hkx (by decide) (by decide) hxp0))))
                refine g_getI C K hLx hkx f_0_24 (v := xp0) q_505043 dX0_readAct_126 ?_
                refine h_iald C K hb_504910L hb_504910k (v := x_505033) (xp0.toNatClampNeg) (rfl) (ix_0 rxp0 (by decide)) (ix_lt rxp0 (by decide) hb_504910n (by decide)) (kp_s hI_505040) dX0_readAct_129 ?_
                refine g_iconst C (v := (-1)) dX0_readAct_130 (by decide) ?_
                refine g_icmp_ne C (tgt := 136) dX0_readAct_131 (by decide) (fun h_505045 => ?_) (fun h_505045 => ?_)
                · skip
                  have n_505046 : ¬ x_505033 = (-1) := h_505045
                  have r_505047 := ne_lo (lo := 0) n_505046 r_505039 rc_m1 rfl (by decide)
                  have r_505048 := eq_rg (Eq.symm (Or.resolve_left ex_505033 (rg_nek r_505047 rc_m1 (by decide)))) r_505047
                  refine g_iload_n C 2 dX0_readAct_136 rfl rfl ?_
                  refine g_callSI C K (c_X0_mostOf W9 x_504927 (rg_w r_505027 (by decide) (by decide)) hU_505041) s_0_87 rfl ⟨rfl, rfl⟩ ⟨Nat.le_of_ble_eq_true rfl, Nat.le_of_ble_eq_true rfl⟩ (Nat.le_of_ble_eq_true rfl) ⟨Nat.le_of_ble_eq_true rfl, Nat.le_of_ble_eq_true rfl⟩ dX0_readAct_137 rfl (st := []) (fun x_505049 I_505050 J_505051 h_505052 => ?_)
                  obtain ⟨rfl, rfl, rx_505049⟩ := h_505052
                  refine g_istore C dX0_readAct_140 (by decide) (lo2 := [(6, .int x_505049), (5, .int 1), (4, .int 0), (3, .int x_504927), (0, .ref x), (1, .ref a0), (2, .ref a1)]) rfl ?_
                  refine g_iload C 0 dX0_readAct_142 rfl ?_
                  refine g_if_ne C (tgt := 149) dX0_readAct_144 (by decide) (fun h_505053 => ?_) (fun h_505053 => ?_)
                  · skip
                    have n_505054 : ¬ x_505049 = 0 := h_505053
                    have r_505055 := ne_lo (lo := 1) n_505054 rx_505049 rc_0 rfl (by decide)
                    refine g_aload_n C 4 dX0_readAct_149 rfl rfl ?_
                    refine g_getR C K hLx hkx f_0_21 hb_504907 dX0_readAct_150 ?_
                    refine g_aload_n C 4 dX0_readAct_153 rfl rfl ?_
                    refine g_getI C K hLx hkx f_0_24 (v := xp0) q_505043 dX0_readAct_154 ?_
                    refine g_aload_n C 5 dX0_readAct_157 rfl rfl ?_
                    refine g_iconst C (v := 1) dX0_readAct_158 (by decide) ?_
                    refine g_iload C 0 dX0_readAct_159 rfl ?_
                    refine g_callVI C K (c_X10_takeNumber W9 hLa0 hka0 1 x_505049 (rg_w rc_1 (by decide) (by decide)) (rg_w r_505055 (by decide) (by decide)) hU_505041) hLa0 hka0 (by decide) rfl v_0_90 rfl ⟨rfl, rfl⟩ ⟨Nat.le_of_ble_eq_true rfl, Nat.le_of_ble_eq_true rfl⟩ (Nat.le_of_ble_eq_true rfl) ⟨Nat.le_of_ble_eq_true rfl, Nat.le_of_ble_eq_true rfl⟩ dX0_readAct_161 rfl (st := [.int xp0, .ref b_504907]) (fun x_505056 I_505057 J_505058 h_505059 => ?_)
                    obtain ⟨hUI_505057, hFI_505057, hGJ_505058, rx_505056⟩ := h_505059
                    have hF_505060 := fq_tr hF_505042 hFI_505057 (by decide)
                    have hG_505061 := fq_tr hG_505038 hGJ_505058 (by decide)
                    refine h_iast C K hb_504907L hb_504907k (xp0.toNatClampNeg) (rfl) (ix_0 rxp0 (by decide)) (ix_lt rxp0 (by decide) hb_504907n (by decide)) dX0_readAct_164 (fun I_505062 hI_505062 => ?_)
                    have hU_505063 := iv_put W9 hUI_505057 hI_505062 (ro_a hb_504907k (by decide) hb_504907o hkx rfl) (lo := (-2147483648)) (hi := 2147483647) (rfl) (rx_505056) rfl
                    have hF_505064 := fq_puta hF_505060 hI_505062 (ro_a hb_504907k (by decide) hb_504907o hkx rfl) (by decide) (by decide)
                    refine g_aload_n C 4 dX0_readAct_165 rfl rfl ?_
                    refine g_getR C K hLx hkx f_0_21 hb_504907 dX0_readAct_166 ?_
                    refine g_aload_n C 4 dX0_readAct_169 rfl rfl ?_
                    refine g_getI C K hLx hkx f_0_24 (v := xp0) (kp_k (κ := κ) hI_505062 (by rw [hkx, hb_504907k]; decide) (fq_at hFI_505057 hLx hkx (by decide) (by decide) q_505043)) dX0_readAct_170 ?_
                    refine h_iald C K hb_504907L hb_504907k (v := x_505056) (xp0.toNatClampNeg) (rfl) (ix_0 rxp0 (by decide)) (ix_lt rxp0 (by decide) hb_504907n (by decide)) (kp_s hI_505062) dX0_readAct_173 ?_
                    refine g_iconst C (v := (-1)) dX0_readAct_174 (by decide) ?_
                    refine g_icmp_eq C (tgt := 182) dX0_readAct_175 (by decide) (fun h_505066 => ?_) (fun h_505066 => ?_)
                    · skip
                      have r_505067 := (⟨(eq_rg (h_505066) rc_m1).1, (eq_rg (h_505066) rc_m1).2⟩ : Rg (-1) (-1) x_505056)
                      refine g_iconst C (v := 0) dX0_readAct_182 (by decide) ?_
                      exact g_zret (ty := .boolean) (r := 0) B K rfl (rfl) ⟨hU_505063, hF_505064, hG_505061, rg_w rc_0 (by decide) (by decide), (fun q => absurd rfl q)⟩ dX0_readAct_183
                    · skip
                      have n_505068 : ¬ x_505056 = (-1) := h_505066
                      refine g_iconst C (v := 1) dX0_readAct_178 (by decide) ?_
                      refine g_goto C (tgt := 183) dX0_readAct_179 (by decide) ?_
                      have q_505069 := (kp_r hI_505062 (ro_a hb_504909k (by decide) hb_504909o hkx rfl) (ro_a hb_504907k (by decide) hb_504907o hkx rfl) (by decide) (fq_ar hFI_505057 hb_504909L (ro_a hb_504909k (by decide) hb_504909o hkx rfl) (by decide) (by decide) (kp_r hI_505040 (ro_a hb_504909k (by decide) hb_504909o hkx rfl) (ro_a hb_504910k (by decide) hb_504910o hkx rfl) (by decide) (fq_ar hFI_505034 hb_504909L (ro_a hb_504909k (by decide) hb_504909o hkx rfl) (by decide) (by decide) (kp_r hI_504946 (ro_a hb_504909k (by decide) hb_504909o hkx rfl) (ro_a hb_504908k (by decide) hb_504908o hkx rfl) (by decide) (fq_ar hFI_504941 hb_504909L (ro_a hb_504909k (by decide) hb_504909o hkx rfl) (by decide) (by decide) hx_504928))))))
                      have q_505070 := (kp_r hI_505062 (ro_a hb_504910k (by decide) hb_504910o hkx rfl) (ro_a hb_504907k (by decide) hb_504907o hkx rfl) (by decide) (fq_ar hFI_505057 hb_504910L (ro_a hb_504910k (by decide) hb_504910o hkx rfl) (by decide) (by decide) (kp_s hI_505040)))
                      exact g_zret (ty := .boolean) (r := 1) B K rfl (rfl) ⟨hU_505063, hF_505064, hG_505061, rg_w rc_1 (by decide) (by decide), (fun _ => bk_m2 (kp_k (κ := κ) hI_505062 (by rw [hkx, hb_504907k]; decide) (fq_at hFI_505057 hLx hkx (by decide) (by decide) q_505043)) hb_504909 hb_504910 q_505069 (r_504931) q_505070 (r_505047))⟩ dX0_readAct_183
                  · skip
                    have r_505071 := (⟨(rx_505049).1, (eq_rg (h_505053) rc_0).2⟩ : Rg 0 0 x_505049)
                    refine g_iconst C (v := 1) dX0_readAct_147 (by decide) ?_
                    have q_505072 := (kp_r hI_505040 (ro_a hb_504909k (by decide) hb_504909o hkx rfl) (ro_a hb_504910k (by decide) hb_504910o hkx rfl) (by decide) (fq_ar hFI_505034 hb_504909L (ro_a hb_504909k (by decide) hb_504909o hkx rfl) (by decide) (by decide) (kp_r hI_504946 (ro_a hb_504909k (by decide) hb_504909o hkx rfl) (ro_a hb_504908k (by decide) hb_504908o hkx rfl) (by decide) (fq_ar hFI_504941 hb_504909L (ro_a hb_504909k (by decide) hb_504909o hkx rfl) (by decide) (by decide) hx_504928))))
                    exact g_zret (ty := .boolean) (r := 1) B K rfl (rfl) ⟨hU_505041, hF_505042, hG_505038, rg_w rc_1 (by decide) (by decide), (fun _ => bk_m2 q_505043 hb_504909 hb_504910 q_505072 (r_504931) (kp_s hI_505040) (r_505047))⟩ dX0_readAct_148
                · skip
                  have r_505073 := (⟨(r_505039).1, (eq_rg (h_505045) rc_m1).2⟩ : Rg (-1) (-1) x_505033)
                  refine g_iconst C (v := 0) dX0_readAct_134 (by decide) ?_
                  exact g_zret (ty := .boolean) (r := 0) B K rfl (rfl) ⟨hU_505041, hF_505042, hG_505038, rg_w rc_0 (by decide) (by decide), (fun q => absurd rfl q)⟩ dX0_readAct_135
          · skip
            exact absurd h_504939 (by decide)
    · skip
      exact absurd h_504932 (by decide)
  · skip
    have r_505074 := (⟨(rx_504928).1, (eq_rg (h_504929) rc_m1).2⟩ : Rg (-1) (-1) x_504928)
    refine g_iconst C (v := 1) dX0_readAct_18 (by decide) ?_
    refine g_goto C (tgt := 23) dX0_readAct_19 (by decide) ?_
    refine g_istore C dX0_readAct_23 (by decide) (lo2 := [(4, .int 1), (3, .int x_504927), (0, .ref x), (1, .ref a0), (2, .ref a1)]) rfl ?_
    refine g_iload C 0 dX0_readAct_25 rfl ?_
    refine g_if_eq C (tgt := 44) dX0_readAct_27 (by decide) (fun h_505075 => ?_) (fun h_505075 => ?_)
    · skip
      exact absurd h_505075 (by decide)
    · skip
      refine g_iload_n C 1 dX0_readAct_30 rfl rfl ?_
      refine g_bipush C (v := 16) dX0_readAct_31 (by decide) ?_
      refine g_icmp_ne C (tgt := 40) dX0_readAct_33 (by decide) (fun h_505076 => ?_) (fun h_505076 => ?_)
      · skip
        have n_505077 : ¬ x_504927 = 16 := h_505076
        refine g_iconst C (v := 0) dX0_readAct_40 (by decide) ?_
        refine g_goto C (tgt := 61) dX0_readAct_41 (by decide) ?_
        refine g_istore C dX0_readAct_61 (by decide) (lo2 := [(5, .int 0), (4, .int 1), (3, .int x_504927), (0, .ref x), (1, .ref a0), (2, .ref a1)]) rfl ?_
        refine g_iload C 0 dX0_readAct_63 rfl ?_
        refine g_if_ne C (tgt := 74) dX0_readAct_65 (by decide) (fun h_505078 => ?_) (fun h_505078 => ?_)
        · skip
          exact absurd h_505078 (by decide)
        · skip
          refine g_aload_n C 4 dX0_readAct_68 rfl rfl ?_
          refine g_iconst C (v := 1) dX0_readAct_69 (by decide) ?_
          refine g_callVI C K (c_X10_fail W9 hLa0 hka0 1 (rg_w rc_1 (by decide) (by decide)) hU) hLa0 hka0 (by decide) rfl v_0_57 rfl ⟨rfl, rfl⟩ ⟨Nat.le_of_ble_eq_true rfl, Nat.le_of_ble_eq_true rfl⟩ (Nat.le_of_ble_eq_true rfl) ⟨Nat.le_of_ble_eq_true rfl, Nat.le_of_ble_eq_true rfl⟩ dX0_readAct_70 rfl (st := []) (fun x_505079 I_505080 J_505081 h_505082 => ?_)
          obtain ⟨hUI_505080, hFI_505080, hGJ_505081, rx_505079⟩ := h_505082
          have hF_505083 := fq_tr hF hFI_505080 (by decide)
          have hG_505084 := fq_tr hG hGJ_505081 (by decide)
          exact g_zret (ty := .boolean) (r := x_505079) B K rfl (nar_z (rg_w rx_505079 (by decide) (by decide))) ⟨hUI_505080, hF_505083, hG_505084, rg_w rx_505079 (by decide) (by decide), (fun q => ne_no q rx_505079 rc_0)⟩ dX0_readAct_73
      · skip
        have r_505085 := (⟨(eq_rg (h_505076) rc_16).1, (eq_rg (h_505076) rc_16).2⟩ : Rg 16 16 x_504927)
        refine g_iconst C (v := 1) dX0_readAct_36 (by decide) ?_
        refine g_goto C (tgt := 61) dX0_readAct_37 (by decide) ?_
        refine g_istore C dX0_readAct_61 (by decide) (lo2 := [(5, .int 1), (4, .int 1), (3, .int x_504927), (0, .ref x), (1, .ref a0), (2, .ref a1)]) rfl ?_
        refine g_iload C 0 dX0_readAct_63 rfl ?_
        refine g_if_ne C (tgt := 74) dX0_readAct_65 (by decide) (fun h_505086 => ?_) (fun h_505086 => ?_)
        · skip
          refine g_aload_n C 4 dX0_readAct_74 rfl rfl ?_
          refine g_callVV C K (c_X10_advance W9 hLa0 hka0   hU) hLa0 hka0 (by decide) rfl v_0_71 rfl ⟨rfl, rfl⟩ ⟨Nat.le_of_ble_eq_true rfl, Nat.le_of_ble_eq_true rfl⟩ (Nat.le_of_ble_eq_true rfl) ⟨Nat.le_of_ble_eq_true rfl, Nat.le_of_ble_eq_true rfl⟩ dX0_readAct_75 rfl (st := []) (fun I_505088 J_505089 h_505090 => ?_)
          obtain ⟨hUI_505088, hFI_505088, hGJ_505089⟩ := h_505090
          have hF_505091 := fq_tr hF hFI_505088 (by decide)
          have hG_505092 := fq_tr hG hGJ_505089 (by decide)
          refine g_aload_n C 3 dX0_readAct_78 rfl rfl ?_
          refine g_getR C K hLx hkx f_0_11 hb_504908 dX0_readAct_79 ?_
          refine g_aload_n C 3 dX0_readAct_82 rfl rfl ?_
          refine g_getI C K hLx hkx f_0_24 (v := xp0) (fq_at hFI_505088 hLx hkx (by decide) (by decide) hxp0) dX0_readAct_83 ?_
          refine g_iload_n C 2 dX0_readAct_86 rfl rfl ?_
          refine h_iast C K hb_504908L hb_504908k (xp0.toNatClampNeg) (rfl) (ix_0 rxp0 (by decide)) (ix_lt rxp0 (by decide) hb_504908n (by decide)) dX0_readAct_87 (fun I_505093 hI_505093 => ?_)
          have hU_505094 := iv_row W9 hUI_505088 (uv_put hUI_505088.1 hI_505093 (ro_a hb_504908k (by decide) hb_504908o hkx rfl) (lo := (-2147483648)) (hi := 2147483647) (rfl) (rg_all _)) hI_505093 (ro_a hb_504908k (by decide) hb_504908o hkx rfl) hb_504908o (by decide) (fq_at hFI_505088 hLx hkx (by decide) (by decide) hxp0) rfl
          have hF_505095 := fq_puta hF_505091 hI_505093 (ro_a hb_504908k (by decide) hb_504908o hkx rfl) (by decide) (by decide)
          refine g_iload_n C 2 dX0_readAct_88 rfl rfl ?_
          refine g_bipush C (v := 10) dX0_readAct_89 (by decide) ?_
          refine g_icmp_eq C (tgt := 100) dX0_readAct_91 (by decide) (fun h_505096 => ?_) (fun h_505096 => ?_)
          · skip
            exact eq_no (h_505096) r_505085 rc_10 (by decide)
          · skip
            have n_505097 : ¬ x_504927 = 10 := h_505096
            refine g_iload_n C 2 dX0_readAct_94 rfl rfl ?_
            refine g_bipush C (v := 11) dX0_readAct_95 (by decide) ?_
            refine g_icmp_ne C (tgt := 136) dX0_readAct_97 (by decide) (fun h_505098 => ?_) (fun h_505098 => ?_)
            · skip
              have n_505099 : ¬ x_504927 = 11 := h_505098
              refine g_iload_n C 2 dX0_readAct_136 rfl rfl ?_
              refine g_callSI C K (c_X0_mostOf W9 x_504927 (rg_w r_505085 (by decide) (by decide)) hU_505094) s_0_87 rfl ⟨rfl, rfl⟩ ⟨Nat.le_of_ble_eq_true rfl, Nat.le_of_ble_eq_true rfl⟩ (Nat.le_of_ble_eq_true rfl) ⟨Nat.le_of_ble_eq_true rfl, Nat.le_of_ble_eq_true rfl⟩ dX0_readAct_137 rfl (st := []) (fun x_505100 I_505101 J_505102 h_505103 => ?_)
              obtain ⟨rfl, rfl, rx_505100⟩ := h_505103
              refine g_istore C dX0_readAct_140 (by decide) (lo2 := [(6, .int x_505100), (5, .int 1), (4, .int 1), (3, .int x_504927), (0, .ref x), (1, .ref a0), (2, .ref a1)]) rfl ?_
              refine g_iload C 0 dX0_readAct_142 rfl ?_
              refine g_if_ne C (tgt := 149) dX0_readAct_144 (by decide) (fun h_505104 => ?_) (fun h_505104 => ?_)
              · skip
                have n_505105 : ¬ x_505100 = 0 := h_505104
                have r_505106 := ne_lo (lo := 1) n_505105 rx_505100 rc_0 rfl (by decide)
                refine g_aload_n C 4 dX0_readAct_149 rfl rfl ?_
                refine g_getR C K hLx hkx f_0_21 hb_504907 dX0_readAct_150 ?_
                refine g_aload_n C 4 dX0_readAct_153 rfl rfl ?_
                refine g_getI C K hLx hkx f_0_24 (v := xp0) (kp_k (κ := κ) hI_505093 (by rw [hkx, hb_504908k]; decide) (fq_at hFI_505088 hLx hkx (by decide) (by decide) hxp0)) dX0_readAct_154 ?_
                refine g_aload_n C 5 dX0_readAct_157 rfl rfl ?_
                refine g_iconst C (v := 1) dX0_readAct_158 (by decide) ?_
                refine g_iload C 0 dX0_readAct_159 rfl ?_
                refine g_callVI C K (c_X10_takeNumber W9 hLa0 hka0 1 x_505100 (rg_w rc_1 (by decide) (by decide)) (rg_w r_505106 (by decide) (by decide)) hU_505094) hLa0 hka0 (by decide) rfl v_0_90 rfl ⟨rfl, rfl⟩ ⟨Nat.le_of_ble_eq_true rfl, Nat.le_of_ble_eq_true rfl⟩ (Nat.le_of_ble_eq_true rfl) ⟨Nat.le_of_ble_eq_true rfl, Nat.le_of_ble_eq_true rfl⟩ dX0_readAct_161 rfl (st := [.int xp0, .ref b_504907]) (fun x_505107 I_505108 J_505109 h_505110 => ?_)
                obtain ⟨hUI_505108, hFI_505108, hGJ_505109, rx_505107⟩ := h_505110
                have hF_505111 := fq_tr hF_505095 hFI_505108 (by decide)
                have hG_505112 := fq_tr hG_505092 hGJ_505109 (by decide)
                refine h_iast C K hb_504907L hb_504907k (xp0.toNatClampNeg) (rfl) (ix_0 rxp0 (by decide)) (ix_lt rxp0 (by decide) hb_504907n (by decide)) dX0_readAct_164 (fun I_505113 hI_505113 => ?_)
                have hU_505114 := iv_put W9 hUI_505108 hI_505113 (ro_a hb_504907k (by decide) hb_504907o hkx rfl) (lo := (-2147483648)) (hi := 2147483647) (rfl) (rx_505107) rfl
                have hF_505115 := fq_puta hF_505111 hI_505113 (ro_a hb_504907k (by decide) hb_504907o hkx rfl) (by decide) (by decide)
                refine g_aload_n C 4 dX0_readAct_165 rfl rfl ?_
                refine g_getR C K hLx hkx f_0_21 hb_504907 dX0_readAct_166 ?_
                refine g_aload_n C 4 dX0_readAct_169 rfl rfl ?_
                have q_505116 := (kp_k (κ := κ) hI_505113 (by rw [hkx, hb_504907k]; decide) (fq_at hFI_505108 hLx hkx (by decide) (by decide) (kp_k (κ := κ) hI_505093 (by rw [hkx, hb_504908k]; decide) (fq_at hFI_505088 hLx hkx (by decide) (by decide) hxp0))))
                refine g_getI C K hLx hkx f_0_24 (v := xp0) q_505116 dX0_readAct_170 ?_
                refine h_iald C K hb_504907L hb_504907k (v := x_505107) (xp0.toNatClampNeg) (rfl) (ix_0 rxp0 (by decide)) (ix_lt rxp0 (by decide) hb_504907n (by decide)) (kp_s hI_505113) dX0_readAct_173 ?_
                refine g_iconst C (v := (-1)) dX0_readAct_174 (by decide) ?_
                refine g_icmp_eq C (tgt := 182) dX0_readAct_175 (by decide) (fun h_505118 => ?_) (fun h_505118 => ?_)
                · skip
                  have r_505119 := (⟨(eq_rg (h_505118) rc_m1).1, (eq_rg (h_505118) rc_m1).2⟩ : Rg (-1) (-1) x_505107)
                  refine g_iconst C (v := 0) dX0_readAct_182 (by decide) ?_
                  exact g_zret (ty := .boolean) (r := 0) B K rfl (rfl) ⟨hU_505114, hF_505115, hG_505112, rg_w rc_0 (by decide) (by decide), (fun q => absurd rfl q)⟩ dX0_readAct_183
                · skip
                  have n_505120 : ¬ x_505107 = (-1) := h_505118
                  refine g_iconst C (v := 1) dX0_readAct_178 (by decide) ?_
                  refine g_goto C (tgt := 183) dX0_readAct_179 (by decide) ?_
                  have q_505121 := (kp_r hI_505113 (ro_a hb_504908k (by decide) hb_504908o hkx rfl) (ro_a hb_504907k (by decide) hb_504907o hkx rfl) (by decide) (fq_ar hFI_505108 hb_504908L (ro_a hb_504908k (by decide) hb_504908o hkx rfl) (by decide) (by decide) (kp_s hI_505093)))
                  exact g_zret (ty := .boolean) (r := 1) B K rfl (rfl) ⟨hU_505114, hF_505115, hG_505112, rg_w rc_1 (by decide) (by decide), (fun _ => bk_m1 q_505116 hb_504908 q_505121 (rg_1k r_505085 rc_16))⟩ dX0_readAct_183
              · skip
                have r_505122 := (⟨(rx_505100).1, (eq_rg (h_505104) rc_0).2⟩ : Rg 0 0 x_505100)
                refine g_iconst C (v := 1) dX0_readAct_147 (by decide) ?_
                exact g_zret (ty := .boolean) (r := 1) B K rfl (rfl) ⟨hU_505094, hF_505095, hG_505092, rg_w rc_1 (by decide) (by decide), (fun _ => bk_m1 (kp_k (κ := κ) hI_505093 (by rw [hkx, hb_504908k]; decide) (fq_at hFI_505088 hLx hkx (by decide) (by decide) hxp0)) hb_504908 (kp_s hI_505093) (rg_1k r_505085 rc_16))⟩ dX0_readAct_148
            · skip
              exact eq_no (h_505098) r_505085 rc_11 (by decide)
        · skip
          exact absurd h_505086 (by decide)
