theorem dX0_behind_0 : decode cX0_behind 0 = .ok (.iload_n 1, 1) := by decide +kernel
theorem dX0_behind_1 : decode cX0_behind 1 = .ok (.ifCond .ne 7, 3) := by decide +kernel
theorem dX0_behind_4 : decode cX0_behind 4 = .ok (.iconst 0, 1) := by decide +kernel
theorem dX0_behind_5 : decode cX0_behind 5 = .ok (.goto 6, 3) := by decide +kernel
theorem dX0_behind_8 : decode cX0_behind 8 = .ok (.iload_n 0, 1) := by decide +kernel
theorem dX0_behind_9 : decode cX0_behind 9 = .ok (.iload_n 1, 1) := by decide +kernel
theorem dX0_behind_10 : decode cX0_behind 10 = .ok (.iadd, 1) := by decide +kernel
theorem dX0_behind_11 : decode cX0_behind 11 = .ok (.ireturn, 1) := by decide +kernel
theorem dX0_judgeBy_0 : decode cX0_judgeBy 0 = .ok (.aload_n 0, 1) := by decide +kernel
theorem dX0_judgeBy_1 : decode cX0_judgeBy 1 = .ok (.iconst 1, 1) := by decide +kernel
theorem dX0_judgeBy_2 : decode cX0_judgeBy 2 = .ok (.putfield 28, 3) := by decide +kernel
theorem dX0_judgeBy_5 : decode cX0_judgeBy 5 = .ok (.aload_n 0, 1) := by decide +kernel
theorem dX0_judgeBy_6 : decode cX0_judgeBy 6 = .ok (.iconst 0, 1) := by decide +kernel
theorem dX0_judgeBy_7 : decode cX0_judgeBy 7 = .ok (.putfield 32, 3) := by decide +kernel
theorem dX0_judgeBy_10 : decode cX0_judgeBy 10 = .ok (.aload_n 0, 1) := by decide +kernel
theorem dX0_judgeBy_11 : decode cX0_judgeBy 11 = .ok (.iconst 0, 1) := by decide +kernel
theorem dX0_judgeBy_12 : decode cX0_judgeBy 12 = .ok (.putfield 35, 3) := by decide +kernel
theorem dX0_judgeBy_15 : decode cX0_judgeBy 15 = .ok (.aload_n 0, 1) := by decide +kernel
theorem dX0_judgeBy_16 : decode cX0_judgeBy 16 = .ok (.getfield 35, 3) := by decide +kernel
theorem dX0_judgeBy_19 : decode cX0_judgeBy 19 = .ok (.aload_n 0, 1) := by decide +kernel
theorem dX0_judgeBy_20 : decode cX0_judgeBy 20 = .ok (.getfield 24, 3) := by decide +kernel
theorem dX0_judgeBy_23 : decode cX0_judgeBy 23 = .ok (.if_icmp .ge 43, 3) := by decide +kernel
theorem dX0_judgeBy_26 : decode cX0_judgeBy 26 = .ok (.aload_n 0, 1) := by decide +kernel
theorem dX0_judgeBy_27 : decode cX0_judgeBy 27 = .ok (.getfield 32, 3) := by decide +kernel
theorem dX0_judgeBy_30 : decode cX0_judgeBy 30 = .ok (.ifCond .ne 36, 3) := by decide +kernel
theorem dX0_judgeBy_33 : decode cX0_judgeBy 33 = .ok (.aload_n 0, 1) := by decide +kernel
theorem dX0_judgeBy_34 : decode cX0_judgeBy 34 = .ok (.aload_n 0, 1) := by decide +kernel
theorem dX0_judgeBy_35 : decode cX0_judgeBy 35 = .ok (.aload_n 1, 1) := by decide +kernel
theorem dX0_judgeBy_36 : decode cX0_judgeBy 36 = .ok (.aload_n 0, 1) := by decide +kernel
theorem dX0_judgeBy_37 : decode cX0_judgeBy 37 = .ok (.getfield 35, 3) := by decide +kernel
theorem dX0_judgeBy_40 : decode cX0_judgeBy 40 = .ok (.invokevirtual 94, 3) := by decide +kernel
theorem dX0_judgeBy_43 : decode cX0_judgeBy 43 = .ok (.putfield 32, 3) := by decide +kernel
theorem dX0_judgeBy_46 : decode cX0_judgeBy 46 = .ok (.aload_n 0, 1) := by decide +kernel
theorem dX0_judgeBy_47 : decode cX0_judgeBy 47 = .ok (.getfield 32, 3) := by decide +kernel
theorem dX0_judgeBy_50 : decode cX0_judgeBy 50 = .ok (.ifCond .ne (-35), 3) := by decide +kernel
theorem dX0_judgeBy_53 : decode cX0_judgeBy 53 = .ok (.aload_n 0, 1) := by decide +kernel
theorem dX0_judgeBy_54 : decode cX0_judgeBy 54 = .ok (.dup, 1) := by decide +kernel
theorem dX0_judgeBy_55 : decode cX0_judgeBy 55 = .ok (.getfield 35, 3) := by decide +kernel
theorem dX0_judgeBy_58 : decode cX0_judgeBy 58 = .ok (.iconst 1, 1) := by decide +kernel
theorem dX0_judgeBy_59 : decode cX0_judgeBy 59 = .ok (.iadd, 1) := by decide +kernel
theorem dX0_judgeBy_60 : decode cX0_judgeBy 60 = .ok (.putfield 35, 3) := by decide +kernel
theorem dX0_judgeBy_63 : decode cX0_judgeBy 63 = .ok (.goto (-48), 3) := by decide +kernel
theorem dX0_judgeBy_66 : decode cX0_judgeBy 66 = .ok (.aload_n 0, 1) := by decide +kernel
theorem dX0_judgeBy_67 : decode cX0_judgeBy 67 = .ok (.aload_n 1, 1) := by decide +kernel
theorem dX0_judgeBy_68 : decode cX0_judgeBy 68 = .ok (.getfield 98, 3) := by decide +kernel
theorem dX0_judgeBy_71 : decode cX0_judgeBy 71 = .ok (.putfield 38, 3) := by decide +kernel
theorem dX0_judgeBy_74 : decode cX0_judgeBy 74 = .ok (.aload_n 0, 1) := by decide +kernel
theorem dX0_judgeBy_75 : decode cX0_judgeBy 75 = .ok (.aload_n 1, 1) := by decide +kernel
theorem dX0_judgeBy_76 : decode cX0_judgeBy 76 = .ok (.getfield 103, 3) := by decide +kernel
theorem dX0_judgeBy_79 : decode cX0_judgeBy 79 = .ok (.putfield 41, 3) := by decide +kernel
theorem dX0_judgeBy_82 : decode cX0_judgeBy 82 = .ok (.return_, 1) := by decide +kernel
theorem dX0_live_0 : decode cX0_live 0 = .ok (.aload_n 0, 1) := by decide +kernel
theorem dX0_live_1 : decode cX0_live 1 = .ok (.getfield 15, 3) := by decide +kernel
theorem dX0_live_4 : decode cX0_live 4 = .ok (.iload_n 2, 1) := by decide +kernel
theorem dX0_live_5 : decode cX0_live 5 = .ok (.iaload, 1) := by decide +kernel
theorem dX0_live_6 : decode cX0_live 6 = .ok (.istore_n 3, 1) := by decide +kernel
theorem dX0_live_7 : decode cX0_live 7 = .ok (.aload_n 0, 1) := by decide +kernel
theorem dX0_live_8 : decode cX0_live 8 = .ok (.getfield 11, 3) := by decide +kernel
theorem dX0_live_11 : decode cX0_live 11 = .ok (.iload_n 2, 1) := by decide +kernel
theorem dX0_live_12 : decode cX0_live 12 = .ok (.iaload, 1) := by decide +kernel
theorem dX0_live_13 : decode cX0_live 13 = .ok (.tableswitch 124 10 15 #[39, 57, 80, 91, 102, 113], 39) := by decide +kernel
theorem dX0_live_52 : decode cX0_live 52 = .ok (.aload_n 1, 1) := by decide +kernel
theorem dX0_live_53 : decode cX0_live 53 = .ok (.iload_n 3, 1) := by decide +kernel
theorem dX0_live_54 : decode cX0_live 54 = .ok (.aload_n 0, 1) := by decide +kernel
theorem dX0_live_55 : decode cX0_live 55 = .ok (.getfield 18, 3) := by decide +kernel
theorem dX0_live_58 : decode cX0_live 58 = .ok (.iload_n 2, 1) := by decide +kernel
theorem dX0_live_59 : decode cX0_live 59 = .ok (.iaload, 1) := by decide +kernel
theorem dX0_live_60 : decode cX0_live 60 = .ok (.aload_n 0, 1) := by decide +kernel
theorem dX0_live_61 : decode cX0_live 61 = .ok (.getfield 21, 3) := by decide +kernel
theorem dX0_live_64 : decode cX0_live 64 = .ok (.iload_n 2, 1) := by decide +kernel
theorem dX0_live_65 : decode cX0_live 65 = .ok (.iaload, 1) := by decide +kernel
theorem dX0_live_66 : decode cX0_live 66 = .ok (.invokevirtual 106, 3) := by decide +kernel
theorem dX0_live_69 : decode cX0_live 69 = .ok (.ireturn, 1) := by decide +kernel
theorem dX0_live_70 : decode cX0_live 70 = .ok (.bipush 10, 2) := by decide +kernel
theorem dX0_live_72 : decode cX0_live 72 = .ok (.aload_n 1, 1) := by decide +kernel
theorem dX0_live_73 : decode cX0_live 73 = .ok (.iload_n 3, 1) := by decide +kernel
theorem dX0_live_74 : decode cX0_live 74 = .ok (.aload_n 0, 1) := by decide +kernel
theorem dX0_live_75 : decode cX0_live 75 = .ok (.getfield 18, 3) := by decide +kernel
theorem dX0_live_78 : decode cX0_live 78 = .ok (.iload_n 2, 1) := by decide +kernel
theorem dX0_live_79 : decode cX0_live 79 = .ok (.iaload, 1) := by decide +kernel
theorem dX0_live_80 : decode cX0_live 80 = .ok (.aload_n 0, 1) := by decide +kernel
theorem dX0_live_81 : decode cX0_live 81 = .ok (.getfield 21, 3) := by decide +kernel
theorem dX0_live_84 : decode cX0_live 84 = .ok (.iload_n 2, 1) := by decide +kernel
theorem dX0_live_85 : decode cX0_live 85 = .ok (.iaload, 1) := by decide +kernel
theorem dX0_live_86 : decode cX0_live 86 = .ok (.invokevirtual 110, 3) := by decide +kernel
theorem dX0_live_89 : decode cX0_live 89 = .ok (.invokestatic 113, 3) := by decide +kernel
theorem dX0_live_92 : decode cX0_live 92 = .ok (.ireturn, 1) := by decide +kernel
theorem dX0_live_93 : decode cX0_live 93 = .ok (.bipush 20, 2) := by decide +kernel
theorem dX0_live_95 : decode cX0_live 95 = .ok (.aload_n 1, 1) := by decide +kernel
theorem dX0_live_96 : decode cX0_live 96 = .ok (.iload_n 3, 1) := by decide +kernel
theorem dX0_live_97 : decode cX0_live 97 = .ok (.invokevirtual 116, 3) := by decide +kernel
theorem dX0_live_100 : decode cX0_live 100 = .ok (.invokestatic 113, 3) := by decide +kernel
theorem dX0_live_103 : decode cX0_live 103 = .ok (.ireturn, 1) := by decide +kernel
theorem dX0_live_104 : decode cX0_live 104 = .ok (.bipush 30, 2) := by decide +kernel
theorem dX0_live_106 : decode cX0_live 106 = .ok (.aload_n 1, 1) := by decide +kernel
theorem dX0_live_107 : decode cX0_live 107 = .ok (.iload_n 3, 1) := by decide +kernel
theorem dX0_live_108 : decode cX0_live 108 = .ok (.invokevirtual 119, 3) := by decide +kernel
theorem dX0_live_111 : decode cX0_live 111 = .ok (.invokestatic 113, 3) := by decide +kernel
theorem dX0_live_114 : decode cX0_live 114 = .ok (.ireturn, 1) := by decide +kernel
theorem dX0_live_115 : decode cX0_live 115 = .ok (.bipush 40, 2) := by decide +kernel
theorem dX0_live_117 : decode cX0_live 117 = .ok (.aload_n 1, 1) := by decide +kernel
theorem dX0_live_118 : decode cX0_live 118 = .ok (.iload_n 3, 1) := by decide +kernel
theorem dX0_live_119 : decode cX0_live 119 = .ok (.invokevirtual 122, 3) := by decide +kernel
theorem dX0_live_122 : decode cX0_live 122 = .ok (.invokestatic 113, 3) := by decide +kernel
theorem dX0_live_125 : decode cX0_live 125 = .ok (.ireturn, 1) := by decide +kernel
theorem dX0_live_126 : decode cX0_live 126 = .ok (.bipush 50, 2) := by decide +kernel
theorem dX0_live_128 : decode cX0_live 128 = .ok (.aload_n 1, 1) := by decide +kernel
theorem dX0_live_129 : decode cX0_live 129 = .ok (.iload_n 3, 1) := by decide +kernel
theorem dX0_live_130 : decode cX0_live 130 = .ok (.invokevirtual 125, 3) := by decide +kernel
theorem dX0_live_133 : decode cX0_live 133 = .ok (.invokestatic 113, 3) := by decide +kernel
theorem dX0_live_136 : decode cX0_live 136 = .ok (.ireturn, 1) := by decide +kernel
theorem dX0_live_137 : decode cX0_live 137 = .ok (.aload_n 1, 1) := by decide +kernel
theorem dX0_live_138 : decode cX0_live 138 = .ok (.aload_n 0, 1) := by decide +kernel
theorem dX0_live_139 : decode cX0_live 139 = .ok (.getfield 21, 3) := by decide +kernel
theorem dX0_live_142 : decode cX0_live 142 = .ok (.iload_n 2, 1) := by decide +kernel
theorem dX0_live_143 : decode cX0_live 143 = .ok (.iaload, 1) := by decide +kernel
theorem dX0_live_144 : decode cX0_live 144 = .ok (.invokestatic 128, 3) := by decide +kernel
theorem dX0_live_147 : decode cX0_live 147 = .ok (.ireturn, 1) := by decide +kernel
theorem dX0_liveMeals_0 : decode cX0_liveMeals 0 = .ok (.sipush 200, 3) := by decide +kernel
theorem dX0_liveMeals_3 : decode cX0_liveMeals 3 = .ok (.aload_n 0, 1) := by decide +kernel
theorem dX0_liveMeals_4 : decode cX0_liveMeals 4 = .ok (.getfield 98, 3) := by decide +kernel
theorem dX0_liveMeals_7 : decode cX0_liveMeals 7 = .ok (.isub, 1) := by decide +kernel
theorem dX0_liveMeals_8 : decode cX0_liveMeals 8 = .ok (.iload_n 1, 1) := by decide +kernel
theorem dX0_liveMeals_9 : decode cX0_liveMeals 9 = .ok (.if_icmp .ge 6, 3) := by decide +kernel
theorem dX0_liveMeals_12 : decode cX0_liveMeals 12 = .ok (.bipush 61, 2) := by decide +kernel
theorem dX0_liveMeals_14 : decode cX0_liveMeals 14 = .ok (.ireturn, 1) := by decide +kernel
theorem dX0_liveMeals_15 : decode cX0_liveMeals 15 = .ok (.aload_n 0, 1) := by decide +kernel
theorem dX0_liveMeals_16 : decode cX0_liveMeals 16 = .ok (.iload_n 1, 1) := by decide +kernel
theorem dX0_liveMeals_17 : decode cX0_liveMeals 17 = .ok (.invokevirtual 131, 3) := by decide +kernel
theorem dX0_liveMeals_20 : decode cX0_liveMeals 20 = .ok (.pop, 1) := by decide +kernel
theorem dX0_liveMeals_21 : decode cX0_liveMeals 21 = .ok (.iconst 0, 1) := by decide +kernel
theorem dX0_liveMeals_22 : decode cX0_liveMeals 22 = .ok (.ireturn, 1) := by decide +kernel
theorem dX0_mostOf_0 : decode cX0_mostOf 0 = .ok (.iload_n 0, 1) := by decide +kernel
theorem dX0_mostOf_1 : decode cX0_mostOf 1 = .ok (.lookupswitch 44 #[(10, 35), (11, 38), (16, 41)], 35) := by decide +kernel
theorem dX0_mostOf_36 : decode cX0_mostOf 36 = .ok (.bipush 20, 2) := by decide +kernel
theorem dX0_mostOf_38 : decode cX0_mostOf 38 = .ok (.ireturn, 1) := by decide +kernel
theorem dX0_mostOf_39 : decode cX0_mostOf 39 = .ok (.bipush 40, 2) := by decide +kernel
theorem dX0_mostOf_41 : decode cX0_mostOf 41 = .ok (.ireturn, 1) := by decide +kernel
theorem dX0_mostOf_42 : decode cX0_mostOf 42 = .ok (.bipush 60, 2) := by decide +kernel
theorem dX0_mostOf_44 : decode cX0_mostOf 44 = .ok (.ireturn, 1) := by decide +kernel
theorem dX0_mostOf_45 : decode cX0_mostOf 45 = .ok (.iconst 0, 1) := by decide +kernel
theorem dX0_mostOf_46 : decode cX0_mostOf 46 = .ok (.ireturn, 1) := by decide +kernel
theorem dX0_readAct_0 : decode cX0_readAct 0 = .ok (.aload_n 1, 1) := by decide +kernel
theorem dX0_readAct_1 : decode cX0_readAct 1 = .ok (.getfield 50, 3) := by decide +kernel
theorem dX0_readAct_4 : decode cX0_readAct 4 = .ok (.istore_n 3, 1) := by decide +kernel
theorem dX0_readAct_5 : decode cX0_readAct 5 = .ok (.aload_n 0, 1) := by decide +kernel
theorem dX0_readAct_6 : decode cX0_readAct 6 = .ok (.getfield 15, 3) := by decide +kernel
theorem dX0_readAct_9 : decode cX0_readAct 9 = .ok (.aload_n 0, 1) := by decide +kernel
theorem dX0_readAct_10 : decode cX0_readAct 10 = .ok (.getfield 24, 3) := by decide +kernel
theorem dX0_readAct_13 : decode cX0_readAct 13 = .ok (.iaload, 1) := by decide +kernel
theorem dX0_readAct_14 : decode cX0_readAct 14 = .ok (.iconst (-1), 1) := by decide +kernel
theorem dX0_readAct_15 : decode cX0_readAct 15 = .ok (.if_icmp .ne 7, 3) := by decide +kernel
theorem dX0_readAct_18 : decode cX0_readAct 18 = .ok (.iconst 1, 1) := by decide +kernel
theorem dX0_readAct_19 : decode cX0_readAct 19 = .ok (.goto 4, 3) := by decide +kernel
theorem dX0_readAct_22 : decode cX0_readAct 22 = .ok (.iconst 0, 1) := by decide +kernel
theorem dX0_readAct_23 : decode cX0_readAct 23 = .ok (.istore 4, 2) := by decide +kernel
theorem dX0_readAct_25 : decode cX0_readAct 25 = .ok (.iload 4, 2) := by decide +kernel
theorem dX0_readAct_27 : decode cX0_readAct 27 = .ok (.ifCond .eq 17, 3) := by decide +kernel
theorem dX0_readAct_30 : decode cX0_readAct 30 = .ok (.iload_n 3, 1) := by decide +kernel
theorem dX0_readAct_31 : decode cX0_readAct 31 = .ok (.bipush 16, 2) := by decide +kernel
theorem dX0_readAct_33 : decode cX0_readAct 33 = .ok (.if_icmp .ne 7, 3) := by decide +kernel
theorem dX0_readAct_36 : decode cX0_readAct 36 = .ok (.iconst 1, 1) := by decide +kernel
theorem dX0_readAct_37 : decode cX0_readAct 37 = .ok (.goto 24, 3) := by decide +kernel
theorem dX0_readAct_40 : decode cX0_readAct 40 = .ok (.iconst 0, 1) := by decide +kernel
theorem dX0_readAct_41 : decode cX0_readAct 41 = .ok (.goto 20, 3) := by decide +kernel
theorem dX0_readAct_44 : decode cX0_readAct 44 = .ok (.iload_n 3, 1) := by decide +kernel
theorem dX0_readAct_45 : decode cX0_readAct 45 = .ok (.bipush 10, 2) := by decide +kernel
theorem dX0_readAct_47 : decode cX0_readAct 47 = .ok (.if_icmp .lt 13, 3) := by decide +kernel
theorem dX0_readAct_50 : decode cX0_readAct 50 = .ok (.iload_n 3, 1) := by decide +kernel
theorem dX0_readAct_51 : decode cX0_readAct 51 = .ok (.bipush 15, 2) := by decide +kernel
theorem dX0_readAct_53 : decode cX0_readAct 53 = .ok (.if_icmp .gt 7, 3) := by decide +kernel
theorem dX0_readAct_56 : decode cX0_readAct 56 = .ok (.iconst 1, 1) := by decide +kernel
theorem dX0_readAct_57 : decode cX0_readAct 57 = .ok (.goto 4, 3) := by decide +kernel
theorem dX0_readAct_60 : decode cX0_readAct 60 = .ok (.iconst 0, 1) := by decide +kernel
theorem dX0_readAct_61 : decode cX0_readAct 61 = .ok (.istore 5, 2) := by decide +kernel
theorem dX0_readAct_63 : decode cX0_readAct 63 = .ok (.iload 5, 2) := by decide +kernel
theorem dX0_readAct_65 : decode cX0_readAct 65 = .ok (.ifCond .ne 9, 3) := by decide +kernel
theorem dX0_readAct_68 : decode cX0_readAct 68 = .ok (.aload_n 1, 1) := by decide +kernel
theorem dX0_readAct_69 : decode cX0_readAct 69 = .ok (.iconst 1, 1) := by decide +kernel
theorem dX0_readAct_70 : decode cX0_readAct 70 = .ok (.invokevirtual 57, 3) := by decide +kernel
theorem dX0_readAct_73 : decode cX0_readAct 73 = .ok (.ireturn, 1) := by decide +kernel
theorem dX0_readAct_74 : decode cX0_readAct 74 = .ok (.aload_n 1, 1) := by decide +kernel
theorem dX0_readAct_75 : decode cX0_readAct 75 = .ok (.invokevirtual 71, 3) := by decide +kernel
theorem dX0_readAct_78 : decode cX0_readAct 78 = .ok (.aload_n 0, 1) := by decide +kernel
theorem dX0_readAct_79 : decode cX0_readAct 79 = .ok (.getfield 11, 3) := by decide +kernel
theorem dX0_readAct_82 : decode cX0_readAct 82 = .ok (.aload_n 0, 1) := by decide +kernel
theorem dX0_readAct_83 : decode cX0_readAct 83 = .ok (.getfield 24, 3) := by decide +kernel
theorem dX0_readAct_86 : decode cX0_readAct 86 = .ok (.iload_n 3, 1) := by decide +kernel
theorem dX0_readAct_87 : decode cX0_readAct 87 = .ok (.iastore, 1) := by decide +kernel
theorem dX0_readAct_88 : decode cX0_readAct 88 = .ok (.iload_n 3, 1) := by decide +kernel
theorem dX0_readAct_89 : decode cX0_readAct 89 = .ok (.bipush 10, 2) := by decide +kernel
theorem dX0_readAct_91 : decode cX0_readAct 91 = .ok (.if_icmp .eq 9, 3) := by decide +kernel
theorem dX0_readAct_94 : decode cX0_readAct 94 = .ok (.iload_n 3, 1) := by decide +kernel
theorem dX0_readAct_95 : decode cX0_readAct 95 = .ok (.bipush 11, 2) := by decide +kernel
theorem dX0_readAct_97 : decode cX0_readAct 97 = .ok (.if_icmp .ne 39, 3) := by decide +kernel
theorem dX0_readAct_100 : decode cX0_readAct 100 = .ok (.aload_n 0, 1) := by decide +kernel
theorem dX0_readAct_101 : decode cX0_readAct 101 = .ok (.getfield 18, 3) := by decide +kernel
theorem dX0_readAct_104 : decode cX0_readAct 104 = .ok (.aload_n 0, 1) := by decide +kernel
theorem dX0_readAct_105 : decode cX0_readAct 105 = .ok (.getfield 24, 3) := by decide +kernel
theorem dX0_readAct_108 : decode cX0_readAct 108 = .ok (.aload_n 1, 1) := by decide +kernel
theorem dX0_readAct_109 : decode cX0_readAct 109 = .ok (.aload_n 2, 1) := by decide +kernel
theorem dX0_readAct_110 : decode cX0_readAct 110 = .ok (.aload_n 1, 1) := by decide +kernel
theorem dX0_readAct_111 : decode cX0_readAct 111 = .ok (.getfield 61, 3) := by decide +kernel
theorem dX0_readAct_114 : decode cX0_readAct 114 = .ok (.invokevirtual 80, 3) := by decide +kernel
theorem dX0_readAct_117 : decode cX0_readAct 117 = .ok (.invokevirtual 83, 3) := by decide +kernel
theorem dX0_readAct_120 : decode cX0_readAct 120 = .ok (.iastore, 1) := by decide +kernel
theorem dX0_readAct_121 : decode cX0_readAct 121 = .ok (.aload_n 0, 1) := by decide +kernel
theorem dX0_readAct_122 : decode cX0_readAct 122 = .ok (.getfield 18, 3) := by decide +kernel
theorem dX0_readAct_125 : decode cX0_readAct 125 = .ok (.aload_n 0, 1) := by decide +kernel
theorem dX0_readAct_126 : decode cX0_readAct 126 = .ok (.getfield 24, 3) := by decide +kernel
theorem dX0_readAct_129 : decode cX0_readAct 129 = .ok (.iaload, 1) := by decide +kernel
theorem dX0_readAct_130 : decode cX0_readAct 130 = .ok (.iconst (-1), 1) := by decide +kernel
theorem dX0_readAct_131 : decode cX0_readAct 131 = .ok (.if_icmp .ne 5, 3) := by decide +kernel
theorem dX0_readAct_134 : decode cX0_readAct 134 = .ok (.iconst 0, 1) := by decide +kernel
theorem dX0_readAct_135 : decode cX0_readAct 135 = .ok (.ireturn, 1) := by decide +kernel
theorem dX0_readAct_136 : decode cX0_readAct 136 = .ok (.iload_n 3, 1) := by decide +kernel
theorem dX0_readAct_137 : decode cX0_readAct 137 = .ok (.invokestatic 87, 3) := by decide +kernel
theorem dX0_readAct_140 : decode cX0_readAct 140 = .ok (.istore 6, 2) := by decide +kernel
theorem dX0_readAct_142 : decode cX0_readAct 142 = .ok (.iload 6, 2) := by decide +kernel
theorem dX0_readAct_144 : decode cX0_readAct 144 = .ok (.ifCond .ne 5, 3) := by decide +kernel
theorem dX0_readAct_147 : decode cX0_readAct 147 = .ok (.iconst 1, 1) := by decide +kernel
theorem dX0_readAct_148 : decode cX0_readAct 148 = .ok (.ireturn, 1) := by decide +kernel
theorem dX0_readAct_149 : decode cX0_readAct 149 = .ok (.aload_n 0, 1) := by decide +kernel
theorem dX0_readAct_150 : decode cX0_readAct 150 = .ok (.getfield 21, 3) := by decide +kernel
theorem dX0_readAct_153 : decode cX0_readAct 153 = .ok (.aload_n 0, 1) := by decide +kernel
theorem dX0_readAct_154 : decode cX0_readAct 154 = .ok (.getfield 24, 3) := by decide +kernel
theorem dX0_readAct_157 : decode cX0_readAct 157 = .ok (.aload_n 1, 1) := by decide +kernel
theorem dX0_readAct_158 : decode cX0_readAct 158 = .ok (.iconst 1, 1) := by decide +kernel
theorem dX0_readAct_159 : decode cX0_readAct 159 = .ok (.iload 6, 2) := by decide +kernel
theorem dX0_readAct_161 : decode cX0_readAct 161 = .ok (.invokevirtual 90, 3) := by decide +kernel
theorem dX0_readAct_164 : decode cX0_readAct 164 = .ok (.iastore, 1) := by decide +kernel
theorem dX0_readAct_165 : decode cX0_readAct 165 = .ok (.aload_n 0, 1) := by decide +kernel
theorem dX0_readAct_166 : decode cX0_readAct 166 = .ok (.getfield 21, 3) := by decide +kernel
theorem dX0_readAct_169 : decode cX0_readAct 169 = .ok (.aload_n 0, 1) := by decide +kernel
theorem dX0_readAct_170 : decode cX0_readAct 170 = .ok (.getfield 24, 3) := by decide +kernel
theorem dX0_readAct_173 : decode cX0_readAct 173 = .ok (.iaload, 1) := by decide +kernel
theorem dX0_readAct_174 : decode cX0_readAct 174 = .ok (.iconst (-1), 1) := by decide +kernel
theorem dX0_readAct_175 : decode cX0_readAct 175 = .ok (.if_icmp .eq 7, 3) := by decide +kernel
theorem dX0_readAct_178 : decode cX0_readAct 178 = .ok (.iconst 1, 1) := by decide +kernel
theorem dX0_readAct_179 : decode cX0_readAct 179 = .ok (.goto 4, 3) := by decide +kernel
theorem dX0_readAct_182 : decode cX0_readAct 182 = .ok (.iconst 0, 1) := by decide +kernel
theorem dX0_readAct_183 : decode cX0_readAct 183 = .ok (.ireturn, 1) := by decide +kernel
theorem dX11_byteAt_0 : decode cX11_byteAt 0 = .ok (.iload_n 1, 1) := by decide +kernel
theorem dX11_byteAt_1 : decode cX11_byteAt 1 = .ok (.ifCond .lt 20, 3) := by decide +kernel
theorem dX11_byteAt_4 : decode cX11_byteAt 4 = .ok (.iload_n 1, 1) := by decide +kernel
theorem dX11_byteAt_5 : decode cX11_byteAt 5 = .ok (.aload_n 0, 1) := by decide +kernel
theorem dX11_byteAt_6 : decode cX11_byteAt 6 = .ok (.getfield 97, 3) := by decide +kernel
theorem dX11_byteAt_9 : decode cX11_byteAt 9 = .ok (.if_icmp .ge 12, 3) := by decide +kernel
theorem dX11_byteAt_12 : decode cX11_byteAt 12 = .ok (.aload_n 0, 1) := by decide +kernel
theorem dX11_byteAt_13 : decode cX11_byteAt 13 = .ok (.getfield 93, 3) := by decide +kernel
theorem dX11_byteAt_16 : decode cX11_byteAt 16 = .ok (.iload_n 1, 1) := by decide +kernel
theorem dX11_byteAt_17 : decode cX11_byteAt 17 = .ok (.baload, 1) := by decide +kernel
theorem dX11_byteAt_18 : decode cX11_byteAt 18 = .ok (.goto 4, 3) := by decide +kernel
theorem dX11_byteAt_21 : decode cX11_byteAt 21 = .ok (.iconst (-1), 1) := by decide +kernel
theorem dX11_byteAt_22 : decode cX11_byteAt 22 = .ok (.ireturn, 1) := by decide +kernel
theorem dX11_drawn_0 : decode cX11_drawn 0 = .ok (.iload_n 1, 1) := by decide +kernel
theorem dX11_drawn_1 : decode cX11_drawn 1 = .ok (.iconst 1, 1) := by decide +kernel
theorem dX11_drawn_2 : decode cX11_drawn 2 = .ok (.if_icmp .lt 19, 3) := by decide +kernel
theorem dX11_drawn_5 : decode cX11_drawn 5 = .ok (.iload_n 1, 1) := by decide +kernel
theorem dX11_drawn_6 : decode cX11_drawn 6 = .ok (.bipush 60, 2) := by decide +kernel
theorem dX11_drawn_8 : decode cX11_drawn 8 = .ok (.if_icmp .gt 13, 3) := by decide +kernel
theorem dX11_drawn_11 : decode cX11_drawn 11 = .ok (.aload_n 0, 1) := by decide +kernel
theorem dX11_drawn_12 : decode cX11_drawn 12 = .ok (.getfield 19, 3) := by decide +kernel
theorem dX11_drawn_15 : decode cX11_drawn 15 = .ok (.getfield 213, 3) := by decide +kernel
theorem dX11_drawn_18 : decode cX11_drawn 18 = .ok (.ifCond .ne 5, 3) := by decide +kernel
theorem dX11_drawn_21 : decode cX11_drawn 21 = .ok (.iconst (-1), 1) := by decide +kernel
theorem dX11_drawn_22 : decode cX11_drawn 22 = .ok (.ireturn, 1) := by decide +kernel
theorem dX11_drawn_23 : decode cX11_drawn 23 = .ok (.aload_n 0, 1) := by decide +kernel
theorem dX11_drawn_24 : decode cX11_drawn 24 = .ok (.getfield 38, 3) := by decide +kernel
theorem dX11_drawn_27 : decode cX11_drawn 27 = .ok (.aload_n 0, 1) := by decide +kernel
theorem dX11_drawn_28 : decode cX11_drawn 28 = .ok (.getfield 28, 3) := by decide +kernel
theorem dX11_drawn_31 : decode cX11_drawn 31 = .ok (.invokevirtual 225, 3) := by decide +kernel
theorem dX11_drawn_34 : decode cX11_drawn 34 = .ok (.aload_n 0, 1) := by decide +kernel
theorem dX11_drawn_35 : decode cX11_drawn 35 = .ok (.aload_n 0, 1) := by decide +kernel
theorem dX11_drawn_36 : decode cX11_drawn 36 = .ok (.getfield 28, 3) := by decide +kernel
theorem dX11_drawn_39 : decode cX11_drawn 39 = .ok (.iload_n 1, 1) := by decide +kernel
theorem dX11_drawn_40 : decode cX11_drawn 40 = .ok (.iload_n 2, 1) := by decide +kernel
theorem dX11_drawn_41 : decode cX11_drawn 41 = .ok (.invokevirtual 337, 3) := by decide +kernel
theorem dX11_drawn_44 : decode cX11_drawn 44 = .ok (.invokevirtual 253, 3) := by decide +kernel
theorem dX11_drawn_47 : decode cX11_drawn 47 = .ok (.ireturn, 1) := by decide +kernel
theorem dX11_odds_0 : decode cX11_odds 0 = .ok (.aload_n 0, 1) := by decide +kernel
theorem dX11_odds_1 : decode cX11_odds 1 = .ok (.getfield 19, 3) := by decide +kernel
theorem dX11_odds_4 : decode cX11_odds 4 = .ok (.iload_n 1, 1) := by decide +kernel
theorem dX11_odds_5 : decode cX11_odds 5 = .ok (.invokevirtual 133, 3) := by decide +kernel
theorem dX11_odds_8 : decode cX11_odds 8 = .ok (.ifCond .eq 14, 3) := by decide +kernel
theorem dX11_odds_11 : decode cX11_odds 11 = .ok (.iload_n 2, 1) := by decide +kernel
theorem dX11_odds_12 : decode cX11_odds 12 = .ok (.iconst 1, 1) := by decide +kernel
theorem dX11_odds_13 : decode cX11_odds 13 = .ok (.if_icmp .lt 9, 3) := by decide +kernel
theorem dX11_odds_16 : decode cX11_odds 16 = .ok (.iload_n 2, 1) := by decide +kernel
theorem dX11_odds_17 : decode cX11_odds 17 = .ok (.bipush 30, 2) := by decide +kernel
theorem dX11_odds_19 : decode cX11_odds 19 = .ok (.if_icmp .le 5, 3) := by decide +kernel
theorem dX11_odds_22 : decode cX11_odds 22 = .ok (.iconst (-1), 1) := by decide +kernel
theorem dX11_odds_23 : decode cX11_odds 23 = .ok (.ireturn, 1) := by decide +kernel
theorem dX11_odds_24 : decode cX11_odds 24 = .ok (.iconst 0, 1) := by decide +kernel
theorem dX11_odds_25 : decode cX11_odds 25 = .ok (.istore 4, 2) := by decide +kernel
theorem dX11_odds_27 : decode cX11_odds 27 = .ok (.iconst 0, 1) := by decide +kernel
theorem dX11_odds_28 : decode cX11_odds 28 = .ok (.istore 5, 2) := by decide +kernel
theorem dX11_odds_30 : decode cX11_odds 30 = .ok (.iload 5, 2) := by decide +kernel
theorem dX11_odds_32 : decode cX11_odds 32 = .ok (.iload_n 2, 1) := by decide +kernel
theorem dX11_odds_33 : decode cX11_odds 33 = .ok (.if_icmp .ge 48, 3) := by decide +kernel
theorem dX11_odds_36 : decode cX11_odds 36 = .ok (.aload_n 0, 1) := by decide +kernel
theorem dX11_odds_37 : decode cX11_odds 37 = .ok (.getfield 32, 3) := by decide +kernel
theorem dX11_odds_40 : decode cX11_odds 40 = .ok (.aload_n 0, 1) := by decide +kernel
theorem dX11_odds_41 : decode cX11_odds 41 = .ok (.getfield 28, 3) := by decide +kernel
theorem dX11_odds_44 : decode cX11_odds 44 = .ok (.invokevirtual 126, 3) := by decide +kernel
theorem dX11_odds_47 : decode cX11_odds 47 = .ok (.aload_n 0, 1) := by decide +kernel
theorem dX11_odds_48 : decode cX11_odds 48 = .ok (.getfield 32, 3) := by decide +kernel
theorem dX11_odds_51 : decode cX11_odds 51 = .ok (.bipush 10, 2) := by decide +kernel
theorem dX11_odds_53 : decode cX11_odds 53 = .ok (.iload_n 3, 1) := by decide +kernel
theorem dX11_odds_54 : decode cX11_odds 54 = .ok (.iload 5, 2) := by decide +kernel
theorem dX11_odds_56 : decode cX11_odds 56 = .ok (.iadd, 1) := by decide +kernel
theorem dX11_odds_57 : decode cX11_odds 57 = .ok (.invokevirtual 337, 3) := by decide +kernel
theorem dX11_odds_60 : decode cX11_odds 60 = .ok (.pop, 1) := by decide +kernel
theorem dX11_odds_61 : decode cX11_odds 61 = .ok (.aload_n 0, 1) := by decide +kernel
theorem dX11_odds_62 : decode cX11_odds 62 = .ok (.getfield 32, 3) := by decide +kernel
theorem dX11_odds_65 : decode cX11_odds 65 = .ok (.iload_n 1, 1) := by decide +kernel
theorem dX11_odds_66 : decode cX11_odds 66 = .ok (.invokevirtual 301, 3) := by decide +kernel
theorem dX11_odds_69 : decode cX11_odds 69 = .ok (.ifCond .eq 6, 3) := by decide +kernel
theorem dX11_odds_72 : decode cX11_odds 72 = .ok (.iinc 4 1, 3) := by decide +kernel
theorem dX11_odds_75 : decode cX11_odds 75 = .ok (.iinc 5 1, 3) := by decide +kernel
theorem dX11_odds_78 : decode cX11_odds 78 = .ok (.goto (-48), 3) := by decide +kernel
theorem dX11_odds_81 : decode cX11_odds 81 = .ok (.iload 4, 2) := by decide +kernel
theorem dX11_odds_83 : decode cX11_odds 83 = .ok (.ireturn, 1) := by decide +kernel
theorem dX11_writeByte_0 : decode cX11_writeByte 0 = .ok (.aload_n 0, 1) := by decide +kernel
theorem dX11_writeByte_1 : decode cX11_writeByte 1 = .ok (.getfield 97, 3) := by decide +kernel
theorem dX11_writeByte_4 : decode cX11_writeByte 4 = .ok (.aload_n 0, 1) := by decide +kernel
theorem dX11_writeByte_5 : decode cX11_writeByte 5 = .ok (.getfield 93, 3) := by decide +kernel
theorem dX11_writeByte_8 : decode cX11_writeByte 8 = .ok (.arraylength, 1) := by decide +kernel
theorem dX11_writeByte_9 : decode cX11_writeByte 9 = .ok (.if_icmp .ge 24, 3) := by decide +kernel
theorem dX11_writeByte_12 : decode cX11_writeByte 12 = .ok (.aload_n 0, 1) := by decide +kernel
theorem dX11_writeByte_13 : decode cX11_writeByte 13 = .ok (.getfield 93, 3) := by decide +kernel
theorem dX11_writeByte_16 : decode cX11_writeByte 16 = .ok (.aload_n 0, 1) := by decide +kernel
theorem dX11_writeByte_17 : decode cX11_writeByte 17 = .ok (.getfield 97, 3) := by decide +kernel
theorem dX11_writeByte_20 : decode cX11_writeByte 20 = .ok (.iload_n 1, 1) := by decide +kernel
theorem dX11_writeByte_21 : decode cX11_writeByte 21 = .ok (.i2b, 1) := by decide +kernel
theorem dX11_writeByte_22 : decode cX11_writeByte 22 = .ok (.bastore, 1) := by decide +kernel
theorem dX11_writeByte_23 : decode cX11_writeByte 23 = .ok (.aload_n 0, 1) := by decide +kernel
theorem dX11_writeByte_24 : decode cX11_writeByte 24 = .ok (.dup, 1) := by decide +kernel
theorem dX11_writeByte_25 : decode cX11_writeByte 25 = .ok (.getfield 97, 3) := by decide +kernel
theorem dX11_writeByte_28 : decode cX11_writeByte 28 = .ok (.iconst 1, 1) := by decide +kernel
theorem dX11_writeByte_29 : decode cX11_writeByte 29 = .ok (.iadd, 1) := by decide +kernel
theorem dX11_writeByte_30 : decode cX11_writeByte 30 = .ok (.putfield 97, 3) := by decide +kernel
theorem dX11_writeByte_33 : decode cX11_writeByte 33 = .ok (.return_, 1) := by decide +kernel
theorem dX11_writeName_0 : decode cX11_writeName 0 = .ok (.bipush 6, 2) := by decide +kernel
theorem dX11_writeName_2 : decode cX11_writeName 2 = .ok (.istore_n 3, 1) := by decide +kernel
theorem dX11_writeName_3 : decode cX11_writeName 3 = .ok (.iload_n 3, 1) := by decide +kernel
theorem dX11_writeName_4 : decode cX11_writeName 4 = .ok (.ifCond .lt 36, 3) := by decide +kernel
theorem dX11_writeName_7 : decode cX11_writeName 7 = .ok (.lload_n 1, 1) := by decide +kernel
theorem dX11_writeName_8 : decode cX11_writeName 8 = .ok (.iload_n 3, 1) := by decide +kernel
theorem dX11_writeName_9 : decode cX11_writeName 9 = .ok (.iconst 5, 1) := by decide +kernel
theorem dX11_writeName_10 : decode cX11_writeName 10 = .ok (.imul, 1) := by decide +kernel
theorem dX11_writeName_11 : decode cX11_writeName 11 = .ok (.lshr, 1) := by decide +kernel
theorem dX11_writeName_12 : decode cX11_writeName 12 = .ok (.l2i, 1) := by decide +kernel
theorem dX11_writeName_13 : decode cX11_writeName 13 = .ok (.bipush 31, 2) := by decide +kernel
theorem dX11_writeName_15 : decode cX11_writeName 15 = .ok (.iand, 1) := by decide +kernel
theorem dX11_writeName_16 : decode cX11_writeName 16 = .ok (.istore 4, 2) := by decide +kernel
theorem dX11_writeName_18 : decode cX11_writeName 18 = .ok (.iload 4, 2) := by decide +kernel
theorem dX11_writeName_20 : decode cX11_writeName 20 = .ok (.ifCond .eq 14, 3) := by decide +kernel
theorem dX11_writeName_23 : decode cX11_writeName 23 = .ok (.aload_n 0, 1) := by decide +kernel
theorem dX11_writeName_24 : decode cX11_writeName 24 = .ok (.bipush 97, 2) := by decide +kernel
theorem dX11_writeName_26 : decode cX11_writeName 26 = .ok (.iload 4, 2) := by decide +kernel
theorem dX11_writeName_28 : decode cX11_writeName 28 = .ok (.iadd, 1) := by decide +kernel
theorem dX11_writeName_29 : decode cX11_writeName 29 = .ok (.iconst 1, 1) := by decide +kernel
theorem dX11_writeName_30 : decode cX11_writeName 30 = .ok (.isub, 1) := by decide +kernel
theorem dX11_writeName_31 : decode cX11_writeName 31 = .ok (.invokevirtual 334, 3) := by decide +kernel
theorem dX11_writeName_34 : decode cX11_writeName 34 = .ok (.iinc 3 (-1), 3) := by decide +kernel
theorem dX11_writeName_37 : decode cX11_writeName 37 = .ok (.goto (-34), 3) := by decide +kernel
theorem dX11_writeName_40 : decode cX11_writeName 40 = .ok (.return_, 1) := by decide +kernel
theorem dX1_actByDraw_0 : decode cX1_actByDraw 0 = .ok (.aload_n 0, 1) := by decide +kernel
theorem dX1_actByDraw_1 : decode cX1_actByDraw 1 = .ok (.bipush 6, 2) := by decide +kernel
theorem dX1_actByDraw_3 : decode cX1_actByDraw 3 = .ok (.invokevirtual 130, 3) := by decide +kernel
theorem dX1_actByDraw_6 : decode cX1_actByDraw 6 = .ok (.istore_n 2, 1) := by decide +kernel
theorem dX1_actByDraw_7 : decode cX1_actByDraw 7 = .ok (.iload_n 2, 1) := by decide +kernel
theorem dX1_actByDraw_8 : decode cX1_actByDraw 8 = .ok (.ifCond .ne 12, 3) := by decide +kernel
theorem dX1_actByDraw_11 : decode cX1_actByDraw 11 = .ok (.aload_n 0, 1) := by decide +kernel
theorem dX1_actByDraw_12 : decode cX1_actByDraw 12 = .ok (.iload_n 1, 1) := by decide +kernel
theorem dX1_actByDraw_13 : decode cX1_actByDraw 13 = .ok (.invokevirtual 133, 3) := by decide +kernel
theorem dX1_actByDraw_16 : decode cX1_actByDraw 16 = .ok (.pop, 1) := by decide +kernel
theorem dX1_actByDraw_17 : decode cX1_actByDraw 17 = .ok (.goto 30, 3) := by decide +kernel
theorem dX1_actByDraw_20 : decode cX1_actByDraw 20 = .ok (.iload_n 2, 1) := by decide +kernel
theorem dX1_actByDraw_21 : decode cX1_actByDraw 21 = .ok (.iconst 1, 1) := by decide +kernel
theorem dX1_actByDraw_22 : decode cX1_actByDraw 22 = .ok (.if_icmp .le 11, 3) := by decide +kernel
theorem dX1_actByDraw_25 : decode cX1_actByDraw 25 = .ok (.aload_n 0, 1) := by decide +kernel
theorem dX1_actByDraw_26 : decode cX1_actByDraw 26 = .ok (.iload_n 1, 1) := by decide +kernel
theorem dX1_actByDraw_27 : decode cX1_actByDraw 27 = .ok (.invokevirtual 136, 3) := by decide +kernel
theorem dX1_actByDraw_30 : decode cX1_actByDraw 30 = .ok (.goto 17, 3) := by decide +kernel
theorem dX1_actByDraw_33 : decode cX1_actByDraw 33 = .ok (.aload_n 0, 1) := by decide +kernel
theorem dX1_actByDraw_34 : decode cX1_actByDraw 34 = .ok (.iconst 4, 1) := by decide +kernel
theorem dX1_actByDraw_35 : decode cX1_actByDraw 35 = .ok (.invokevirtual 130, 3) := by decide +kernel
theorem dX1_actByDraw_38 : decode cX1_actByDraw 38 = .ok (.ifCond .ne 9, 3) := by decide +kernel
theorem dX1_actByDraw_41 : decode cX1_actByDraw 41 = .ok (.aload_n 0, 1) := by decide +kernel
theorem dX1_actByDraw_42 : decode cX1_actByDraw 42 = .ok (.iload_n 1, 1) := by decide +kernel
theorem dX1_actByDraw_43 : decode cX1_actByDraw 43 = .ok (.invokevirtual 139, 3) := by decide +kernel
theorem dX1_actByDraw_46 : decode cX1_actByDraw 46 = .ok (.pop, 1) := by decide +kernel
theorem dX1_actByDraw_47 : decode cX1_actByDraw 47 = .ok (.return_, 1) := by decide +kernel
theorem dX1_draw_0 : decode cX1_draw 0 = .ok (.aload_n 0, 1) := by decide +kernel
theorem dX1_draw_1 : decode cX1_draw 1 = .ok (.aload_n 0, 1) := by decide +kernel
theorem dX1_draw_2 : decode cX1_draw 2 = .ok (.getfield 49, 3) := by decide +kernel
theorem dX1_draw_5 : decode cX1_draw 5 = .ok (.ldc 129, 2) := by decide +kernel
theorem dX1_draw_7 : decode cX1_draw 7 = .ok (.imul, 1) := by decide +kernel
theorem dX1_draw_8 : decode cX1_draw 8 = .ok (.sipush 12345, 3) := by decide +kernel
theorem dX1_draw_11 : decode cX1_draw 11 = .ok (.iadd, 1) := by decide +kernel
theorem dX1_draw_12 : decode cX1_draw 12 = .ok (.putfield 49, 3) := by decide +kernel
theorem dX1_draw_15 : decode cX1_draw 15 = .ok (.iload_n 1, 1) := by decide +kernel
theorem dX1_draw_16 : decode cX1_draw 16 = .ok (.ifCond .le 15, 3) := by decide +kernel
theorem dX1_draw_19 : decode cX1_draw 19 = .ok (.aload_n 0, 1) := by decide +kernel
theorem dX1_draw_20 : decode cX1_draw 20 = .ok (.getfield 49, 3) := by decide +kernel
theorem dX1_draw_23 : decode cX1_draw 23 = .ok (.bipush 8, 2) := by decide +kernel
theorem dX1_draw_25 : decode cX1_draw 25 = .ok (.iushr, 1) := by decide +kernel
theorem dX1_draw_26 : decode cX1_draw 26 = .ok (.iload_n 1, 1) := by decide +kernel
theorem dX1_draw_27 : decode cX1_draw 27 = .ok (.irem, 1) := by decide +kernel
theorem dX1_draw_28 : decode cX1_draw 28 = .ok (.goto 4, 3) := by decide +kernel
theorem dX1_draw_32 : decode cX1_draw 32 = .ok (.ireturn, 1) := by decide +kernel
theorem dX1_drawMeals_0 : decode cX1_drawMeals 0 = .ok (.aload_n 0, 1) := by decide +kernel
theorem dX1_drawMeals_1 : decode cX1_drawMeals 1 = .ok (.iload_n 2, 1) := by decide +kernel
theorem dX1_drawMeals_2 : decode cX1_drawMeals 2 = .ok (.putfield 49, 3) := by decide +kernel
theorem dX1_drawMeals_5 : decode cX1_drawMeals 5 = .ok (.iconst 0, 1) := by decide +kernel
theorem dX1_drawMeals_6 : decode cX1_drawMeals 6 = .ok (.istore_n 3, 1) := by decide +kernel
theorem dX1_drawMeals_7 : decode cX1_drawMeals 7 = .ok (.iload_n 3, 1) := by decide +kernel
theorem dX1_drawMeals_8 : decode cX1_drawMeals 8 = .ok (.iload_n 1, 1) := by decide +kernel
theorem dX1_drawMeals_9 : decode cX1_drawMeals 9 = .ok (.if_icmp .ge 59, 3) := by decide +kernel
theorem dX1_drawMeals_12 : decode cX1_drawMeals 12 = .ok (.aload_n 0, 1) := by decide +kernel
theorem dX1_drawMeals_13 : decode cX1_drawMeals 13 = .ok (.getfield 37, 3) := by decide +kernel
theorem dX1_drawMeals_16 : decode cX1_drawMeals 16 = .ok (.sipush 200, 3) := by decide +kernel
theorem dX1_drawMeals_19 : decode cX1_drawMeals 19 = .ok (.if_icmp .ge 49, 3) := by decide +kernel
theorem dX1_drawMeals_22 : decode cX1_drawMeals 22 = .ok (.iconst 0, 1) := by decide +kernel
theorem dX1_drawMeals_23 : decode cX1_drawMeals 23 = .ok (.istore 4, 2) := by decide +kernel
theorem dX1_drawMeals_25 : decode cX1_drawMeals 25 = .ok (.iload 4, 2) := by decide +kernel
theorem dX1_drawMeals_27 : decode cX1_drawMeals 27 = .ok (.aload_n 0, 1) := by decide +kernel
theorem dX1_drawMeals_28 : decode cX1_drawMeals 28 = .ok (.getfield 52, 3) := by decide +kernel
theorem dX1_drawMeals_31 : decode cX1_drawMeals 31 = .ok (.getfield 68, 3) := by decide +kernel
theorem dX1_drawMeals_34 : decode cX1_drawMeals 34 = .ok (.if_icmp .ge 24, 3) := by decide +kernel
theorem dX1_drawMeals_37 : decode cX1_drawMeals 37 = .ok (.aload_n 0, 1) := by decide +kernel
theorem dX1_drawMeals_38 : decode cX1_drawMeals 38 = .ok (.iload 4, 2) := by decide +kernel
theorem dX1_drawMeals_40 : decode cX1_drawMeals 40 = .ok (.invokevirtual 115, 3) := by decide +kernel
theorem dX1_drawMeals_43 : decode cX1_drawMeals 43 = .ok (.ifCond .eq 9, 3) := by decide +kernel
theorem dX1_drawMeals_46 : decode cX1_drawMeals 46 = .ok (.aload_n 0, 1) := by decide +kernel
theorem dX1_drawMeals_47 : decode cX1_drawMeals 47 = .ok (.iload 4, 2) := by decide +kernel
theorem dX1_drawMeals_49 : decode cX1_drawMeals 49 = .ok (.invokevirtual 142, 3) := by decide +kernel
theorem dX1_drawMeals_52 : decode cX1_drawMeals 52 = .ok (.iinc 4 1, 3) := by decide +kernel
theorem dX1_drawMeals_55 : decode cX1_drawMeals 55 = .ok (.goto (-30), 3) := by decide +kernel
theorem dX1_drawMeals_58 : decode cX1_drawMeals 58 = .ok (.aload_n 0, 1) := by decide +kernel
theorem dX1_drawMeals_59 : decode cX1_drawMeals 59 = .ok (.invokevirtual 126, 3) := by decide +kernel
theorem dX1_drawMeals_62 : decode cX1_drawMeals 62 = .ok (.iinc 3 1, 3) := by decide +kernel
theorem dX1_drawMeals_65 : decode cX1_drawMeals 65 = .ok (.goto (-58), 3) := by decide +kernel
theorem dX1_drawMeals_68 : decode cX1_drawMeals 68 = .ok (.iload_n 3, 1) := by decide +kernel
theorem dX1_drawMeals_69 : decode cX1_drawMeals 69 = .ok (.ireturn, 1) := by decide +kernel
theorem rc_11 : Rg 11 11 11 := ⟨by decide, by decide⟩
theorem rc_15 : Rg 15 15 15 := ⟨by decide, by decide⟩
theorem rc_30 : Rg 30 30 30 := ⟨by decide, by decide⟩
theorem rc_31 : Rg 31 31 31 := ⟨by decide, by decide⟩
theorem rc_50 : Rg 50 50 50 := ⟨by decide, by decide⟩
theorem rc_61 : Rg 61 61 61 := ⟨by decide, by decide⟩
theorem rc_12345 : Rg 12345 12345 12345 := ⟨by decide, by decide⟩
theorem rc_1103515245 : Rg 1103515245 1103515245 1103515245 := ⟨by decide, by decide⟩
set_option maxRecDepth 100000 in
set_option maxHeartbeats 8000000 in
theorem c_X11_writeByte {l : Launch} {D : va_G} {cy : Nat → ClassId} {L : List Nat} {κ ln : Nat → Nat} {R : Nat → Nat → Option Nat} {I : Nat → Nat → Int32} {J : Nat → Nat → Int64} {ow : Nat → Nat × Nat} (W9 : ∀ a ∈ L, Shp L κ ln R ow a) {x : Nat} (hLx : x ∈ L) (hkx : κ x = 11) (a0 : Int32) (ra0 : Rg 97 127 a0) (hU : Iv L κ R ow I) : CtV l yX11_writeByte cX11_writeByte 2 none { frames := 0, cells := 0, slots := 0, locals := 0 } D cy L κ ln R I J [.ref x, .int a0] (fun I2 J2 => Iv L κ R ow I2 ∧ Fq L κ ow [1114, 77300] I I2 ∧ Fq L κ ow [] J J2) := by
  refine CtV.of (by decide +kernel) (Nat.le_of_ble_eq_true rfl) ?_
  intro p e s m below meth c B K
  have C := B.1
  have hF : Fq L κ ow [1114, 77300] I I := fq_rf
  have hG : Fq L κ ow [] J J := fq_rf
  obtain ⟨b_1, hb_1, hb_1L, hb_1k, hb_1n, hb_1o⟩ := shp_a (W9 x hLx) hkx 13 13 40 rfl (by decide)
  refine g_lo (is := [0, 1]) (lo2 := [(0, .ref x), (1, .int a0)]) rfl ?_
  refine g_aload_n C 0 dX11_writeByte_0 rfl rfl ?_
  obtain ⟨x_2, hx_2, rx_2⟩ := ex_get (I := I) (a := x) (j := 14) (lo := 0) (hi := 40) hU.1 hLx (ro_o hkx (by decide)) rfl
  refine g_getI C K hLx hkx f_11_97 (v := x_2) hx_2 dX11_writeByte_1 ?_
  refine g_aload_n C 0 dX11_writeByte_4 rfl rfl ?_
  refine g_getR C K hLx hkx f_11_93 hb_1 dX11_writeByte_5 ?_
  refine g_alenB C K hb_1L hb_1k (v := 40) (by rw [hb_1n]; rfl) dX11_writeByte_8 ?_
  refine g_icmp_ge C (tgt := 33) dX11_writeByte_9 (by decide) (fun h_3 => ?_) (fun h_3 => ?_)
  · skip
    have r_4 := le_r (h_3) rc_40 rx_2
    exact g_vret B K rfl ⟨hU, hF, hG⟩ dX11_writeByte_33
  · skip
    have r_5 := lt_l (hi := 39) (nle h_3) rx_2 rc_40 (by decide)
    refine g_aload_n C 0 dX11_writeByte_12 rfl rfl ?_
    refine g_getR C K hLx hkx f_11_93 hb_1 dX11_writeByte_13 ?_
    refine g_aload_n C 0 dX11_writeByte_16 rfl rfl ?_
    refine g_getI C K hLx hkx f_11_97 (v := x_2) hx_2 dX11_writeByte_17 ?_
    refine g_iload_n C 1 dX11_writeByte_20 rfl rfl ?_
    obtain ⟨x_6, hx_6, rx_6⟩ := ex_b2 (x := a0)
    refine g_i2b C (v := x_6) dX11_writeByte_21 hx_6 ?_
    refine h_bast C K hb_1L hb_1k (x_2.toNatClampNeg) (rfl) (ix_0 r_5 (by decide)) (ix_lt r_5 (by decide) hb_1n (by decide)) dX11_writeByte_22 (fun I_7 hI_7 => ?_)
    have hU_8 := iv_put W9 hU hI_7 (ro_a hb_1k (by decide) hb_1o hkx rfl) (lo := (-128)) (hi := 127) (rfl) (nar_b _) rfl
    have hF_9 := fq_puta hF hI_7 (ro_a hb_1k (by decide) hb_1o hkx rfl) (by decide) (by decide)
    refine g_aload_n C 0 dX11_writeByte_23 rfl rfl ?_
    refine g_dup C dX11_writeByte_24 rfl ?_
    refine g_getI C K hLx hkx f_11_97 (v := x_2) (kp_k (κ := κ) hI_7 (by rw [hkx, hb_1k]; decide) hx_2) dX11_writeByte_25 ?_
    refine g_iconst C (v := 1) dX11_writeByte_28 (by decide) ?_
    obtain ⟨x_10, hx_10, rx_10, tx_10⟩ := ex_add 1 40 r_5 rc_1 (by decide) (by decide) (by decide) (by decide)
    refine g_iadd C (v := x_10) dX11_writeByte_29 hx_10 ?_
    refine h_putI C K hLx hkx f_11_97 p_11_14 dX11_writeByte_30 (fun I_11 hI_11 => ?_)
    have hU_12 := iv_put W9 hU_8 hI_11 (ro_o hkx (by decide)) (lo := 0) (hi := 40) (rfl) (rg_w rx_10 (by decide) (by decide)) rfl
    have hF_13 := fq_puto hF_9 hI_11 hkx (by decide) (by decide)
    exact g_vret B K rfl ⟨hU_12, hF_13, hG⟩ dX11_writeByte_33
set_option maxRecDepth 100000 in
set_option maxHeartbeats 8000000 in
theorem c_X11_writeName {l : Launch} {D : va_G} {cy : Nat → ClassId} {L : List Nat} {κ ln : Nat → Nat} {R : Nat → Nat → Option Nat} {I : Nat → Nat → Int32} {J : Nat → Nat → Int64} {ow : Nat → Nat × Nat} (W9 : ∀ a ∈ L, Shp L κ ln R ow a) {x : Nat} (hLx : x ∈ L) (hkx : κ x = 11) (a0 : Int64) (hU : Iv L κ R ow I) : CtV l yX11_writeName cX11_writeName 5 none { frames := 1, cells := 0, slots := 0, locals := 21 } D cy L κ ln R I J [.ref x, .long a0] (fun I2 J2 => Iv L κ R ow I2 ∧ Fq L κ ow [1114, 77300] I I2 ∧ Fq L κ ow [] J J2) := by
  refine CtV.of (by decide +kernel) (Nat.le_of_ble_eq_true rfl) ?_
  intro p e s m below meth c B K
  have C := B.1
  have hF : Fq L κ ow [1114, 77300] I I := fq_rf
  have hG : Fq L κ ow [] J J := fq_rf
  refine g_lo (is := [0, 1]) (lo2 := [(0, .ref x), (1, .long a0)]) rfl ?_
  have l_3 : ∀ (n_3 : Nat) (I_1 : Nat → Nat → Int32) (J_2 : Nat → Nat → Int64) (hU_3 : Iv L κ R ow I_1) (hF_4 : Fq L κ ow [1114, 77300] I I_1) (hG_5 : Fq L κ ow [] J J_2) (y_6 : Int64) (v_7 : Int32) (rv_7 : Rg (-1) 6 v_7) (hm_8 : (v_7 : Int32).toInt - (-1) < (n_3 : Int)), WG p l e { frames := 1, cells := 0, slots := 0, locals := 21 } s m ([.ref x, .long a0] : List Value).toArray below meth c 5 0 0 (MQ below (Qv_ D cy L κ ln R (fun I2 J2 => Iv L κ R ow I2 ∧ Fq L κ ow [1114, 77300] I I2 ∧ Fq L κ ow [] J J2)) ([.ref x, .long a0] : List Value).toArray s 0 0 (Al_ L)) D cy (Al_ L) s.heap L κ ln R I_1 J_2 3 [(0, .ref x), (1, .long y_6), (3, .int v_7)] [] := by
    intro n_3
    induction n_3 with
    | zero =>
      intro I_1 J_2 hU_3 hF_4 hG_5 y_6 v_7 rv_7 hm_8
      exact md_0 rv_7 hm_8
    | succ n_3 ih_3 =>
      intro I_1 J_2 hU_3 hF_4 hG_5 y_6 v_7 rv_7 hm_8
      have j_34 : ∀ (I_9 : Nat → Nat → Int32) (J_10 : Nat → Nat → Int64) (hU_11 : Iv L κ R ow I_9) (hF_12 : Fq L κ ow [1114, 77300] I I_9) (hG_13 : Fq L κ ow [] J J_10) (y_14 : Int64) (v_15 : Int32) (rv_15 : Rg 0 6 v_15) (v_16 : Int32) (rv_16 : Rg 0 31 v_16) (hm_17 : (v_15 : Int32).toInt - (-1) < ((n_3 + 1 : Nat) : Int)), WG p l e { frames := 1, cells := 0, slots := 0, locals := 21 } s m ([.ref x, .long a0] : List Value).toArray below meth c 5 0 0 (MQ below (Qv_ D cy L κ ln R (fun I2 J2 => Iv L κ R ow I2 ∧ Fq L κ ow [1114, 77300] I I2 ∧ Fq L κ ow [] J J2)) ([.ref x, .long a0] : List Value).toArray s 0 0 (Al_ L)) D cy (Al_ L) s.heap L κ ln R I_9 J_10 34 [(0, .ref x), (1, .long y_14), (3, .int v_15), (4, .int v_16)] [] := by
        intro I_9 J_10 hU_11 hF_12 hG_13 y_14 v_15 rv_15 v_16 rv_16 hm_17
        obtain ⟨x_18, hx_18, rx_18, tx_18⟩ := ex_add (y := (-1)) (-1) 5 rv_15 rc_m1 (by decide) (by decide) (by decide) (by decide)
        refine g_iinc C dX11_writeName_34 (k := 2) (v := x_18) rfl hx_18 (by decide) (lo2 := [(3, .int x_18), (0, .ref x), (1, .long y_14), (4, .int v_16)]) rfl ?_
        refine g_goto C (tgt := 3) dX11_writeName_37 (by decide) ?_
        refine g_lo (is := [1, 2, 0]) (lo2 := [(0, .ref x), (1, .long y_14), (3, .int x_18)]) rfl ?_
        exact ih_3 I_9 J_10 hU_11 hF_12 hG_13 y_14 x_18 (rg_w rx_18 (by decide) (by decide)) (md_1 hm_17 (ti_k tx_18 rc_m1) (by decide))
      refine g_iload_n C 2 dX11_writeName_3 rfl rfl ?_
      refine g_if_lt C (tgt := 40) dX11_writeName_4 (by decide) (fun h_19 => ?_) (fun h_19 => ?_)
      · skip
        have r_20 := lt_l (hi := (-1)) (h_19) rv_7 rc_0 (by decide)
        exact g_vret B K rfl ⟨hU_3, hF_4, hG_5⟩ dX11_writeName_40
      · skip
        have r_21 := le_r (nlt h_19) rc_0 rv_7
        refine g_lload_n C 1 dX11_writeName_7 rfl rfl ?_
        refine g_iload_n C 2 dX11_writeName_8 rfl rfl ?_
        refine g_iconst C (v := 5) dX11_writeName_9 (by decide) ?_
        obtain ⟨x_22, hx_22, rx_22⟩ := ex_mulk 0 30 r_21 rc_5 (by decide) (by decide) (by decide) (by decide) (by decide)
        refine g_imul C (v := x_22) dX11_writeName_10 hx_22 ?_
        refine g_lshr C dX11_writeName_11 (fun y_23 => ?_)
        obtain ⟨x_24, hx_24, rx_24⟩ := ex_any (z0 := Int64.toInt32 y_23)
        refine g_l2i C (v := x_24) dX11_writeName_12 hx_24 ?_
        refine g_bipush C (v := 31) dX11_writeName_13 (by decide) ?_
        obtain ⟨x_25, hx_25, rx_25⟩ := ex_andr (x := x_24) (y := 31) (b := 31) (rg_w rc_31 (by decide) (by decide))
        refine g_iand C (v := x_25) dX11_writeName_15 hx_25 ?_
        refine g_istore C dX11_writeName_16 (by decide) (lo2 := [(4, .int x_25), (0, .ref x), (1, .long y_6), (3, .int v_7)]) rfl ?_
        refine g_iload C 0 dX11_writeName_18 rfl ?_
        refine g_if_eq C (tgt := 34) dX11_writeName_20 (by decide) (fun h_26 => ?_) (fun h_26 => ?_)
        · skip
          have r_27 := (⟨(rx_25).1, (eq_rg (h_26) rc_0).2⟩ : Rg 0 0 x_25)
          refine g_lo (is := [1, 2, 3, 0]) (lo2 := [(0, .ref x), (1, .long y_6), (3, .int v_7), (4, .int x_25)]) rfl ?_
          exact j_34 I_1 J_2 hU_3 hF_4 hG_5 y_6 v_7 (r_21) x_25 (rg_w r_27 (by decide) (by decide)) hm_8
        · skip
          have n_28 : ¬ x_25 = 0 := h_26
          have r_29 := ne_lo (lo := 1) n_28 rx_25 rc_0 rfl (by decide)
          refine g_aload_n C 1 dX11_writeName_23 rfl rfl ?_
          refine g_bipush C (v := 97) dX11_writeName_24 (by decide) ?_
          refine g_iload C 0 dX11_writeName_26 rfl ?_
          obtain ⟨x_30, hx_30, rx_30, tx_30⟩ := ex_add 98 128 rc_97 r_29 (by decide) (by decide) (by decide) (by decide)
          refine g_iadd C (v := x_30) dX11_writeName_28 hx_30 ?_
          refine g_iconst C (v := 1) dX11_writeName_29 (by decide) ?_
          obtain ⟨x_31, hx_31, rx_31, tx_31⟩ := ex_sub 97 127 rx_30 rc_1 (by decide) (by decide) (by decide) (by decide)
          refine g_isub C (v := x_31) dX11_writeName_30 hx_31 ?_
          refine g_callVV C K (c_X11_writeByte W9 hLx hkx x_31 (rx_31) hU_3) hLx hkx (by decide) rfl v_11_334 rfl ⟨rfl, rfl⟩ ⟨Nat.le_of_ble_eq_true rfl, Nat.le_of_ble_eq_true rfl⟩ (Nat.le_of_ble_eq_true rfl) ⟨Nat.le_of_ble_eq_true rfl, Nat.le_of_ble_eq_true rfl⟩ dX11_writeName_31 rfl (st := []) (fun I_33 J_34 h_35 => ?_)
          obtain ⟨hUI_33, hFI_33, hGJ_34⟩ := h_35
          have hF_36 := fq_tr hF_4 hFI_33 (by decide)
          have hG_37 := fq_tr hG_5 hGJ_34 (by decide)
          refine g_lo (is := [1, 2, 3, 0]) (lo2 := [(0, .ref x), (1, .long y_6), (3, .int v_7), (4, .int x_25)]) rfl ?_
          exact j_34 I_33 J_34 hUI_33 hF_36 hG_37 y_6 v_7 (r_21) x_25 (rg_w r_29 (by decide) (by decide)) hm_8
  refine g_bipush C (v := 6) dX11_writeName_0 (by decide) ?_
  refine g_istore_n C dX11_writeName_2 rfl (by decide) (lo2 := [(3, .int 6), (0, .ref x), (1, .long a0)]) rfl ?_
  refine g_lo (is := [1, 2, 0]) (lo2 := [(0, .ref x), (1, .long a0), (3, .int 6)]) rfl ?_
  exact l_3 8 I J hU hF hG a0 6 (rg_w rc_6 (by decide) (by decide)) (md_s (a := (-1)) (b := 6) (N := 8) (rg_w rc_6 (by decide) (by decide)) (by decide))
set_option maxRecDepth 100000 in
set_option maxHeartbeats 8000000 in
theorem c_X11_byteAt {l : Launch} {D : va_G} {cy : Nat → ClassId} {L : List Nat} {κ ln : Nat → Nat} {R : Nat → Nat → Option Nat} {I : Nat → Nat → Int32} {J : Nat → Nat → Int64} {ow : Nat → Nat × Nat} (W9 : ∀ a ∈ L, Shp L κ ln R ow a) {x : Nat} (hLx : x ∈ L) (hkx : κ x = 11) (a0 : Int32) (hU : Iv L κ R ow I) : CtI l yX11_byteAt cX11_byteAt 2 (some .int) { frames := 0, cells := 0, slots := 0, locals := 0 } D cy L κ ln R I J [.ref x, .int a0] (fun r I2 J2 => I = I2 ∧ J = J2 ∧ Rg (-128) 127 r) := by
  refine CtI.of (by decide +kernel) (Nat.le_of_ble_eq_true rfl) ?_
  intro p e s m below meth c B K
  have C := B.1
  obtain ⟨b_1, hb_1, hb_1L, hb_1k, hb_1n, hb_1o⟩ := shp_a (W9 x hLx) hkx 13 13 40 rfl (by decide)
  refine g_lo (is := [0, 1]) (lo2 := [(0, .ref x), (1, .int a0)]) rfl ?_
  refine g_iload_n C 1 dX11_byteAt_0 rfl rfl ?_
  refine g_if_lt C (tgt := 21) dX11_byteAt_1 (by decide) (fun h_2 => ?_) (fun h_2 => ?_)
  · skip
    have r_3 := lt_l (hi := (-1)) (h_2) (rg_all a0) rc_0 (by decide)
    refine g_iconst C (v := (-1)) dX11_byteAt_21 (by decide) ?_
    exact g_zret (ty := .int) (r := (-1)) B K rfl (rfl) ⟨rfl, rfl, rg_w rc_m1 (by decide) (by decide)⟩ dX11_byteAt_22
  · skip
    have r_4 := le_r (nlt h_2) rc_0 (rg_all a0)
    refine g_iload_n C 1 dX11_byteAt_4 rfl rfl ?_
    refine g_aload_n C 0 dX11_byteAt_5 rfl rfl ?_
    obtain ⟨x_5, hx_5, rx_5⟩ := ex_get (I := I) (a := x) (j := 14) (lo := 0) (hi := 40) hU.1 hLx (ro_o hkx (by decide)) rfl
    refine g_getI C K hLx hkx f_11_97 (v := x_5) hx_5 dX11_byteAt_6 ?_
    refine g_icmp_ge C (tgt := 21) dX11_byteAt_9 (by decide) (fun h_6 => ?_) (fun h_6 => ?_)
    · skip
      refine g_iconst C (v := (-1)) dX11_byteAt_21 (by decide) ?_
      exact g_zret (ty := .int) (r := (-1)) B K rfl (rfl) ⟨rfl, rfl, rg_w rc_m1 (by decide) (by decide)⟩ dX11_byteAt_22
    · skip
      have r_7 := lt_l (hi := 39) (nle h_6) r_4 rx_5 (by decide)
      have r_8 := lt_r (lo := 1) (nle h_6) r_4 rx_5 (by decide)
      refine g_aload_n C 0 dX11_byteAt_12 rfl rfl ?_
      refine g_getR C K hLx hkx f_11_93 hb_1 dX11_byteAt_13 ?_
      refine g_iload_n C 1 dX11_byteAt_16 rfl rfl ?_
      obtain ⟨x_9, hx_9, rx_9⟩ := ex_get (I := I) (a := b_1) (j := a0.toNatClampNeg) (lo := (-128)) (hi := 127) hU.1 hb_1L (ro_a hb_1k (by decide) hb_1o hkx rfl) (rfl)
      refine h_bald C K hb_1L hb_1k (v := x_9) (a0.toNatClampNeg) (rfl) (ix_0 r_7 (by decide)) (ix_lt r_7 (by decide) hb_1n (by decide)) hx_9 dX11_byteAt_17 ?_
      refine g_goto C (tgt := 22) dX11_byteAt_18 (by decide) ?_
      exact g_zret (ty := .int) (r := x_9) B K rfl (rfl) ⟨rfl, rfl, rx_9⟩ dX11_byteAt_22
set_option maxRecDepth 100000 in
set_option maxHeartbeats 8000000 in
theorem c_X1_draw {l : Launch} {D : va_G} {cy : Nat → ClassId} {L : List Nat} {κ ln : Nat → Nat} {R : Nat → Nat → Option Nat} {I : Nat → Nat → Int32} {J : Nat → Nat → Int64} {ow : Nat → Nat × Nat} (W9 : ∀ a ∈ L, Shp L κ ln R ow a) {x : Nat} (hLx : x ∈ L) (hkx : κ x = 1) (a0 : Int32) (ra0 : Rg 4 6 a0) (hU : Iv L κ R ow I) : CtI l yX1_draw cX1_draw 2 (some .int) { frames := 0, cells := 0, slots := 0, locals := 0 } D cy L κ ln R I J [.ref x, .int a0] (fun r I2 J2 => Iv L κ R ow I2 ∧ Fq L κ ow [113] I I2 ∧ Fq L κ ow [] J J2 ∧ Rg 0 5 r) := by
  refine CtI.of (by decide +kernel) (Nat.le_of_ble_eq_true rfl) ?_
  intro p e s m below meth c B K
  have C := B.1
  have hF : Fq L κ ow [113] I I := fq_rf
  have hG : Fq L κ ow [] J J := fq_rf
  refine g_lo (is := [0, 1]) (lo2 := [(0, .ref x), (1, .int a0)]) rfl ?_
  refine g_aload_n C 0 dX1_draw_0 rfl rfl ?_
  refine g_aload_n C 0 dX1_draw_1 rfl rfl ?_
  obtain ⟨x_1, hx_1, rx_1⟩ := ex_get (I := I) (a := x) (j := 13) (lo := (-2147483648)) (hi := 2147483647) hU.1 hLx (ro_o hkx (by decide)) rfl
  refine g_getI C K hLx hkx f_1_49 (v := x_1) hx_1 dX1_draw_2 ?_
  refine g_ldc2b C k_SecondHelpings_Course_129 dX1_draw_5 ?_
  obtain ⟨x_2, hx_2, rx_2⟩ := ex_any (z0 := x_1 * 1103515245)
  refine g_imul C (v := x_2) dX1_draw_7 hx_2 ?_
  refine g_sipush C (v := 12345) dX1_draw_8 (by decide) ?_
  obtain ⟨x_3, hx_3, rx_3⟩ := ex_any (z0 := x_2 + 12345)
  refine g_iadd C (v := x_3) dX1_draw_11 hx_3 ?_
  refine h_putI C K hLx hkx f_1_49 p_1_13 dX1_draw_12 (fun I_4 hI_4 => ?_)
  have hU_5 := iv_put W9 hU hI_4 (ro_o hkx (by decide)) (lo := (-2147483648)) (hi := 2147483647) (rfl) (rx_3) rfl
  have hF_6 := fq_puto hF hI_4 hkx (by decide) (by decide)
  refine g_iload_n C 1 dX1_draw_15 rfl rfl ?_
  refine g_if_le C (tgt := 31) dX1_draw_16 (by decide) (fun h_7 => ?_) (fun h_7 => ?_)
  · skip
    have r_8 := le_l (h_7) ra0 rc_0
    exact rg_no r_8 (by decide)
  · skip
    refine g_aload_n C 0 dX1_draw_19 rfl rfl ?_
    refine g_getI C K hLx hkx f_1_49 (v := x_3) (kp_s hI_4) dX1_draw_20 ?_
    refine g_bipush C (v := 8) dX1_draw_23 (by decide) ?_
    obtain ⟨x_9, hx_9, rx_9⟩ := ex_ushr8 (x := x_3)
    refine g_iushr C (v := x_9) dX1_draw_25 hx_9 ?_
    refine g_iload_n C 1 dX1_draw_26 rfl rfl ?_
    obtain ⟨x_10, hx_10, rx_10⟩ := ex_rem (b := 16777215) (d := 6) 5 (rx_9) (rg_w ra0 (by decide) (by decide)) (by decide)
    refine g_irem C (v := x_10) dX1_draw_27 (rg_ne0 ra0 (by decide)) hx_10 ?_
    refine g_goto C (tgt := 32) dX1_draw_28 (by decide) ?_
    exact g_zret (ty := .int) (r := x_10) B K rfl (rfl) ⟨hU_5, hF_6, hG, rx_10⟩ dX1_draw_32
set_option maxRecDepth 100000 in
set_option maxHeartbeats 8000000 in
theorem c_X1_actByDraw {l : Launch} {D : va_G} {cy : Nat → ClassId} {L : List Nat} {κ ln : Nat → Nat} {R : Nat → Nat → Option Nat} {I : Nat → Nat → Int32} {J : Nat → Nat → Int64} {ow : Nat → Nat × Nat} (W9 : ∀ a ∈ L, Shp L κ ln R ow a) {x : Nat} (hLx : x ∈ L) (hkx : κ x = 1) (a0 : Int32) (ra0 : Rg 0 6 a0) (hU : Iv L κ R ow I) : CtV l yX1_actByDraw cX1_actByDraw 3 none { frames := 4, cells := 0, slots := 0, locals := 107 } D cy L κ ln R I J [.ref x, .int a0] (fun I2 J2 => Iv L κ R ow I2 ∧ Fq L κ ow [107, 110, 112, 113, 16100, 16200, 16300, 16400, 16500] I I2 ∧ Fq L κ ow [] J J2) := by
  refine CtV.of (by decide +kernel) (Nat.le_of_ble_eq_true rfl) ?_
  intro p e s m below meth c B K
  have C := B.1
  have hF : Fq L κ ow [107, 110, 112, 113, 16100, 16200, 16300, 16400, 16500] I I := fq_rf
  have hG : Fq L κ ow [] J J := fq_rf
  refine g_lo (is := [0, 1]) (lo2 := [(0, .ref x), (1, .int a0)]) rfl ?_
  refine g_aload_n C 0 dX1_actByDraw_0 rfl rfl ?_
  refine g_bipush C (v := 6) dX1_actByDraw_1 (by decide) ?_
  refine g_callVI C K (c_X1_draw W9 hLx hkx 6 (rg_w rc_6 (by decide) (by decide)) hU) hLx hkx (by decide) rfl v_1_130 rfl ⟨rfl, rfl⟩ ⟨Nat.le_of_ble_eq_true rfl, Nat.le_of_ble_eq_true rfl⟩ (Nat.le_of_ble_eq_true rfl) ⟨Nat.le_of_ble_eq_true rfl, Nat.le_of_ble_eq_true rfl⟩ dX1_actByDraw_3 rfl (st := []) (fun x_1 I_2 J_3 h_4 => ?_)
  obtain ⟨hUI_2, hFI_2, hGJ_3, rx_1⟩ := h_4
  have hF_5 := fq_tr hF hFI_2 (by decide)
  have hG_6 := fq_tr hG hGJ_3 (by decide)
  refine g_istore_n C dX1_actByDraw_6 rfl (by decide) (lo2 := [(2, .int x_1), (0, .ref x), (1, .int a0)]) rfl ?_
  refine g_iload_n C 0 dX1_actByDraw_7 rfl rfl ?_
  refine g_if_ne C (tgt := 20) dX1_actByDraw_8 (by decide) (fun h_7 => ?_) (fun h_7 => ?_)
  · skip
    have n_8 : ¬ x_1 = 0 := h_7
    have r_9 := ne_lo (lo := 1) n_8 rx_1 rc_0 rfl (by decide)
    refine g_iload_n C 0 dX1_actByDraw_20 rfl rfl ?_
    refine g_iconst C (v := 1) dX1_actByDraw_21 (by decide) ?_
    refine g_icmp_le C (tgt := 33) dX1_actByDraw_22 (by decide) (fun h_10 => ?_) (fun h_10 => ?_)
    · skip
      have r_11 := le_l (h_10) r_9 rc_1
      refine g_aload_n C 1 dX1_actByDraw_33 rfl rfl ?_
      refine g_iconst C (v := 4) dX1_actByDraw_34 (by decide) ?_
      refine g_callVI C K (c_X1_draw W9 hLx hkx 4 (rg_w rc_4 (by decide) (by decide)) hUI_2) hLx hkx (by decide) rfl v_1_130 rfl ⟨rfl, rfl⟩ ⟨Nat.le_of_ble_eq_true rfl, Nat.le_of_ble_eq_true rfl⟩ (Nat.le_of_ble_eq_true rfl) ⟨Nat.le_of_ble_eq_true rfl, Nat.le_of_ble_eq_true rfl⟩ dX1_actByDraw_35 rfl (st := []) (fun x_12 I_13 J_14 h_15 => ?_)
      obtain ⟨hUI_13, hFI_13, hGJ_14, rx_12⟩ := h_15
      have hF_16 := fq_tr hF_5 hFI_13 (by decide)
      have hG_17 := fq_tr hG_6 hGJ_14 (by decide)
      refine g_if_ne C (tgt := 47) dX1_actByDraw_38 (by decide) (fun h_18 => ?_) (fun h_18 => ?_)
      · skip
        have n_19 : ¬ x_12 = 0 := h_18
        have r_20 := ne_lo (lo := 1) n_19 rx_12 rc_0 rfl (by decide)
        exact g_vret B K rfl ⟨hUI_13, hF_16, hG_17⟩ dX1_actByDraw_47
      · skip
        have r_21 := (⟨(rx_12).1, (eq_rg (h_18) rc_0).2⟩ : Rg 0 0 x_12)
        refine g_aload_n C 1 dX1_actByDraw_41 rfl rfl ?_
        refine g_iload_n C 2 dX1_actByDraw_42 rfl rfl ?_
        refine g_callVI C K (c_X1_tryToDie W9 hLx hkx a0 (ra0) hUI_13) hLx hkx (by decide) rfl v_1_139 rfl ⟨rfl, rfl⟩ ⟨Nat.le_of_ble_eq_true rfl, Nat.le_of_ble_eq_true rfl⟩ (Nat.le_of_ble_eq_true rfl) ⟨Nat.le_of_ble_eq_true rfl, Nat.le_of_ble_eq_true rfl⟩ dX1_actByDraw_43 rfl (st := []) (fun x_22 I_23 J_24 h_25 => ?_)
        obtain ⟨hUI_23, hFI_23, hGJ_24, rx_22⟩ := h_25
        have hF_26 := fq_tr hF_16 hFI_23 (by decide)
        have hG_27 := fq_tr hG_17 hGJ_24 (by decide)
        refine g_pop C dX1_actByDraw_46 rfl ?_
        exact g_vret B K rfl ⟨hUI_23, hF_26, hG_27⟩ dX1_actByDraw_47
    · skip
      have r_28 := lt_r (lo := 2) (nle h_10) rc_1 r_9 (by decide)
      refine g_aload_n C 1 dX1_actByDraw_25 rfl rfl ?_
      refine g_iload_n C 2 dX1_actByDraw_26 rfl rfl ?_
      refine g_callVV C K (c_X1_eatAll W9 hLx hkx a0 (ra0) hUI_2) hLx hkx (by decide) rfl v_1_136 rfl ⟨rfl, rfl⟩ ⟨Nat.le_of_ble_eq_true rfl, Nat.le_of_ble_eq_true rfl⟩ (Nat.le_of_ble_eq_true rfl) ⟨Nat.le_of_ble_eq_true rfl, Nat.le_of_ble_eq_true rfl⟩ dX1_actByDraw_27 rfl (st := []) (fun I_30 J_31 h_32 => ?_)
      obtain ⟨hUI_30, hFI_30, hGJ_31⟩ := h_32
      have hF_33 := fq_tr hF_5 hFI_30 (by decide)
      have hG_34 := fq_tr hG_6 hGJ_31 (by decide)
      refine g_goto C (tgt := 47) dX1_actByDraw_30 (by decide) ?_
      exact g_vret B K rfl ⟨hUI_30, hF_33, hG_34⟩ dX1_actByDraw_47
  · skip
    have r_35 := (⟨(rx_1).1, (eq_rg (h_7) rc_0).2⟩ : Rg 0 0 x_1)
    refine g_aload_n C 1 dX1_actByDraw_11 rfl rfl ?_
    refine g_iload_n C 2 dX1_actByDraw_12 rfl rfl ?_
    refine g_callVI C K (c_X1_tryToRise W9 hLx hkx a0 (ra0) hUI_2) hLx hkx (by decide) rfl v_1_133 rfl ⟨rfl, rfl⟩ ⟨Nat.le_of_ble_eq_true rfl, Nat.le_of_ble_eq_true rfl⟩ (Nat.le_of_ble_eq_true rfl) ⟨Nat.le_of_ble_eq_true rfl, Nat.le_of_ble_eq_true rfl⟩ dX1_actByDraw_13 rfl (st := []) (fun x_36 I_37 J_38 h_39 => ?_)
    obtain ⟨hUI_37, hFI_37, hGJ_38, rx_36⟩ := h_39
    have hF_40 := fq_tr hF_5 hFI_37 (by decide)
    have hG_41 := fq_tr hG_6 hGJ_38 (by decide)
    refine g_pop C dX1_actByDraw_16 rfl ?_
    refine g_goto C (tgt := 47) dX1_actByDraw_17 (by decide) ?_
    exact g_vret B K rfl ⟨hUI_37, hF_40, hG_41⟩ dX1_actByDraw_47
set_option maxRecDepth 100000 in
set_option maxHeartbeats 8000000 in
theorem c_X1_drawMeals {l : Launch} {D : va_G} {cy : Nat → ClassId} {L : List Nat} {κ ln : Nat → Nat} {R : Nat → Nat → Option Nat} {I : Nat → Nat → Int32} {J : Nat → Nat → Int64} {ow : Nat → Nat × Nat} (W9 : ∀ a ∈ L, Shp L κ ln R ow a) {x : Nat} (hLx : x ∈ L) (hkx : κ x = 1) (a0 : Int32) (a1 : Int32) (ra0 : Rg 1 60 a0) (hU : Iv L κ R ow I) : CtI l yX1_drawMeals cX1_drawMeals 5 (some .int) { frames := 5, cells := 0, slots := 0, locals := 129 } D cy L κ ln R I J [.ref x, .int a0, .int a1] (fun r I2 J2 => Iv L κ R ow I2 ∧ Fq L κ ow [107, 109, 110, 111, 112, 113, 16100, 16200, 16300, 16400, 16500, 16600] I I2 ∧ Fq L κ ow [] J J2 ∧ Rg 0 64 r) := by
  refine CtI.of (by decide +kernel) (Nat.le_of_ble_eq_true rfl) ?_
  intro p e s m below meth c B K
  have C := B.1
  have hF : Fq L κ ow [107, 109, 110, 111, 112, 113, 16100, 16200, 16300, 16400, 16500, 16600] I I := fq_rf
  have hG : Fq L κ ow [] J J := fq_rf
  obtain ⟨b_1, hb_1, hb_1L, hb_1k⟩ := shp_o (W9 x hLx) hkx 0 8 rfl (by decide)
  refine g_lo (is := [0, 1, 2]) (lo2 := [(0, .ref x), (1, .int a0), (2, .int a1)]) rfl ?_
  have l_7 : ∀ (n_7 : Nat) (I_2 : Nat → Nat → Int32) (J_3 : Nat → Nat → Int64) (hU_4 : Iv L κ R ow I_2) (hF_5 : Fq L κ ow [107, 109, 110, 111, 112, 113, 16100, 16200, 16300, 16400, 16500, 16600] I I_2) (hG_6 : Fq L κ ow [] J J_3) (v_7 : Int32) (rv_7 : Rg 1 60 v_7) (v_8 : Int32) (v_9 : Int32) (rv_9 : Rg 0 64 v_9) (hm_10 : 64 < (v_9 : Int32).toInt + (n_7 : Int)), WG p l e { frames := 5, cells := 0, slots := 0, locals := 129 } s m ([.ref x, .int a0, .int a1] : List Value).toArray below meth c 5 0 0 (MQ below (Qi_ D cy L κ ln R (fun r I2 J2 => Iv L κ R ow I2 ∧ Fq L κ ow [107, 109, 110, 111, 112, 113, 16100, 16200, 16300, 16400, 16500, 16600] I I2 ∧ Fq L κ ow [] J J2 ∧ Rg 0 64 r)) ([.ref x, .int a0, .int a1] : List Value).toArray s 0 0 (Al_ L)) D cy (Al_ L) s.heap L κ ln R I_2 J_3 7 [(0, .ref x), (1, .int v_7), (2, .int v_8), (3, .int v_9)] [] := by
    intro n_7
    induction n_7 with
    | zero =>
      intro I_2 J_3 hU_4 hF_5 hG_6 v_7 rv_7 v_8 v_9 rv_9 hm_10
      exact ms_0 rv_9 hm_10
    | succ n_7 ih_7 =>
      intro I_2 J_3 hU_4 hF_5 hG_6 v_7 rv_7 v_8 v_9 rv_9 hm_10
      have l_25 : ∀ (n_25 : Nat) (I_11 : Nat → Nat → Int32) (J_12 : Nat → Nat → Int64) (hU_13 : Iv L κ R ow I_11) (hF_14 : Fq L κ ow [107, 109, 110, 111, 112, 113, 16100, 16200, 16300, 16400, 16500, 16600] I I_11) (hG_15 : Fq L κ ow [] J J_12) (v_16 : Int32) (rv_16 : Rg 1 60 v_16) (v_17 : Int32) (v_18 : Int32) (rv_18 : Rg 0 63 v_18) (v_19 : Int32) (rv_19 : Rg 0 7 v_19) (v_20 : Int32) (rv_20 : Rg (-2147483648) 199 v_20) (q_21 : I_11 x 9 = v_20) (hm_22 : 64 < (v_18 : Int32).toInt + ((n_7 + 1 : Nat) : Int)) (hm_23 : 7 < (v_19 : Int32).toInt + (n_25 : Int)), WG p l e { frames := 5, cells := 0, slots := 0, locals := 129 } s m ([.ref x, .int a0, .int a1] : List Value).toArray below meth c 5 0 0 (MQ below (Qi_ D cy L κ ln R (fun r I2 J2 => Iv L κ R ow I2 ∧ Fq L κ ow [107, 109, 110, 111, 112, 113, 16100, 16200, 16300, 16400, 16500, 16600] I I2 ∧ Fq L κ ow [] J J2 ∧ Rg 0 64 r)) ([.ref x, .int a0, .int a1] : List Value).toArray s 0 0 (Al_ L)) D cy (Al_ L) s.heap L κ ln R I_11 J_12 25 [(0, .ref x), (1, .int v_16), (2, .int v_17), (3, .int v_18), (4, .int v_19)] [] := by
        intro n_25
        induction n_25 with
        | zero =>
          intro I_11 J_12 hU_13 hF_14 hG_15 v_16 rv_16 v_17 v_18 rv_18 v_19 rv_19 v_20 rv_20 q_21 hm_22 hm_23
          exact ms_0 rv_19 hm_23
        | succ n_25 ih_25 =>
          intro I_11 J_12 hU_13 hF_14 hG_15 v_16 rv_16 v_17 v_18 rv_18 v_19 rv_19 v_20 rv_20 q_21 hm_22 hm_23
          have j_52 : ∀ (I_24 : Nat → Nat → Int32) (J_25 : Nat → Nat → Int64) (hU_26 : Iv L κ R ow I_24) (hF_27 : Fq L κ ow [107, 109, 110, 111, 112, 113, 16100, 16200, 16300, 16400, 16500, 16600] I I_24) (hG_28 : Fq L κ ow [] J J_25) (v_29 : Int32) (rv_29 : Rg 1 60 v_29) (v_30 : Int32) (v_31 : Int32) (rv_31 : Rg 0 63 v_31) (v_32 : Int32) (rv_32 : Rg 0 6 v_32) (v_33 : Int32) (rv_33 : Rg (-2147483648) 199 v_33) (v_34 : Int32) (rv_34 : Rg 1 7 v_34) (q_35 : I_24 x 9 = v_33) (q_36 : I_24 b_1 5 = v_34) (hm_37 : 64 < (v_31 : Int32).toInt + ((n_7 + 1 : Nat) : Int)) (hm_38 : 7 < (v_32 : Int32).toInt + ((n_25 + 1 : Nat) : Int)), WG p l e { frames := 5, cells := 0, slots := 0, locals := 129 } s m ([.ref x, .int a0, .int a1] : List Value).toArray below meth c 5 0 0 (MQ below (Qi_ D cy L κ ln R (fun r I2 J2 => Iv L κ R ow I2 ∧ Fq L κ ow [107, 109, 110, 111, 112, 113, 16100, 16200, 16300, 16400, 16500, 16600] I I2 ∧ Fq L κ ow [] J J2 ∧ Rg 0 64 r)) ([.ref x, .int a0, .int a1] : List Value).toArray s 0 0 (Al_ L)) D cy (Al_ L) s.heap L κ ln R I_24 J_25 52 [(0, .ref x), (1, .int v_29), (2, .int v_30), (3, .int v_31), (4, .int v_32)] [] := by
            intro I_24 J_25 hU_26 hF_27 hG_28 v_29 rv_29 v_30 v_31 rv_31 v_32 rv_32 v_33 rv_33 v_34 rv_34 q_35 q_36 hm_37 hm_38
            obtain ⟨x_39, hx_39, rx_39, tx_39⟩ := ex_add (y := 1) 1 7 rv_32 rc_1 (by decide) (by decide) (by decide) (by decide)
            refine g_iinc C dX1_drawMeals_52 (k := 4) (v := x_39) rfl hx_39 (by decide) (lo2 := [(4, .int x_39), (0, .ref x), (1, .int v_29), (2, .int v_30), (3, .int v_31)]) rfl ?_
            refine g_goto C (tgt := 25) dX1_drawMeals_55 (by decide) ?_
            refine g_lo (is := [1, 2, 3, 4, 0]) (lo2 := [(0, .ref x), (1, .int v_29), (2, .int v_30), (3, .int v_31), (4, .int x_39)]) rfl ?_
            exact ih_25 I_24 J_25 hU_26 hF_27 hG_28 v_29 (rv_29) v_30 v_31 (rv_31) x_39 (rg_w rx_39 (by decide) (by decide)) v_33 (rv_33) q_35 hm_37 (ms_1 hm_38 (ti_k tx_39 rc_1) (by decide))
          refine g_iload C 4 dX1_drawMeals_25 rfl ?_
          refine g_aload_n C 0 dX1_drawMeals_27 rfl rfl ?_
          refine g_getR C K hLx hkx f_1_52 hb_1 dX1_drawMeals_28 ?_
          obtain ⟨x_40, hx_40, rx_40⟩ := ex_get (I := I_11) (a := b_1) (j := 5) (lo := 0) (hi := 7) hU_13.1 hb_1L (ro_o hb_1k (by decide)) rfl
          refine g_getI C K hb_1L hb_1k f_1_68 (v := x_40) hx_40 dX1_drawMeals_31 ?_
          refine g_icmp_ge C (tgt := 58) dX1_drawMeals_34 (by decide) (fun h_41 => ?_) (fun h_41 => ?_)
          · skip
            refine g_aload_n C 0 dX1_drawMeals_58 rfl rfl ?_
            refine g_callVV C K (c_X1_endMeal W9 hLx hkx   hU_13) hLx hkx (by decide) rfl v_1_126 rfl ⟨rfl, rfl⟩ ⟨Nat.le_of_ble_eq_true rfl, Nat.le_of_ble_eq_true rfl⟩ (Nat.le_of_ble_eq_true rfl) ⟨Nat.le_of_ble_eq_true rfl, Nat.le_of_ble_eq_true rfl⟩ dX1_drawMeals_59 rfl (st := []) (fun I_43 J_44 h_45 => ?_)
            obtain ⟨hUI_43, hFI_43, hGJ_44⟩ := h_45
            have hF_46 := fq_tr hF_14 hFI_43 (by decide)
            have hG_47 := fq_tr hG_15 hGJ_44 (by decide)
            obtain ⟨x_48, hx_48, rx_48, tx_48⟩ := ex_add (y := 1) 1 64 rv_18 rc_1 (by decide) (by decide) (by decide) (by decide)
            refine g_iinc C dX1_drawMeals_62 (k := 3) (v := x_48) rfl hx_48 (by decide) (lo2 := [(3, .int x_48), (0, .ref x), (1, .int v_16), (2, .int v_17), (4, .int v_19)]) rfl ?_
            refine g_goto C (tgt := 7) dX1_drawMeals_65 (by decide) ?_
            refine g_lo (is := [1, 2, 3, 0]) (lo2 := [(0, .ref x), (1, .int v_16), (2, .int v_17), (3, .int x_48)]) rfl ?_
            exact ih_7 I_43 J_44 hUI_43 hF_46 hG_47 v_16 (rv_16) v_17 x_48 (rg_w rx_48 (by decide) (by decide)) (ms_1 hm_22 (ti_k tx_48 rc_1) (by decide))
          · skip
            have r_49 := lt_l (hi := 6) (nle h_41) rv_19 rx_40 (by decide)
            have r_50 := lt_r (lo := 1) (nle h_41) rv_19 rx_40 (by decide)
            refine g_aload_n C 0 dX1_drawMeals_37 rfl rfl ?_
            refine g_iload C 4 dX1_drawMeals_38 rfl ?_
            refine g_callVI C K (c_X1_lives W9 hLx hkx v_19 (r_49) hU_13) hLx hkx (by decide) rfl v_1_115 rfl ⟨rfl, rfl⟩ ⟨Nat.le_of_ble_eq_true rfl, Nat.le_of_ble_eq_true rfl⟩ (Nat.le_of_ble_eq_true rfl) ⟨Nat.le_of_ble_eq_true rfl, Nat.le_of_ble_eq_true rfl⟩ dX1_drawMeals_40 rfl (st := []) (fun x_51 I_52 J_53 h_54 => ?_)
            obtain ⟨rfl, rfl, rx_51⟩ := h_54
            refine g_if_eq C (tgt := 52) dX1_drawMeals_43 (by decide) (fun h_55 => ?_) (fun h_55 => ?_)
            · skip
              have r_56 := (⟨(rx_51).1, (eq_rg (h_55) rc_0).2⟩ : Rg 0 0 x_51)
              refine g_lo (is := [0, 1, 2, 3, 4]) (lo2 := [(0, .ref x), (1, .int v_16), (2, .int v_17), (3, .int v_18), (4, .int v_19)]) rfl ?_
              exact j_52 I_11 J_12 hU_13 hF_14 hG_15 v_16 (rv_16) v_17 v_18 (rv_18) v_19 (r_49) v_20 (rv_20) x_40 (r_50) q_21 hx_40 hm_22 hm_23
            · skip
              have n_57 : ¬ x_51 = 0 := h_55
              have r_58 := ne_lo (lo := 1) n_57 rx_51 rc_0 rfl (by decide)
              refine g_aload_n C 0 dX1_drawMeals_46 rfl rfl ?_
              refine g_iload C 4 dX1_drawMeals_47 rfl ?_
              refine g_callVV C K (c_X1_actByDraw W9 hLx hkx v_19 (r_49) hU_13) hLx hkx (by decide) rfl v_1_142 rfl ⟨rfl, rfl⟩ ⟨Nat.le_of_ble_eq_true rfl, Nat.le_of_ble_eq_true rfl⟩ (Nat.le_of_ble_eq_true rfl) ⟨Nat.le_of_ble_eq_true rfl, Nat.le_of_ble_eq_true rfl⟩ dX1_drawMeals_49 rfl (st := []) (fun I_60 J_61 h_62 => ?_)
              obtain ⟨hUI_60, hFI_60, hGJ_61⟩ := h_62
              have hF_63 := fq_tr hF_14 hFI_60 (by decide)
              have hG_64 := fq_tr hG_15 hGJ_61 (by decide)
              refine g_lo (is := [0, 1, 2, 3, 4]) (lo2 := [(0, .ref x), (1, .int v_16), (2, .int v_17), (3, .int v_18), (4, .int v_19)]) rfl ?_
              exact j_52 I_60 J_61 hUI_60 hF_63 hG_64 v_16 (rv_16) v_17 v_18 (rv_18) v_19 (r_49) v_20 (rv_20) x_40 (r_50) (fq_at hFI_60 hLx hkx (by decide) (by decide) q_21) (fq_at hFI_60 hb_1L hb_1k (by decide) (by decide) hx_40) hm_22 hm_23
      refine g_iload_n C 3 dX1_drawMeals_7 rfl rfl ?_
      refine g_iload_n C 1 dX1_drawMeals_8 rfl rfl ?_
      refine g_icmp_ge C (tgt := 68) dX1_drawMeals_9 (by decide) (fun h_65 => ?_) (fun h_65 => ?_)
      · skip
        have r_66 := le_r (h_65) rv_7 rv_9
        refine g_iload_n C 3 dX1_drawMeals_68 rfl rfl ?_
        exact g_zret (ty := .int) (r := v_9) B K rfl (rfl) ⟨hU_4, hF_5, hG_6, rg_w r_66 (by decide) (by decide)⟩ dX1_drawMeals_69
      · skip
        have r_67 := lt_l (hi := 59) (nle h_65) rv_9 rv_7 (by decide)
        refine g_aload_n C 0 dX1_drawMeals_12 rfl rfl ?_
        obtain ⟨x_68, hx_68, rx_68⟩ := ex_get (I := I_2) (a := x) (j := 9) (lo := (-2147483648)) (hi := 2147483647) hU_4.1 hLx (ro_o hkx (by decide)) rfl
        refine g_getI C K hLx hkx f_1_37 (v := x_68) hx_68 dX1_drawMeals_13 ?_
        refine g_sipush C (v := 200) dX1_drawMeals_16 (by decide) ?_
        refine g_icmp_ge C (tgt := 68) dX1_drawMeals_19 (by decide) (fun h_69 => ?_) (fun h_69 => ?_)
        · skip
          have r_70 := le_r (h_69) rc_200 rx_68
          refine g_iload_n C 3 dX1_drawMeals_68 rfl rfl ?_
          exact g_zret (ty := .int) (r := v_9) B K rfl (rfl) ⟨hU_4, hF_5, hG_6, rg_w r_67 (by decide) (by decide)⟩ dX1_drawMeals_69
        · skip
          have r_71 := lt_l (hi := 199) (nle h_69) rx_68 rc_200 (by decide)
          refine g_iconst C (v := 0) dX1_drawMeals_22 (by decide) ?_
          refine g_istore C dX1_drawMeals_23 (by decide) (lo2 := [(4, .int 0), (0, .ref x), (1, .int v_7), (2, .int v_8), (3, .int v_9)]) rfl ?_
          refine g_lo (is := [1, 2, 3, 4, 0]) (lo2 := [(0, .ref x), (1, .int v_7), (2, .int v_8), (3, .int v_9), (4, .int 0)]) rfl ?_
          exact l_25 8 I_2 J_3 hU_4 hF_5 hG_6 v_7 (rv_7) v_8 v_9 (rg_w r_67 (by decide) (by decide)) 0 (rg_w rc_0 (by decide) (by decide)) x_68 (r_71) hx_68 hm_10 (ms_s (a := 0) (b := 7) (N := 8) (rg_w rc_0 (by decide) (by decide)) (by decide))
  refine g_aload_n C 0 dX1_drawMeals_0 rfl rfl ?_
  refine g_iload_n C 2 dX1_drawMeals_1 rfl rfl ?_
  refine h_putI C K hLx hkx f_1_49 p_1_13 dX1_drawMeals_2 (fun I_72 hI_72 => ?_)
  have hU_73 := iv_put W9 hU hI_72 (ro_o hkx (by decide)) (lo := (-2147483648)) (hi := 2147483647) (rfl) ((rg_all a1)) rfl
  have hF_74 := fq_puto hF hI_72 hkx (by decide) (by decide)
  refine g_iconst C (v := 0) dX1_drawMeals_5 (by decide) ?_
  refine g_istore_n C dX1_drawMeals_6 rfl (by decide) (lo2 := [(3, .int 0), (0, .ref x), (1, .int a0), (2, .int a1)]) rfl ?_
  refine g_lo (is := [1, 2, 3, 0]) (lo2 := [(0, .ref x), (1, .int a0), (2, .int a1), (3, .int 0)]) rfl ?_
  exact l_7 65 I_72 J hU_73 hF_74 hG a0 (ra0) a1 0 (rg_w rc_0 (by decide) (by decide)) (ms_s (a := 0) (b := 64) (N := 65) (rg_w rc_0 (by decide) (by decide)) (by decide))
set_option maxRecDepth 100000 in
set_option maxHeartbeats 8000000 in
theorem c_X11_drawn {l : Launch} {D : va_G} {cy : Nat → ClassId} {L : List Nat} {κ ln : Nat → Nat} {R : Nat → Nat → Option Nat} {I : Nat → Nat → Int32} {J : Nat → Nat → Int64} {ow : Nat → Nat × Nat} (W9 : ∀ a ∈ L, Shp L κ ln R ow a) {x : Nat} (hLx : x ∈ L) (hkx : κ x = 11) (a0 : Int32) (a1 : Int32) (hU : Iv L κ R ow I) : CtI l yX11_drawn cX11_drawn 3 (some .int) { frames := 6, cells := 0, slots := 0, locals := 153 } D cy L κ ln R I J [.ref x, .int a0, .int a1] (fun r I2 J2 => Iv L κ R ow I2 ∧ Fq L κ ow [107, 108, 109, 110, 111, 112, 113, 501, 502, 16100, 16200, 16300, 16400, 16500, 16600] I I2 ∧ Fq L κ ow [] J J2 ∧ Rg (-1) 2147483647 r) := by
  refine CtI.of (by decide +kernel) (Nat.le_of_ble_eq_true rfl) ?_
  intro p e s m below meth c B K
  have C := B.1
  have hF : Fq L κ ow [107, 108, 109, 110, 111, 112, 113, 501, 502, 16100, 16200, 16300, 16400, 16500, 16600] I I := fq_rf
  have hG : Fq L κ ow [] J J := fq_rf
  obtain ⟨b_1, hb_1, hb_1L, hb_1k⟩ := shp_o (W9 x hLx) hkx 4 5 rfl (by decide)
  obtain ⟨b_2, hb_2, hb_2L, hb_2k⟩ := shp_o (W9 x hLx) hkx 1 8 rfl (by decide)
  obtain ⟨b_3, hb_3, hb_3L, hb_3k⟩ := shp_o (W9 x hLx) hkx 2 1 rfl (by decide)
  refine g_lo (is := [0, 1, 2]) (lo2 := [(0, .ref x), (1, .int a0), (2, .int a1)]) rfl ?_
  refine g_iload_n C 1 dX11_drawn_0 rfl rfl ?_
  refine g_iconst C (v := 1) dX11_drawn_1 (by decide) ?_
  refine g_icmp_lt C (tgt := 21) dX11_drawn_2 (by decide) (fun h_4 => ?_) (fun h_4 => ?_)
  · skip
    have r_5 := lt_l (hi := 0) (h_4) (rg_all a0) rc_1 (by decide)
    refine g_iconst C (v := (-1)) dX11_drawn_21 (by decide) ?_
    exact g_zret (ty := .int) (r := (-1)) B K rfl (rfl) ⟨hU, hF, hG, rg_w rc_m1 (by decide) (by decide)⟩ dX11_drawn_22
  · skip
    have r_6 := le_r (nlt h_4) rc_1 (rg_all a0)
    refine g_iload_n C 1 dX11_drawn_5 rfl rfl ?_
    refine g_bipush C (v := 60) dX11_drawn_6 (by decide) ?_
    refine g_icmp_gt C (tgt := 21) dX11_drawn_8 (by decide) (fun h_7 => ?_) (fun h_7 => ?_)
    · skip
      have r_8 := lt_r (lo := 61) (h_7) rc_60 r_6 (by decide)
      refine g_iconst C (v := (-1)) dX11_drawn_21 (by decide) ?_
      exact g_zret (ty := .int) (r := (-1)) B K rfl (rfl) ⟨hU, hF, hG, rg_w rc_m1 (by decide) (by decide)⟩ dX11_drawn_22
    · skip
      have r_9 := le_l (nlt h_7) r_6 rc_60
      refine g_aload_n C 0 dX11_drawn_11 rfl rfl ?_
      refine g_getR C K hLx hkx f_11_19 hb_2 dX11_drawn_12 ?_
      obtain ⟨x_10, hx_10, rx_10⟩ := ex_get (I := I) (a := b_2) (j := 5) (lo := 0) (hi := 7) hU.1 hb_2L (ro_o hb_2k (by decide)) rfl
      refine g_getI C K hb_2L hb_2k f_11_213 (v := x_10) hx_10 dX11_drawn_15 ?_
      refine g_if_ne C (tgt := 23) dX11_drawn_18 (by decide) (fun h_11 => ?_) (fun h_11 => ?_)
      · skip
        have n_12 : ¬ x_10 = 0 := h_11
        have r_13 := ne_lo (lo := 1) n_12 rx_10 rc_0 rfl (by decide)
        refine g_aload_n C 0 dX11_drawn_23 rfl rfl ?_
        refine g_getR C K hLx hkx f_11_38 hb_1 dX11_drawn_24 ?_
        refine g_aload_n C 0 dX11_drawn_27 rfl rfl ?_
        refine g_getR C K hLx hkx f_11_28 hb_3 dX11_drawn_28 ?_
        refine g_callVV C K (c_X5_note W9 hb_1L hb_1k hb_3L hb_3k  hU) hb_1L hb_1k (by decide) rfl v_11_225 rfl ⟨rfl, rfl⟩ ⟨Nat.le_of_ble_eq_true rfl, Nat.le_of_ble_eq_true rfl⟩ (Nat.le_of_ble_eq_true rfl) ⟨Nat.le_of_ble_eq_true rfl, Nat.le_of_ble_eq_true rfl⟩ dX11_drawn_31 rfl (st := []) (fun I_15 J_16 h_17 => ?_)
        obtain ⟨hUI_15, hFI_15, hGJ_16⟩ := h_17
        have hF_18 := fq_tr hF hFI_15 (by decide)
        have hG_19 := fq_tr hG hGJ_16 (by decide)
        refine g_aload_n C 0 dX11_drawn_34 rfl rfl ?_
        refine g_aload_n C 0 dX11_drawn_35 rfl rfl ?_
        refine g_getR C K hLx hkx f_11_28 hb_3 dX11_drawn_36 ?_
        refine g_iload_n C 1 dX11_drawn_39 rfl rfl ?_
        refine g_iload_n C 2 dX11_drawn_40 rfl rfl ?_
        refine g_callVI C K (c_X1_drawMeals W9 hb_3L hb_3k a0 a1 (r_9) hUI_15) hb_3L hb_3k (by decide) rfl v_11_337 rfl ⟨rfl, rfl⟩ ⟨Nat.le_of_ble_eq_true rfl, Nat.le_of_ble_eq_true rfl⟩ (Nat.le_of_ble_eq_true rfl) ⟨Nat.le_of_ble_eq_true rfl, Nat.le_of_ble_eq_true rfl⟩ dX11_drawn_41 rfl (st := [.ref x]) (fun x_20 I_21 J_22 h_23 => ?_)
        obtain ⟨hUI_21, hFI_21, hGJ_22, rx_20⟩ := h_23
        have hF_24 := fq_tr hF_18 hFI_21 (by decide)
        have hG_25 := fq_tr hG_19 hGJ_22 (by decide)
        refine g_callVI C K (c_X11_keptIfAny W9 hLx hkx x_20 (rg_w rx_20 (by decide) (by decide)) hUI_21) hLx hkx (by decide) rfl v_11_253 rfl ⟨rfl, rfl⟩ ⟨Nat.le_of_ble_eq_true rfl, Nat.le_of_ble_eq_true rfl⟩ (Nat.le_of_ble_eq_true rfl) ⟨Nat.le_of_ble_eq_true rfl, Nat.le_of_ble_eq_true rfl⟩ dX11_drawn_44 rfl (st := []) (fun x_26 I_27 J_28 h_29 => ?_)
        obtain ⟨hUI_27, hFI_27, hGJ_28, rx_26⟩ := h_29
        have hF_30 := fq_tr hF_24 hFI_27 (by decide)
        have hG_31 := fq_tr hG_25 hGJ_28 (by decide)
        exact g_zret (ty := .int) (r := x_26) B K rfl (rfl) ⟨hUI_27, hF_30, hG_31, rg_w rx_26 (by decide) (by decide)⟩ dX11_drawn_47
      · skip
        have r_32 := (⟨(rx_10).1, (eq_rg (h_11) rc_0).2⟩ : Rg 0 0 x_10)
        refine g_iconst C (v := (-1)) dX11_drawn_21 (by decide) ?_
        exact g_zret (ty := .int) (r := (-1)) B K rfl (rfl) ⟨hU, hF, hG, rg_w rc_m1 (by decide) (by decide)⟩ dX11_drawn_22
set_option maxRecDepth 100000 in
set_option maxHeartbeats 8000000 in
theorem c_X11_odds {l : Launch} {D : va_G} {cy : Nat → ClassId} {L : List Nat} {κ ln : Nat → Nat} {R : Nat → Nat → Option Nat} {I : Nat → Nat → Int32} {J : Nat → Nat → Int64} {ow : Nat → Nat × Nat} (W9 : ∀ a ∈ L, Shp L κ ln R ow a) {x : Nat} (hLx : x ∈ L) (hkx : κ x = 11) (a0 : Int32) (a1 : Int32) (a2 : Int32) (hU : Iv L κ R ow I) : CtI l yX11_odds cX11_odds 6 (some .int) { frames := 6, cells := 0, slots := 0, locals := 153 } D cy L κ ln R I J [.ref x, .int a0, .int a1, .int a2] (fun r I2 J2 => Iv L κ R ow I2 ∧ Fq L κ ow [107, 108, 109, 110, 111, 112, 113, 16100, 16200, 16300, 16400, 16500, 16600] I I2 ∧ Fq L κ ow [] J J2 ∧ Rg (-2147483648) 2147483647 r) := by
  refine CtI.of (by decide +kernel) (Nat.le_of_ble_eq_true rfl) ?_
  intro p e s m below meth c B K
  have C := B.1
  have hF : Fq L κ ow [107, 108, 109, 110, 111, 112, 113, 16100, 16200, 16300, 16400, 16500, 16600] I I := fq_rf
  have hG : Fq L κ ow [] J J := fq_rf
  obtain ⟨b_1, hb_1, hb_1L, hb_1k⟩ := shp_o (W9 x hLx) hkx 3 1 rfl (by decide)
  obtain ⟨b_2, hb_2, hb_2L, hb_2k⟩ := shp_o (W9 x hLx) hkx 1 8 rfl (by decide)
  obtain ⟨b_3, hb_3, hb_3L, hb_3k⟩ := shp_o (W9 x hLx) hkx 2 1 rfl (by decide)
  refine g_lo (is := [0, 1, 2, 3]) (lo2 := [(0, .ref x), (1, .int a0), (2, .int a1), (3, .int a2)]) rfl ?_
  have l_30 : ∀ (n_30 : Nat) (I_4 : Nat → Nat → Int32) (J_5 : Nat → Nat → Int64) (hU_6 : Iv L κ R ow I_4) (hF_7 : Fq L κ ow [107, 108, 109, 110, 111, 112, 113, 16100, 16200, 16300, 16400, 16500, 16600] I I_4) (hG_8 : Fq L κ ow [] J J_5) (v_9 : Int32) (rv_9 : Rg 0 6 v_9) (v_10 : Int32) (rv_10 : Rg 1 30 v_10) (v_11 : Int32) (v_12 : Int32) (v_13 : Int32) (rv_13 : Rg 0 30 v_13) (hm_14 : 30 < (v_13 : Int32).toInt + (n_30 : Int)), WG p l e { frames := 6, cells := 0, slots := 0, locals := 153 } s m ([.ref x, .int a0, .int a1, .int a2] : List Value).toArray below meth c 6 0 0 (MQ below (Qi_ D cy L κ ln R (fun r I2 J2 => Iv L κ R ow I2 ∧ Fq L κ ow [107, 108, 109, 110, 111, 112, 113, 16100, 16200, 16300, 16400, 16500, 16600] I I2 ∧ Fq L κ ow [] J J2 ∧ Rg (-2147483648) 2147483647 r)) ([.ref x, .int a0, .int a1, .int a2] : List Value).toArray s 0 0 (Al_ L)) D cy (Al_ L) s.heap L κ ln R I_4 J_5 30 [(0, .ref x), (1, .int v_9), (2, .int v_10), (3, .int v_11), (4, .int v_12), (5, .int v_13)] [] := by
    intro n_30
    induction n_30 with
    | zero =>
      intro I_4 J_5 hU_6 hF_7 hG_8 v_9 rv_9 v_10 rv_10 v_11 v_12 v_13 rv_13 hm_14
      exact ms_0 rv_13 hm_14
    | succ n_30 ih_30 =>
      intro I_4 J_5 hU_6 hF_7 hG_8 v_9 rv_9 v_10 rv_10 v_11 v_12 v_13 rv_13 hm_14
      have j_75 : ∀ (I_15 : Nat → Nat → Int32) (J_16 : Nat → Nat → Int64) (hU_17 : Iv L κ R ow I_15) (hF_18 : Fq L κ ow [107, 108, 109, 110, 111, 112, 113, 16100, 16200, 16300, 16400, 16500, 16600] I I_15) (hG_19 : Fq L κ ow [] J J_16) (v_20 : Int32) (rv_20 : Rg 0 6 v_20) (v_21 : Int32) (rv_21 : Rg 1 30 v_21) (v_22 : Int32) (v_23 : Int32) (v_24 : Int32) (rv_24 : Rg 0 29 v_24) (hm_25 : 30 < (v_24 : Int32).toInt + ((n_30 + 1 : Nat) : Int)), WG p l e { frames := 6, cells := 0, slots := 0, locals := 153 } s m ([.ref x, .int a0, .int a1, .int a2] : List Value).toArray below meth c 6 0 0 (MQ below (Qi_ D cy L κ ln R (fun r I2 J2 => Iv L κ R ow I2 ∧ Fq L κ ow [107, 108, 109, 110, 111, 112, 113, 16100, 16200, 16300, 16400, 16500, 16600] I I2 ∧ Fq L κ ow [] J J2 ∧ Rg (-2147483648) 2147483647 r)) ([.ref x, .int a0, .int a1, .int a2] : List Value).toArray s 0 0 (Al_ L)) D cy (Al_ L) s.heap L κ ln R I_15 J_16 75 [(0, .ref x), (1, .int v_20), (2, .int v_21), (3, .int v_22), (4, .int v_23), (5, .int v_24)] [] := by
        intro I_15 J_16 hU_17 hF_18 hG_19 v_20 rv_20 v_21 rv_21 v_22 v_23 v_24 rv_24 hm_25
        obtain ⟨x_26, hx_26, rx_26, tx_26⟩ := ex_add (y := 1) 1 30 rv_24 rc_1 (by decide) (by decide) (by decide) (by decide)
        refine g_iinc C dX11_odds_75 (k := 5) (v := x_26) rfl hx_26 (by decide) (lo2 := [(5, .int x_26), (0, .ref x), (1, .int v_20), (2, .int v_21), (3, .int v_22), (4, .int v_23)]) rfl ?_
        refine g_goto C (tgt := 30) dX11_odds_78 (by decide) ?_
        refine g_lo (is := [1, 2, 3, 4, 5, 0]) (lo2 := [(0, .ref x), (1, .int v_20), (2, .int v_21), (3, .int v_22), (4, .int v_23), (5, .int x_26)]) rfl ?_
        exact ih_30 I_15 J_16 hU_17 hF_18 hG_19 v_20 (rv_20) v_21 (rv_21) v_22 v_23 x_26 (rg_w rx_26 (by decide) (by decide)) (ms_1 hm_25 (ti_k tx_26 rc_1) (by decide))
      refine g_iload C 5 dX11_odds_30 rfl ?_
      refine g_iload_n C 2 dX11_odds_32 rfl rfl ?_
      refine g_icmp_ge C (tgt := 81) dX11_odds_33 (by decide) (fun h_27 => ?_) (fun h_27 => ?_)
      · skip
        have r_28 := le_r (h_27) rv_10 rv_13
        refine g_iload C 4 dX11_odds_81 rfl ?_
        exact g_zret (ty := .int) (r := v_12) B K rfl (rfl) ⟨hU_6, hF_7, hG_8, (rg_all v_12)⟩ dX11_odds_83
      · skip
        have r_29 := lt_l (hi := 29) (nle h_27) rv_13 rv_10 (by decide)
        refine g_aload_n C 0 dX11_odds_36 rfl rfl ?_
        refine g_getR C K hLx hkx f_11_32 hb_1 dX11_odds_37 ?_
        refine g_aload_n C 0 dX11_odds_40 rfl rfl ?_
        refine g_getR C K hLx hkx f_11_28 hb_3 dX11_odds_41 ?_
        refine g_callVV C K (c_X1_become W9 hb_1L hb_1k hb_3L hb_3k  hU_6) hb_1L hb_1k (by decide) rfl v_11_126 rfl ⟨rfl, rfl⟩ ⟨Nat.le_of_ble_eq_true rfl, Nat.le_of_ble_eq_true rfl⟩ (Nat.le_of_ble_eq_true rfl) ⟨Nat.le_of_ble_eq_true rfl, Nat.le_of_ble_eq_true rfl⟩ dX11_odds_44 rfl (st := []) (fun I_31 J_32 h_33 => ?_)
        obtain ⟨hUI_31, hFI_31, hGJ_32⟩ := h_33
        have hF_34 := fq_tr hF_7 hFI_31 (by decide)
        have hG_35 := fq_tr hG_8 hGJ_32 (by decide)
        refine g_aload_n C 0 dX11_odds_47 rfl rfl ?_
        refine g_getR C K hLx hkx f_11_32 hb_1 dX11_odds_48 ?_
        refine g_bipush C (v := 10) dX11_odds_51 (by decide) ?_
        refine g_iload_n C 3 dX11_odds_53 rfl rfl ?_
        refine g_iload C 5 dX11_odds_54 rfl ?_
        obtain ⟨x_36, hx_36, rx_36⟩ := ex_any (z0 := v_11 + v_13)
        refine g_iadd C (v := x_36) dX11_odds_56 hx_36 ?_
        refine g_callVI C K (c_X1_drawMeals W9 hb_1L hb_1k 10 x_36 (rg_w rc_10 (by decide) (by decide)) hUI_31) hb_1L hb_1k (by decide) rfl v_11_337 rfl ⟨rfl, rfl⟩ ⟨Nat.le_of_ble_eq_true rfl, Nat.le_of_ble_eq_true rfl⟩ (Nat.le_of_ble_eq_true rfl) ⟨Nat.le_of_ble_eq_true rfl, Nat.le_of_ble_eq_true rfl⟩ dX11_odds_57 rfl (st := []) (fun x_37 I_38 J_39 h_40 => ?_)
        obtain ⟨hUI_38, hFI_38, hGJ_39, rx_37⟩ := h_40
        have hF_41 := fq_tr hF_34 hFI_38 (by decide)
        have hG_42 := fq_tr hG_35 hGJ_39 (by decide)
        refine g_pop C dX11_odds_60 rfl ?_
        refine g_aload_n C 0 dX11_odds_61 rfl rfl ?_
        refine g_getR C K hLx hkx f_11_32 hb_1 dX11_odds_62 ?_
        refine g_iload_n C 1 dX11_odds_65 rfl rfl ?_
        refine g_callVI C K (c_X1_lives W9 hb_1L hb_1k v_9 (rv_9) hUI_38) hb_1L hb_1k (by decide) rfl v_11_301 rfl ⟨rfl, rfl⟩ ⟨Nat.le_of_ble_eq_true rfl, Nat.le_of_ble_eq_true rfl⟩ (Nat.le_of_ble_eq_true rfl) ⟨Nat.le_of_ble_eq_true rfl, Nat.le_of_ble_eq_true rfl⟩ dX11_odds_66 rfl (st := []) (fun x_43 I_44 J_45 h_46 => ?_)
        obtain ⟨rfl, rfl, rx_43⟩ := h_46
        refine g_if_eq C (tgt := 75) dX11_odds_69 (by decide) (fun h_47 => ?_) (fun h_47 => ?_)
        · skip
          have r_48 := (⟨(rx_43).1, (eq_rg (h_47) rc_0).2⟩ : Rg 0 0 x_43)
          refine g_lo (is := [0, 1, 2, 3, 4, 5]) (lo2 := [(0, .ref x), (1, .int v_9), (2, .int v_10), (3, .int v_11), (4, .int v_12), (5, .int v_13)]) rfl ?_
          exact j_75 I_38 J_39 hUI_38 hF_41 hG_42 v_9 (rv_9) v_10 (rv_10) v_11 v_12 v_13 (r_29) hm_14
        · skip
          have n_49 : ¬ x_43 = 0 := h_47
          have r_50 := ne_lo (lo := 1) n_49 rx_43 rc_0 rfl (by decide)
          obtain ⟨x_51, hx_51, rx_51⟩ := ex_any (z0 := v_12 + 1)
          refine g_iinc C dX11_odds_72 (k := 4) (v := x_51) rfl hx_51 (by decide) (lo2 := [(4, .int x_51), (0, .ref x), (1, .int v_9), (2, .int v_10), (3, .int v_11), (5, .int v_13)]) rfl ?_
          refine g_lo (is := [1, 2, 3, 4, 0, 5]) (lo2 := [(0, .ref x), (1, .int v_9), (2, .int v_10), (3, .int v_11), (4, .int x_51), (5, .int v_13)]) rfl ?_
          exact j_75 I_38 J_39 hUI_38 hF_41 hG_42 v_9 (rv_9) v_10 (rv_10) v_11 x_51 v_13 (r_29) hm_14
  refine g_aload_n C 0 dX11_odds_0 rfl rfl ?_
  refine g_getR C K hLx hkx f_11_19 hb_2 dX11_odds_1 ?_
  refine g_iload_n C 1 dX11_odds_4 rfl rfl ?_
  refine g_callVI C K (c_X8_hasPerson W9 hb_2L hb_2k a0  hU) hb_2L hb_2k (by decide) rfl v_11_133 rfl ⟨rfl, rfl⟩ ⟨Nat.le_of_ble_eq_true rfl, Nat.le_of_ble_eq_true rfl⟩ (Nat.le_of_ble_eq_true rfl) ⟨Nat.le_of_ble_eq_true rfl, Nat.le_of_ble_eq_true rfl⟩ dX11_odds_5 rfl (st := []) (fun x_52 I_53 J_54 h_55 => ?_)
  obtain ⟨rfl, rfl, rx_52, ex_52⟩ := h_55
  refine g_if_eq C (tgt := 22) dX11_odds_8 (by decide) (fun h_56 => ?_) (fun h_56 => ?_)
  · skip
    have r_57 := (⟨(rx_52).1, (eq_rg (h_56) rc_0).2⟩ : Rg 0 0 x_52)
    refine g_iconst C (v := (-1)) dX11_odds_22 (by decide) ?_
    exact g_zret (ty := .int) (r := (-1)) B K rfl (rfl) ⟨hU, hF, hG, rg_all _⟩ dX11_odds_23
  · skip
    have n_58 : ¬ x_52 = 0 := h_56
    have r_59 := ne_lo (lo := 1) n_58 rx_52 rc_0 rfl (by decide)
    have r_60 := rg_i (rg_all a0) ((ex_52) n_58) (lo := 0) (hi := 6) (by decide) (by decide)
    refine g_iload_n C 2 dX11_odds_11 rfl rfl ?_
    refine g_iconst C (v := 1) dX11_odds_12 (by decide) ?_
    refine g_icmp_lt C (tgt := 22) dX11_odds_13 (by decide) (fun h_61 => ?_) (fun h_61 => ?_)
    · skip
      have r_62 := lt_l (hi := 0) (h_61) (rg_all a1) rc_1 (by decide)
      refine g_iconst C (v := (-1)) dX11_odds_22 (by decide) ?_
      exact g_zret (ty := .int) (r := (-1)) B K rfl (rfl) ⟨hU, hF, hG, rg_all _⟩ dX11_odds_23
    · skip
      have r_63 := le_r (nlt h_61) rc_1 (rg_all a1)
      refine g_iload_n C 2 dX11_odds_16 rfl rfl ?_
      refine g_bipush C (v := 30) dX11_odds_17 (by decide) ?_
      refine g_icmp_le C (tgt := 24) dX11_odds_19 (by decide) (fun h_64 => ?_) (fun h_64 => ?_)
      · skip
        have r_65 := le_l (h_64) r_63 rc_30
        refine g_iconst C (v := 0) dX11_odds_24 (by decide) ?_
        refine g_istore C dX11_odds_25 (by decide) (lo2 := [(4, .int 0), (0, .ref x), (1, .int a0), (2, .int a1), (3, .int a2)]) rfl ?_
        refine g_iconst C (v := 0) dX11_odds_27 (by decide) ?_
        refine g_istore C dX11_odds_28 (by decide) (lo2 := [(5, .int 0), (4, .int 0), (0, .ref x), (1, .int a0), (2, .int a1), (3, .int a2)]) rfl ?_
        refine g_lo (is := [2, 3, 4, 5, 1, 0]) (lo2 := [(0, .ref x), (1, .int a0), (2, .int a1), (3, .int a2), (4, .int 0), (5, .int 0)]) rfl ?_
        exact l_30 31 I J hU hF hG a0 (r_60) a1 (r_65) a2 0 0 (rg_w rc_0 (by decide) (by decide)) (ms_s (a := 0) (b := 30) (N := 31) (rg_w rc_0 (by decide) (by decide)) (by decide))
      · skip
        have r_66 := lt_r (lo := 31) (nle h_64) rc_30 r_63 (by decide)
        refine g_iconst C (v := (-1)) dX11_odds_22 (by decide) ?_
        exact g_zret (ty := .int) (r := (-1)) B K rfl (rfl) ⟨hU, hF, hG, rg_all _⟩ dX11_odds_23
set_option maxRecDepth 100000 in
set_option maxHeartbeats 8000000 in
theorem c_X0_behind {l : Launch} {D : va_G} {cy : Nat → ClassId} {L : List Nat} {κ ln : Nat → Nat} {R : Nat → Nat → Option Nat} {I : Nat → Nat → Int32} {J : Nat → Nat → Int64} {ow : Nat → Nat × Nat} (W9 : ∀ a ∈ L, Shp L κ ln R ow a) (a0 : Int32) (a1 : Int32) (ra0 : Rg 10 50 a0) (ra1 : Rg 0 2 a1) (hU : Iv L κ R ow I) : CtI l yX0_behind cX0_behind 2 (some .int) { frames := 0, cells := 0, slots := 0, locals := 0 } D cy L κ ln R I J [.int a0, .int a1] (fun r I2 J2 => I = I2 ∧ J = J2 ∧ Rg 0 52 r) := by
  refine CtI.of (by decide +kernel) (Nat.le_of_ble_eq_true rfl) ?_
  intro p e s m below meth c B K
  have C := B.1
  refine g_lo (is := [0, 1]) (lo2 := [(0, .int a0), (1, .int a1)]) rfl ?_
  refine g_iload_n C 1 dX0_behind_0 rfl rfl ?_
  refine g_if_ne C (tgt := 8) dX0_behind_1 (by decide) (fun h_1 => ?_) (fun h_1 => ?_)
  · skip
    have n_2 : ¬ a1 = 0 := h_1
    have r_3 := ne_lo (lo := 1) n_2 ra1 rc_0 rfl (by decide)
    refine g_iload_n C 0 dX0_behind_8 rfl rfl ?_
    refine g_iload_n C 1 dX0_behind_9 rfl rfl ?_
    obtain ⟨x_4, hx_4, rx_4, tx_4⟩ := ex_add 11 52 ra0 r_3 (by decide) (by decide) (by decide) (by decide)
    refine g_iadd C (v := x_4) dX0_behind_10 hx_4 ?_
    exact g_zret (ty := .int) (r := x_4) B K rfl (rfl) ⟨rfl, rfl, rg_w rx_4 (by decide) (by decide)⟩ dX0_behind_11
  · skip
    have r_5 := (⟨(ra1).1, (eq_rg (h_1) rc_0).2⟩ : Rg 0 0 a1)
    refine g_iconst C (v := 0) dX0_behind_4 (by decide) ?_
    refine g_goto C (tgt := 11) dX0_behind_5 (by decide) ?_
    exact g_zret (ty := .int) (r := 0) B K rfl (rfl) ⟨rfl, rfl, rg_w rc_0 (by decide) (by decide)⟩ dX0_behind_11
set_option maxRecDepth 100000 in
set_option maxHeartbeats 8000000 in
theorem c_X0_liveMeals {l : Launch} {D : va_G} {cy : Nat → ClassId} {L : List Nat} {κ ln : Nat → Nat} {R : Nat → Nat → Option Nat} {I : Nat → Nat → Int32} {J : Nat → Nat → Int64} {ow : Nat → Nat × Nat} (W9 : ∀ a ∈ L, Shp L κ ln R ow a) {a0 : Nat} (hLa0 : a0 ∈ L) (hka0 : κ a0 = 1) (a1 : Int32) (hU : Iv L κ R ow I) : CtI l yX0_liveMeals cX0_liveMeals 2 (some .int) { frames := 3, cells := 0, slots := 0, locals := 105 } D cy L κ ln R I J [.ref a0, .int a1] (fun r I2 J2 => Iv L κ R ow I2 ∧ Fq L κ ow [109, 111, 16200, 16300, 16500, 16600] I I2 ∧ Fq L κ ow [] J J2 ∧ Rg 0 61 r) := by
  refine CtI.of (by decide +kernel) (Nat.le_of_ble_eq_true rfl) ?_
  intro p e s m below meth c B K
  have C := B.1
  have hF : Fq L κ ow [109, 111, 16200, 16300, 16500, 16600] I I := fq_rf
  have hG : Fq L κ ow [] J J := fq_rf
  refine g_lo (is := [0, 1]) (lo2 := [(0, .ref a0), (1, .int a1)]) rfl ?_
  refine g_sipush C (v := 200) dX0_liveMeals_0 (by decide) ?_
  refine g_aload_n C 0 dX0_liveMeals_3 rfl rfl ?_
  obtain ⟨x_1, hx_1, rx_1⟩ := ex_get (I := I) (a := a0) (j := 9) (lo := (-2147483648)) (hi := 2147483647) hU.1 hLa0 (ro_o hka0 (by decide)) rfl
  refine g_getI C K hLa0 hka0 f_0_98 (v := x_1) hx_1 dX0_liveMeals_4 ?_
  obtain ⟨x_2, hx_2, rx_2⟩ := ex_any (z0 := 200 - x_1)
  refine g_isub C (v := x_2) dX0_liveMeals_7 hx_2 ?_
  refine g_iload_n C 1 dX0_liveMeals_8 rfl rfl ?_
  refine g_icmp_ge C (tgt := 15) dX0_liveMeals_9 (by decide) (fun h_3 => ?_) (fun h_3 => ?_)
  · skip
    refine g_aload_n C 0 dX0_liveMeals_15 rfl rfl ?_
    refine g_iload_n C 1 dX0_liveMeals_16 rfl rfl ?_
    refine g_callVI C K (c_X1_letMealsGo W9 hLa0 hka0 a1  hU) hLa0 hka0 (by decide) rfl v_0_131 rfl ⟨rfl, rfl⟩ ⟨Nat.le_of_ble_eq_true rfl, Nat.le_of_ble_eq_true rfl⟩ (Nat.le_of_ble_eq_true rfl) ⟨Nat.le_of_ble_eq_true rfl, Nat.le_of_ble_eq_true rfl⟩ dX0_liveMeals_17 rfl (st := []) (fun x_4 I_5 J_6 h_7 => ?_)
    obtain ⟨hUI_5, hFI_5, hGJ_6, rx_4⟩ := h_7
    have hF_8 := fq_tr hF hFI_5 (by decide)
    have hG_9 := fq_tr hG hGJ_6 (by decide)
    refine g_pop C dX0_liveMeals_20 rfl ?_
    refine g_iconst C (v := 0) dX0_liveMeals_21 (by decide) ?_
    exact g_zret (ty := .int) (r := 0) B K rfl (rfl) ⟨hUI_5, hF_8, hG_9, rg_w rc_0 (by decide) (by decide)⟩ dX0_liveMeals_22
  · skip
    have r_10 := lt_l (hi := 2147483646) (nle h_3) rx_2 (rg_all a1) (by decide)
    have r_11 := lt_r (lo := (-2147483647)) (nle h_3) rx_2 (rg_all a1) (by decide)
    refine g_bipush C (v := 61) dX0_liveMeals_12 (by decide) ?_
    exact g_zret (ty := .int) (r := 61) B K rfl (rfl) ⟨hU, hF, hG, rg_w rc_61 (by decide) (by decide)⟩ dX0_liveMeals_14
set_option maxRecDepth 100000 in
set_option maxHeartbeats 8000000 in
theorem c_X0_live {l : Launch} {D : va_G} {cy : Nat → ClassId} {L : List Nat} {κ ln : Nat → Nat} {R : Nat → Nat → Option Nat} {I : Nat → Nat → Int32} {J : Nat → Nat → Int64} {ow : Nat → Nat × Nat} (W9 : ∀ a ∈ L, Shp L κ ln R ow a) {x : Nat} (hLx : x ∈ L) (hkx : κ x = 0) {a0 : Nat} (hLa0 : a0 ∈ L) (hka0 : κ a0 = 1) (a1 : Int32) (ra1 : Rg 0 39 a1) (hU : Iv L κ R ow I) (hb : bk_ R I x a1.toNatClampNeg) : CtI l yX0_live cX0_live 4 (some .int) { frames := 4, cells := 0, slots := 0, locals := 126 } D cy L κ ln R I J [.ref x, .ref a0, .int a1] (fun r I2 J2 => Iv L κ R ow I2 ∧ Fq L κ ow [107, 108, 109, 110, 111, 112, 16100, 16200, 16300, 16400, 16500, 16600] I I2 ∧ Fq L κ ow [] J J2 ∧ Rg 0 61 r) := by
  refine CtI.of (by decide +kernel) (Nat.le_of_ble_eq_true rfl) ?_
  intro p e s m below meth c B K
  have C := B.1
  have hF : Fq L κ ow [107, 108, 109, 110, 111, 112, 16100, 16200, 16300, 16400, 16500, 16600] I I := fq_rf
  have hG : Fq L κ ow [] J J := fq_rf
  obtain ⟨b_1, hb_1, hb_1L, hb_1k, hb_1n, hb_1o⟩ := shp_a (W9 x hLx) hkx 3 14 40 rfl (by decide)
  obtain ⟨b_2, hb_2, hb_2L, hb_2k, hb_2n, hb_2o⟩ := shp_a (W9 x hLx) hkx 2 14 40 rfl (by decide)
  obtain ⟨b_3, hb_3, hb_3L, hb_3k, hb_3n, hb_3o⟩ := shp_a (W9 x hLx) hkx 1 14 40 rfl (by decide)
  obtain ⟨b_4, hb_4, hb_4L, hb_4k, hb_4n, hb_4o⟩ := shp_a (W9 x hLx) hkx 0 14 40 rfl (by decide)
  refine g_lo (is := [0, 1, 2]) (lo2 := [(0, .ref x), (1, .ref a0), (2, .int a1)]) rfl ?_
  refine g_aload_n C 0 dX0_live_0 rfl rfl ?_
  refine g_getR C K hLx hkx f_0_15 hb_3 dX0_live_1 ?_
  refine g_iload_n C 2 dX0_live_4 rfl rfl ?_
  obtain ⟨x_5, hx_5, rx_5⟩ := ex_get (I := I) (a := b_3) (j := a1.toNatClampNeg) (lo := (-1)) (hi := 6) hU.1 hb_3L (ro_a hb_3k (by decide) hb_3o hkx rfl) (rfl)
  refine h_iald C K hb_3L hb_3k (v := x_5) (a1.toNatClampNeg) (rfl) (ix_0 ra1 (by decide)) (ix_lt ra1 (by decide) hb_3n (by decide)) hx_5 dX0_live_5 ?_
  refine g_istore_n C dX0_live_6 rfl (by decide) (lo2 := [(3, .int x_5), (0, .ref x), (1, .ref a0), (2, .int a1)]) rfl ?_
  refine g_aload_n C 1 dX0_live_7 rfl rfl ?_
  refine g_getR C K hLx hkx f_0_11 hb_4 dX0_live_8 ?_
  refine g_iload_n C 3 dX0_live_11 rfl rfl ?_
  obtain ⟨x_6, hx_6, rx_6⟩ := ex_any (z0 := I b_4 (a1.toNatClampNeg))
  refine h_iald C K hb_4L hb_4k (v := x_6) (a1.toNatClampNeg) (rfl) (ix_0 ra1 (by decide)) (ix_lt ra1 (by decide) hb_4n (by decide)) hx_6 dX0_live_12 ?_
  rcases hb _ _ _ hb_4 hb_3 hb_2 with hb_7 | hb_7 | hb_7
  · skip
    have r_8 := (⟨(eq_rg ((Eq.trans hx_6.symm hb_7)) rc_16).1, (eq_rg ((Eq.trans hx_6.symm hb_7)) rc_16).2⟩ : Rg 16 16 x_6)
    obtain ⟨q_91, q_92⟩ := r_8
    refine g_tableOut C (tgt := 137) dX0_live_13 (by omega) (by decide) ?_
    refine g_aload_n C 2 dX0_live_137 rfl rfl ?_
    refine g_aload_n C 1 dX0_live_138 rfl rfl ?_
    refine g_getR C K hLx hkx f_0_21 hb_1 dX0_live_139 ?_
    refine g_iload_n C 3 dX0_live_142 rfl rfl ?_
    obtain ⟨x_10, hx_10, rx_10⟩ := ex_any (z0 := I b_1 (a1.toNatClampNeg))
    refine h_iald C K hb_1L hb_1k (v := x_10) (a1.toNatClampNeg) (rfl) (ix_0 ra1 (by decide)) (ix_lt ra1 (by decide) hb_1n (by decide)) hx_10 dX0_live_143 ?_
    refine g_callSI C K (c_X0_liveMeals W9 hLa0 hka0 x_10  hU) s_0_128 rfl ⟨rfl, rfl⟩ ⟨Nat.le_of_ble_eq_true rfl, Nat.le_of_ble_eq_true rfl⟩ (Nat.le_of_ble_eq_true rfl) ⟨Nat.le_of_ble_eq_true rfl, Nat.le_of_ble_eq_true rfl⟩ dX0_live_144 rfl (st := []) (fun x_11 I_12 J_13 h_14 => ?_)
    obtain ⟨hUI_12, hFI_12, hGJ_13, rx_11⟩ := h_14
    have hF_15 := fq_tr hF hFI_12 (by decide)
    have hG_16 := fq_tr hG hGJ_13 (by decide)
    exact g_zret (ty := .int) (r := x_11) B K rfl (rfl) ⟨hUI_12, hF_15, hG_16, rx_11⟩ dX0_live_147
  · skip
    have r_17 := rg_g0 rx_5 hx_5 hb_7.1
    by_cases c_18 : x_6.toInt = 10
    · skip
      have r_19 := rg_of (a := 10) (b := 10) 10 c_18 (by decide) (by decide)
      refine g_tableIn C (tgt := 52) dX0_live_13 (by omega) (by omega) (off := 39) (by rw [c_18]; rfl) (by decide) ?_
      refine g_aload_n C 2 dX0_live_52 rfl rfl ?_
      refine g_iload_n C 0 dX0_live_53 rfl rfl ?_
      refine g_aload_n C 1 dX0_live_54 rfl rfl ?_
      refine g_getR C K hLx hkx f_0_18 hb_2 dX0_live_55 ?_
      refine g_iload_n C 3 dX0_live_58 rfl rfl ?_
      obtain ⟨x_20, hx_20, rx_20⟩ := ex_get (I := I) (a := b_2) (j := a1.toNatClampNeg) (lo := (-1)) (hi := 5) hU.1 hb_2L (ro_a hb_2k (by decide) hb_2o hkx rfl) (rfl)
      refine h_iald C K hb_2L hb_2k (v := x_20) (a1.toNatClampNeg) (rfl) (ix_0 ra1 (by decide)) (ix_lt ra1 (by decide) hb_2n (by decide)) hx_20 dX0_live_59 ?_
      have r_21 := rg_g0 rx_20 hx_20 hb_7.2
      refine g_aload_n C 1 dX0_live_60 rfl rfl ?_
      refine g_getR C K hLx hkx f_0_21 hb_1 dX0_live_61 ?_
      refine g_iload_n C 3 dX0_live_64 rfl rfl ?_
      obtain ⟨x_22, hx_22, rx_22⟩ := ex_any (z0 := I b_1 (a1.toNatClampNeg))
      refine h_iald C K hb_1L hb_1k (v := x_22) (a1.toNatClampNeg) (rfl) (ix_0 ra1 (by decide)) (ix_lt ra1 (by decide) hb_1n (by decide)) hx_22 dX0_live_65 ?_
      refine g_callVI C K (c_X1_tryToEat W9 hLa0 hka0 x_5 x_20 x_22 (r_17) (r_21) hU) hLa0 hka0 (by decide) rfl v_0_106 rfl ⟨rfl, rfl⟩ ⟨Nat.le_of_ble_eq_true rfl, Nat.le_of_ble_eq_true rfl⟩ (Nat.le_of_ble_eq_true rfl) ⟨Nat.le_of_ble_eq_true rfl, Nat.le_of_ble_eq_true rfl⟩ dX0_live_66 rfl (st := []) (fun x_23 I_24 J_25 h_26 => ?_)
      obtain ⟨hUI_24, hFI_24, hGJ_25, rx_23⟩ := h_26
      have hF_27 := fq_tr hF hFI_24 (by decide)
      have hG_28 := fq_tr hG hGJ_25 (by decide)
      exact g_zret (ty := .int) (r := x_23) B K rfl (rfl) ⟨hUI_24, hF_27, hG_28, rg_w rx_23 (by decide) (by decide)⟩ dX0_live_69
    by_cases c_29 : x_6.toInt = 11
    · skip
      have r_30 := rg_of (a := 11) (b := 11) 11 c_29 (by decide) (by decide)
      refine g_tableIn C (tgt := 70) dX0_live_13 (by omega) (by omega) (off := 57) (by rw [c_29]; rfl) (by decide) ?_
      refine g_bipush C (v := 10) dX0_live_70 (by decide) ?_
      refine g_aload_n C 2 dX0_live_72 rfl rfl ?_
      refine g_iload_n C 0 dX0_live_73 rfl rfl ?_
      refine g_aload_n C 1 dX0_live_74 rfl rfl ?_
      refine g_getR C K hLx hkx f_0_18 hb_2 dX0_live_75 ?_
      refine g_iload_n C 3 dX0_live_78 rfl rfl ?_
      obtain ⟨x_31, hx_31, rx_31⟩ := ex_get (I := I) (a := b_2) (j := a1.toNatClampNeg) (lo := (-1)) (hi := 5) hU.1 hb_2L (ro_a hb_2k (by decide) hb_2o hkx rfl) (rfl)
      refine h_iald C K hb_2L hb_2k (v := x_31) (a1.toNatClampNeg) (rfl) (ix_0 ra1 (by decide)) (ix_lt ra1 (by decide) hb_2n (by decide)) hx_31 dX0_live_79 ?_
      have r_32 := rg_g0 rx_31 hx_31 hb_7.2
      refine g_aload_n C 1 dX0_live_80 rfl rfl ?_
      refine g_getR C K hLx hkx f_0_21 hb_1 dX0_live_81 ?_
      refine g_iload_n C 3 dX0_live_84 rfl rfl ?_
      obtain ⟨x_33, hx_33, rx_33⟩ := ex_any (z0 := I b_1 (a1.toNatClampNeg))
      refine h_iald C K hb_1L hb_1k (v := x_33) (a1.toNatClampNeg) (rfl) (ix_0 ra1 (by decide)) (ix_lt ra1 (by decide) hb_1n (by decide)) hx_33 dX0_live_85 ?_
      refine g_callVI C K (c_X1_tryToServe W9 hLa0 hka0 x_5 x_31 x_33 (r_17) (r_32) hU) hLa0 hka0 (by decide) rfl v_0_110 rfl ⟨rfl, rfl⟩ ⟨Nat.le_of_ble_eq_true rfl, Nat.le_of_ble_eq_true rfl⟩ (Nat.le_of_ble_eq_true rfl) ⟨Nat.le_of_ble_eq_true rfl, Nat.le_of_ble_eq_true rfl⟩ dX0_live_86 rfl (st := [.int 10]) (fun x_34 I_35 J_36 h_37 => ?_)
      obtain ⟨hUI_35, hFI_35, hGJ_36, rx_34⟩ := h_37
      have hF_38 := fq_tr hF hFI_35 (by decide)
      have hG_39 := fq_tr hG hGJ_36 (by decide)
      refine g_callSI C K (c_X0_behind W9 10 x_34 (rg_w rc_10 (by decide) (by decide)) (rx_34) hUI_35) s_0_113 rfl ⟨rfl, rfl⟩ ⟨Nat.le_of_ble_eq_true rfl, Nat.le_of_ble_eq_true rfl⟩ (Nat.le_of_ble_eq_true rfl) ⟨Nat.le_of_ble_eq_true rfl, Nat.le_of_ble_eq_true rfl⟩ dX0_live_89 rfl (st := []) (fun x_40 I_41 J_42 h_43 => ?_)
      obtain ⟨rfl, rfl, rx_40⟩ := h_43
      exact g_zret (ty := .int) (r := x_40) B K rfl (rfl) ⟨hUI_35, hF_38, hG_39, rg_w rx_40 (by decide) (by decide)⟩ dX0_live_92
    by_cases c_44 : x_6.toInt = 12
    · skip
      have r_45 := rg_of (a := 12) (b := 12) 12 c_44 (by decide) (by decide)
      refine g_tableIn C (tgt := 93) dX0_live_13 (by omega) (by omega) (off := 80) (by rw [c_44]; rfl) (by decide) ?_
      refine g_bipush C (v := 20) dX0_live_93 (by decide) ?_
      refine g_aload_n C 2 dX0_live_95 rfl rfl ?_
      refine g_iload_n C 0 dX0_live_96 rfl rfl ?_
      refine g_callVI C K (c_X1_tryToRise W9 hLa0 hka0 x_5 (r_17) hU) hLa0 hka0 (by decide) rfl v_0_116 rfl ⟨rfl, rfl⟩ ⟨Nat.le_of_ble_eq_true rfl, Nat.le_of_ble_eq_true rfl⟩ (Nat.le_of_ble_eq_true rfl) ⟨Nat.le_of_ble_eq_true rfl, Nat.le_of_ble_eq_true rfl⟩ dX0_live_97 rfl (st := [.int 20]) (fun x_46 I_47 J_48 h_49 => ?_)
      obtain ⟨hUI_47, hFI_47, hGJ_48, rx_46⟩ := h_49
      have hF_50 := fq_tr hF hFI_47 (by decide)
      have hG_51 := fq_tr hG hGJ_48 (by decide)
      refine g_callSI C K (c_X0_behind W9 20 x_46 (rg_w rc_20 (by decide) (by decide)) (rx_46) hUI_47) s_0_113 rfl ⟨rfl, rfl⟩ ⟨Nat.le_of_ble_eq_true rfl, Nat.le_of_ble_eq_true rfl⟩ (Nat.le_of_ble_eq_true rfl) ⟨Nat.le_of_ble_eq_true rfl, Nat.le_of_ble_eq_true rfl⟩ dX0_live_100 rfl (st := []) (fun x_52 I_53 J_54 h_55 => ?_)
      obtain ⟨rfl, rfl, rx_52⟩ := h_55
      exact g_zret (ty := .int) (r := x_52) B K rfl (rfl) ⟨hUI_47, hF_50, hG_51, rg_w rx_52 (by decide) (by decide)⟩ dX0_live_103
    by_cases c_56 : x_6.toInt = 13
    · skip
      have r_57 := rg_of (a := 13) (b := 13) 13 c_56 (by decide) (by decide)
      refine g_tableIn C (tgt := 104) dX0_live_13 (by omega) (by omega) (off := 91) (by rw [c_56]; rfl) (by decide) ?_
      refine g_bipush C (v := 30) dX0_live_104 (by decide) ?_
      refine g_aload_n C 2 dX0_live_106 rfl rfl ?_
      refine g_iload_n C 0 dX0_live_107 rfl rfl ?_
      refine g_callVI C K (c_X1_tryToRefuse W9 hLa0 hka0 x_5 (r_17) hU) hLa0 hka0 (by decide) rfl v_0_119 rfl ⟨rfl, rfl⟩ ⟨Nat.le_of_ble_eq_true rfl, Nat.le_of_ble_eq_true rfl⟩ (Nat.le_of_ble_eq_true rfl) ⟨Nat.le_of_ble_eq_true rfl, Nat.le_of_ble_eq_true rfl⟩ dX0_live_108 rfl (st := [.int 30]) (fun x_58 I_59 J_60 h_61 => ?_)
      obtain ⟨hUI_59, hFI_59, hGJ_60, rx_58⟩ := h_61
      have hF_62 := fq_tr hF hFI_59 (by decide)
      have hG_63 := fq_tr hG hGJ_60 (by decide)
      refine g_callSI C K (c_X0_behind W9 30 x_58 (rg_w rc_30 (by decide) (by decide)) (rx_58) hUI_59) s_0_113 rfl ⟨rfl, rfl⟩ ⟨Nat.le_of_ble_eq_true rfl, Nat.le_of_ble_eq_true rfl⟩ (Nat.le_of_ble_eq_true rfl) ⟨Nat.le_of_ble_eq_true rfl, Nat.le_of_ble_eq_true rfl⟩ dX0_live_111 rfl (st := []) (fun x_64 I_65 J_66 h_67 => ?_)
      obtain ⟨rfl, rfl, rx_64⟩ := h_67
      exact g_zret (ty := .int) (r := x_64) B K rfl (rfl) ⟨hUI_59, hF_62, hG_63, rg_w rx_64 (by decide) (by decide)⟩ dX0_live_114
    by_cases c_68 : x_6.toInt = 14
    · skip
      have r_69 := rg_of (a := 14) (b := 14) 14 c_68 (by decide) (by decide)
      refine g_tableIn C (tgt := 115) dX0_live_13 (by omega) (by omega) (off := 102) (by rw [c_68]; rfl) (by decide) ?_
      refine g_bipush C (v := 40) dX0_live_115 (by decide) ?_
      refine g_aload_n C 2 dX0_live_117 rfl rfl ?_
      refine g_iload_n C 0 dX0_live_118 rfl rfl ?_
      refine g_callVI C K (c_X1_tryToAccept W9 hLa0 hka0 x_5 (r_17) hU) hLa0 hka0 (by decide) rfl v_0_122 rfl ⟨rfl, rfl⟩ ⟨Nat.le_of_ble_eq_true rfl, Nat.le_of_ble_eq_true rfl⟩ (Nat.le_of_ble_eq_true rfl) ⟨Nat.le_of_ble_eq_true rfl, Nat.le_of_ble_eq_true rfl⟩ dX0_live_119 rfl (st := [.int 40]) (fun x_70 I_71 J_72 h_73 => ?_)
      obtain ⟨hUI_71, hFI_71, hGJ_72, rx_70⟩ := h_73
      have hF_74 := fq_tr hF hFI_71 (by decide)
      have hG_75 := fq_tr hG hGJ_72 (by decide)
      refine g_callSI C K (c_X0_behind W9 40 x_70 (rg_w rc_40 (by decide) (by decide)) (rx_70) hUI_71) s_0_113 rfl ⟨rfl, rfl⟩ ⟨Nat.le_of_ble_eq_true rfl, Nat.le_of_ble_eq_true rfl⟩ (Nat.le_of_ble_eq_true rfl) ⟨Nat.le_of_ble_eq_true rfl, Nat.le_of_ble_eq_true rfl⟩ dX0_live_122 rfl (st := []) (fun x_76 I_77 J_78 h_79 => ?_)
      obtain ⟨rfl, rfl, rx_76⟩ := h_79
      exact g_zret (ty := .int) (r := x_76) B K rfl (rfl) ⟨hUI_71, hF_74, hG_75, rg_w rx_76 (by decide) (by decide)⟩ dX0_live_125
    by_cases c_80 : x_6.toInt = 15
    · skip
      have r_81 := rg_of (a := 15) (b := 15) 15 c_80 (by decide) (by decide)
      refine g_tableIn C (tgt := 126) dX0_live_13 (by omega) (by omega) (off := 113) (by rw [c_80]; rfl) (by decide) ?_
      refine g_bipush C (v := 50) dX0_live_126 (by decide) ?_
      refine g_aload_n C 2 dX0_live_128 rfl rfl ?_
      refine g_iload_n C 0 dX0_live_129 rfl rfl ?_
      refine g_callVI C K (c_X1_tryToDie W9 hLa0 hka0 x_5 (r_17) hU) hLa0 hka0 (by decide) rfl v_0_125 rfl ⟨rfl, rfl⟩ ⟨Nat.le_of_ble_eq_true rfl, Nat.le_of_ble_eq_true rfl⟩ (Nat.le_of_ble_eq_true rfl) ⟨Nat.le_of_ble_eq_true rfl, Nat.le_of_ble_eq_true rfl⟩ dX0_live_130 rfl (st := [.int 50]) (fun x_82 I_83 J_84 h_85 => ?_)
      obtain ⟨hUI_83, hFI_83, hGJ_84, rx_82⟩ := h_85
      have hF_86 := fq_tr hF hFI_83 (by decide)
      have hG_87 := fq_tr hG hGJ_84 (by decide)
      refine g_callSI C K (c_X0_behind W9 50 x_82 (rg_w rc_50 (by decide) (by decide)) (rg_w rx_82 (by decide) (by decide)) hUI_83) s_0_113 rfl ⟨rfl, rfl⟩ ⟨Nat.le_of_ble_eq_true rfl, Nat.le_of_ble_eq_true rfl⟩ (Nat.le_of_ble_eq_true rfl) ⟨Nat.le_of_ble_eq_true rfl, Nat.le_of_ble_eq_true rfl⟩ dX0_live_133 rfl (st := []) (fun x_88 I_89 J_90 h_91 => ?_)
      obtain ⟨rfl, rfl, rx_88⟩ := h_91
      exact g_zret (ty := .int) (r := x_88) B K rfl (rfl) ⟨hUI_83, hF_86, hG_87, rg_w rx_88 (by decide) (by decide)⟩ dX0_live_136
    obtain ⟨q_921, q_922⟩ := rx_6
    refine g_tableOut C (tgt := 137) dX0_live_13 (by omega) (by decide) ?_
    refine g_aload_n C 2 dX0_live_137 rfl rfl ?_
    refine g_aload_n C 1 dX0_live_138 rfl rfl ?_
    refine g_getR C K hLx hkx f_0_21 hb_1 dX0_live_139 ?_
    refine g_iload_n C 3 dX0_live_142 rfl rfl ?_
    obtain ⟨x_93, hx_93, rx_93⟩ := ex_any (z0 := I b_1 (a1.toNatClampNeg))
    refine h_iald C K hb_1L hb_1k (v := x_93) (a1.toNatClampNeg) (rfl) (ix_0 ra1 (by decide)) (ix_lt ra1 (by decide) hb_1n (by decide)) hx_93 dX0_live_143 ?_
    refine g_callSI C K (c_X0_liveMeals W9 hLa0 hka0 x_93  hU) s_0_128 rfl ⟨rfl, rfl⟩ ⟨Nat.le_of_ble_eq_true rfl, Nat.le_of_ble_eq_true rfl⟩ (Nat.le_of_ble_eq_true rfl) ⟨Nat.le_of_ble_eq_true rfl, Nat.le_of_ble_eq_true rfl⟩ dX0_live_144 rfl (st := []) (fun x_94 I_95 J_96 h_97 => ?_)
    obtain ⟨hUI_95, hFI_95, hGJ_96, rx_94⟩ := h_97
    have hF_98 := fq_tr hF hFI_95 (by decide)
    have hG_99 := fq_tr hG hGJ_96 (by decide)
    exact g_zret (ty := .int) (r := x_94) B K rfl (rfl) ⟨hUI_95, hF_98, hG_99, rx_94⟩ dX0_live_147
  · skip
    have r_100 := rg_g0 rx_5 hx_5 hb_7.1
    have n_101 : ¬ x_6 = 10 := (fun q => hb_7.2.1 (Eq.trans hx_6 q))
    have n_102 : ¬ x_6 = 11 := (fun q => hb_7.2.2 (Eq.trans hx_6 q))
    by_cases c_103 : x_6.toInt = 10
    · skip
      have r_104 := rg_of (a := 10) (b := 10) 10 c_103 (by decide) (by decide)
      have r_105 := ne_lo (lo := 11) n_101 r_104 rc_10 rfl (by decide)
      exact rg_no r_105 (by decide)
    by_cases c_106 : x_6.toInt = 11
    · skip
      have r_107 := rg_of (a := 11) (b := 11) 11 c_106 (by decide) (by decide)
      have r_108 := ne_lo (lo := 12) n_102 r_107 rc_11 rfl (by decide)
      exact rg_no r_108 (by decide)
    by_cases c_109 : x_6.toInt = 12
    · skip
      have r_110 := rg_of (a := 12) (b := 12) 12 c_109 (by decide) (by decide)
      refine g_tableIn C (tgt := 93) dX0_live_13 (by omega) (by omega) (off := 80) (by rw [c_109]; rfl) (by decide) ?_
      refine g_bipush C (v := 20) dX0_live_93 (by decide) ?_
      refine g_aload_n C 2 dX0_live_95 rfl rfl ?_
      refine g_iload_n C 0 dX0_live_96 rfl rfl ?_
      refine g_callVI C K (c_X1_tryToRise W9 hLa0 hka0 x_5 (r_100) hU) hLa0 hka0 (by decide) rfl v_0_116 rfl ⟨rfl, rfl⟩ ⟨Nat.le_of_ble_eq_true rfl, Nat.le_of_ble_eq_true rfl⟩ (Nat.le_of_ble_eq_true rfl) ⟨Nat.le_of_ble_eq_true rfl, Nat.le_of_ble_eq_true rfl⟩ dX0_live_97 rfl (st := [.int 20]) (fun x_111 I_112 J_113 h_114 => ?_)
      obtain ⟨hUI_112, hFI_112, hGJ_113, rx_111⟩ := h_114
      have hF_115 := fq_tr hF hFI_112 (by decide)
      have hG_116 := fq_tr hG hGJ_113 (by decide)
      refine g_callSI C K (c_X0_behind W9 20 x_111 (rg_w rc_20 (by decide) (by decide)) (rx_111) hUI_112) s_0_113 rfl ⟨rfl, rfl⟩ ⟨Nat.le_of_ble_eq_true rfl, Nat.le_of_ble_eq_true rfl⟩ (Nat.le_of_ble_eq_true rfl) ⟨Nat.le_of_ble_eq_true rfl, Nat.le_of_ble_eq_true rfl⟩ dX0_live_100 rfl (st := []) (fun x_117 I_118 J_119 h_120 => ?_)
      obtain ⟨rfl, rfl, rx_117⟩ := h_120
      exact g_zret (ty := .int) (r := x_117) B K rfl (rfl) ⟨hUI_112, hF_115, hG_116, rg_w rx_117 (by decide) (by decide)⟩ dX0_live_103
    by_cases c_121 : x_6.toInt = 13
    · skip
      have r_122 := rg_of (a := 13) (b := 13) 13 c_121 (by decide) (by decide)
      refine g_tableIn C (tgt := 104) dX0_live_13 (by omega) (by omega) (off := 91) (by rw [c_121]; rfl) (by decide) ?_
      refine g_bipush C (v := 30) dX0_live_104 (by decide) ?_
      refine g_aload_n C 2 dX0_live_106 rfl rfl ?_
      refine g_iload_n C 0 dX0_live_107 rfl rfl ?_
      refine g_callVI C K (c_X1_tryToRefuse W9 hLa0 hka0 x_5 (r_100) hU) hLa0 hka0 (by decide) rfl v_0_119 rfl ⟨rfl, rfl⟩ ⟨Nat.le_of_ble_eq_true rfl, Nat.le_of_ble_eq_true rfl⟩ (Nat.le_of_ble_eq_true rfl) ⟨Nat.le_of_ble_eq_true rfl, Nat.le_of_ble_eq_true rfl⟩ dX0_live_108 rfl (st := [.int 30]) (fun x_123 I_124 J_125 h_126 => ?_)
      obtain ⟨hUI_124, hFI_124, hGJ_125, rx_123⟩ := h_126
      have hF_127 := fq_tr hF hFI_124 (by decide)
      have hG_128 := fq_tr hG hGJ_125 (by decide)
      refine g_callSI C K (c_X0_behind W9 30 x_123 (rg_w rc_30 (by decide) (by decide)) (rx_123) hUI_124) s_0_113 rfl ⟨rfl, rfl⟩ ⟨Nat.le_of_ble_eq_true rfl, Nat.le_of_ble_eq_true rfl⟩ (Nat.le_of_ble_eq_true rfl) ⟨Nat.le_of_ble_eq_true rfl, Nat.le_of_ble_eq_true rfl⟩ dX0_live_111 rfl (st := []) (fun x_129 I_130 J_131 h_132 => ?_)
      obtain ⟨rfl, rfl, rx_129⟩ := h_132
      exact g_zret (ty := .int) (r := x_129) B K rfl (rfl) ⟨hUI_124, hF_127, hG_128, rg_w rx_129 (by decide) (by decide)⟩ dX0_live_114
    by_cases c_133 : x_6.toInt = 14
    · skip
      have r_134 := rg_of (a := 14) (b := 14) 14 c_133 (by decide) (by decide)
      refine g_tableIn C (tgt := 115) dX0_live_13 (by omega) (by omega) (off := 102) (by rw [c_133]; rfl) (by decide) ?_
      refine g_bipush C (v := 40) dX0_live_115 (by decide) ?_
      refine g_aload_n C 2 dX0_live_117 rfl rfl ?_
      refine g_iload_n C 0 dX0_live_118 rfl rfl ?_
      refine g_callVI C K (c_X1_tryToAccept W9 hLa0 hka0 x_5 (r_100) hU) hLa0 hka0 (by decide) rfl v_0_122 rfl ⟨rfl, rfl⟩ ⟨Nat.le_of_ble_eq_true rfl, Nat.le_of_ble_eq_true rfl⟩ (Nat.le_of_ble_eq_true rfl) ⟨Nat.le_of_ble_eq_true rfl, Nat.le_of_ble_eq_true rfl⟩ dX0_live_119 rfl (st := [.int 40]) (fun x_135 I_136 J_137 h_138 => ?_)
      obtain ⟨hUI_136, hFI_136, hGJ_137, rx_135⟩ := h_138
      have hF_139 := fq_tr hF hFI_136 (by decide)
      have hG_140 := fq_tr hG hGJ_137 (by decide)
      refine g_callSI C K (c_X0_behind W9 40 x_135 (rg_w rc_40 (by decide) (by decide)) (rx_135) hUI_136) s_0_113 rfl ⟨rfl, rfl⟩ ⟨Nat.le_of_ble_eq_true rfl, Nat.le_of_ble_eq_true rfl⟩ (Nat.le_of_ble_eq_true rfl) ⟨Nat.le_of_ble_eq_true rfl, Nat.le_of_ble_eq_true rfl⟩ dX0_live_122 rfl (st := []) (fun x_141 I_142 J_143 h_144 => ?_)
      obtain ⟨rfl, rfl, rx_141⟩ := h_144
      exact g_zret (ty := .int) (r := x_141) B K rfl (rfl) ⟨hUI_136, hF_139, hG_140, rg_w rx_141 (by decide) (by decide)⟩ dX0_live_125
    by_cases c_145 : x_6.toInt = 15
    · skip
      have r_146 := rg_of (a := 15) (b := 15) 15 c_145 (by decide) (by decide)
      refine g_tableIn C (tgt := 126) dX0_live_13 (by omega) (by omega) (off := 113) (by rw [c_145]; rfl) (by decide) ?_
      refine g_bipush C (v := 50) dX0_live_126 (by decide) ?_
      refine g_aload_n C 2 dX0_live_128 rfl rfl ?_
      refine g_iload_n C 0 dX0_live_129 rfl rfl ?_
      refine g_callVI C K (c_X1_tryToDie W9 hLa0 hka0 x_5 (r_100) hU) hLa0 hka0 (by decide) rfl v_0_125 rfl ⟨rfl, rfl⟩ ⟨Nat.le_of_ble_eq_true rfl, Nat.le_of_ble_eq_true rfl⟩ (Nat.le_of_ble_eq_true rfl) ⟨Nat.le_of_ble_eq_true rfl, Nat.le_of_ble_eq_true rfl⟩ dX0_live_130 rfl (st := [.int 50]) (fun x_147 I_148 J_149 h_150 => ?_)
      obtain ⟨hUI_148, hFI_148, hGJ_149, rx_147⟩ := h_150
      have hF_151 := fq_tr hF hFI_148 (by decide)
      have hG_152 := fq_tr hG hGJ_149 (by decide)
      refine g_callSI C K (c_X0_behind W9 50 x_147 (rg_w rc_50 (by decide) (by decide)) (rg_w rx_147 (by decide) (by decide)) hUI_148) s_0_113 rfl ⟨rfl, rfl⟩ ⟨Nat.le_of_ble_eq_true rfl, Nat.le_of_ble_eq_true rfl⟩ (Nat.le_of_ble_eq_true rfl) ⟨Nat.le_of_ble_eq_true rfl, Nat.le_of_ble_eq_true rfl⟩ dX0_live_133 rfl (st := []) (fun x_153 I_154 J_155 h_156 => ?_)
      obtain ⟨rfl, rfl, rx_153⟩ := h_156
      exact g_zret (ty := .int) (r := x_153) B K rfl (rfl) ⟨hUI_148, hF_151, hG_152, rg_w rx_153 (by decide) (by decide)⟩ dX0_live_136
    obtain ⟨q_1571, q_1572⟩ := rx_6
    refine g_tableOut C (tgt := 137) dX0_live_13 (by omega) (by decide) ?_
    refine g_aload_n C 2 dX0_live_137 rfl rfl ?_
    refine g_aload_n C 1 dX0_live_138 rfl rfl ?_
    refine g_getR C K hLx hkx f_0_21 hb_1 dX0_live_139 ?_
    refine g_iload_n C 3 dX0_live_142 rfl rfl ?_
    obtain ⟨x_158, hx_158, rx_158⟩ := ex_any (z0 := I b_1 (a1.toNatClampNeg))
    refine h_iald C K hb_1L hb_1k (v := x_158) (a1.toNatClampNeg) (rfl) (ix_0 ra1 (by decide)) (ix_lt ra1 (by decide) hb_1n (by decide)) hx_158 dX0_live_143 ?_
    refine g_callSI C K (c_X0_liveMeals W9 hLa0 hka0 x_158  hU) s_0_128 rfl ⟨rfl, rfl⟩ ⟨Nat.le_of_ble_eq_true rfl, Nat.le_of_ble_eq_true rfl⟩ (Nat.le_of_ble_eq_true rfl) ⟨Nat.le_of_ble_eq_true rfl, Nat.le_of_ble_eq_true rfl⟩ dX0_live_144 rfl (st := []) (fun x_159 I_160 J_161 h_162 => ?_)
    obtain ⟨hUI_160, hFI_160, hGJ_161, rx_159⟩ := h_162
    have hF_163 := fq_tr hF hFI_160 (by decide)
    have hG_164 := fq_tr hG hGJ_161 (by decide)
    exact g_zret (ty := .int) (r := x_159) B K rfl (rfl) ⟨hUI_160, hF_163, hG_164, rx_159⟩ dX0_live_147
set_option maxRecDepth 100000 in
set_option maxHeartbeats 8000000 in
theorem c_X0_judgeBy {l : Launch} {D : va_G} {cy : Nat → ClassId} {L : List Nat} {κ ln : Nat → Nat} {R : Nat → Nat → Option Nat} {I : Nat → Nat → Int32} {J : Nat → Nat → Int64} {ow : Nat → Nat × Nat} (W9 : ∀ a ∈ L, Shp L κ ln R ow a) {x : Nat} (hLx : x ∈ L) (hkx : κ x = 0) {a0 : Nat} (hLa0 : a0 ∈ L) (hka0 : κ a0 = 1) (hU : Iv L κ R ow I) : CtV l yX0_judgeBy cX0_judgeBy 2 none { frames := 5, cells := 0, slots := 0, locals := 149 } D cy L κ ln R I J [.ref x, .ref a0] (fun I2 J2 => Iv L κ R ow I2 ∧ Fq L κ ow [5, 6, 7, 8, 9, 107, 108, 109, 110, 111, 112, 16100, 16200, 16300, 16400, 16500, 16600] I I2 ∧ Fq L κ ow [] J J2) := by
  refine CtV.of (by decide +kernel) (Nat.le_of_ble_eq_true rfl) ?_
  intro p e s m below meth c B K
  have C := B.1
  have hF : Fq L κ ow [5, 6, 7, 8, 9, 107, 108, 109, 110, 111, 112, 16100, 16200, 16300, 16400, 16500, 16600] I I := fq_rf
  have hG : Fq L κ ow [] J J := fq_rf
  refine g_lo (is := [0, 1]) (lo2 := [(0, .ref x), (1, .ref a0)]) rfl ?_
  have j_66 : ∀ (I_1 : Nat → Nat → Int32) (J_2 : Nat → Nat → Int64) (hU_3 : Iv L κ R ow I_1) (hF_4 : Fq L κ ow [5, 6, 7, 8, 9, 107, 108, 109, 110, 111, 112, 16100, 16200, 16300, 16400, 16500, 16600] I I_1) (hG_5 : Fq L κ ow [] J J_2) (v_6 : Int32) (rv_6 : Rg 0 40 v_6) (v_7 : Int32) (rv_7 : Rg 0 61 v_7) (v_8 : Int32) (rv_8 : Rg 0 40 v_8) (q_9 : I_1 x 4 = v_6) (q_10 : I_1 x 5 = 1) (q_11 : I_1 x 6 = v_7) (q_12 : I_1 x 7 = v_8), WG p l e { frames := 5, cells := 0, slots := 0, locals := 149 } s m ([.ref x, .ref a0] : List Value).toArray below meth c 2 0 0 (MQ below (Qv_ D cy L κ ln R (fun I2 J2 => Iv L κ R ow I2 ∧ Fq L κ ow [5, 6, 7, 8, 9, 107, 108, 109, 110, 111, 112, 16100, 16200, 16300, 16400, 16500, 16600] I I2 ∧ Fq L κ ow [] J J2)) ([.ref x, .ref a0] : List Value).toArray s 0 0 (Al_ L)) D cy (Al_ L) s.heap L κ ln R I_1 J_2 66 [(0, .ref x), (1, .ref a0)] [] := by
    intro I_1 J_2 hU_3 hF_4 hG_5 v_6 rv_6 v_7 rv_7 v_8 rv_8 q_9 q_10 q_11 q_12
    refine g_aload_n C 0 dX0_judgeBy_66 rfl rfl ?_
    refine g_aload_n C 1 dX0_judgeBy_67 rfl rfl ?_
    obtain ⟨x_13, hx_13, rx_13⟩ := ex_get (I := I_1) (a := a0) (j := 9) (lo := (-2147483648)) (hi := 2147483647) hU_3.1 hLa0 (ro_o hka0 (by decide)) rfl
    refine g_getI C K hLa0 hka0 f_0_98 (v := x_13) hx_13 dX0_judgeBy_68 ?_
    refine h_putI C K hLx hkx f_0_38 p_0_8 dX0_judgeBy_71 (fun I_14 hI_14 => ?_)
    have hU_15 := iv_put W9 hU_3 hI_14 (ro_o hkx (by decide)) (lo := (-2147483648)) (hi := 2147483647) (rfl) (rx_13) rfl
    have hF_16 := fq_puto hF_4 hI_14 hkx (by decide) (by decide)
    refine g_aload_n C 0 dX0_judgeBy_74 rfl rfl ?_
    refine g_aload_n C 1 dX0_judgeBy_75 rfl rfl ?_
    obtain ⟨x_17, hx_17, rx_17⟩ := ex_get (I := I_14) (a := a0) (j := 7) (lo := (-2147483648)) (hi := 2147483647) hU_15.1 hLa0 (ro_o hka0 (by decide)) rfl
    refine g_getI C K hLa0 hka0 f_0_103 (v := x_17) hx_17 dX0_judgeBy_76 ?_
    refine h_putI C K hLx hkx f_0_41 p_0_9 dX0_judgeBy_79 (fun I_18 hI_18 => ?_)
    have hU_19 := iv_put W9 hU_15 hI_18 (ro_o hkx (by decide)) (lo := (-2147483648)) (hi := 2147483647) (rfl) (rx_17) rfl
    have hF_20 := fq_puto hF_16 hI_18 hkx (by decide) (by decide)
    exact g_vret B K rfl ⟨hU_19, hF_20, hG_5⟩ dX0_judgeBy_82
  have l_15 : ∀ (n_15 : Nat) (I_21 : Nat → Nat → Int32) (J_22 : Nat → Nat → Int64) (hU_23 : Iv L κ R ow I_21) (hF_24 : Fq L κ ow [5, 6, 7, 8, 9, 107, 108, 109, 110, 111, 112, 16100, 16200, 16300, 16400, 16500, 16600] I I_21) (hG_25 : Fq L κ ow [] J J_22) (v_26 : Int32) (rv_26 : Rg 0 0 v_26) (v_27 : Int32) (rv_27 : Rg 0 40 v_27) (q_28 : I_21 x 5 = 1) (q_29 : I_21 x 6 = v_26) (q_30 : I_21 x 7 = v_27) (hm_31 : 40 < (v_27 : Int32).toInt + (n_15 : Int)), WG p l e { frames := 5, cells := 0, slots := 0, locals := 149 } s m ([.ref x, .ref a0] : List Value).toArray below meth c 2 0 0 (MQ below (Qv_ D cy L κ ln R (fun I2 J2 => Iv L κ R ow I2 ∧ Fq L κ ow [5, 6, 7, 8, 9, 107, 108, 109, 110, 111, 112, 16100, 16200, 16300, 16400, 16500, 16600] I I2 ∧ Fq L κ ow [] J J2)) ([.ref x, .ref a0] : List Value).toArray s 0 0 (Al_ L)) D cy (Al_ L) s.heap L κ ln R I_21 J_22 15 [(0, .ref x), (1, .ref a0)] [] := by
    intro n_15
    induction n_15 with
    | zero =>
      intro I_21 J_22 hU_23 hF_24 hG_25 v_26 rv_26 v_27 rv_27 q_28 q_29 q_30 hm_31
      exact ms_0 rv_27 hm_31
    | succ n_15 ih_15 =>
      intro I_21 J_22 hU_23 hF_24 hG_25 v_26 rv_26 v_27 rv_27 q_28 q_29 q_30 hm_31
      refine g_aload_n C 0 dX0_judgeBy_15 rfl rfl ?_
      refine g_getI C K hLx hkx f_0_35 (v := v_27) q_30 dX0_judgeBy_16 ?_
      refine g_aload_n C 0 dX0_judgeBy_19 rfl rfl ?_
      obtain ⟨x_32, hx_32, rx_32⟩ := ex_get (I := I_21) (a := x) (j := 4) (lo := 0) (hi := 40) hU_23.1 hLx (ro_o hkx (by decide)) rfl
      refine g_getI C K hLx hkx f_0_24 (v := x_32) hx_32 dX0_judgeBy_20 ?_
      refine g_icmp_ge C (tgt := 66) dX0_judgeBy_23 (by decide) (fun h_33 => ?_) (fun h_33 => ?_)
      · skip
        refine g_lo (is := [0, 1]) (lo2 := [(0, .ref x), (1, .ref a0)]) rfl ?_
        exact j_66 I_21 J_22 hU_23 hF_24 hG_25 x_32 (rx_32) v_26 (rg_w rv_26 (by decide) (by decide)) v_27 (rv_27) hx_32 q_28 q_29 q_30
      · skip
        have r_34 := lt_l (hi := 39) (nle h_33) rv_27 rx_32 (by decide)
        have r_35 := lt_r (lo := 1) (nle h_33) rv_27 rx_32 (by decide)
        refine g_aload_n C 0 dX0_judgeBy_26 rfl rfl ?_
        refine g_getI C K hLx hkx f_0_32 (v := v_26) q_29 dX0_judgeBy_27 ?_
        refine g_if_ne C (tgt := 66) dX0_judgeBy_30 (by decide) (fun h_36 => ?_) (fun h_36 => ?_)
        · skip
          exact ne_no (h_36) rv_26 rc_0
        · skip
          refine g_aload_n C 0 dX0_judgeBy_33 rfl rfl ?_
          refine g_aload_n C 0 dX0_judgeBy_34 rfl rfl ?_
          refine g_aload_n C 1 dX0_judgeBy_35 rfl rfl ?_
          refine g_aload_n C 0 dX0_judgeBy_36 rfl rfl ?_
          refine g_getI C K hLx hkx f_0_35 (v := v_27) q_30 dX0_judgeBy_37 ?_
          refine g_callVI C K (c_X0_live W9 hLx hkx hLa0 hka0 v_27 (r_34) hU_23  (hU_23.2.2 x hLx hkx _ (bk_lt (nle h_33) hx_32 (r_34)))) hLx hkx (by decide) rfl v_0_94 rfl ⟨rfl, rfl⟩ ⟨Nat.le_of_ble_eq_true rfl, Nat.le_of_ble_eq_true rfl⟩ (Nat.le_of_ble_eq_true rfl) ⟨Nat.le_of_ble_eq_true rfl, Nat.le_of_ble_eq_true rfl⟩ dX0_judgeBy_40 rfl (st := [.ref x]) (fun x_37 I_38 J_39 h_40 => ?_)
          obtain ⟨hUI_38, hFI_38, hGJ_39, rx_37⟩ := h_40
          have hF_41 := fq_tr hF_24 hFI_38 (by decide)
          have hG_42 := fq_tr hG_25 hGJ_39 (by decide)
          refine h_putI C K hLx hkx f_0_32 p_0_6 dX0_judgeBy_43 (fun I_43 hI_43 => ?_)
          have hU_44 := iv_put W9 hUI_38 hI_43 (ro_o hkx (by decide)) (lo := (-2147483648)) (hi := 2147483647) (rfl) (rg_all _) rfl
          have hF_45 := fq_puto hF_41 hI_43 hkx (by decide) (by decide)
          refine g_aload_n C 0 dX0_judgeBy_46 rfl rfl ?_
          refine g_getI C K hLx hkx f_0_32 (v := x_37) (kp_s hI_43) dX0_judgeBy_47 ?_
          refine g_if_ne C (tgt := 15) dX0_judgeBy_50 (by decide) (fun h_46 => ?_) (fun h_46 => ?_)
          · skip
            have n_47 : ¬ x_37 = 0 := h_46
            have r_48 := ne_lo (lo := 1) n_47 rx_37 rc_0 rfl (by decide)
            refine g_aload_n C 0 dX0_judgeBy_15 rfl rfl ?_
            refine g_getI C K hLx hkx f_0_35 (v := v_27) (kp_j hI_43 (by decide) (fq_at hFI_38 hLx hkx (by decide) (by decide) q_30)) dX0_judgeBy_16 ?_
            refine g_aload_n C 0 dX0_judgeBy_19 rfl rfl ?_
            refine g_getI C K hLx hkx f_0_24 (v := x_32) (kp_j hI_43 (by decide) (fq_at hFI_38 hLx hkx (by decide) (by decide) hx_32)) dX0_judgeBy_20 ?_
            refine g_icmp_ge C (tgt := 66) dX0_judgeBy_23 (by decide) (fun h_49 => ?_) (fun h_49 => ?_)
            · skip
              have r_50 := le_l (h_49) r_35 r_34
              have r_51 := le_r (h_49) r_35 r_34
              refine g_lo (is := [0, 1]) (lo2 := [(0, .ref x), (1, .ref a0)]) rfl ?_
              exact j_66 I_43 J_39 hU_44 hF_45 hG_42 x_32 (rg_w r_50 (by decide) (by decide)) x_37 (rg_w r_48 (by decide) (by decide)) v_27 (rg_w r_51 (by decide) (by decide)) (kp_j hI_43 (by decide) (fq_at hFI_38 hLx hkx (by decide) (by decide) hx_32)) (kp_j hI_43 (by decide) (fq_at hFI_38 hLx hkx (by decide) (by decide) q_28)) (kp_s hI_43) (kp_j hI_43 (by decide) (fq_at hFI_38 hLx hkx (by decide) (by decide) q_30))
            · skip
              refine g_aload_n C 0 dX0_judgeBy_26 rfl rfl ?_
              refine g_getI C K hLx hkx f_0_32 (v := x_37) (kp_s hI_43) dX0_judgeBy_27 ?_
              refine g_if_ne C (tgt := 66) dX0_judgeBy_30 (by decide) (fun h_52 => ?_) (fun h_52 => ?_)
              · skip
                have n_53 : ¬ x_37 = 0 := h_52
                refine g_lo (is := [0, 1]) (lo2 := [(0, .ref x), (1, .ref a0)]) rfl ?_
                exact j_66 I_43 J_39 hU_44 hF_45 hG_42 x_32 (rg_w r_35 (by decide) (by decide)) x_37 (rg_w r_48 (by decide) (by decide)) v_27 (rg_w r_34 (by decide) (by decide)) (kp_j hI_43 (by decide) (fq_at hFI_38 hLx hkx (by decide) (by decide) hx_32)) (kp_j hI_43 (by decide) (fq_at hFI_38 hLx hkx (by decide) (by decide) q_28)) (kp_s hI_43) (kp_j hI_43 (by decide) (fq_at hFI_38 hLx hkx (by decide) (by decide) q_30))
              · skip
                exact eq_no (h_52) r_48 rc_0 (by decide)
          · skip
            have r_54 := (⟨(rx_37).1, (eq_rg (h_46) rc_0).2⟩ : Rg 0 0 x_37)
            refine g_aload_n C 0 dX0_judgeBy_53 rfl rfl ?_
            refine g_dup C dX0_judgeBy_54 rfl ?_
            refine g_getI C K hLx hkx f_0_35 (v := v_27) (kp_j hI_43 (by decide) (fq_at hFI_38 hLx hkx (by decide) (by decide) q_30)) dX0_judgeBy_55 ?_
            refine g_iconst C (v := 1) dX0_judgeBy_58 (by decide) ?_
            obtain ⟨x_55, hx_55, rx_55, tx_55⟩ := ex_add 1 40 r_34 rc_1 (by decide) (by decide) (by decide) (by decide)
            refine g_iadd C (v := x_55) dX0_judgeBy_59 hx_55 ?_
            refine h_putI C K hLx hkx f_0_35 p_0_7 dX0_judgeBy_60 (fun I_56 hI_56 => ?_)
            have hU_57 := iv_put W9 hU_44 hI_56 (ro_o hkx (by decide)) (lo := 0) (hi := 40) (rfl) (rg_w rx_55 (by decide) (by decide)) rfl
            have hF_58 := fq_puto hF_45 hI_56 hkx (by decide) (by decide)
            refine g_goto C (tgt := 15) dX0_judgeBy_63 (by decide) ?_
            refine g_lo (is := [0, 1]) (lo2 := [(0, .ref x), (1, .ref a0)]) rfl ?_
            exact ih_15 I_56 J_39 hU_57 hF_58 hG_42 x_37 (r_54) x_55 (rg_w rx_55 (by decide) (by decide)) (kp_j hI_56 (by decide) (kp_j hI_43 (by decide) (fq_at hFI_38 hLx hkx (by decide) (by decide) q_28))) (kp_j hI_56 (by decide) (kp_s hI_43)) (kp_s hI_56) (ms_1 hm_31 (ti_k tx_55 rc_1) (by decide))
  refine g_aload_n C 0 dX0_judgeBy_0 rfl rfl ?_
  refine g_iconst C (v := 1) dX0_judgeBy_1 (by decide) ?_
  refine h_putZ C K hLx hkx f_0_28 p_0_5 (rg_bool (rg_w rc_1 (by decide) (by decide))) dX0_judgeBy_2 (fun I_59 hI_59 => ?_)
  have hU_60 := iv_put W9 hU hI_59 (ro_o hkx (by decide)) (lo := 0) (hi := 1) (rfl) (rg_w rc_1 (by decide) (by decide)) rfl
  have hF_61 := fq_puto hF hI_59 hkx (by decide) (by decide)
  refine g_aload_n C 0 dX0_judgeBy_5 rfl rfl ?_
  refine g_iconst C (v := 0) dX0_judgeBy_6 (by decide) ?_
  refine h_putI C K hLx hkx f_0_32 p_0_6 dX0_judgeBy_7 (fun I_62 hI_62 => ?_)
  have hU_63 := iv_put W9 hU_60 hI_62 (ro_o hkx (by decide)) (lo := (-2147483648)) (hi := 2147483647) (rfl) (rg_all _) rfl
  have hF_64 := fq_puto hF_61 hI_62 hkx (by decide) (by decide)
  refine g_aload_n C 0 dX0_judgeBy_10 rfl rfl ?_
  refine g_iconst C (v := 0) dX0_judgeBy_11 (by decide) ?_
  refine h_putI C K hLx hkx f_0_35 p_0_7 dX0_judgeBy_12 (fun I_65 hI_65 => ?_)
  have hU_66 := iv_put W9 hU_63 hI_65 (ro_o hkx (by decide)) (lo := 0) (hi := 40) (rfl) (rg_w rc_0 (by decide) (by decide)) rfl
  have hF_67 := fq_puto hF_64 hI_65 hkx (by decide) (by decide)
  refine g_lo (is := [0, 1]) (lo2 := [(0, .ref x), (1, .ref a0)]) rfl ?_
  exact l_15 41 I_65 J hU_66 hF_67 hG 0 (rc_0) 0 (rg_w rc_0 (by decide) (by decide)) (kp_j hI_65 (by decide) (kp_j hI_62 (by decide) (kp_s hI_59))) (kp_j hI_65 (by decide) (kp_s hI_62)) (kp_s hI_65) (ms_s (a := 0) (b := 40) (N := 41) (rg_w rc_0 (by decide) (by decide)) (by decide))
set_option maxRecDepth 100000 in
set_option maxHeartbeats 8000000 in
theorem c_X0_mostOf {l : Launch} {D : va_G} {cy : Nat → ClassId} {L : List Nat} {κ ln : Nat → Nat} {R : Nat → Nat → Option Nat} {I : Nat → Nat → Int32} {J : Nat → Nat → Int64} {ow : Nat → Nat × Nat} (W9 : ∀ a ∈ L, Shp L κ ln R ow a) (a0 : Int32) (ra0 : Rg 10 16 a0) (hU : Iv L κ R ow I) : CtI l yX0_mostOf cX0_mostOf 1 (some .int) { frames := 0, cells := 0, slots := 0, locals := 0 } D cy L κ ln R I J [.int a0] (fun r I2 J2 => I = I2 ∧ J = J2 ∧ Rg 0 60 r ∧ (r = fMost a0)) := by
  refine CtI.of (by decide +kernel) (Nat.le_of_ble_eq_true rfl) ?_
  intro p e s m below meth c B K
  have C := B.1
  refine g_lo (is := [0]) (lo2 := [(0, .int a0)]) rfl ?_
  refine g_iload_n C 0 dX0_mostOf_0 rfl rfl ?_
  by_cases c_1 : a0.toInt = 10
  · skip
    have r_2 := rg_of (a := 10) (b := 10) 10 c_1 (by decide) (by decide)
    refine g_lookup C (tgt := 36) (off := 35) dX0_mostOf_1 (by decide) (by rw [c_1]; decide) (by decide) ?_
    refine g_bipush C (v := 20) dX0_mostOf_36 (by decide) ?_
    exact g_zret (ty := .int) (r := 20) B K rfl (rfl) ⟨rfl, rfl, rg_w rc_20 (by decide) (by decide), (by simp only [fMost, (eq_true c_1), if_true, if_false])⟩ dX0_mostOf_38
  by_cases c_3 : a0.toInt = 11
  · skip
    have r_4 := rg_of (a := 11) (b := 11) 11 c_3 (by decide) (by decide)
    refine g_lookup C (tgt := 39) (off := 38) dX0_mostOf_1 (by decide) (by rw [c_3]; decide) (by decide) ?_
    refine g_bipush C (v := 40) dX0_mostOf_39 (by decide) ?_
    exact g_zret (ty := .int) (r := 40) B K rfl (rfl) ⟨rfl, rfl, rg_w rc_40 (by decide) (by decide), (by simp only [fMost, c_1, (eq_true c_3), if_true, if_false])⟩ dX0_mostOf_41
  by_cases c_5 : a0.toInt = 16
  · skip
    have r_6 := rg_of (a := 16) (b := 16) 16 c_5 (by decide) (by decide)
    refine g_lookup C (tgt := 42) (off := 41) dX0_mostOf_1 (by decide) (by rw [c_5]; decide) (by decide) ?_
    refine g_bipush C (v := 60) dX0_mostOf_42 (by decide) ?_
    exact g_zret (ty := .int) (r := 60) B K rfl (rfl) ⟨rfl, rfl, rg_w rc_60 (by decide) (by decide), (by simp only [fMost, c_1, c_3, (eq_true c_5), if_true, if_false])⟩ dX0_mostOf_44
  obtain ⟨q_71, q_72⟩ := ra0
  refine g_lookup C (tgt := 45) (off := 44) dX0_mostOf_1 (by decide) (by simp [Op.lookupswitch.offset, Ne.symm c_1, Ne.symm c_3, Ne.symm c_5]) (by decide) ?_
  refine g_iconst C (v := 0) dX0_mostOf_45 (by decide) ?_
  exact g_zret (ty := .int) (r := 0) B K rfl (rfl) ⟨rfl, rfl, rg_w rc_0 (by decide) (by decide), (by simp only [fMost, c_1, c_3, c_5, if_true, if_false])⟩ dX0_mostOf_46
set_option maxRecDepth 100000 in
set_option maxHeartbeats 8000000 in
theorem c_X0_readAct {l : Launch} {D : va_G} {cy : Nat → ClassId} {L : List Nat} {κ ln : Nat → Nat} {R : Nat → Nat → Option Nat} {I : Nat → Nat → Int32} {J : Nat → Nat → Int64} {ow : Nat → Nat × Nat} (W9 : ∀ a ∈ L, Shp L κ ln R ow a) {x : Nat} (hLx : x ∈ L) (hkx : κ x = 0) {a0 : Nat} (hLa0 : a0 ∈ L) (hka0 : κ a0 = 10) {a1 : Nat} (hLa1 : a1 ∈ L) (hka1 : κ a1 = 8) (hU : Iv L κ R ow I) (hp0 : Rg 0 39 (I x 4)) : CtI l yX0_readAct cX0_readAct 7 (some .boolean) { frames := 2, cells := 0, slots := 0, locals := 44 } D cy L κ ln R I J [.ref x, .ref a0, .ref a1] (fun r I2 J2 => Iv L κ R ow I2 ∧ Fq L κ ow [1007, 1008, 1009, 1011, 1012, 10000, 10200, 10300] I I2 ∧ Fq L κ ow [1010] J J2 ∧ Rg 0 1 r ∧ ((r, TPf R I2 J2 a0) = fReadAct (TBf R I J a1) (KPf R I J x) (TPf R I J a0)) ∧ (¬ r = 0 → bk_ R I2 x (I2 x 4).toNatClampNeg)) := by
  refine CtI.of (by decide +kernel) (Nat.le_of_ble_eq_true rfl) ?_
  intro p e s m below meth c B K
  have C := B.1
  have hF : Fq L κ ow [1007, 1008, 1009, 1011, 1012, 10000, 10200, 10300] I I := fq_rf
  have hG : Fq L κ ow [1010] J J := fq_rf
  obtain ⟨xp0, hxp0, rxp0⟩ : ∃ z, I x 4 = z ∧ Rg 0 39 z := ⟨_, rfl, hp0⟩
  obtain ⟨b_1, hb_1, hb_1L, hb_1k, hb_1n, hb_1o⟩ := shp_a (W9 x hLx) hkx 3 14 40 rfl (by decide)
  obtain ⟨b_2, hb_2, hb_2L, hb_2k, hb_2n, hb_2o⟩ := shp_a (W9 x hLx) hkx 2 14 40 rfl (by decide)
  obtain ⟨b_3, hb_3, hb_3L, hb_3k, hb_3n, hb_3o⟩ := shp_a (W9 x hLx) hkx 1 14 40 rfl (by decide)
  obtain ⟨b_4, hb_4, hb_4L, hb_4k, hb_4n, hb_4o⟩ := shp_a (W9 x hLx) hkx 0 14 40 rfl (by decide)
  obtain ⟨b_5, hb_5, hb_5L, hb_5k, hb_5n, hb_5o⟩ := shp_a (W9 a1 hLa1) hka1 0 15 7 rfl (by decide)
  obtain ⟨b_6, hb_6, hb_6L, hb_6k, hb_6n, hb_6o⟩ := shp_a (W9 a1 hLa1) hka1 2 14 7 rfl (by decide)
  obtain ⟨b_7, hb_7, hb_7L, hb_7k, hb_7n, hb_7o⟩ := shp_a (W9 a1 hLa1) hka1 3 15 6 rfl (by decide)
  have ebqa1 : ∀ I J, TBf R I J a1 = TBq I J a1 b_5 b_6 b_7 := fun I J => by simp only [TBf, rr_, Option.getD_some, hb_5, hb_6, hb_7]
  have wbqa1 : bqw_ L κ ow a1 b_5 b_6 b_7 := ⟨⟨hLa1, hb_5L, hb_6L, hb_7L⟩, ⟨(ro_o hka1 (by decide)), (ro_a hb_5k (by decide) hb_5o hka1 rfl), (ro_a hb_6k (by decide) hb_6o hka1 rfl), (ro_a hb_7k (by decide) hb_7o hka1 rfl)⟩⟩
  obtain ⟨s_8, hs_8⟩ : ∃ z, TBq I J a1 b_5 b_6 b_7 = z := ⟨_, rfl⟩
  have eyqx : ∀ I J, KPf R I J x = KPq I J x b_3 := fun I J => by simp only [KPf, rr_, Option.getD_some, hb_3]
  have wyqx : yqw_ L κ ow x b_3 := ⟨⟨hLx, hb_3L⟩, ⟨(ro_o hkx (by decide)), (ro_a hb_3k (by decide) hb_3o hkx rfl)⟩⟩
  obtain ⟨s_9, hs_9⟩ : ∃ z, KPq I J x b_3 = z := ⟨_, rfl⟩
  obtain ⟨b_10, hb_10, hb_10L, hb_10k, hb_10n, hb_10o⟩ := shp_a (W9 a0 hLa0) hka0 0 13 940 rfl (by decide)
  obtain ⟨b_11, hb_11, hb_11L, hb_11k, hb_11n, hb_11o⟩ := shp_a (W9 a0 hLa0) hka0 1 15 28 rfl (by decide)
  obtain ⟨b_12, hb_12, hb_12L, hb_12k, hb_12n, hb_12o⟩ := shp_a (W9 a0 hLa0) hka0 2 14 901 rfl (by decide)
  obtain ⟨b_13, hb_13, hb_13L, hb_13k, hb_13n, hb_13o⟩ := shp_a (W9 a0 hLa0) hka0 3 14 901 rfl (by decide)
  obtain ⟨b_14, hb_14, hb_14L, hb_14k, hb_14n, hb_14o⟩ := shp_a (W9 a0 hLa0) hka0 4 15 901 rfl (by decide)
  have etqa0 : ∀ I J, TPf R I J a0 = TPq I J a0 b_10 b_11 b_12 b_13 b_14 := fun I J => by simp only [TPf, rr_, Option.getD_some, hb_10, hb_11, hb_12, hb_13, hb_14]
  have wtqa0 : tqw_ L κ ow a0 b_10 b_11 b_12 b_13 b_14 := ⟨⟨hLa0, hb_10L, hb_11L, hb_12L, hb_13L, hb_14L⟩, ⟨(ro_o hka0 (by decide)), (ro_a hb_10k (by decide) hb_10o hka0 rfl), (ro_a hb_11k (by decide) hb_11o hka0 rfl), (ro_a hb_12k (by decide) hb_12o hka0 rfl), (ro_a hb_13k (by decide) hb_13o hka0 rfl), (ro_a hb_14k (by decide) hb_14o hka0 rfl)⟩⟩
  obtain ⟨s_15, hs_15⟩ : ∃ z, TPq I J a0 b_10 b_11 b_12 b_13 b_14 = z := ⟨_, rfl⟩
  refine g_lo (is := [0, 1, 2]) (lo2 := [(0, .ref x), (1, .ref a0), (2, .ref a1)]) rfl ?_
  refine g_aload_n C 1 dX0_readAct_0 rfl rfl ?_
  obtain ⟨x_16, hx_16, rx_16⟩ := ex_get (I := I) (a := a0) (j := 8) (lo := (-2147483648)) (hi := 2147483647) hU.1 hLa0 (ro_o hka0 (by decide)) rfl
  have f_17 : s_15.token = x_16 := (congrArg TP_.token hs_15).symm.trans hx_16
  refine g_getI C K hLa0 hka0 f_0_50 (v := x_16) hx_16 dX0_readAct_1 ?_
  refine g_istore_n C dX0_readAct_4 rfl (by decide) (lo2 := [(3, .int x_16), (0, .ref x), (1, .ref a0), (2, .ref a1)]) rfl ?_
  refine g_aload_n C 1 dX0_readAct_5 rfl rfl ?_
  refine g_getR C K hLx hkx f_0_15 hb_3 dX0_readAct_6 ?_
  refine g_aload_n C 1 dX0_readAct_9 rfl rfl ?_
  have f_18 : s_9.bl = xp0 := (congrArg KP_.bl hs_9).symm.trans hxp0
  refine g_getI C K hLx hkx f_0_24 (v := xp0) hxp0 dX0_readAct_10 ?_
  obtain ⟨x_19, hx_19, rx_19⟩ := ex_get (I := I) (a := b_3) (j := xp0.toNatClampNeg) (lo := (-1)) (hi := 6) hU.1 hb_3L (ro_a hb_3k (by decide) hb_3o hkx rfl) (rfl)
  refine h_iald C K hb_3L hb_3k (v := x_19) (xp0.toNatClampNeg) (rfl) (ix_0 rxp0 (by decide)) (ix_lt rxp0 (by decide) hb_3n (by decide)) hx_19 dX0_readAct_13 ?_
  have f_20 : s_9.bw (xp0.toNatClampNeg) = x_19 := (congrFun (congrArg KP_.bw hs_9) _).symm.trans hx_19
  refine g_iconst C (v := (-1)) dX0_readAct_14 (by decide) ?_
  refine g_icmp_ne C (tgt := 22) dX0_readAct_15 (by decide) (fun h_21 => ?_) (fun h_21 => ?_)
  · skip
    have n_22 : ¬ x_19 = (-1) := h_21
    have r_23 := ne_lo (lo := 0) n_22 rx_19 rc_m1 rfl (by decide)
    refine g_iconst C (v := 0) dX0_readAct_22 (by decide) ?_
    refine g_istore C dX0_readAct_23 (by decide) (lo2 := [(4, .int 0), (3, .int x_16), (0, .ref x), (1, .ref a0), (2, .ref a1)]) rfl ?_
    refine g_iload C 0 dX0_readAct_25 rfl ?_
    refine g_if_eq C (tgt := 44) dX0_readAct_27 (by decide) (fun h_24 => ?_) (fun h_24 => ?_)
    · skip
      refine g_iload_n C 1 dX0_readAct_44 rfl rfl ?_
      refine g_bipush C (v := 10) dX0_readAct_45 (by decide) ?_
      refine g_icmp_lt C (tgt := 60) dX0_readAct_47 (by decide) (fun h_25 => ?_) (fun h_25 => ?_)
      · skip
        have r_26 := lt_l (hi := 9) (h_25) rx_16 rc_10 (by decide)
        refine g_iconst C (v := 0) dX0_readAct_60 (by decide) ?_
        refine g_istore C dX0_readAct_61 (by decide) (lo2 := [(5, .int 0), (4, .int 0), (3, .int x_16), (0, .ref x), (1, .ref a0), (2, .ref a1)]) rfl ?_
        refine g_iload C 0 dX0_readAct_63 rfl ?_
        refine g_if_ne C (tgt := 74) dX0_readAct_65 (by decide) (fun h_27 => ?_) (fun h_27 => ?_)
        · skip
          exact absurd (h_27) (by decide)
        · skip
          refine g_aload_n C 4 dX0_readAct_68 rfl rfl ?_
          refine g_iconst C (v := 1) dX0_readAct_69 (by decide) ?_
          refine g_callVI C K (c_X10_fail W9 hLa0 hka0 1 (rg_w rc_1 (by decide) (by decide)) hU) hLa0 hka0 (by decide) rfl v_0_57 rfl ⟨rfl, rfl⟩ ⟨Nat.le_of_ble_eq_true rfl, Nat.le_of_ble_eq_true rfl⟩ (Nat.le_of_ble_eq_true rfl) ⟨Nat.le_of_ble_eq_true rfl, Nat.le_of_ble_eq_true rfl⟩ dX0_readAct_70 rfl (st := []) (fun x_28 I_29 J_30 h_31 => ?_)
          obtain ⟨hUI_29, hFI_29, hGJ_30, rx_28, fx_28⟩ := h_31
          have hF_32 := fq_tr hF hFI_29 (by decide)
          have hG_33 := fq_tr hG hGJ_30 (by decide)
          obtain ⟨s_35, hs_35⟩ : ∃ z, TPq I_29 J_30 a0 b_10 b_11 b_12 b_13 b_14 = z := ⟨_, rfl⟩
          have c_34 : fFail (1) (s_15) = (x_28, s_35) := by have q := fx_28; simp only [etqa0, hs_15, hs_35] at q; exact q.symm
          have hs_36 : TBq I_29 J_30 a1 b_5 b_6 b_7 = s_8 := (bq_fq wbqa1 hFI_29 hGJ_30 (by decide) (by decide)).trans hs_8
          have hs_37 : KPq I_29 J_30 x b_3 = s_9 := (yq_fq wyqx hFI_29 hGJ_30 (by decide) (by decide)).trans hs_9
          exact g_zret (ty := .boolean) (r := x_28) B K rfl (nar_z (rg_w rx_28 (by decide) (by decide))) ⟨hUI_29, hF_32, hG_33, rg_w rx_28 (by decide) (by decide), (by simp only [fReadAct, fAct2, fAct3, fAct4, ebqa1, hs_36, hs_8, eyqx, hs_37, hs_9, etqa0, hs_35, hs_15, hx_16, f_17, f_18, hx_19, f_20, h_21, (eq_true h_24), h_25, (eq_true h_27), c_34, if_true, if_false, bqM_pnm, bqM_par, bqM_dnm, bqM_persons, bqM_dishes, bqM_law, bqM_dogs, TB_.w_pnm, TB_.w_par, TB_.w_dnm, TB_.w_persons, TB_.w_dishes, TB_.w_law, TB_.w_dogs, yqM_bw, yqM_bl, KP_.w_bw, KP_.w_bl, tqM_by_, tqM_wd, tqM_tk, tqM_pl, tqM_vl, tqM_len, tqM_n, tqM_at_, tqM_token, tqM_place, tqM_value, tqM_fault, tqM_fat, TP_.w_by_, TP_.w_wd, TP_.w_tk, TP_.w_pl, TP_.w_vl, TP_.w_len, TP_.w_n, TP_.w_at_, TP_.w_token, TP_.w_place, TP_.w_value, TP_.w_fault, TP_.w_fat]), (fun q => ne_no q rx_28 rc_0)⟩ dX0_readAct_73
      · skip
        have r_38 := le_r (nlt h_25) rc_10 rx_16
        refine g_iload_n C 1 dX0_readAct_50 rfl rfl ?_
        refine g_bipush C (v := 15) dX0_readAct_51 (by decide) ?_
        refine g_icmp_gt C (tgt := 60) dX0_readAct_53 (by decide) (fun h_39 => ?_) (fun h_39 => ?_)
        · skip
          have r_40 := lt_r (lo := 16) (h_39) rc_15 r_38 (by decide)
          refine g_iconst C (v := 0) dX0_readAct_60 (by decide) ?_
          refine g_istore C dX0_readAct_61 (by decide) (lo2 := [(5, .int 0), (4, .int 0), (3, .int x_16), (0, .ref x), (1, .ref a0), (2, .ref a1)]) rfl ?_
          refine g_iload C 0 dX0_readAct_63 rfl ?_
          refine g_if_ne C (tgt := 74) dX0_readAct_65 (by decide) (fun h_41 => ?_) (fun h_41 => ?_)
          · skip
            exact absurd (h_41) (by decide)
          · skip
            refine g_aload_n C 4 dX0_readAct_68 rfl rfl ?_
            refine g_iconst C (v := 1) dX0_readAct_69 (by decide) ?_
            refine g_callVI C K (c_X10_fail W9 hLa0 hka0 1 (rg_w rc_1 (by decide) (by decide)) hU) hLa0 hka0 (by decide) rfl v_0_57 rfl ⟨rfl, rfl⟩ ⟨Nat.le_of_ble_eq_true rfl, Nat.le_of_ble_eq_true rfl⟩ (Nat.le_of_ble_eq_true rfl) ⟨Nat.le_of_ble_eq_true rfl, Nat.le_of_ble_eq_true rfl⟩ dX0_readAct_70 rfl (st := []) (fun x_42 I_43 J_44 h_45 => ?_)
            obtain ⟨hUI_43, hFI_43, hGJ_44, rx_42, fx_42⟩ := h_45
            have hF_46 := fq_tr hF hFI_43 (by decide)
            have hG_47 := fq_tr hG hGJ_44 (by decide)
            obtain ⟨s_49, hs_49⟩ : ∃ z, TPq I_43 J_44 a0 b_10 b_11 b_12 b_13 b_14 = z := ⟨_, rfl⟩
            have c_48 : fFail (1) (s_15) = (x_42, s_49) := by have q := fx_42; simp only [etqa0, hs_15, hs_49] at q; exact q.symm
            have hs_50 : TBq I_43 J_44 a1 b_5 b_6 b_7 = s_8 := (bq_fq wbqa1 hFI_43 hGJ_44 (by decide) (by decide)).trans hs_8
            have hs_51 : KPq I_43 J_44 x b_3 = s_9 := (yq_fq wyqx hFI_43 hGJ_44 (by decide) (by decide)).trans hs_9
            exact g_zret (ty := .boolean) (r := x_42) B K rfl (nar_z (rg_w rx_42 (by decide) (by decide))) ⟨hUI_43, hF_46, hG_47, rg_w rx_42 (by decide) (by decide), (by simp only [fReadAct, fAct2, fAct3, fAct4, ebqa1, hs_50, hs_8, eyqx, hs_51, hs_9, etqa0, hs_49, hs_15, hx_16, f_17, f_18, hx_19, f_20, h_21, (eq_true h_24), h_25, (nlt h_25), h_39, (eq_true h_41), c_48, if_true, if_false, bqM_pnm, bqM_par, bqM_dnm, bqM_persons, bqM_dishes, bqM_law, bqM_dogs, TB_.w_pnm, TB_.w_par, TB_.w_dnm, TB_.w_persons, TB_.w_dishes, TB_.w_law, TB_.w_dogs, yqM_bw, yqM_bl, KP_.w_bw, KP_.w_bl, tqM_by_, tqM_wd, tqM_tk, tqM_pl, tqM_vl, tqM_len, tqM_n, tqM_at_, tqM_token, tqM_place, tqM_value, tqM_fault, tqM_fat, TP_.w_by_, TP_.w_wd, TP_.w_tk, TP_.w_pl, TP_.w_vl, TP_.w_len, TP_.w_n, TP_.w_at_, TP_.w_token, TP_.w_place, TP_.w_value, TP_.w_fault, TP_.w_fat]), (fun q => ne_no q rx_42 rc_0)⟩ dX0_readAct_73
        · skip
          have r_52 := le_l (nlt h_39) r_38 rc_15
          refine g_iconst C (v := 1) dX0_readAct_56 (by decide) ?_
          refine g_goto C (tgt := 61) dX0_readAct_57 (by decide) ?_
          refine g_istore C dX0_readAct_61 (by decide) (lo2 := [(5, .int 1), (4, .int 0), (3, .int x_16), (0, .ref x), (1, .ref a0), (2, .ref a1)]) rfl ?_
          refine g_iload C 0 dX0_readAct_63 rfl ?_
          refine g_if_ne C (tgt := 74) dX0_readAct_65 (by decide) (fun h_53 => ?_) (fun h_53 => ?_)
          · skip
            refine g_aload_n C 4 dX0_readAct_74 rfl rfl ?_
            refine g_callVV C K (c_X10_advance W9 hLa0 hka0   hU) hLa0 hka0 (by decide) rfl v_0_71 rfl ⟨rfl, rfl⟩ ⟨Nat.le_of_ble_eq_true rfl, Nat.le_of_ble_eq_true rfl⟩ (Nat.le_of_ble_eq_true rfl) ⟨Nat.le_of_ble_eq_true rfl, Nat.le_of_ble_eq_true rfl⟩ dX0_readAct_75 rfl (st := []) (fun I_55 J_56 h_57 => ?_)
            obtain ⟨hUI_55, hFI_55, hGJ_56, fx_54⟩ := h_57
            have hF_58 := fq_tr hF hFI_55 (by decide)
            have hG_59 := fq_tr hG hGJ_56 (by decide)
            obtain ⟨s_61, hs_61⟩ : ∃ z, TPq I_55 J_56 a0 b_10 b_11 b_12 b_13 b_14 = z := ⟨_, rfl⟩
            have c_60 : fAdvance (s_15) = s_61 := by have q := fx_54; simp only [etqa0, hs_15, hs_61] at q; exact q.symm
            have hs_62 : TBq I_55 J_56 a1 b_5 b_6 b_7 = s_8 := (bq_fq wbqa1 hFI_55 hGJ_56 (by decide) (by decide)).trans hs_8
            have hs_63 : KPq I_55 J_56 x b_3 = s_9 := (yq_fq wyqx hFI_55 hGJ_56 (by decide) (by decide)).trans hs_9
            refine g_aload_n C 3 dX0_readAct_78 rfl rfl ?_
            refine g_getR C K hLx hkx f_0_11 hb_4 dX0_readAct_79 ?_
            refine g_aload_n C 3 dX0_readAct_82 rfl rfl ?_
            refine g_getI C K hLx hkx f_0_24 (v := xp0) (fq_at hFI_55 hLx hkx (by decide) (by decide) hxp0) dX0_readAct_83 ?_
            refine g_iload_n C 2 dX0_readAct_86 rfl rfl ?_
            refine h_iast C K hb_4L hb_4k (xp0.toNatClampNeg) (rfl) (ix_0 rxp0 (by decide)) (ix_lt rxp0 (by decide) hb_4n (by decide)) dX0_readAct_87 (fun I_64 hI_64 => ?_)
            have hU_65 := iv_row W9 hUI_55 (uv_put hUI_55.1 hI_64 (ro_a hb_4k (by decide) hb_4o hkx rfl) (lo := (-2147483648)) (hi := 2147483647) (rfl) (rg_all _)) hI_64 (ro_a hb_4k (by decide) hb_4o hkx rfl) hb_4o (by decide) (fq_at hFI_55 hLx hkx (by decide) (by decide) hxp0) rfl
            have hF_66 := fq_puta hF_58 hI_64 (ro_a hb_4k (by decide) hb_4o hkx rfl) (by decide) (by decide)
            have hs_67 : TBq I_64 J_56 a1 b_5 b_6 b_7 = s_8 := by rw [hI_64]; exact (bq_oI wbqa1 (ro_a hb_4k (by decide) hb_4o hkx rfl) (by decide)).trans hs_62
            have hs_68 : KPq I_64 J_56 x b_3 = s_9 := by rw [hI_64]; exact (yq_oI wyqx (ro_a hb_4k (by decide) hb_4o hkx rfl) (by decide)).trans hs_63
            have hs_69 : TPq I_64 J_56 a0 b_10 b_11 b_12 b_13 b_14 = s_61 := by rw [hI_64]; exact (tq_oI wtqa0 (ro_a hb_4k (by decide) hb_4o hkx rfl) (by decide)).trans hs_61
            refine g_iload_n C 2 dX0_readAct_88 rfl rfl ?_
            refine g_bipush C (v := 10) dX0_readAct_89 (by decide) ?_
            refine g_icmp_eq C (tgt := 100) dX0_readAct_91 (by decide) (fun h_70 => ?_) (fun h_70 => ?_)
            · skip
              have r_71 := (⟨(r_52).1, (eq_rg (h_70) rc_10).2⟩ : Rg 10 10 x_16)
              refine g_aload_n C 3 dX0_readAct_100 rfl rfl ?_
              refine g_getR C K hLx hkx f_0_18 hb_2 dX0_readAct_101 ?_
              refine g_aload_n C 3 dX0_readAct_104 rfl rfl ?_
              refine g_getI C K hLx hkx f_0_24 (v := xp0) (kp_k (κ := κ) hI_64 (by rw [hkx, hb_4k]; decide) (fq_at hFI_55 hLx hkx (by decide) (by decide) hxp0)) dX0_readAct_105 ?_
              refine g_aload_n C 4 dX0_readAct_108 rfl rfl ?_
              refine g_aload_n C 5 dX0_readAct_109 rfl rfl ?_
              refine g_aload_n C 4 dX0_readAct_110 rfl rfl ?_
              obtain ⟨y_72, hy_72⟩ : ∃ z, J_56 a0 10 = z := ⟨_, rfl⟩
              have f_73 : s_61.value = y_72 := (congrArg TP_.value hs_69).symm.trans hy_72
              refine g_getJ C K hLa0 hka0 f_0_61 (v := y_72) hy_72 dX0_readAct_111 ?_
              refine g_callVI C K (c_X8_dishNamed W9 hLa1 hka1 y_72  hU_65) hLa1 hka1 (by decide) rfl v_0_80 rfl ⟨rfl, rfl⟩ ⟨Nat.le_of_ble_eq_true rfl, Nat.le_of_ble_eq_true rfl⟩ (Nat.le_of_ble_eq_true rfl) ⟨Nat.le_of_ble_eq_true rfl, Nat.le_of_ble_eq_true rfl⟩ dX0_readAct_114 rfl (st := [.ref a0, .int xp0, .ref b_2]) (fun x_74 I_75 J_76 h_77 => ?_)
              obtain ⟨rfl, rfl, rx_74, fx_74⟩ := h_77
              have c_78 : fDishNamed (y_72) (s_8) = x_74 := by have q := fx_74; simp only [ebqa1, hs_67] at q; exact q.symm
              refine g_callVI C K (c_X10_takeName W9 hLa0 hka0 x_74 (rg_w rx_74 (by decide) (by decide)) hU_65) hLa0 hka0 (by decide) rfl v_0_83 rfl ⟨rfl, rfl⟩ ⟨Nat.le_of_ble_eq_true rfl, Nat.le_of_ble_eq_true rfl⟩ (Nat.le_of_ble_eq_true rfl) ⟨Nat.le_of_ble_eq_true rfl, Nat.le_of_ble_eq_true rfl⟩ dX0_readAct_117 rfl (st := [.int xp0, .ref b_2]) (fun x_79 I_80 J_81 h_82 => ?_)
              obtain ⟨hUI_80, hFI_80, hGJ_81, rx_79, fx_79, ex_79⟩ := h_82
              have hF_83 := fq_tr hF_66 hFI_80 (by decide)
              have hG_84 := fq_tr hG_59 hGJ_81 (by decide)
              obtain ⟨s_86, hs_86⟩ : ∃ z, TPq I_80 J_81 a0 b_10 b_11 b_12 b_13 b_14 = z := ⟨_, rfl⟩
              have c_85 : fTakeName (x_74) (s_61) = (x_79, s_86) := by have q := fx_79; simp only [etqa0, hs_69, hs_86] at q; exact q.symm
              have hs_87 : TBq I_80 J_81 a1 b_5 b_6 b_7 = s_8 := (bq_fq wbqa1 hFI_80 hGJ_81 (by decide) (by decide)).trans hs_67
              have hs_88 : KPq I_80 J_81 x b_3 = s_9 := (yq_fq wyqx hFI_80 hGJ_81 (by decide) (by decide)).trans hs_68
              have r_89 : Rg (-1) 5 x_79 := rg_or ex_79 (rx_74) (by decide) (by decide)
              refine h_iast C K hb_2L hb_2k (xp0.toNatClampNeg) (rfl) (ix_0 rxp0 (by decide)) (ix_lt rxp0 (by decide) hb_2n (by decide)) dX0_readAct_120 (fun I_90 hI_90 => ?_)
              have hU_91 := iv_row W9 hUI_80 (uv_put hUI_80.1 hI_90 (ro_a hb_2k (by decide) hb_2o hkx rfl) (lo := (-1)) (hi := 5) (rfl) (r_89)) hI_90 (ro_a hb_2k (by decide) hb_2o hkx rfl) hb_2o (by decide) (fq_at hFI_80 hLx hkx (by decide) (by decide) (kp_k (κ := κ) hI_64 (by rw [hkx, hb_4k]; decide) (fq_at hFI_55 hLx hkx (by decide) (by decide) hxp0))) rfl
              have hF_92 := fq_puta hF_83 hI_90 (ro_a hb_2k (by decide) hb_2o hkx rfl) (by decide) (by decide)
              have hs_93 : TBq I_90 J_81 a1 b_5 b_6 b_7 = s_8 := by rw [hI_90]; exact (bq_oI wbqa1 (ro_a hb_2k (by decide) hb_2o hkx rfl) (by decide)).trans hs_87
              have hs_94 : KPq I_90 J_81 x b_3 = s_9 := by rw [hI_90]; exact (yq_oI wyqx (ro_a hb_2k (by decide) hb_2o hkx rfl) (by decide)).trans hs_88
              have hs_95 : TPq I_90 J_81 a0 b_10 b_11 b_12 b_13 b_14 = s_86 := by rw [hI_90]; exact (tq_oI wtqa0 (ro_a hb_2k (by decide) hb_2o hkx rfl) (by decide)).trans hs_86
              refine g_aload_n C 3 dX0_readAct_121 rfl rfl ?_
              refine g_getR C K hLx hkx f_0_18 hb_2 dX0_readAct_122 ?_
              refine g_aload_n C 3 dX0_readAct_125 rfl rfl ?_
              refine g_getI C K hLx hkx f_0_24 (v := xp0) (kp_k (κ := κ) hI_90 (by rw [hkx, hb_2k]; decide) (fq_at hFI_80 hLx hkx (by decide) (by decide) (kp_k (κ := κ) hI_64 (by rw [hkx, hb_4k]; decide) (fq_at hFI_55 hLx hkx (by decide) (by decide) hxp0)))) dX0_readAct_126 ?_
              refine h_iald C K hb_2L hb_2k (v := x_79) (xp0.toNatClampNeg) (rfl) (ix_0 rxp0 (by decide)) (ix_lt rxp0 (by decide) hb_2n (by decide)) (kp_s hI_90) dX0_readAct_129 ?_
              refine g_iconst C (v := (-1)) dX0_readAct_130 (by decide) ?_
              refine g_icmp_ne C (tgt := 136) dX0_readAct_131 (by decide) (fun h_97 => ?_) (fun h_97 => ?_)
              · skip
                have n_98 : ¬ x_79 = (-1) := h_97
                have r_99 := ne_lo (lo := 0) n_98 r_89 rc_m1 rfl (by decide)
                have r_100 := eq_rg (Eq.symm (Or.resolve_left ex_79 (rg_nek r_99 rc_m1 (by decide)))) r_99
                refine g_iload_n C 2 dX0_readAct_136 rfl rfl ?_
                refine g_callSI C K (c_X0_mostOf W9 x_16 (rg_w r_71 (by decide) (by decide)) hU_91) s_0_87 rfl ⟨rfl, rfl⟩ ⟨Nat.le_of_ble_eq_true rfl, Nat.le_of_ble_eq_true rfl⟩ (Nat.le_of_ble_eq_true rfl) ⟨Nat.le_of_ble_eq_true rfl, Nat.le_of_ble_eq_true rfl⟩ dX0_readAct_137 rfl (st := []) (fun x_101 I_102 J_103 h_104 => ?_)
                obtain ⟨rfl, rfl, rx_101, fx_101⟩ := h_104
                have c_105 : fMost (x_16) = x_101 := fx_101.symm
                refine g_istore C dX0_readAct_140 (by decide) (lo2 := [(6, .int x_101), (5, .int 1), (4, .int 0), (3, .int x_16), (0, .ref x), (1, .ref a0), (2, .ref a1)]) rfl ?_
                refine g_iload C 0 dX0_readAct_142 rfl ?_
                refine g_if_ne C (tgt := 149) dX0_readAct_144 (by decide) (fun h_106 => ?_) (fun h_106 => ?_)
                · skip
                  have n_107 : ¬ x_101 = 0 := h_106
                  have r_108 := ne_lo (lo := 1) n_107 rx_101 rc_0 rfl (by decide)
                  refine g_aload_n C 4 dX0_readAct_149 rfl rfl ?_
                  refine g_getR C K hLx hkx f_0_21 hb_1 dX0_readAct_150 ?_
                  refine g_aload_n C 4 dX0_readAct_153 rfl rfl ?_
                  refine g_getI C K hLx hkx f_0_24 (v := xp0) (kp_k (κ := κ) hI_90 (by rw [hkx, hb_2k]; decide) (fq_at hFI_80 hLx hkx (by decide) (by decide) (kp_k (κ := κ) hI_64 (by rw [hkx, hb_4k]; decide) (fq_at hFI_55 hLx hkx (by decide) (by decide) hxp0)))) dX0_readAct_154 ?_
                  refine g_aload_n C 5 dX0_readAct_157 rfl rfl ?_
                  refine g_iconst C (v := 1) dX0_readAct_158 (by decide) ?_
                  refine g_iload C 0 dX0_readAct_159 rfl ?_
                  refine g_callVI C K (c_X10_takeNumber W9 hLa0 hka0 1 x_101 (rg_w rc_1 (by decide) (by decide)) (rg_w r_108 (by decide) (by decide)) hU_91) hLa0 hka0 (by decide) rfl v_0_90 rfl ⟨rfl, rfl⟩ ⟨Nat.le_of_ble_eq_true rfl, Nat.le_of_ble_eq_true rfl⟩ (Nat.le_of_ble_eq_true rfl) ⟨Nat.le_of_ble_eq_true rfl, Nat.le_of_ble_eq_true rfl⟩ dX0_readAct_161 rfl (st := [.int xp0, .ref b_1]) (fun x_109 I_110 J_111 h_112 => ?_)
                  obtain ⟨hUI_110, hFI_110, hGJ_111, rx_109, fx_109⟩ := h_112
                  have hF_113 := fq_tr hF_92 hFI_110 (by decide)
                  have hG_114 := fq_tr hG_84 hGJ_111 (by decide)
                  obtain ⟨s_116, hs_116⟩ : ∃ z, TPq I_110 J_111 a0 b_10 b_11 b_12 b_13 b_14 = z := ⟨_, rfl⟩
                  have c_115 : fTakeNumber (1) (x_101) (s_86) = (x_109, s_116) := by have q := fx_109; simp only [etqa0, hs_95, hs_116] at q; exact q.symm
                  have hs_117 : TBq I_110 J_111 a1 b_5 b_6 b_7 = s_8 := (bq_fq wbqa1 hFI_110 hGJ_111 (by decide) (by decide)).trans hs_93
                  have hs_118 : KPq I_110 J_111 x b_3 = s_9 := (yq_fq wyqx hFI_110 hGJ_111 (by decide) (by decide)).trans hs_94
                  refine h_iast C K hb_1L hb_1k (xp0.toNatClampNeg) (rfl) (ix_0 rxp0 (by decide)) (ix_lt rxp0 (by decide) hb_1n (by decide)) dX0_readAct_164 (fun I_119 hI_119 => ?_)
                  have hU_120 := iv_put W9 hUI_110 hI_119 (ro_a hb_1k (by decide) hb_1o hkx rfl) (lo := (-2147483648)) (hi := 2147483647) (rfl) (rx_109) rfl
                  have hF_121 := fq_puta hF_113 hI_119 (ro_a hb_1k (by decide) hb_1o hkx rfl) (by decide) (by decide)
                  have hs_122 : TBq I_119 J_111 a1 b_5 b_6 b_7 = s_8 := by rw [hI_119]; exact (bq_oI wbqa1 (ro_a hb_1k (by decide) hb_1o hkx rfl) (by decide)).trans hs_117
                  have hs_123 : KPq I_119 J_111 x b_3 = s_9 := by rw [hI_119]; exact (yq_oI wyqx (ro_a hb_1k (by decide) hb_1o hkx rfl) (by decide)).trans hs_118
                  have hs_124 : TPq I_119 J_111 a0 b_10 b_11 b_12 b_13 b_14 = s_116 := by rw [hI_119]; exact (tq_oI wtqa0 (ro_a hb_1k (by decide) hb_1o hkx rfl) (by decide)).trans hs_116
                  refine g_aload_n C 4 dX0_readAct_165 rfl rfl ?_
                  refine g_getR C K hLx hkx f_0_21 hb_1 dX0_readAct_166 ?_
                  refine g_aload_n C 4 dX0_readAct_169 rfl rfl ?_
                  have q_125 := (kp_k (κ := κ) hI_119 (by rw [hkx, hb_1k]; decide) (fq_at hFI_110 hLx hkx (by decide) (by decide) (kp_k (κ := κ) hI_90 (by rw [hkx, hb_2k]; decide) (fq_at hFI_80 hLx hkx (by decide) (by decide) (kp_k (κ := κ) hI_64 (by rw [hkx, hb_4k]; decide) (fq_at hFI_55 hLx hkx (by decide) (by decide) hxp0))))))
                  refine g_getI C K hLx hkx f_0_24 (v := xp0) q_125 dX0_readAct_170 ?_
                  refine h_iald C K hb_1L hb_1k (v := x_109) (xp0.toNatClampNeg) (rfl) (ix_0 rxp0 (by decide)) (ix_lt rxp0 (by decide) hb_1n (by decide)) (kp_s hI_119) dX0_readAct_173 ?_
                  refine g_iconst C (v := (-1)) dX0_readAct_174 (by decide) ?_
                  refine g_icmp_eq C (tgt := 182) dX0_readAct_175 (by decide) (fun h_127 => ?_) (fun h_127 => ?_)
                  · skip
                    have r_128 := (⟨(eq_rg (h_127) rc_m1).1, (eq_rg (h_127) rc_m1).2⟩ : Rg (-1) (-1) x_109)
                    refine g_iconst C (v := 0) dX0_readAct_182 (by decide) ?_
                    exact g_zret (ty := .boolean) (r := 0) B K rfl (rfl) ⟨hU_120, hF_121, hG_114, rg_w rc_0 (by decide) (by decide), (by simp only [fReadAct, fAct2, fAct3, fAct4, ebqa1, hs_122, hs_8, eyqx, hs_123, hs_9, etqa0, hs_124, hs_15, hx_16, f_17, f_18, hx_19, f_20, h_21, (eq_true h_24), h_25, (nlt h_25), h_39, (nlt h_39), h_53, c_60, (eq_true h_70), hy_72, f_73, c_78, c_85, h_97, c_105, h_106, c_115, (eq_true h_127), if_true, if_false, bqM_pnm, bqM_par, bqM_dnm, bqM_persons, bqM_dishes, bqM_law, bqM_dogs, TB_.w_pnm, TB_.w_par, TB_.w_dnm, TB_.w_persons, TB_.w_dishes, TB_.w_law, TB_.w_dogs, yqM_bw, yqM_bl, KP_.w_bw, KP_.w_bl, tqM_by_, tqM_wd, tqM_tk, tqM_pl, tqM_vl, tqM_len, tqM_n, tqM_at_, tqM_token, tqM_place, tqM_value, tqM_fault, tqM_fat, TP_.w_by_, TP_.w_wd, TP_.w_tk, TP_.w_pl, TP_.w_vl, TP_.w_len, TP_.w_n, TP_.w_at_, TP_.w_token, TP_.w_place, TP_.w_value, TP_.w_fault, TP_.w_fat]), (fun q => absurd rfl q)⟩ dX0_readAct_183
                  · skip
                    have n_129 : ¬ x_109 = (-1) := h_127
                    refine g_iconst C (v := 1) dX0_readAct_178 (by decide) ?_
                    refine g_goto C (tgt := 183) dX0_readAct_179 (by decide) ?_
                    have q_130 := (kp_r hI_119 (ro_a hb_3k (by decide) hb_3o hkx rfl) (ro_a hb_1k (by decide) hb_1o hkx rfl) (by decide) (fq_ar hFI_110 hb_3L (ro_a hb_3k (by decide) hb_3o hkx rfl) (by decide) (by decide) (kp_r hI_90 (ro_a hb_3k (by decide) hb_3o hkx rfl) (ro_a hb_2k (by decide) hb_2o hkx rfl) (by decide) (fq_ar hFI_80 hb_3L (ro_a hb_3k (by decide) hb_3o hkx rfl) (by decide) (by decide) (kp_r hI_64 (ro_a hb_3k (by decide) hb_3o hkx rfl) (ro_a hb_4k (by decide) hb_4o hkx rfl) (by decide) (fq_ar hFI_55 hb_3L (ro_a hb_3k (by decide) hb_3o hkx rfl) (by decide) (by decide) hx_19))))))
                    have q_131 := (kp_r hI_119 (ro_a hb_2k (by decide) hb_2o hkx rfl) (ro_a hb_1k (by decide) hb_1o hkx rfl) (by decide) (fq_ar hFI_110 hb_2L (ro_a hb_2k (by decide) hb_2o hkx rfl) (by decide) (by decide) (kp_s hI_90)))
                    exact g_zret (ty := .boolean) (r := 1) B K rfl (rfl) ⟨hU_120, hF_121, hG_114, rg_w rc_1 (by decide) (by decide), (by simp only [fReadAct, fAct2, fAct3, fAct4, ebqa1, hs_122, hs_8, eyqx, hs_123, hs_9, etqa0, hs_124, hs_15, hx_16, f_17, f_18, hx_19, f_20, h_21, (eq_true h_24), h_25, (nlt h_25), h_39, (nlt h_39), h_53, c_60, (eq_true h_70), hy_72, f_73, c_78, c_85, h_97, c_105, h_106, c_115, h_127, if_true, if_false, bqM_pnm, bqM_par, bqM_dnm, bqM_persons, bqM_dishes, bqM_law, bqM_dogs, TB_.w_pnm, TB_.w_par, TB_.w_dnm, TB_.w_persons, TB_.w_dishes, TB_.w_law, TB_.w_dogs, yqM_bw, yqM_bl, KP_.w_bw, KP_.w_bl, tqM_by_, tqM_wd, tqM_tk, tqM_pl, tqM_vl, tqM_len, tqM_n, tqM_at_, tqM_token, tqM_place, tqM_value, tqM_fault, tqM_fat, TP_.w_by_, TP_.w_wd, TP_.w_tk, TP_.w_pl, TP_.w_vl, TP_.w_len, TP_.w_n, TP_.w_at_, TP_.w_token, TP_.w_place, TP_.w_value, TP_.w_fault, TP_.w_fat]), (fun _ => bk_m2 q_125 hb_3 hb_2 q_130 (r_23) q_131 (r_99))⟩ dX0_readAct_183
                · skip
                  have r_132 := (⟨(rx_101).1, (eq_rg (h_106) rc_0).2⟩ : Rg 0 0 x_101)
                  refine g_iconst C (v := 1) dX0_readAct_147 (by decide) ?_
                  have q_133 := (kp_r hI_90 (ro_a hb_3k (by decide) hb_3o hkx rfl) (ro_a hb_2k (by decide) hb_2o hkx rfl) (by decide) (fq_ar hFI_80 hb_3L (ro_a hb_3k (by decide) hb_3o hkx rfl) (by decide) (by decide) (kp_r hI_64 (ro_a hb_3k (by decide) hb_3o hkx rfl) (ro_a hb_4k (by decide) hb_4o hkx rfl) (by decide) (fq_ar hFI_55 hb_3L (ro_a hb_3k (by decide) hb_3o hkx rfl) (by decide) (by decide) hx_19))))
                  exact g_zret (ty := .boolean) (r := 1) B K rfl (rfl) ⟨hU_91, hF_92, hG_84, rg_w rc_1 (by decide) (by decide), (by simp only [fReadAct, fAct2, fAct3, fAct4, ebqa1, hs_93, hs_8, eyqx, hs_94, hs_9, etqa0, hs_95, hs_15, hx_16, f_17, f_18, hx_19, f_20, h_21, (eq_true h_24), h_25, (nlt h_25), h_39, (nlt h_39), h_53, c_60, (eq_true h_70), hy_72, f_73, c_78, c_85, h_97, c_105, (eq_true h_106), if_true, if_false, bqM_pnm, bqM_par, bqM_dnm, bqM_persons, bqM_dishes, bqM_law, bqM_dogs, TB_.w_pnm, TB_.w_par, TB_.w_dnm, TB_.w_persons, TB_.w_dishes, TB_.w_law, TB_.w_dogs, yqM_bw, yqM_bl, KP_.w_bw, KP_.w_bl, tqM_by_, tqM_wd, tqM_tk, tqM_pl, tqM_vl, tqM_len, tqM_n, tqM_at_, tqM_token, tqM_place, tqM_value, tqM_fault, tqM_fat, TP_.w_by_, TP_.w_wd, TP_.w_tk, TP_.w_pl, TP_.w_vl, TP_.w_len, TP_.w_n, TP_.w_at_, TP_.w_token, TP_.w_place, TP_.w_value, TP_.w_fault, TP_.w_fat]), (fun _ => bk_m2 (kp_k (κ := κ) hI_90 (by rw [hkx, hb_2k]; decide) (fq_at hFI_80 hLx hkx (by decide) (by decide) (kp_k (κ := κ) hI_64 (by rw [hkx, hb_4k]; decide) (fq_at hFI_55 hLx hkx (by decide) (by decide) hxp0)))) hb_3 hb_2 q_133 (r_23) (kp_s hI_90) (r_99))⟩ dX0_readAct_148
              · skip
                have r_134 := (⟨(r_89).1, (eq_rg (h_97) rc_m1).2⟩ : Rg (-1) (-1) x_79)
                refine g_iconst C (v := 0) dX0_readAct_134 (by decide) ?_
                exact g_zret (ty := .boolean) (r := 0) B K rfl (rfl) ⟨hU_91, hF_92, hG_84, rg_w rc_0 (by decide) (by decide), (by simp only [fReadAct, fAct2, fAct3, fAct4, ebqa1, hs_93, hs_8, eyqx, hs_94, hs_9, etqa0, hs_95, hs_15, hx_16, f_17, f_18, hx_19, f_20, h_21, (eq_true h_24), h_25, (nlt h_25), h_39, (nlt h_39), h_53, c_60, (eq_true h_70), hy_72, f_73, c_78, c_85, (eq_true h_97), if_true, if_false, bqM_pnm, bqM_par, bqM_dnm, bqM_persons, bqM_dishes, bqM_law, bqM_dogs, TB_.w_pnm, TB_.w_par, TB_.w_dnm, TB_.w_persons, TB_.w_dishes, TB_.w_law, TB_.w_dogs, yqM_bw, yqM_bl, KP_.w_bw, KP_.w_bl, tqM_by_, tqM_wd, tqM_tk, tqM_pl, tqM_vl, tqM_len, tqM_n, tqM_at_, tqM_token, tqM_place, tqM_value, tqM_fault, tqM_fat, TP_.w_by_, TP_.w_wd, TP_.w_tk, TP_.w_pl, TP_.w_vl, TP_.w_len, TP_.w_n, TP_.w_at_, TP_.w_token, TP_.w_place, TP_.w_value, TP_.w_fault, TP_.w_fat]), (fun q => absurd rfl q)⟩ dX0_readAct_135
            · skip
              have n_135 : ¬ x_16 = 10 := h_70
              have r_136 := ne_lo (lo := 11) n_135 r_52 rc_10 rfl (by decide)
              refine g_iload_n C 2 dX0_readAct_94 rfl rfl ?_
              refine g_bipush C (v := 11) dX0_readAct_95 (by decide) ?_
              refine g_icmp_ne C (tgt := 136) dX0_readAct_97 (by decide) (fun h_137 => ?_) (fun h_137 => ?_)
              · skip
                have n_138 : ¬ x_16 = 11 := h_137
                have r_139 := ne_lo (lo := 12) n_138 r_136 rc_11 rfl (by decide)
                refine g_iload_n C 2 dX0_readAct_136 rfl rfl ?_
                refine g_callSI C K (c_X0_mostOf W9 x_16 (rg_w r_139 (by decide) (by decide)) hU_65) s_0_87 rfl ⟨rfl, rfl⟩ ⟨Nat.le_of_ble_eq_true rfl, Nat.le_of_ble_eq_true rfl⟩ (Nat.le_of_ble_eq_true rfl) ⟨Nat.le_of_ble_eq_true rfl, Nat.le_of_ble_eq_true rfl⟩ dX0_readAct_137 rfl (st := []) (fun x_140 I_141 J_142 h_143 => ?_)
                obtain ⟨rfl, rfl, rx_140, fx_140⟩ := h_143
                have c_144 : fMost (x_16) = x_140 := fx_140.symm
                refine g_istore C dX0_readAct_140 (by decide) (lo2 := [(6, .int x_140), (5, .int 1), (4, .int 0), (3, .int x_16), (0, .ref x), (1, .ref a0), (2, .ref a1)]) rfl ?_
                refine g_iload C 0 dX0_readAct_142 rfl ?_
                refine g_if_ne C (tgt := 149) dX0_readAct_144 (by decide) (fun h_145 => ?_) (fun h_145 => ?_)
                · skip
                  have n_146 : ¬ x_140 = 0 := h_145
                  have r_147 := ne_lo (lo := 1) n_146 rx_140 rc_0 rfl (by decide)
                  refine g_aload_n C 4 dX0_readAct_149 rfl rfl ?_
                  refine g_getR C K hLx hkx f_0_21 hb_1 dX0_readAct_150 ?_
                  refine g_aload_n C 4 dX0_readAct_153 rfl rfl ?_
                  refine g_getI C K hLx hkx f_0_24 (v := xp0) (kp_k (κ := κ) hI_64 (by rw [hkx, hb_4k]; decide) (fq_at hFI_55 hLx hkx (by decide) (by decide) hxp0)) dX0_readAct_154 ?_
                  refine g_aload_n C 5 dX0_readAct_157 rfl rfl ?_
                  refine g_iconst C (v := 1) dX0_readAct_158 (by decide) ?_
                  refine g_iload C 0 dX0_readAct_159 rfl ?_
                  refine g_callVI C K (c_X10_takeNumber W9 hLa0 hka0 1 x_140 (rg_w rc_1 (by decide) (by decide)) (rg_w r_147 (by decide) (by decide)) hU_65) hLa0 hka0 (by decide) rfl v_0_90 rfl ⟨rfl, rfl⟩ ⟨Nat.le_of_ble_eq_true rfl, Nat.le_of_ble_eq_true rfl⟩ (Nat.le_of_ble_eq_true rfl) ⟨Nat.le_of_ble_eq_true rfl, Nat.le_of_ble_eq_true rfl⟩ dX0_readAct_161 rfl (st := [.int xp0, .ref b_1]) (fun x_148 I_149 J_150 h_151 => ?_)
                  obtain ⟨hUI_149, hFI_149, hGJ_150, rx_148, fx_148⟩ := h_151
                  have hF_152 := fq_tr hF_66 hFI_149 (by decide)
                  have hG_153 := fq_tr hG_59 hGJ_150 (by decide)
                  obtain ⟨s_155, hs_155⟩ : ∃ z, TPq I_149 J_150 a0 b_10 b_11 b_12 b_13 b_14 = z := ⟨_, rfl⟩
                  have c_154 : fTakeNumber (1) (x_140) (s_61) = (x_148, s_155) := by have q := fx_148; simp only [etqa0, hs_69, hs_155] at q; exact q.symm
                  have hs_156 : TBq I_149 J_150 a1 b_5 b_6 b_7 = s_8 := (bq_fq wbqa1 hFI_149 hGJ_150 (by decide) (by decide)).trans hs_67
                  have hs_157 : KPq I_149 J_150 x b_3 = s_9 := (yq_fq wyqx hFI_149 hGJ_150 (by decide) (by decide)).trans hs_68
                  refine h_iast C K hb_1L hb_1k (xp0.toNatClampNeg) (rfl) (ix_0 rxp0 (by decide)) (ix_lt rxp0 (by decide) hb_1n (by decide)) dX0_readAct_164 (fun I_158 hI_158 => ?_)
                  have hU_159 := iv_put W9 hUI_149 hI_158 (ro_a hb_1k (by decide) hb_1o hkx rfl) (lo := (-2147483648)) (hi := 2147483647) (rfl) (rx_148) rfl
                  have hF_160 := fq_puta hF_152 hI_158 (ro_a hb_1k (by decide) hb_1o hkx rfl) (by decide) (by decide)
                  have hs_161 : TBq I_158 J_150 a1 b_5 b_6 b_7 = s_8 := by rw [hI_158]; exact (bq_oI wbqa1 (ro_a hb_1k (by decide) hb_1o hkx rfl) (by decide)).trans hs_156
                  have hs_162 : KPq I_158 J_150 x b_3 = s_9 := by rw [hI_158]; exact (yq_oI wyqx (ro_a hb_1k (by decide) hb_1o hkx rfl) (by decide)).trans hs_157
                  have hs_163 : TPq I_158 J_150 a0 b_10 b_11 b_12 b_13 b_14 = s_155 := by rw [hI_158]; exact (tq_oI wtqa0 (ro_a hb_1k (by decide) hb_1o hkx rfl) (by decide)).trans hs_155
                  refine g_aload_n C 4 dX0_readAct_165 rfl rfl ?_
                  refine g_getR C K hLx hkx f_0_21 hb_1 dX0_readAct_166 ?_
                  refine g_aload_n C 4 dX0_readAct_169 rfl rfl ?_
                  have q_164 := (kp_k (κ := κ) hI_158 (by rw [hkx, hb_1k]; decide) (fq_at hFI_149 hLx hkx (by decide) (by decide) (kp_k (κ := κ) hI_64 (by rw [hkx, hb_4k]; decide) (fq_at hFI_55 hLx hkx (by decide) (by decide) hxp0))))
                  refine g_getI C K hLx hkx f_0_24 (v := xp0) q_164 dX0_readAct_170 ?_
                  refine h_iald C K hb_1L hb_1k (v := x_148) (xp0.toNatClampNeg) (rfl) (ix_0 rxp0 (by decide)) (ix_lt rxp0 (by decide) hb_1n (by decide)) (kp_s hI_158) dX0_readAct_173 ?_
                  refine g_iconst C (v := (-1)) dX0_readAct_174 (by decide) ?_
                  refine g_icmp_eq C (tgt := 182) dX0_readAct_175 (by decide) (fun h_166 => ?_) (fun h_166 => ?_)
                  · skip
                    have r_167 := (⟨(eq_rg (h_166) rc_m1).1, (eq_rg (h_166) rc_m1).2⟩ : Rg (-1) (-1) x_148)
                    refine g_iconst C (v := 0) dX0_readAct_182 (by decide) ?_
                    exact g_zret (ty := .boolean) (r := 0) B K rfl (rfl) ⟨hU_159, hF_160, hG_153, rg_w rc_0 (by decide) (by decide), (by simp only [fReadAct, fAct2, fAct3, fAct4, ebqa1, hs_161, hs_8, eyqx, hs_162, hs_9, etqa0, hs_163, hs_15, hx_16, f_17, f_18, hx_19, f_20, h_21, (eq_true h_24), h_25, (nlt h_25), h_39, (nlt h_39), h_53, c_60, h_70, h_137, c_144, h_145, c_154, (eq_true h_166), if_true, if_false, bqM_pnm, bqM_par, bqM_dnm, bqM_persons, bqM_dishes, bqM_law, bqM_dogs, TB_.w_pnm, TB_.w_par, TB_.w_dnm, TB_.w_persons, TB_.w_dishes, TB_.w_law, TB_.w_dogs, yqM_bw, yqM_bl, KP_.w_bw, KP_.w_bl, tqM_by_, tqM_wd, tqM_tk, tqM_pl, tqM_vl, tqM_len, tqM_n, tqM_at_, tqM_token, tqM_place, tqM_value, tqM_fault, tqM_fat, TP_.w_by_, TP_.w_wd, TP_.w_tk, TP_.w_pl, TP_.w_vl, TP_.w_len, TP_.w_n, TP_.w_at_, TP_.w_token, TP_.w_place, TP_.w_value, TP_.w_fault, TP_.w_fat]), (fun q => absurd rfl q)⟩ dX0_readAct_183
                  · skip
                    have n_168 : ¬ x_148 = (-1) := h_166
                    refine g_iconst C (v := 1) dX0_readAct_178 (by decide) ?_
                    refine g_goto C (tgt := 183) dX0_readAct_179 (by decide) ?_
                    have q_169 := (kp_r hI_158 (ro_a hb_3k (by decide) hb_3o hkx rfl) (ro_a hb_1k (by decide) hb_1o hkx rfl) (by decide) (fq_ar hFI_149 hb_3L (ro_a hb_3k (by decide) hb_3o hkx rfl) (by decide) (by decide) (kp_r hI_64 (ro_a hb_3k (by decide) hb_3o hkx rfl) (ro_a hb_4k (by decide) hb_4o hkx rfl) (by decide) (fq_ar hFI_55 hb_3L (ro_a hb_3k (by decide) hb_3o hkx rfl) (by decide) (by decide) hx_19))))
                    have q_170 := (kp_r hI_158 (ro_a hb_4k (by decide) hb_4o hkx rfl) (ro_a hb_1k (by decide) hb_1o hkx rfl) (by decide) (fq_ar hFI_149 hb_4L (ro_a hb_4k (by decide) hb_4o hkx rfl) (by decide) (by decide) (kp_s hI_64)))
                    exact g_zret (ty := .boolean) (r := 1) B K rfl (rfl) ⟨hU_159, hF_160, hG_153, rg_w rc_1 (by decide) (by decide), (by simp only [fReadAct, fAct2, fAct3, fAct4, ebqa1, hs_161, hs_8, eyqx, hs_162, hs_9, etqa0, hs_163, hs_15, hx_16, f_17, f_18, hx_19, f_20, h_21, (eq_true h_24), h_25, (nlt h_25), h_39, (nlt h_39), h_53, c_60, h_70, h_137, c_144, h_145, c_154, h_166, if_true, if_false, bqM_pnm, bqM_par, bqM_dnm, bqM_persons, bqM_dishes, bqM_law, bqM_dogs, TB_.w_pnm, TB_.w_par, TB_.w_dnm, TB_.w_persons, TB_.w_dishes, TB_.w_law, TB_.w_dogs, yqM_bw, yqM_bl, KP_.w_bw, KP_.w_bl, tqM_by_, tqM_wd, tqM_tk, tqM_pl, tqM_vl, tqM_len, tqM_n, tqM_at_, tqM_token, tqM_place, tqM_value, tqM_fault, tqM_fat, TP_.w_by_, TP_.w_wd, TP_.w_tk, TP_.w_pl, TP_.w_vl, TP_.w_len, TP_.w_n, TP_.w_at_, TP_.w_token, TP_.w_place, TP_.w_value, TP_.w_fault, TP_.w_fat]), (fun _ => bk_m3 q_164 hb_4 hb_3 q_169 (r_23) q_170 r_139 (by decide))⟩ dX0_readAct_183
                · skip
                  have r_171 := (⟨(rx_140).1, (eq_rg (h_145) rc_0).2⟩ : Rg 0 0 x_140)
                  refine g_iconst C (v := 1) dX0_readAct_147 (by decide) ?_
                  exact g_zret (ty := .boolean) (r := 1) B K rfl (rfl) ⟨hU_65, hF_66, hG_59, rg_w rc_1 (by decide) (by decide), (by simp only [fReadAct, fAct2, fAct3, fAct4, ebqa1, hs_67, hs_8, eyqx, hs_68, hs_9, etqa0, hs_69, hs_15, hx_16, f_17, f_18, hx_19, f_20, h_21, (eq_true h_24), h_25, (nlt h_25), h_39, (nlt h_39), h_53, c_60, h_70, h_137, c_144, (eq_true h_145), if_true, if_false, bqM_pnm, bqM_par, bqM_dnm, bqM_persons, bqM_dishes, bqM_law, bqM_dogs, TB_.w_pnm, TB_.w_par, TB_.w_dnm, TB_.w_persons, TB_.w_dishes, TB_.w_law, TB_.w_dogs, yqM_bw, yqM_bl, KP_.w_bw, KP_.w_bl, tqM_by_, tqM_wd, tqM_tk, tqM_pl, tqM_vl, tqM_len, tqM_n, tqM_at_, tqM_token, tqM_place, tqM_value, tqM_fault, tqM_fat, TP_.w_by_, TP_.w_wd, TP_.w_tk, TP_.w_pl, TP_.w_vl, TP_.w_len, TP_.w_n, TP_.w_at_, TP_.w_token, TP_.w_place, TP_.w_value, TP_.w_fault, TP_.w_fat]), (fun _ => bk_m3 (kp_k (κ := κ) hI_64 (by rw [hkx, hb_4k]; decide) (fq_at hFI_55 hLx hkx (by decide) (by decide) hxp0)) hb_4 hb_3 (kp_r hI_64 (ro_a hb_3k (by decide) hb_3o hkx rfl) (ro_a hb_4k (by decide) hb_4o hkx rfl) (by decide) (fq_ar hFI_55 hb_3L (ro_a hb_3k (by decide) hb_3o hkx rfl) (by decide) (by decide) hx_19)) (r_23) (kp_s hI_64) r_139 (by decide))⟩ dX0_readAct_148
              · skip
                have r_172 := (⟨(r_136).1, (eq_rg (h_137) rc_11).2⟩ : Rg 11 11 x_16)
                refine g_aload_n C 3 dX0_readAct_100 rfl rfl ?_
                refine g_getR C K hLx hkx f_0_18 hb_2 dX0_readAct_101 ?_
                refine g_aload_n C 3 dX0_readAct_104 rfl rfl ?_
                refine g_getI C K hLx hkx f_0_24 (v := xp0) (kp_k (κ := κ) hI_64 (by rw [hkx, hb_4k]; decide) (fq_at hFI_55 hLx hkx (by decide) (by decide) hxp0)) dX0_readAct_105 ?_
                refine g_aload_n C 4 dX0_readAct_108 rfl rfl ?_
                refine g_aload_n C 5 dX0_readAct_109 rfl rfl ?_
                refine g_aload_n C 4 dX0_readAct_110 rfl rfl ?_
                obtain ⟨y_173, hy_173⟩ : ∃ z, J_56 a0 10 = z := ⟨_, rfl⟩
                have f_174 : s_61.value = y_173 := (congrArg TP_.value hs_69).symm.trans hy_173
                refine g_getJ C K hLa0 hka0 f_0_61 (v := y_173) hy_173 dX0_readAct_111 ?_
                refine g_callVI C K (c_X8_dishNamed W9 hLa1 hka1 y_173  hU_65) hLa1 hka1 (by decide) rfl v_0_80 rfl ⟨rfl, rfl⟩ ⟨Nat.le_of_ble_eq_true rfl, Nat.le_of_ble_eq_true rfl⟩ (Nat.le_of_ble_eq_true rfl) ⟨Nat.le_of_ble_eq_true rfl, Nat.le_of_ble_eq_true rfl⟩ dX0_readAct_114 rfl (st := [.ref a0, .int xp0, .ref b_2]) (fun x_175 I_176 J_177 h_178 => ?_)
                obtain ⟨rfl, rfl, rx_175, fx_175⟩ := h_178
                have c_179 : fDishNamed (y_173) (s_8) = x_175 := by have q := fx_175; simp only [ebqa1, hs_67] at q; exact q.symm
                refine g_callVI C K (c_X10_takeName W9 hLa0 hka0 x_175 (rg_w rx_175 (by decide) (by decide)) hU_65) hLa0 hka0 (by decide) rfl v_0_83 rfl ⟨rfl, rfl⟩ ⟨Nat.le_of_ble_eq_true rfl, Nat.le_of_ble_eq_true rfl⟩ (Nat.le_of_ble_eq_true rfl) ⟨Nat.le_of_ble_eq_true rfl, Nat.le_of_ble_eq_true rfl⟩ dX0_readAct_117 rfl (st := [.int xp0, .ref b_2]) (fun x_180 I_181 J_182 h_183 => ?_)
                obtain ⟨hUI_181, hFI_181, hGJ_182, rx_180, fx_180, ex_180⟩ := h_183
                have hF_184 := fq_tr hF_66 hFI_181 (by decide)
                have hG_185 := fq_tr hG_59 hGJ_182 (by decide)
                obtain ⟨s_187, hs_187⟩ : ∃ z, TPq I_181 J_182 a0 b_10 b_11 b_12 b_13 b_14 = z := ⟨_, rfl⟩
                have c_186 : fTakeName (x_175) (s_61) = (x_180, s_187) := by have q := fx_180; simp only [etqa0, hs_69, hs_187] at q; exact q.symm
                have hs_188 : TBq I_181 J_182 a1 b_5 b_6 b_7 = s_8 := (bq_fq wbqa1 hFI_181 hGJ_182 (by decide) (by decide)).trans hs_67
                have hs_189 : KPq I_181 J_182 x b_3 = s_9 := (yq_fq wyqx hFI_181 hGJ_182 (by decide) (by decide)).trans hs_68
                have r_190 : Rg (-1) 5 x_180 := rg_or ex_180 (rx_175) (by decide) (by decide)
                refine h_iast C K hb_2L hb_2k (xp0.toNatClampNeg) (rfl) (ix_0 rxp0 (by decide)) (ix_lt rxp0 (by decide) hb_2n (by decide)) dX0_readAct_120 (fun I_191 hI_191 => ?_)
                have hU_192 := iv_row W9 hUI_181 (uv_put hUI_181.1 hI_191 (ro_a hb_2k (by decide) hb_2o hkx rfl) (lo := (-1)) (hi := 5) (rfl) (r_190)) hI_191 (ro_a hb_2k (by decide) hb_2o hkx rfl) hb_2o (by decide) (fq_at hFI_181 hLx hkx (by decide) (by decide) (kp_k (κ := κ) hI_64 (by rw [hkx, hb_4k]; decide) (fq_at hFI_55 hLx hkx (by decide) (by decide) hxp0))) rfl
                have hF_193 := fq_puta hF_184 hI_191 (ro_a hb_2k (by decide) hb_2o hkx rfl) (by decide) (by decide)
                have hs_194 : TBq I_191 J_182 a1 b_5 b_6 b_7 = s_8 := by rw [hI_191]; exact (bq_oI wbqa1 (ro_a hb_2k (by decide) hb_2o hkx rfl) (by decide)).trans hs_188
                have hs_195 : KPq I_191 J_182 x b_3 = s_9 := by rw [hI_191]; exact (yq_oI wyqx (ro_a hb_2k (by decide) hb_2o hkx rfl) (by decide)).trans hs_189
                have hs_196 : TPq I_191 J_182 a0 b_10 b_11 b_12 b_13 b_14 = s_187 := by rw [hI_191]; exact (tq_oI wtqa0 (ro_a hb_2k (by decide) hb_2o hkx rfl) (by decide)).trans hs_187
                refine g_aload_n C 3 dX0_readAct_121 rfl rfl ?_
                refine g_getR C K hLx hkx f_0_18 hb_2 dX0_readAct_122 ?_
                refine g_aload_n C 3 dX0_readAct_125 rfl rfl ?_
                have q_197 := (kp_k (κ := κ) hI_191 (by rw [hkx, hb_2k]; decide) (fq_at hFI_181 hLx hkx (by decide) (by decide) (kp_k (κ := κ) hI_64 (by rw [hkx, hb_4k]; decide) (fq_at hFI_55 hLx hkx (by decide) (by decide) hxp0))))
                refine g_getI C K hLx hkx f_0_24 (v := xp0) q_197 dX0_readAct_126 ?_
                refine h_iald C K hb_2L hb_2k (v := x_180) (xp0.toNatClampNeg) (rfl) (ix_0 rxp0 (by decide)) (ix_lt rxp0 (by decide) hb_2n (by decide)) (kp_s hI_191) dX0_readAct_129 ?_
                refine g_iconst C (v := (-1)) dX0_readAct_130 (by decide) ?_
                refine g_icmp_ne C (tgt := 136) dX0_readAct_131 (by decide) (fun h_199 => ?_) (fun h_199 => ?_)
                · skip
                  have n_200 : ¬ x_180 = (-1) := h_199
                  have r_201 := ne_lo (lo := 0) n_200 r_190 rc_m1 rfl (by decide)
                  have r_202 := eq_rg (Eq.symm (Or.resolve_left ex_180 (rg_nek r_201 rc_m1 (by decide)))) r_201
                  refine g_iload_n C 2 dX0_readAct_136 rfl rfl ?_
                  refine g_callSI C K (c_X0_mostOf W9 x_16 (rg_w r_172 (by decide) (by decide)) hU_192) s_0_87 rfl ⟨rfl, rfl⟩ ⟨Nat.le_of_ble_eq_true rfl, Nat.le_of_ble_eq_true rfl⟩ (Nat.le_of_ble_eq_true rfl) ⟨Nat.le_of_ble_eq_true rfl, Nat.le_of_ble_eq_true rfl⟩ dX0_readAct_137 rfl (st := []) (fun x_203 I_204 J_205 h_206 => ?_)
                  obtain ⟨rfl, rfl, rx_203, fx_203⟩ := h_206
                  have c_207 : fMost (x_16) = x_203 := fx_203.symm
                  refine g_istore C dX0_readAct_140 (by decide) (lo2 := [(6, .int x_203), (5, .int 1), (4, .int 0), (3, .int x_16), (0, .ref x), (1, .ref a0), (2, .ref a1)]) rfl ?_
                  refine g_iload C 0 dX0_readAct_142 rfl ?_
                  refine g_if_ne C (tgt := 149) dX0_readAct_144 (by decide) (fun h_208 => ?_) (fun h_208 => ?_)
                  · skip
                    have n_209 : ¬ x_203 = 0 := h_208
                    have r_210 := ne_lo (lo := 1) n_209 rx_203 rc_0 rfl (by decide)
                    refine g_aload_n C 4 dX0_readAct_149 rfl rfl ?_
                    refine g_getR C K hLx hkx f_0_21 hb_1 dX0_readAct_150 ?_
                    refine g_aload_n C 4 dX0_readAct_153 rfl rfl ?_
                    refine g_getI C K hLx hkx f_0_24 (v := xp0) q_197 dX0_readAct_154 ?_
                    refine g_aload_n C 5 dX0_readAct_157 rfl rfl ?_
                    refine g_iconst C (v := 1) dX0_readAct_158 (by decide) ?_
                    refine g_iload C 0 dX0_readAct_159 rfl ?_
                    refine g_callVI C K (c_X10_takeNumber W9 hLa0 hka0 1 x_203 (rg_w rc_1 (by decide) (by decide)) (rg_w r_210 (by decide) (by decide)) hU_192) hLa0 hka0 (by decide) rfl v_0_90 rfl ⟨rfl, rfl⟩ ⟨Nat.le_of_ble_eq_true rfl, Nat.le_of_ble_eq_true rfl⟩ (Nat.le_of_ble_eq_true rfl) ⟨Nat.le_of_ble_eq_true rfl, Nat.le_of_ble_eq_true rfl⟩ dX0_readAct_161 rfl (st := [.int xp0, .ref b_1]) (fun x_211 I_212 J_213 h_214 => ?_)
                    obtain ⟨hUI_212, hFI_212, hGJ_213, rx_211, fx_211⟩ := h_214
                    have hF_215 := fq_tr hF_193 hFI_212 (by decide)
                    have hG_216 := fq_tr hG_185 hGJ_213 (by decide)
                    obtain ⟨s_218, hs_218⟩ : ∃ z, TPq I_212 J_213 a0 b_10 b_11 b_12 b_13 b_14 = z := ⟨_, rfl⟩
                    have c_217 : fTakeNumber (1) (x_203) (s_187) = (x_211, s_218) := by have q := fx_211; simp only [etqa0, hs_196, hs_218] at q; exact q.symm
                    have hs_219 : TBq I_212 J_213 a1 b_5 b_6 b_7 = s_8 := (bq_fq wbqa1 hFI_212 hGJ_213 (by decide) (by decide)).trans hs_194
                    have hs_220 : KPq I_212 J_213 x b_3 = s_9 := (yq_fq wyqx hFI_212 hGJ_213 (by decide) (by decide)).trans hs_195
                    refine h_iast C K hb_1L hb_1k (xp0.toNatClampNeg) (rfl) (ix_0 rxp0 (by decide)) (ix_lt rxp0 (by decide) hb_1n (by decide)) dX0_readAct_164 (fun I_221 hI_221 => ?_)
                    have hU_222 := iv_put W9 hUI_212 hI_221 (ro_a hb_1k (by decide) hb_1o hkx rfl) (lo := (-2147483648)) (hi := 2147483647) (rfl) (rx_211) rfl
                    have hF_223 := fq_puta hF_215 hI_221 (ro_a hb_1k (by decide) hb_1o hkx rfl) (by decide) (by decide)
                    have hs_224 : TBq I_221 J_213 a1 b_5 b_6 b_7 = s_8 := by rw [hI_221]; exact (bq_oI wbqa1 (ro_a hb_1k (by decide) hb_1o hkx rfl) (by decide)).trans hs_219
                    have hs_225 : KPq I_221 J_213 x b_3 = s_9 := by rw [hI_221]; exact (yq_oI wyqx (ro_a hb_1k (by decide) hb_1o hkx rfl) (by decide)).trans hs_220
                    have hs_226 : TPq I_221 J_213 a0 b_10 b_11 b_12 b_13 b_14 = s_218 := by rw [hI_221]; exact (tq_oI wtqa0 (ro_a hb_1k (by decide) hb_1o hkx rfl) (by decide)).trans hs_218
                    refine g_aload_n C 4 dX0_readAct_165 rfl rfl ?_
                    refine g_getR C K hLx hkx f_0_21 hb_1 dX0_readAct_166 ?_
                    refine g_aload_n C 4 dX0_readAct_169 rfl rfl ?_
                    refine g_getI C K hLx hkx f_0_24 (v := xp0) (kp_k (κ := κ) hI_221 (by rw [hkx, hb_1k]; decide) (fq_at hFI_212 hLx hkx (by decide) (by decide) q_197)) dX0_readAct_170 ?_
                    refine h_iald C K hb_1L hb_1k (v := x_211) (xp0.toNatClampNeg) (rfl) (ix_0 rxp0 (by decide)) (ix_lt rxp0 (by decide) hb_1n (by decide)) (kp_s hI_221) dX0_readAct_173 ?_
                    refine g_iconst C (v := (-1)) dX0_readAct_174 (by decide) ?_
                    refine g_icmp_eq C (tgt := 182) dX0_readAct_175 (by decide) (fun h_228 => ?_) (fun h_228 => ?_)
                    · skip
                      have r_229 := (⟨(eq_rg (h_228) rc_m1).1, (eq_rg (h_228) rc_m1).2⟩ : Rg (-1) (-1) x_211)
                      refine g_iconst C (v := 0) dX0_readAct_182 (by decide) ?_
                      exact g_zret (ty := .boolean) (r := 0) B K rfl (rfl) ⟨hU_222, hF_223, hG_216, rg_w rc_0 (by decide) (by decide), (by simp only [fReadAct, fAct2, fAct3, fAct4, ebqa1, hs_224, hs_8, eyqx, hs_225, hs_9, etqa0, hs_226, hs_15, hx_16, f_17, f_18, hx_19, f_20, h_21, (eq_true h_24), h_25, (nlt h_25), h_39, (nlt h_39), h_53, c_60, h_70, (eq_true h_137), hy_173, f_174, c_179, c_186, h_199, c_207, h_208, c_217, (eq_true h_228), if_true, if_false, bqM_pnm, bqM_par, bqM_dnm, bqM_persons, bqM_dishes, bqM_law, bqM_dogs, TB_.w_pnm, TB_.w_par, TB_.w_dnm, TB_.w_persons, TB_.w_dishes, TB_.w_law, TB_.w_dogs, yqM_bw, yqM_bl, KP_.w_bw, KP_.w_bl, tqM_by_, tqM_wd, tqM_tk, tqM_pl, tqM_vl, tqM_len, tqM_n, tqM_at_, tqM_token, tqM_place, tqM_value, tqM_fault, tqM_fat, TP_.w_by_, TP_.w_wd, TP_.w_tk, TP_.w_pl, TP_.w_vl, TP_.w_len, TP_.w_n, TP_.w_at_, TP_.w_token, TP_.w_place, TP_.w_value, TP_.w_fault, TP_.w_fat]), (fun q => absurd rfl q)⟩ dX0_readAct_183
                    · skip
                      have n_230 : ¬ x_211 = (-1) := h_228
                      refine g_iconst C (v := 1) dX0_readAct_178 (by decide) ?_
                      refine g_goto C (tgt := 183) dX0_readAct_179 (by decide) ?_
                      have q_231 := (kp_r hI_221 (ro_a hb_3k (by decide) hb_3o hkx rfl) (ro_a hb_1k (by decide) hb_1o hkx rfl) (by decide) (fq_ar hFI_212 hb_3L (ro_a hb_3k (by decide) hb_3o hkx rfl) (by decide) (by decide) (kp_r hI_191 (ro_a hb_3k (by decide) hb_3o hkx rfl) (ro_a hb_2k (by decide) hb_2o hkx rfl) (by decide) (fq_ar hFI_181 hb_3L (ro_a hb_3k (by decide) hb_3o hkx rfl) (by decide) (by decide) (kp_r hI_64 (ro_a hb_3k (by decide) hb_3o hkx rfl) (ro_a hb_4k (by decide) hb_4o hkx rfl) (by decide) (fq_ar hFI_55 hb_3L (ro_a hb_3k (by decide) hb_3o hkx rfl) (by decide) (by decide) hx_19))))))
                      have q_232 := (kp_r hI_221 (ro_a hb_2k (by decide) hb_2o hkx rfl) (ro_a hb_1k (by decide) hb_1o hkx rfl) (by decide) (fq_ar hFI_212 hb_2L (ro_a hb_2k (by decide) hb_2o hkx rfl) (by decide) (by decide) (kp_s hI_191)))
                      exact g_zret (ty := .boolean) (r := 1) B K rfl (rfl) ⟨hU_222, hF_223, hG_216, rg_w rc_1 (by decide) (by decide), (by simp only [fReadAct, fAct2, fAct3, fAct4, ebqa1, hs_224, hs_8, eyqx, hs_225, hs_9, etqa0, hs_226, hs_15, hx_16, f_17, f_18, hx_19, f_20, h_21, (eq_true h_24), h_25, (nlt h_25), h_39, (nlt h_39), h_53, c_60, h_70, (eq_true h_137), hy_173, f_174, c_179, c_186, h_199, c_207, h_208, c_217, h_228, if_true, if_false, bqM_pnm, bqM_par, bqM_dnm, bqM_persons, bqM_dishes, bqM_law, bqM_dogs, TB_.w_pnm, TB_.w_par, TB_.w_dnm, TB_.w_persons, TB_.w_dishes, TB_.w_law, TB_.w_dogs, yqM_bw, yqM_bl, KP_.w_bw, KP_.w_bl, tqM_by_, tqM_wd, tqM_tk, tqM_pl, tqM_vl, tqM_len, tqM_n, tqM_at_, tqM_token, tqM_place, tqM_value, tqM_fault, tqM_fat, TP_.w_by_, TP_.w_wd, TP_.w_tk, TP_.w_pl, TP_.w_vl, TP_.w_len, TP_.w_n, TP_.w_at_, TP_.w_token, TP_.w_place, TP_.w_value, TP_.w_fault, TP_.w_fat]), (fun _ => bk_m2 (kp_k (κ := κ) hI_221 (by rw [hkx, hb_1k]; decide) (fq_at hFI_212 hLx hkx (by decide) (by decide) q_197)) hb_3 hb_2 q_231 (r_23) q_232 (r_201))⟩ dX0_readAct_183
                  · skip
                    have r_233 := (⟨(rx_203).1, (eq_rg (h_208) rc_0).2⟩ : Rg 0 0 x_203)
                    refine g_iconst C (v := 1) dX0_readAct_147 (by decide) ?_
                    have q_234 := (kp_r hI_191 (ro_a hb_3k (by decide) hb_3o hkx rfl) (ro_a hb_2k (by decide) hb_2o hkx rfl) (by decide) (fq_ar hFI_181 hb_3L (ro_a hb_3k (by decide) hb_3o hkx rfl) (by decide) (by decide) (kp_r hI_64 (ro_a hb_3k (by decide) hb_3o hkx rfl) (ro_a hb_4k (by decide) hb_4o hkx rfl) (by decide) (fq_ar hFI_55 hb_3L (ro_a hb_3k (by decide) hb_3o hkx rfl) (by decide) (by decide) hx_19))))
                    exact g_zret (ty := .boolean) (r := 1) B K rfl (rfl) ⟨hU_192, hF_193, hG_185, rg_w rc_1 (by decide) (by decide), (by simp only [fReadAct, fAct2, fAct3, fAct4, ebqa1, hs_194, hs_8, eyqx, hs_195, hs_9, etqa0, hs_196, hs_15, hx_16, f_17, f_18, hx_19, f_20, h_21, (eq_true h_24), h_25, (nlt h_25), h_39, (nlt h_39), h_53, c_60, h_70, (eq_true h_137), hy_173, f_174, c_179, c_186, h_199, c_207, (eq_true h_208), if_true, if_false, bqM_pnm, bqM_par, bqM_dnm, bqM_persons, bqM_dishes, bqM_law, bqM_dogs, TB_.w_pnm, TB_.w_par, TB_.w_dnm, TB_.w_persons, TB_.w_dishes, TB_.w_law, TB_.w_dogs, yqM_bw, yqM_bl, KP_.w_bw, KP_.w_bl, tqM_by_, tqM_wd, tqM_tk, tqM_pl, tqM_vl, tqM_len, tqM_n, tqM_at_, tqM_token, tqM_place, tqM_value, tqM_fault, tqM_fat, TP_.w_by_, TP_.w_wd, TP_.w_tk, TP_.w_pl, TP_.w_vl, TP_.w_len, TP_.w_n, TP_.w_at_, TP_.w_token, TP_.w_place, TP_.w_value, TP_.w_fault, TP_.w_fat]), (fun _ => bk_m2 q_197 hb_3 hb_2 q_234 (r_23) (kp_s hI_191) (r_201))⟩ dX0_readAct_148
                · skip
                  have r_235 := (⟨(r_190).1, (eq_rg (h_199) rc_m1).2⟩ : Rg (-1) (-1) x_180)
                  refine g_iconst C (v := 0) dX0_readAct_134 (by decide) ?_
                  exact g_zret (ty := .boolean) (r := 0) B K rfl (rfl) ⟨hU_192, hF_193, hG_185, rg_w rc_0 (by decide) (by decide), (by simp only [fReadAct, fAct2, fAct3, fAct4, ebqa1, hs_194, hs_8, eyqx, hs_195, hs_9, etqa0, hs_196, hs_15, hx_16, f_17, f_18, hx_19, f_20, h_21, (eq_true h_24), h_25, (nlt h_25), h_39, (nlt h_39), h_53, c_60, h_70, (eq_true h_137), hy_173, f_174, c_179, c_186, (eq_true h_199), if_true, if_false, bqM_pnm, bqM_par, bqM_dnm, bqM_persons, bqM_dishes, bqM_law, bqM_dogs, TB_.w_pnm, TB_.w_par, TB_.w_dnm, TB_.w_persons, TB_.w_dishes, TB_.w_law, TB_.w_dogs, yqM_bw, yqM_bl, KP_.w_bw, KP_.w_bl, tqM_by_, tqM_wd, tqM_tk, tqM_pl, tqM_vl, tqM_len, tqM_n, tqM_at_, tqM_token, tqM_place, tqM_value, tqM_fault, tqM_fat, TP_.w_by_, TP_.w_wd, TP_.w_tk, TP_.w_pl, TP_.w_vl, TP_.w_len, TP_.w_n, TP_.w_at_, TP_.w_token, TP_.w_place, TP_.w_value, TP_.w_fault, TP_.w_fat]), (fun q => absurd rfl q)⟩ dX0_readAct_135
          · skip
            exact absurd (h_53) (by decide)
    · skip
      exact absurd (h_24) (by decide)
  · skip
    have r_236 := (⟨(rx_19).1, (eq_rg (h_21) rc_m1).2⟩ : Rg (-1) (-1) x_19)
    refine g_iconst C (v := 1) dX0_readAct_18 (by decide) ?_
    refine g_goto C (tgt := 23) dX0_readAct_19 (by decide) ?_
    refine g_istore C dX0_readAct_23 (by decide) (lo2 := [(4, .int 1), (3, .int x_16), (0, .ref x), (1, .ref a0), (2, .ref a1)]) rfl ?_
    refine g_iload C 0 dX0_readAct_25 rfl ?_
    refine g_if_eq C (tgt := 44) dX0_readAct_27 (by decide) (fun h_237 => ?_) (fun h_237 => ?_)
    · skip
      exact absurd (h_237) (by decide)
    · skip
      refine g_iload_n C 1 dX0_readAct_30 rfl rfl ?_
      refine g_bipush C (v := 16) dX0_readAct_31 (by decide) ?_
      refine g_icmp_ne C (tgt := 40) dX0_readAct_33 (by decide) (fun h_238 => ?_) (fun h_238 => ?_)
      · skip
        have n_239 : ¬ x_16 = 16 := h_238
        refine g_iconst C (v := 0) dX0_readAct_40 (by decide) ?_
        refine g_goto C (tgt := 61) dX0_readAct_41 (by decide) ?_
        refine g_istore C dX0_readAct_61 (by decide) (lo2 := [(5, .int 0), (4, .int 1), (3, .int x_16), (0, .ref x), (1, .ref a0), (2, .ref a1)]) rfl ?_
        refine g_iload C 0 dX0_readAct_63 rfl ?_
        refine g_if_ne C (tgt := 74) dX0_readAct_65 (by decide) (fun h_240 => ?_) (fun h_240 => ?_)
        · skip
          exact absurd (h_240) (by decide)
        · skip
          refine g_aload_n C 4 dX0_readAct_68 rfl rfl ?_
          refine g_iconst C (v := 1) dX0_readAct_69 (by decide) ?_
          refine g_callVI C K (c_X10_fail W9 hLa0 hka0 1 (rg_w rc_1 (by decide) (by decide)) hU) hLa0 hka0 (by decide) rfl v_0_57 rfl ⟨rfl, rfl⟩ ⟨Nat.le_of_ble_eq_true rfl, Nat.le_of_ble_eq_true rfl⟩ (Nat.le_of_ble_eq_true rfl) ⟨Nat.le_of_ble_eq_true rfl, Nat.le_of_ble_eq_true rfl⟩ dX0_readAct_70 rfl (st := []) (fun x_241 I_242 J_243 h_244 => ?_)
          obtain ⟨hUI_242, hFI_242, hGJ_243, rx_241, fx_241⟩ := h_244
          have hF_245 := fq_tr hF hFI_242 (by decide)
          have hG_246 := fq_tr hG hGJ_243 (by decide)
          obtain ⟨s_248, hs_248⟩ : ∃ z, TPq I_242 J_243 a0 b_10 b_11 b_12 b_13 b_14 = z := ⟨_, rfl⟩
          have c_247 : fFail (1) (s_15) = (x_241, s_248) := by have q := fx_241; simp only [etqa0, hs_15, hs_248] at q; exact q.symm
          have hs_249 : TBq I_242 J_243 a1 b_5 b_6 b_7 = s_8 := (bq_fq wbqa1 hFI_242 hGJ_243 (by decide) (by decide)).trans hs_8
          have hs_250 : KPq I_242 J_243 x b_3 = s_9 := (yq_fq wyqx hFI_242 hGJ_243 (by decide) (by decide)).trans hs_9
          exact g_zret (ty := .boolean) (r := x_241) B K rfl (nar_z (rg_w rx_241 (by decide) (by decide))) ⟨hUI_242, hF_245, hG_246, rg_w rx_241 (by decide) (by decide), (by simp only [fReadAct, fAct2, fAct3, fAct4, ebqa1, hs_249, hs_8, eyqx, hs_250, hs_9, etqa0, hs_248, hs_15, hx_16, f_17, f_18, hx_19, f_20, (eq_true h_21), h_237, h_238, (eq_true h_240), c_247, if_true, if_false, bqM_pnm, bqM_par, bqM_dnm, bqM_persons, bqM_dishes, bqM_law, bqM_dogs, TB_.w_pnm, TB_.w_par, TB_.w_dnm, TB_.w_persons, TB_.w_dishes, TB_.w_law, TB_.w_dogs, yqM_bw, yqM_bl, KP_.w_bw, KP_.w_bl, tqM_by_, tqM_wd, tqM_tk, tqM_pl, tqM_vl, tqM_len, tqM_n, tqM_at_, tqM_token, tqM_place, tqM_value, tqM_fault, tqM_fat, TP_.w_by_, TP_.w_wd, TP_.w_tk, TP_.w_pl, TP_.w_vl, TP_.w_len, TP_.w_n, TP_.w_at_, TP_.w_token, TP_.w_place, TP_.w_value, TP_.w_fault, TP_.w_fat]), (fun q => ne_no q rx_241 rc_0)⟩ dX0_readAct_73
      · skip
        have r_251 := (⟨(eq_rg (h_238) rc_16).1, (eq_rg (h_238) rc_16).2⟩ : Rg 16 16 x_16)
        refine g_iconst C (v := 1) dX0_readAct_36 (by decide) ?_
        refine g_goto C (tgt := 61) dX0_readAct_37 (by decide) ?_
        refine g_istore C dX0_readAct_61 (by decide) (lo2 := [(5, .int 1), (4, .int 1), (3, .int x_16), (0, .ref x), (1, .ref a0), (2, .ref a1)]) rfl ?_
        refine g_iload C 0 dX0_readAct_63 rfl ?_
        refine g_if_ne C (tgt := 74) dX0_readAct_65 (by decide) (fun h_252 => ?_) (fun h_252 => ?_)
        · skip
          refine g_aload_n C 4 dX0_readAct_74 rfl rfl ?_
          refine g_callVV C K (c_X10_advance W9 hLa0 hka0   hU) hLa0 hka0 (by decide) rfl v_0_71 rfl ⟨rfl, rfl⟩ ⟨Nat.le_of_ble_eq_true rfl, Nat.le_of_ble_eq_true rfl⟩ (Nat.le_of_ble_eq_true rfl) ⟨Nat.le_of_ble_eq_true rfl, Nat.le_of_ble_eq_true rfl⟩ dX0_readAct_75 rfl (st := []) (fun I_254 J_255 h_256 => ?_)
          obtain ⟨hUI_254, hFI_254, hGJ_255, fx_253⟩ := h_256
          have hF_257 := fq_tr hF hFI_254 (by decide)
          have hG_258 := fq_tr hG hGJ_255 (by decide)
          obtain ⟨s_260, hs_260⟩ : ∃ z, TPq I_254 J_255 a0 b_10 b_11 b_12 b_13 b_14 = z := ⟨_, rfl⟩
          have c_259 : fAdvance (s_15) = s_260 := by have q := fx_253; simp only [etqa0, hs_15, hs_260] at q; exact q.symm
          have hs_261 : TBq I_254 J_255 a1 b_5 b_6 b_7 = s_8 := (bq_fq wbqa1 hFI_254 hGJ_255 (by decide) (by decide)).trans hs_8
          have hs_262 : KPq I_254 J_255 x b_3 = s_9 := (yq_fq wyqx hFI_254 hGJ_255 (by decide) (by decide)).trans hs_9
          refine g_aload_n C 3 dX0_readAct_78 rfl rfl ?_
          refine g_getR C K hLx hkx f_0_11 hb_4 dX0_readAct_79 ?_
          refine g_aload_n C 3 dX0_readAct_82 rfl rfl ?_
          refine g_getI C K hLx hkx f_0_24 (v := xp0) (fq_at hFI_254 hLx hkx (by decide) (by decide) hxp0) dX0_readAct_83 ?_
          refine g_iload_n C 2 dX0_readAct_86 rfl rfl ?_
          refine h_iast C K hb_4L hb_4k (xp0.toNatClampNeg) (rfl) (ix_0 rxp0 (by decide)) (ix_lt rxp0 (by decide) hb_4n (by decide)) dX0_readAct_87 (fun I_263 hI_263 => ?_)
          have hU_264 := iv_row W9 hUI_254 (uv_put hUI_254.1 hI_263 (ro_a hb_4k (by decide) hb_4o hkx rfl) (lo := (-2147483648)) (hi := 2147483647) (rfl) (rg_all _)) hI_263 (ro_a hb_4k (by decide) hb_4o hkx rfl) hb_4o (by decide) (fq_at hFI_254 hLx hkx (by decide) (by decide) hxp0) rfl
          have hF_265 := fq_puta hF_257 hI_263 (ro_a hb_4k (by decide) hb_4o hkx rfl) (by decide) (by decide)
          have hs_266 : TBq I_263 J_255 a1 b_5 b_6 b_7 = s_8 := by rw [hI_263]; exact (bq_oI wbqa1 (ro_a hb_4k (by decide) hb_4o hkx rfl) (by decide)).trans hs_261
          have hs_267 : KPq I_263 J_255 x b_3 = s_9 := by rw [hI_263]; exact (yq_oI wyqx (ro_a hb_4k (by decide) hb_4o hkx rfl) (by decide)).trans hs_262
          have hs_268 : TPq I_263 J_255 a0 b_10 b_11 b_12 b_13 b_14 = s_260 := by rw [hI_263]; exact (tq_oI wtqa0 (ro_a hb_4k (by decide) hb_4o hkx rfl) (by decide)).trans hs_260
          refine g_iload_n C 2 dX0_readAct_88 rfl rfl ?_
          refine g_bipush C (v := 10) dX0_readAct_89 (by decide) ?_
          refine g_icmp_eq C (tgt := 100) dX0_readAct_91 (by decide) (fun h_269 => ?_) (fun h_269 => ?_)
          · skip
            exact eq_no (h_269) r_251 rc_10 (by decide)
          · skip
            have n_270 : ¬ x_16 = 10 := h_269
            refine g_iload_n C 2 dX0_readAct_94 rfl rfl ?_
            refine g_bipush C (v := 11) dX0_readAct_95 (by decide) ?_
            refine g_icmp_ne C (tgt := 136) dX0_readAct_97 (by decide) (fun h_271 => ?_) (fun h_271 => ?_)
            · skip
              have n_272 : ¬ x_16 = 11 := h_271
              refine g_iload_n C 2 dX0_readAct_136 rfl rfl ?_
              refine g_callSI C K (c_X0_mostOf W9 x_16 (rg_w r_251 (by decide) (by decide)) hU_264) s_0_87 rfl ⟨rfl, rfl⟩ ⟨Nat.le_of_ble_eq_true rfl, Nat.le_of_ble_eq_true rfl⟩ (Nat.le_of_ble_eq_true rfl) ⟨Nat.le_of_ble_eq_true rfl, Nat.le_of_ble_eq_true rfl⟩ dX0_readAct_137 rfl (st := []) (fun x_273 I_274 J_275 h_276 => ?_)
              obtain ⟨rfl, rfl, rx_273, fx_273⟩ := h_276
              have c_277 : fMost (x_16) = x_273 := fx_273.symm
              refine g_istore C dX0_readAct_140 (by decide) (lo2 := [(6, .int x_273), (5, .int 1), (4, .int 1), (3, .int x_16), (0, .ref x), (1, .ref a0), (2, .ref a1)]) rfl ?_
              refine g_iload C 0 dX0_readAct_142 rfl ?_
              refine g_if_ne C (tgt := 149) dX0_readAct_144 (by decide) (fun h_278 => ?_) (fun h_278 => ?_)
              · skip
                have n_279 : ¬ x_273 = 0 := h_278
                have r_280 := ne_lo (lo := 1) n_279 rx_273 rc_0 rfl (by decide)
                refine g_aload_n C 4 dX0_readAct_149 rfl rfl ?_
                refine g_getR C K hLx hkx f_0_21 hb_1 dX0_readAct_150 ?_
                refine g_aload_n C 4 dX0_readAct_153 rfl rfl ?_
                refine g_getI C K hLx hkx f_0_24 (v := xp0) (kp_k (κ := κ) hI_263 (by rw [hkx, hb_4k]; decide) (fq_at hFI_254 hLx hkx (by decide) (by decide) hxp0)) dX0_readAct_154 ?_
                refine g_aload_n C 5 dX0_readAct_157 rfl rfl ?_
                refine g_iconst C (v := 1) dX0_readAct_158 (by decide) ?_
                refine g_iload C 0 dX0_readAct_159 rfl ?_
                refine g_callVI C K (c_X10_takeNumber W9 hLa0 hka0 1 x_273 (rg_w rc_1 (by decide) (by decide)) (rg_w r_280 (by decide) (by decide)) hU_264) hLa0 hka0 (by decide) rfl v_0_90 rfl ⟨rfl, rfl⟩ ⟨Nat.le_of_ble_eq_true rfl, Nat.le_of_ble_eq_true rfl⟩ (Nat.le_of_ble_eq_true rfl) ⟨Nat.le_of_ble_eq_true rfl, Nat.le_of_ble_eq_true rfl⟩ dX0_readAct_161 rfl (st := [.int xp0, .ref b_1]) (fun x_281 I_282 J_283 h_284 => ?_)
                obtain ⟨hUI_282, hFI_282, hGJ_283, rx_281, fx_281⟩ := h_284
                have hF_285 := fq_tr hF_265 hFI_282 (by decide)
                have hG_286 := fq_tr hG_258 hGJ_283 (by decide)
                obtain ⟨s_288, hs_288⟩ : ∃ z, TPq I_282 J_283 a0 b_10 b_11 b_12 b_13 b_14 = z := ⟨_, rfl⟩
                have c_287 : fTakeNumber (1) (x_273) (s_260) = (x_281, s_288) := by have q := fx_281; simp only [etqa0, hs_268, hs_288] at q; exact q.symm
                have hs_289 : TBq I_282 J_283 a1 b_5 b_6 b_7 = s_8 := (bq_fq wbqa1 hFI_282 hGJ_283 (by decide) (by decide)).trans hs_266
                have hs_290 : KPq I_282 J_283 x b_3 = s_9 := (yq_fq wyqx hFI_282 hGJ_283 (by decide) (by decide)).trans hs_267
                refine h_iast C K hb_1L hb_1k (xp0.toNatClampNeg) (rfl) (ix_0 rxp0 (by decide)) (ix_lt rxp0 (by decide) hb_1n (by decide)) dX0_readAct_164 (fun I_291 hI_291 => ?_)
                have hU_292 := iv_put W9 hUI_282 hI_291 (ro_a hb_1k (by decide) hb_1o hkx rfl) (lo := (-2147483648)) (hi := 2147483647) (rfl) (rx_281) rfl
                have hF_293 := fq_puta hF_285 hI_291 (ro_a hb_1k (by decide) hb_1o hkx rfl) (by decide) (by decide)
                have hs_294 : TBq I_291 J_283 a1 b_5 b_6 b_7 = s_8 := by rw [hI_291]; exact (bq_oI wbqa1 (ro_a hb_1k (by decide) hb_1o hkx rfl) (by decide)).trans hs_289
                have hs_295 : KPq I_291 J_283 x b_3 = s_9 := by rw [hI_291]; exact (yq_oI wyqx (ro_a hb_1k (by decide) hb_1o hkx rfl) (by decide)).trans hs_290
                have hs_296 : TPq I_291 J_283 a0 b_10 b_11 b_12 b_13 b_14 = s_288 := by rw [hI_291]; exact (tq_oI wtqa0 (ro_a hb_1k (by decide) hb_1o hkx rfl) (by decide)).trans hs_288
                refine g_aload_n C 4 dX0_readAct_165 rfl rfl ?_
                refine g_getR C K hLx hkx f_0_21 hb_1 dX0_readAct_166 ?_
                refine g_aload_n C 4 dX0_readAct_169 rfl rfl ?_
                have q_297 := (kp_k (κ := κ) hI_291 (by rw [hkx, hb_1k]; decide) (fq_at hFI_282 hLx hkx (by decide) (by decide) (kp_k (κ := κ) hI_263 (by rw [hkx, hb_4k]; decide) (fq_at hFI_254 hLx hkx (by decide) (by decide) hxp0))))
                refine g_getI C K hLx hkx f_0_24 (v := xp0) q_297 dX0_readAct_170 ?_
                refine h_iald C K hb_1L hb_1k (v := x_281) (xp0.toNatClampNeg) (rfl) (ix_0 rxp0 (by decide)) (ix_lt rxp0 (by decide) hb_1n (by decide)) (kp_s hI_291) dX0_readAct_173 ?_
                refine g_iconst C (v := (-1)) dX0_readAct_174 (by decide) ?_
                refine g_icmp_eq C (tgt := 182) dX0_readAct_175 (by decide) (fun h_299 => ?_) (fun h_299 => ?_)
                · skip
                  have r_300 := (⟨(eq_rg (h_299) rc_m1).1, (eq_rg (h_299) rc_m1).2⟩ : Rg (-1) (-1) x_281)
                  refine g_iconst C (v := 0) dX0_readAct_182 (by decide) ?_
                  exact g_zret (ty := .boolean) (r := 0) B K rfl (rfl) ⟨hU_292, hF_293, hG_286, rg_w rc_0 (by decide) (by decide), (by simp only [fReadAct, fAct2, fAct3, fAct4, ebqa1, hs_294, hs_8, eyqx, hs_295, hs_9, etqa0, hs_296, hs_15, hx_16, f_17, f_18, hx_19, f_20, (eq_true h_21), h_237, (eq_true h_238), h_252, c_259, h_269, h_271, c_277, h_278, c_287, (eq_true h_299), if_true, if_false, bqM_pnm, bqM_par, bqM_dnm, bqM_persons, bqM_dishes, bqM_law, bqM_dogs, TB_.w_pnm, TB_.w_par, TB_.w_dnm, TB_.w_persons, TB_.w_dishes, TB_.w_law, TB_.w_dogs, yqM_bw, yqM_bl, KP_.w_bw, KP_.w_bl, tqM_by_, tqM_wd, tqM_tk, tqM_pl, tqM_vl, tqM_len, tqM_n, tqM_at_, tqM_token, tqM_place, tqM_value, tqM_fault, tqM_fat, TP_.w_by_, TP_.w_wd, TP_.w_tk, TP_.w_pl, TP_.w_vl, TP_.w_len, TP_.w_n, TP_.w_at_, TP_.w_token, TP_.w_place, TP_.w_value, TP_.w_fault, TP_.w_fat]), (fun q => absurd rfl q)⟩ dX0_readAct_183
                · skip
                  have n_301 : ¬ x_281 = (-1) := h_299
                  refine g_iconst C (v := 1) dX0_readAct_178 (by decide) ?_
                  refine g_goto C (tgt := 183) dX0_readAct_179 (by decide) ?_
                  have q_302 := (kp_r hI_291 (ro_a hb_4k (by decide) hb_4o hkx rfl) (ro_a hb_1k (by decide) hb_1o hkx rfl) (by decide) (fq_ar hFI_282 hb_4L (ro_a hb_4k (by decide) hb_4o hkx rfl) (by decide) (by decide) (kp_s hI_263)))
                  exact g_zret (ty := .boolean) (r := 1) B K rfl (rfl) ⟨hU_292, hF_293, hG_286, rg_w rc_1 (by decide) (by decide), (by simp only [fReadAct, fAct2, fAct3, fAct4, ebqa1, hs_294, hs_8, eyqx, hs_295, hs_9, etqa0, hs_296, hs_15, hx_16, f_17, f_18, hx_19, f_20, (eq_true h_21), h_237, (eq_true h_238), h_252, c_259, h_269, h_271, c_277, h_278, c_287, h_299, if_true, if_false, bqM_pnm, bqM_par, bqM_dnm, bqM_persons, bqM_dishes, bqM_law, bqM_dogs, TB_.w_pnm, TB_.w_par, TB_.w_dnm, TB_.w_persons, TB_.w_dishes, TB_.w_law, TB_.w_dogs, yqM_bw, yqM_bl, KP_.w_bw, KP_.w_bl, tqM_by_, tqM_wd, tqM_tk, tqM_pl, tqM_vl, tqM_len, tqM_n, tqM_at_, tqM_token, tqM_place, tqM_value, tqM_fault, tqM_fat, TP_.w_by_, TP_.w_wd, TP_.w_tk, TP_.w_pl, TP_.w_vl, TP_.w_len, TP_.w_n, TP_.w_at_, TP_.w_token, TP_.w_place, TP_.w_value, TP_.w_fault, TP_.w_fat]), (fun _ => bk_m1 q_297 hb_4 q_302 (rg_1k r_251 rc_16))⟩ dX0_readAct_183
              · skip
                have r_303 := (⟨(rx_273).1, (eq_rg (h_278) rc_0).2⟩ : Rg 0 0 x_273)
                refine g_iconst C (v := 1) dX0_readAct_147 (by decide) ?_
                exact g_zret (ty := .boolean) (r := 1) B K rfl (rfl) ⟨hU_264, hF_265, hG_258, rg_w rc_1 (by decide) (by decide), (by simp only [fReadAct, fAct2, fAct3, fAct4, ebqa1, hs_266, hs_8, eyqx, hs_267, hs_9, etqa0, hs_268, hs_15, hx_16, f_17, f_18, hx_19, f_20, (eq_true h_21), h_237, (eq_true h_238), h_252, c_259, h_269, h_271, c_277, (eq_true h_278), if_true, if_false, bqM_pnm, bqM_par, bqM_dnm, bqM_persons, bqM_dishes, bqM_law, bqM_dogs, TB_.w_pnm, TB_.w_par, TB_.w_dnm, TB_.w_persons, TB_.w_dishes, TB_.w_law, TB_.w_dogs, yqM_bw, yqM_bl, KP_.w_bw, KP_.w_bl, tqM_by_, tqM_wd, tqM_tk, tqM_pl, tqM_vl, tqM_len, tqM_n, tqM_at_, tqM_token, tqM_place, tqM_value, tqM_fault, tqM_fat, TP_.w_by_, TP_.w_wd, TP_.w_tk, TP_.w_pl, TP_.w_vl, TP_.w_len, TP_.w_n, TP_.w_at_, TP_.w_token, TP_.w_place, TP_.w_value, TP_.w_fault, TP_.w_fat]), (fun _ => bk_m1 (kp_k (κ := κ) hI_263 (by rw [hkx, hb_4k]; decide) (fq_at hFI_254 hLx hkx (by decide) (by decide) hxp0)) hb_4 (kp_s hI_263) (rg_1k r_251 rc_16))⟩ dX0_readAct_148
            · skip
              exact eq_no (h_271) r_251 rc_11 (by decide)
        · skip
          exact absurd (h_252) (by decide)
