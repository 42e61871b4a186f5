theorem dX12_act_0 : decode cX12_act 0 = .ok (.aload_n 0, 1) := by decide +kernel
theorem dX12_act_1 : decode cX12_act 1 = .ok (.iload_n 1, 1) := by decide +kernel
theorem dX12_act_2 : decode cX12_act 2 = .ok (.iload_n 2, 1) := by decide +kernel
theorem dX12_act_3 : decode cX12_act 3 = .ok (.iload_n 3, 1) := by decide +kernel
theorem dX12_act_4 : decode cX12_act 4 = .ok (.iload 4, 2) := by decide +kernel
theorem dX12_act_6 : decode cX12_act 6 = .ok (.invokevirtual 278, 3) := by decide +kernel
theorem dX12_act_9 : decode cX12_act 9 = .ok (.istore 5, 2) := by decide +kernel
theorem dX12_act_11 : decode cX12_act 11 = .ok (.iload 5, 2) := by decide +kernel
theorem dX12_act_13 : decode cX12_act 13 = .ok (.ifCond .eq 6, 3) := by decide +kernel
theorem dX12_act_16 : decode cX12_act 16 = .ok (.iload 5, 2) := by decide +kernel
theorem dX12_act_18 : decode cX12_act 18 = .ok (.ireturn, 1) := by decide +kernel
theorem dX12_act_19 : decode cX12_act 19 = .ok (.aload_n 0, 1) := by decide +kernel
theorem dX12_act_20 : decode cX12_act 20 = .ok (.invokevirtual 282, 3) := by decide +kernel
theorem dX12_act_23 : decode cX12_act 23 = .ok (.aload_n 0, 1) := by decide +kernel
theorem dX12_act_24 : decode cX12_act 24 = .ok (.iload_n 1, 1) := by decide +kernel
theorem dX12_act_25 : decode cX12_act 25 = .ok (.iload_n 2, 1) := by decide +kernel
theorem dX12_act_26 : decode cX12_act 26 = .ok (.iload_n 3, 1) := by decide +kernel
theorem dX12_act_27 : decode cX12_act 27 = .ok (.iload 4, 2) := by decide +kernel
theorem dX12_act_29 : decode cX12_act 29 = .ok (.invokevirtual 285, 3) := by decide +kernel
theorem dX12_act_32 : decode cX12_act 32 = .ok (.iconst 0, 1) := by decide +kernel
theorem dX12_act_33 : decode cX12_act 33 = .ok (.ireturn, 1) := by decide +kernel
theorem dX12_doEat_0 : decode cX12_doEat 0 = .ok (.aload_n 0, 1) := by decide +kernel
theorem dX12_doEat_1 : decode cX12_doEat 1 = .ok (.getfield 13, 3) := by decide +kernel
theorem dX12_doEat_4 : decode cX12_doEat 4 = .ok (.bipush 105, 2) := by decide +kernel
theorem dX12_doEat_6 : decode cX12_doEat 6 = .ok (.bipush 6, 2) := by decide +kernel
theorem dX12_doEat_8 : decode cX12_doEat 8 = .ok (.iload_n 1, 1) := by decide +kernel
theorem dX12_doEat_9 : decode cX12_doEat 9 = .ok (.imul, 1) := by decide +kernel
theorem dX12_doEat_10 : decode cX12_doEat 10 = .ok (.iadd, 1) := by decide +kernel
theorem dX12_doEat_11 : decode cX12_doEat 11 = .ok (.iload_n 2, 1) := by decide +kernel
theorem dX12_doEat_12 : decode cX12_doEat 12 = .ok (.iadd, 1) := by decide +kernel
theorem dX12_doEat_13 : decode cX12_doEat 13 = .ok (.dup2, 1) := by decide +kernel
theorem dX12_doEat_14 : decode cX12_doEat 14 = .ok (.iaload, 1) := by decide +kernel
theorem dX12_doEat_15 : decode cX12_doEat 15 = .ok (.iload_n 3, 1) := by decide +kernel
theorem dX12_doEat_16 : decode cX12_doEat 16 = .ok (.isub, 1) := by decide +kernel
theorem dX12_doEat_17 : decode cX12_doEat 17 = .ok (.iastore, 1) := by decide +kernel
theorem dX12_doEat_18 : decode cX12_doEat 18 = .ok (.aload_n 0, 1) := by decide +kernel
theorem dX12_doEat_19 : decode cX12_doEat 19 = .ok (.getfield 13, 3) := by decide +kernel
theorem dX12_doEat_22 : decode cX12_doEat 22 = .ok (.bipush 84, 2) := by decide +kernel
theorem dX12_doEat_24 : decode cX12_doEat 24 = .ok (.iload_n 1, 1) := by decide +kernel
theorem dX12_doEat_25 : decode cX12_doEat 25 = .ok (.iadd, 1) := by decide +kernel
theorem dX12_doEat_26 : decode cX12_doEat 26 = .ok (.dup2, 1) := by decide +kernel
theorem dX12_doEat_27 : decode cX12_doEat 27 = .ok (.iaload, 1) := by decide +kernel
theorem dX12_doEat_28 : decode cX12_doEat 28 = .ok (.iload_n 3, 1) := by decide +kernel
theorem dX12_doEat_29 : decode cX12_doEat 29 = .ok (.iadd, 1) := by decide +kernel
theorem dX12_doEat_30 : decode cX12_doEat 30 = .ok (.iastore, 1) := by decide +kernel
theorem dX12_doEat_31 : decode cX12_doEat 31 = .ok (.aload_n 0, 1) := by decide +kernel
theorem dX12_doEat_32 : decode cX12_doEat 32 = .ok (.getfield 13, 3) := by decide +kernel
theorem dX12_doEat_35 : decode cX12_doEat 35 = .ok (.bipush 91, 2) := by decide +kernel
theorem dX12_doEat_37 : decode cX12_doEat 37 = .ok (.iload_n 1, 1) := by decide +kernel
theorem dX12_doEat_38 : decode cX12_doEat 38 = .ok (.iadd, 1) := by decide +kernel
theorem dX12_doEat_39 : decode cX12_doEat 39 = .ok (.dup2, 1) := by decide +kernel
theorem dX12_doEat_40 : decode cX12_doEat 40 = .ok (.iaload, 1) := by decide +kernel
theorem dX12_doEat_41 : decode cX12_doEat 41 = .ok (.iload_n 3, 1) := by decide +kernel
theorem dX12_doEat_42 : decode cX12_doEat 42 = .ok (.iadd, 1) := by decide +kernel
theorem dX12_doEat_43 : decode cX12_doEat 43 = .ok (.iastore, 1) := by decide +kernel
theorem dX12_doEat_44 : decode cX12_doEat 44 = .ok (.return_, 1) := by decide +kernel
theorem dX12_heir_0 : decode cX12_heir 0 = .ok (.aload_n 0, 1) := by decide +kernel
theorem dX12_heir_1 : decode cX12_heir 1 = .ok (.iconst 0, 1) := by decide +kernel
theorem dX12_heir_2 : decode cX12_heir 2 = .ok (.putfield 82, 3) := by decide +kernel
theorem dX12_heir_5 : decode cX12_heir 5 = .ok (.aload_n 0, 1) := by decide +kernel
theorem dX12_heir_6 : decode cX12_heir 6 = .ok (.iload_n 1, 1) := by decide +kernel
theorem dX12_heir_7 : decode cX12_heir 7 = .ok (.invokevirtual 238, 3) := by decide +kernel
theorem dX12_heir_10 : decode cX12_heir 10 = .ok (.ifCond .eq 15, 3) := by decide +kernel
theorem dX12_heir_13 : decode cX12_heir 13 = .ok (.aload_n 0, 1) := by decide +kernel
theorem dX12_heir_14 : decode cX12_heir 14 = .ok (.iload_n 1, 1) := by decide +kernel
theorem dX12_heir_15 : decode cX12_heir 15 = .ok (.aload_n 0, 1) := by decide +kernel
theorem dX12_heir_16 : decode cX12_heir 16 = .ok (.invokevirtual 259, 3) := by decide +kernel
theorem dX12_heir_19 : decode cX12_heir 19 = .ok (.invokevirtual 262, 3) := by decide +kernel
theorem dX12_heir_22 : decode cX12_heir 22 = .ok (.goto 4, 3) := by decide +kernel
theorem dX12_heir_25 : decode cX12_heir 25 = .ok (.iconst (-1), 1) := by decide +kernel
theorem dX12_heir_26 : decode cX12_heir 26 = .ok (.ireturn, 1) := by decide +kernel
theorem dX12_heirBy_0 : decode cX12_heirBy 0 = .ok (.aload_n 0, 1) := by decide +kernel
theorem dX12_heirBy_1 : decode cX12_heirBy 1 = .ok (.getfield 13, 3) := by decide +kernel
theorem dX12_heirBy_4 : decode cX12_heirBy 4 = .ok (.iconst 2, 1) := by decide +kernel
theorem dX12_heirBy_5 : decode cX12_heirBy 5 = .ok (.iaload, 1) := by decide +kernel
theorem dX12_heirBy_6 : decode cX12_heirBy 6 = .ok (.ifCond .ne 10, 3) := by decide +kernel
theorem dX12_heirBy_9 : decode cX12_heirBy 9 = .ok (.aload_n 0, 1) := by decide +kernel
theorem dX12_heirBy_10 : decode cX12_heirBy 10 = .ok (.iload_n 1, 1) := by decide +kernel
theorem dX12_heirBy_11 : decode cX12_heirBy 11 = .ok (.iload_n 2, 1) := by decide +kernel
theorem dX12_heirBy_12 : decode cX12_heirBy 12 = .ok (.invokevirtual 256, 3) := by decide +kernel
theorem dX12_heirBy_15 : decode cX12_heirBy 15 = .ok (.ireturn, 1) := by decide +kernel
theorem dX12_heirBy_16 : decode cX12_heirBy 16 = .ok (.iconst (-1), 1) := by decide +kernel
theorem dX12_heirBy_17 : decode cX12_heirBy 17 = .ok (.istore_n 3, 1) := by decide +kernel
theorem dX12_heirBy_18 : decode cX12_heirBy 18 = .ok (.aload_n 0, 1) := by decide +kernel
theorem dX12_heirBy_19 : decode cX12_heirBy 19 = .ok (.getfield 13, 3) := by decide +kernel
theorem dX12_heirBy_22 : decode cX12_heirBy 22 = .ok (.iconst 0, 1) := by decide +kernel
theorem dX12_heirBy_23 : decode cX12_heirBy 23 = .ok (.iaload, 1) := by decide +kernel
theorem dX12_heirBy_24 : decode cX12_heirBy 24 = .ok (.iconst 1, 1) := by decide +kernel
theorem dX12_heirBy_25 : decode cX12_heirBy 25 = .ok (.isub, 1) := by decide +kernel
theorem dX12_heirBy_26 : decode cX12_heirBy 26 = .ok (.istore 4, 2) := by decide +kernel
theorem dX12_heirBy_28 : decode cX12_heirBy 28 = .ok (.iload 4, 2) := by decide +kernel
theorem dX12_heirBy_30 : decode cX12_heirBy 30 = .ok (.ifCond .lt 101, 3) := by decide +kernel
theorem dX12_heirBy_33 : decode cX12_heirBy 33 = .ok (.iload 4, 2) := by decide +kernel
theorem dX12_heirBy_35 : decode cX12_heirBy 35 = .ok (.iload_n 1, 1) := by decide +kernel
theorem dX12_heirBy_36 : decode cX12_heirBy 36 = .ok (.if_icmp .eq 89, 3) := by decide +kernel
theorem dX12_heirBy_39 : decode cX12_heirBy 39 = .ok (.iload_n 2, 1) := by decide +kernel
theorem dX12_heirBy_40 : decode cX12_heirBy 40 = .ok (.iload 4, 2) := by decide +kernel
theorem dX12_heirBy_42 : decode cX12_heirBy 42 = .ok (.invokestatic 231, 3) := by decide +kernel
theorem dX12_heirBy_45 : decode cX12_heirBy 45 = .ok (.ifCond .eq 6, 3) := by decide +kernel
theorem dX12_heirBy_48 : decode cX12_heirBy 48 = .ok (.goto 77, 3) := by decide +kernel
theorem dX12_heirBy_51 : decode cX12_heirBy 51 = .ok (.aload_n 0, 1) := by decide +kernel
theorem dX12_heirBy_52 : decode cX12_heirBy 52 = .ok (.getfield 13, 3) := by decide +kernel
theorem dX12_heirBy_55 : decode cX12_heirBy 55 = .ok (.iconst 2, 1) := by decide +kernel
theorem dX12_heirBy_56 : decode cX12_heirBy 56 = .ok (.iaload, 1) := by decide +kernel
theorem dX12_heirBy_57 : decode cX12_heirBy 57 = .ok (.iconst 1, 1) := by decide +kernel
theorem dX12_heirBy_58 : decode cX12_heirBy 58 = .ok (.if_icmp .ne 25, 3) := by decide +kernel
theorem dX12_heirBy_61 : decode cX12_heirBy 61 = .ok (.aload_n 0, 1) := by decide +kernel
theorem dX12_heirBy_62 : decode cX12_heirBy 62 = .ok (.getfield 13, 3) := by decide +kernel
theorem dX12_heirBy_65 : decode cX12_heirBy 65 = .ok (.bipush 11, 2) := by decide +kernel
theorem dX12_heirBy_67 : decode cX12_heirBy 67 = .ok (.iload 4, 2) := by decide +kernel
theorem dX12_heirBy_69 : decode cX12_heirBy 69 = .ok (.iadd, 1) := by decide +kernel
theorem dX12_heirBy_70 : decode cX12_heirBy 70 = .ok (.iaload, 1) := by decide +kernel
theorem dX12_heirBy_71 : decode cX12_heirBy 71 = .ok (.iload_n 1, 1) := by decide +kernel
theorem dX12_heirBy_72 : decode cX12_heirBy 72 = .ok (.if_icmp .ne 7, 3) := by decide +kernel
theorem dX12_heirBy_75 : decode cX12_heirBy 75 = .ok (.iconst 1, 1) := by decide +kernel
theorem dX12_heirBy_76 : decode cX12_heirBy 76 = .ok (.goto 39, 3) := by decide +kernel
theorem dX12_heirBy_79 : decode cX12_heirBy 79 = .ok (.iconst 0, 1) := by decide +kernel
theorem dX12_heirBy_80 : decode cX12_heirBy 80 = .ok (.goto 35, 3) := by decide +kernel
theorem dX12_heirBy_83 : decode cX12_heirBy 83 = .ok (.iload_n 3, 1) := by decide +kernel
theorem dX12_heirBy_84 : decode cX12_heirBy 84 = .ok (.iconst (-1), 1) := by decide +kernel
theorem dX12_heirBy_85 : decode cX12_heirBy 85 = .ok (.if_icmp .eq 25, 3) := by decide +kernel
theorem dX12_heirBy_88 : decode cX12_heirBy 88 = .ok (.aload_n 0, 1) := by decide +kernel
theorem dX12_heirBy_89 : decode cX12_heirBy 89 = .ok (.getfield 13, 3) := by decide +kernel
theorem dX12_heirBy_92 : decode cX12_heirBy 92 = .ok (.bipush 84, 2) := by decide +kernel
theorem dX12_heirBy_94 : decode cX12_heirBy 94 = .ok (.iload 4, 2) := by decide +kernel
theorem dX12_heirBy_96 : decode cX12_heirBy 96 = .ok (.iadd, 1) := by decide +kernel
theorem dX12_heirBy_97 : decode cX12_heirBy 97 = .ok (.iaload, 1) := by decide +kernel
theorem dX12_heirBy_98 : decode cX12_heirBy 98 = .ok (.aload_n 0, 1) := by decide +kernel
theorem dX12_heirBy_99 : decode cX12_heirBy 99 = .ok (.getfield 13, 3) := by decide +kernel
theorem dX12_heirBy_102 : decode cX12_heirBy 102 = .ok (.bipush 84, 2) := by decide +kernel
theorem dX12_heirBy_104 : decode cX12_heirBy 104 = .ok (.iload_n 3, 1) := by decide +kernel
theorem dX12_heirBy_105 : decode cX12_heirBy 105 = .ok (.iadd, 1) := by decide +kernel
theorem dX12_heirBy_106 : decode cX12_heirBy 106 = .ok (.iaload, 1) := by decide +kernel
theorem dX12_heirBy_107 : decode cX12_heirBy 107 = .ok (.if_icmp .gt 7, 3) := by decide +kernel
theorem dX12_heirBy_110 : decode cX12_heirBy 110 = .ok (.iconst 1, 1) := by decide +kernel
theorem dX12_heirBy_111 : decode cX12_heirBy 111 = .ok (.goto 4, 3) := by decide +kernel
theorem dX12_heirBy_114 : decode cX12_heirBy 114 = .ok (.iconst 0, 1) := by decide +kernel
theorem dX12_heirBy_115 : decode cX12_heirBy 115 = .ok (.istore 5, 2) := by decide +kernel
theorem dX12_heirBy_117 : decode cX12_heirBy 117 = .ok (.iload 5, 2) := by decide +kernel
theorem dX12_heirBy_119 : decode cX12_heirBy 119 = .ok (.ifCond .eq 6, 3) := by decide +kernel
theorem dX12_heirBy_122 : decode cX12_heirBy 122 = .ok (.iload 4, 2) := by decide +kernel
theorem dX12_heirBy_124 : decode cX12_heirBy 124 = .ok (.istore_n 3, 1) := by decide +kernel
theorem dX12_heirBy_125 : decode cX12_heirBy 125 = .ok (.iinc 4 (-1), 3) := by decide +kernel
theorem dX12_heirBy_128 : decode cX12_heirBy 128 = .ok (.goto (-100), 3) := by decide +kernel
theorem dX12_heirBy_131 : decode cX12_heirBy 131 = .ok (.iload_n 3, 1) := by decide +kernel
theorem dX12_heirBy_132 : decode cX12_heirBy 132 = .ok (.iconst (-1), 1) := by decide +kernel
theorem dX12_heirBy_133 : decode cX12_heirBy 133 = .ok (.if_icmp .ne 22, 3) := by decide +kernel
theorem dX12_heirBy_136 : decode cX12_heirBy 136 = .ok (.aload_n 0, 1) := by decide +kernel
theorem dX12_heirBy_137 : decode cX12_heirBy 137 = .ok (.getfield 13, 3) := by decide +kernel
theorem dX12_heirBy_140 : decode cX12_heirBy 140 = .ok (.iconst 2, 1) := by decide +kernel
theorem dX12_heirBy_141 : decode cX12_heirBy 141 = .ok (.iaload, 1) := by decide +kernel
theorem dX12_heirBy_142 : decode cX12_heirBy 142 = .ok (.iconst 1, 1) := by decide +kernel
theorem dX12_heirBy_143 : decode cX12_heirBy 143 = .ok (.if_icmp .ne 12, 3) := by decide +kernel
theorem dX12_heirBy_146 : decode cX12_heirBy 146 = .ok (.aload_n 0, 1) := by decide +kernel
theorem dX12_heirBy_147 : decode cX12_heirBy 147 = .ok (.iload_n 1, 1) := by decide +kernel
theorem dX12_heirBy_148 : decode cX12_heirBy 148 = .ok (.iload_n 2, 1) := by decide +kernel
theorem dX12_heirBy_149 : decode cX12_heirBy 149 = .ok (.invokevirtual 256, 3) := by decide +kernel
theorem dX12_heirBy_152 : decode cX12_heirBy 152 = .ok (.goto 4, 3) := by decide +kernel
theorem dX12_heirBy_155 : decode cX12_heirBy 155 = .ok (.iload_n 3, 1) := by decide +kernel
theorem dX12_heirBy_156 : decode cX12_heirBy 156 = .ok (.ireturn, 1) := by decide +kernel
theorem dX12_least_0 : decode cX12_least 0 = .ok (.iload_n 0, 1) := by decide +kernel
theorem dX12_least_1 : decode cX12_least 1 = .ok (.iload_n 1, 1) := by decide +kernel
theorem dX12_least_2 : decode cX12_least 2 = .ok (.if_icmp .ge 7, 3) := by decide +kernel
theorem dX12_least_5 : decode cX12_least 5 = .ok (.iload_n 0, 1) := by decide +kernel
theorem dX12_least_6 : decode cX12_least 6 = .ok (.goto 4, 3) := by decide +kernel
theorem dX12_least_9 : decode cX12_least 9 = .ok (.iload_n 1, 1) := by decide +kernel
theorem dX12_least_10 : decode cX12_least 10 = .ok (.ireturn, 1) := by decide +kernel
theorem dX12_line_0 : decode cX12_line 0 = .ok (.aload_n 0, 1) := by decide +kernel
theorem dX12_line_1 : decode cX12_line 1 = .ok (.iconst 0, 1) := by decide +kernel
theorem dX12_line_2 : decode cX12_line 2 = .ok (.putfield 82, 3) := by decide +kernel
theorem dX12_line_5 : decode cX12_line 5 = .ok (.aload_n 0, 1) := by decide +kernel
theorem dX12_line_6 : decode cX12_line 6 = .ok (.iload_n 1, 1) := by decide +kernel
theorem dX12_line_7 : decode cX12_line 7 = .ok (.invokevirtual 238, 3) := by decide +kernel
theorem dX12_line_10 : decode cX12_line 10 = .ok (.ifCond .eq 7, 3) := by decide +kernel
theorem dX12_line_13 : decode cX12_line 13 = .ok (.iload_n 2, 1) := by decide +kernel
theorem dX12_line_14 : decode cX12_line 14 = .ok (.ifCond .ge 5, 3) := by decide +kernel
theorem dX12_line_17 : decode cX12_line 17 = .ok (.iconst (-1), 1) := by decide +kernel
theorem dX12_line_18 : decode cX12_line 18 = .ok (.ireturn, 1) := by decide +kernel
theorem dX12_line_19 : decode cX12_line 19 = .ok (.aload_n 0, 1) := by decide +kernel
theorem dX12_line_20 : decode cX12_line 20 = .ok (.invokevirtual 259, 3) := by decide +kernel
theorem dX12_line_23 : decode cX12_line 23 = .ok (.istore_n 3, 1) := by decide +kernel
theorem dX12_line_24 : decode cX12_line 24 = .ok (.aload_n 0, 1) := by decide +kernel
theorem dX12_line_25 : decode cX12_line 25 = .ok (.iload_n 1, 1) := by decide +kernel
theorem dX12_line_26 : decode cX12_line 26 = .ok (.iload_n 3, 1) := by decide +kernel
theorem dX12_line_27 : decode cX12_line 27 = .ok (.invokevirtual 262, 3) := by decide +kernel
theorem dX12_line_30 : decode cX12_line 30 = .ok (.istore 4, 2) := by decide +kernel
theorem dX12_line_32 : decode cX12_line 32 = .ok (.iconst 0, 1) := by decide +kernel
theorem dX12_line_33 : decode cX12_line 33 = .ok (.istore 5, 2) := by decide +kernel
theorem dX12_line_35 : decode cX12_line 35 = .ok (.iload 5, 2) := by decide +kernel
theorem dX12_line_37 : decode cX12_line 37 = .ok (.iload_n 2, 1) := by decide +kernel
theorem dX12_line_38 : decode cX12_line 38 = .ok (.if_icmp .ge 30, 3) := by decide +kernel
theorem dX12_line_41 : decode cX12_line 41 = .ok (.iload 4, 2) := by decide +kernel
theorem dX12_line_43 : decode cX12_line 43 = .ok (.iconst (-1), 1) := by decide +kernel
theorem dX12_line_44 : decode cX12_line 44 = .ok (.if_icmp .eq 24, 3) := by decide +kernel
theorem dX12_line_47 : decode cX12_line 47 = .ok (.iload_n 3, 1) := by decide +kernel
theorem dX12_line_48 : decode cX12_line 48 = .ok (.iconst 1, 1) := by decide +kernel
theorem dX12_line_49 : decode cX12_line 49 = .ok (.iload 4, 2) := by decide +kernel
theorem dX12_line_51 : decode cX12_line 51 = .ok (.ishl, 1) := by decide +kernel
theorem dX12_line_52 : decode cX12_line 52 = .ok (.ior, 1) := by decide +kernel
theorem dX12_line_53 : decode cX12_line 53 = .ok (.istore_n 3, 1) := by decide +kernel
theorem dX12_line_54 : decode cX12_line 54 = .ok (.aload_n 0, 1) := by decide +kernel
theorem dX12_line_55 : decode cX12_line 55 = .ok (.iload_n 1, 1) := by decide +kernel
theorem dX12_line_56 : decode cX12_line 56 = .ok (.iload_n 3, 1) := by decide +kernel
theorem dX12_line_57 : decode cX12_line 57 = .ok (.invokevirtual 262, 3) := by decide +kernel
theorem dX12_line_60 : decode cX12_line 60 = .ok (.istore 4, 2) := by decide +kernel
theorem dX12_line_62 : decode cX12_line 62 = .ok (.iinc 5 1, 3) := by decide +kernel
theorem dX12_line_65 : decode cX12_line 65 = .ok (.goto (-30), 3) := by decide +kernel
theorem dX12_line_68 : decode cX12_line 68 = .ok (.iload 4, 2) := by decide +kernel
theorem dX12_line_70 : decode cX12_line 70 = .ok (.ireturn, 1) := by decide +kernel
theorem dX12_live_0 : decode cX12_live 0 = .ok (.iload_n 1, 1) := by decide +kernel
theorem dX12_live_1 : decode cX12_live 1 = .ok (.tableswitch 98 0 4 #[35, 44, 78, 84, 84], 35) := by decide +kernel
theorem dX12_live_36 : decode cX12_live 36 = .ok (.aload_n 0, 1) := by decide +kernel
theorem dX12_live_37 : decode cX12_live 37 = .ok (.iload_n 2, 1) := by decide +kernel
theorem dX12_live_38 : decode cX12_live 38 = .ok (.iload_n 3, 1) := by decide +kernel
theorem dX12_live_39 : decode cX12_live 39 = .ok (.iload 4, 2) := by decide +kernel
theorem dX12_live_41 : decode cX12_live 41 = .ok (.invokevirtual 271, 3) := by decide +kernel
theorem dX12_live_44 : decode cX12_live 44 = .ok (.return_, 1) := by decide +kernel
theorem dX12_live_45 : decode cX12_live 45 = .ok (.aload_n 0, 1) := by decide +kernel
theorem dX12_live_46 : decode cX12_live 46 = .ok (.getfield 13, 3) := by decide +kernel
theorem dX12_live_49 : decode cX12_live 49 = .ok (.bipush 78, 2) := by decide +kernel
theorem dX12_live_51 : decode cX12_live 51 = .ok (.iload_n 3, 1) := by decide +kernel
theorem dX12_live_52 : decode cX12_live 52 = .ok (.iadd, 1) := by decide +kernel
theorem dX12_live_53 : decode cX12_live 53 = .ok (.dup2, 1) := by decide +kernel
theorem dX12_live_54 : decode cX12_live 54 = .ok (.iaload, 1) := by decide +kernel
theorem dX12_live_55 : decode cX12_live 55 = .ok (.iload 4, 2) := by decide +kernel
theorem dX12_live_57 : decode cX12_live 57 = .ok (.isub, 1) := by decide +kernel
theorem dX12_live_58 : decode cX12_live 58 = .ok (.iastore, 1) := by decide +kernel
theorem dX12_live_59 : decode cX12_live 59 = .ok (.aload_n 0, 1) := by decide +kernel
theorem dX12_live_60 : decode cX12_live 60 = .ok (.getfield 13, 3) := by decide +kernel
theorem dX12_live_63 : decode cX12_live 63 = .ok (.bipush 105, 2) := by decide +kernel
theorem dX12_live_65 : decode cX12_live 65 = .ok (.bipush 6, 2) := by decide +kernel
theorem dX12_live_67 : decode cX12_live 67 = .ok (.iload_n 2, 1) := by decide +kernel
theorem dX12_live_68 : decode cX12_live 68 = .ok (.imul, 1) := by decide +kernel
theorem dX12_live_69 : decode cX12_live 69 = .ok (.iadd, 1) := by decide +kernel
theorem dX12_live_70 : decode cX12_live 70 = .ok (.iload_n 3, 1) := by decide +kernel
theorem dX12_live_71 : decode cX12_live 71 = .ok (.iadd, 1) := by decide +kernel
theorem dX12_live_72 : decode cX12_live 72 = .ok (.dup2, 1) := by decide +kernel
theorem dX12_live_73 : decode cX12_live 73 = .ok (.iaload, 1) := by decide +kernel
theorem dX12_live_74 : decode cX12_live 74 = .ok (.iload 4, 2) := by decide +kernel
theorem dX12_live_76 : decode cX12_live 76 = .ok (.iadd, 1) := by decide +kernel
theorem dX12_live_77 : decode cX12_live 77 = .ok (.iastore, 1) := by decide +kernel
theorem dX12_live_78 : decode cX12_live 78 = .ok (.return_, 1) := by decide +kernel
theorem dX12_live_79 : decode cX12_live 79 = .ok (.aload_n 0, 1) := by decide +kernel
theorem dX12_live_80 : decode cX12_live 80 = .ok (.iload_n 2, 1) := by decide +kernel
theorem dX12_live_81 : decode cX12_live 81 = .ok (.invokevirtual 275, 3) := by decide +kernel
theorem dX12_live_84 : decode cX12_live 84 = .ok (.return_, 1) := by decide +kernel
theorem dX12_live_85 : decode cX12_live 85 = .ok (.aload_n 0, 1) := by decide +kernel
theorem dX12_live_86 : decode cX12_live 86 = .ok (.getfield 13, 3) := by decide +kernel
theorem dX12_live_89 : decode cX12_live 89 = .ok (.bipush 74, 2) := by decide +kernel
theorem dX12_live_91 : decode cX12_live 91 = .ok (.dup2, 1) := by decide +kernel
theorem dX12_live_92 : decode cX12_live 92 = .ok (.iaload, 1) := by decide +kernel
theorem dX12_live_93 : decode cX12_live 93 = .ok (.iconst 1, 1) := by decide +kernel
theorem dX12_live_94 : decode cX12_live 94 = .ok (.iload_n 2, 1) := by decide +kernel
theorem dX12_live_95 : decode cX12_live 95 = .ok (.ishl, 1) := by decide +kernel
theorem dX12_live_96 : decode cX12_live 96 = .ok (.ixor, 1) := by decide +kernel
theorem dX12_live_97 : decode cX12_live 97 = .ok (.iastore, 1) := by decide +kernel
theorem dX12_live_98 : decode cX12_live 98 = .ok (.return_, 1) := by decide +kernel
theorem dX12_live_99 : decode cX12_live 99 = .ok (.aload_n 0, 1) := by decide +kernel
theorem dX12_live_100 : decode cX12_live 100 = .ok (.getfield 13, 3) := by decide +kernel
theorem dX12_live_103 : decode cX12_live 103 = .ok (.bipush 73, 2) := by decide +kernel
theorem dX12_live_105 : decode cX12_live 105 = .ok (.dup2, 1) := by decide +kernel
theorem dX12_live_106 : decode cX12_live 106 = .ok (.iaload, 1) := by decide +kernel
theorem dX12_live_107 : decode cX12_live 107 = .ok (.iconst 1, 1) := by decide +kernel
theorem dX12_live_108 : decode cX12_live 108 = .ok (.iload_n 2, 1) := by decide +kernel
theorem dX12_live_109 : decode cX12_live 109 = .ok (.ishl, 1) := by decide +kernel
theorem dX12_live_110 : decode cX12_live 110 = .ok (.ior, 1) := by decide +kernel
theorem dX12_live_111 : decode cX12_live 111 = .ok (.iastore, 1) := by decide +kernel
theorem dX12_live_112 : decode cX12_live 112 = .ok (.aload_n 0, 1) := by decide +kernel
theorem dX12_live_113 : decode cX12_live 113 = .ok (.iload_n 2, 1) := by decide +kernel
theorem dX12_live_114 : decode cX12_live 114 = .ok (.invokevirtual 247, 3) := by decide +kernel
theorem dX12_live_117 : decode cX12_live 117 = .ok (.ifCond .le 8, 3) := by decide +kernel
theorem dX12_live_120 : decode cX12_live 120 = .ok (.aload_n 0, 1) := by decide +kernel
theorem dX12_live_121 : decode cX12_live 121 = .ok (.iload_n 2, 1) := by decide +kernel
theorem dX12_live_122 : decode cX12_live 122 = .ok (.invokevirtual 275, 3) := by decide +kernel
theorem dX12_live_125 : decode cX12_live 125 = .ok (.return_, 1) := by decide +kernel
theorem dX12_nextTo_0 : decode cX12_nextTo 0 = .ok (.aload_n 0, 1) := by decide +kernel
theorem dX12_nextTo_1 : decode cX12_nextTo 1 = .ok (.getfield 13, 3) := by decide +kernel
theorem dX12_nextTo_4 : decode cX12_nextTo 4 = .ok (.iconst 0, 1) := by decide +kernel
theorem dX12_nextTo_5 : decode cX12_nextTo 5 = .ok (.iaload, 1) := by decide +kernel
theorem dX12_nextTo_6 : decode cX12_nextTo 6 = .ok (.istore_n 3, 1) := by decide +kernel
theorem dX12_nextTo_7 : decode cX12_nextTo 7 = .ok (.iconst 1, 1) := by decide +kernel
theorem dX12_nextTo_8 : decode cX12_nextTo 8 = .ok (.istore 4, 2) := by decide +kernel
theorem dX12_nextTo_10 : decode cX12_nextTo 10 = .ok (.iload 4, 2) := by decide +kernel
theorem dX12_nextTo_12 : decode cX12_nextTo 12 = .ok (.iload_n 3, 1) := by decide +kernel
theorem dX12_nextTo_13 : decode cX12_nextTo 13 = .ok (.if_icmp .ge 29, 3) := by decide +kernel
theorem dX12_nextTo_16 : decode cX12_nextTo 16 = .ok (.iload_n 2, 1) := by decide +kernel
theorem dX12_nextTo_17 : decode cX12_nextTo 17 = .ok (.iload_n 1, 1) := by decide +kernel
theorem dX12_nextTo_18 : decode cX12_nextTo 18 = .ok (.iload 4, 2) := by decide +kernel
theorem dX12_nextTo_20 : decode cX12_nextTo 20 = .ok (.iadd, 1) := by decide +kernel
theorem dX12_nextTo_21 : decode cX12_nextTo 21 = .ok (.iload_n 3, 1) := by decide +kernel
theorem dX12_nextTo_22 : decode cX12_nextTo 22 = .ok (.irem, 1) := by decide +kernel
theorem dX12_nextTo_23 : decode cX12_nextTo 23 = .ok (.invokestatic 231, 3) := by decide +kernel
theorem dX12_nextTo_26 : decode cX12_nextTo 26 = .ok (.ifCond .ne 10, 3) := by decide +kernel
theorem dX12_nextTo_29 : decode cX12_nextTo 29 = .ok (.iload_n 1, 1) := by decide +kernel
theorem dX12_nextTo_30 : decode cX12_nextTo 30 = .ok (.iload 4, 2) := by decide +kernel
theorem dX12_nextTo_32 : decode cX12_nextTo 32 = .ok (.iadd, 1) := by decide +kernel
theorem dX12_nextTo_33 : decode cX12_nextTo 33 = .ok (.iload_n 3, 1) := by decide +kernel
theorem dX12_nextTo_34 : decode cX12_nextTo 34 = .ok (.irem, 1) := by decide +kernel
theorem dX12_nextTo_35 : decode cX12_nextTo 35 = .ok (.ireturn, 1) := by decide +kernel
theorem dX12_nextTo_36 : decode cX12_nextTo 36 = .ok (.iinc 4 1, 3) := by decide +kernel
theorem dX12_nextTo_39 : decode cX12_nextTo 39 = .ok (.goto (-29), 3) := by decide +kernel
theorem dX12_nextTo_42 : decode cX12_nextTo 42 = .ok (.iconst (-1), 1) := by decide +kernel
theorem dX12_nextTo_43 : decode cX12_nextTo 43 = .ok (.ireturn, 1) := by decide +kernel
theorem dX12_now_0 : decode cX12_now 0 = .ok (.aload_n 0, 1) := by decide +kernel
theorem dX12_now_1 : decode cX12_now 1 = .ok (.iconst 0, 1) := by decide +kernel
theorem dX12_now_2 : decode cX12_now 2 = .ok (.putfield 82, 3) := by decide +kernel
theorem dX12_now_5 : decode cX12_now 5 = .ok (.iload_n 1, 1) := by decide +kernel
theorem dX12_now_6 : decode cX12_now 6 = .ok (.tableswitch 108 0 7 #[46, 54, 62, 70, 78, 86, 93, 100], 46) := by decide +kernel
theorem dX12_now_52 : decode cX12_now 52 = .ok (.aload_n 0, 1) := by decide +kernel
theorem dX12_now_53 : decode cX12_now 53 = .ok (.getfield 13, 3) := by decide +kernel
theorem dX12_now_56 : decode cX12_now 56 = .ok (.bipush 72, 2) := by decide +kernel
theorem dX12_now_58 : decode cX12_now 58 = .ok (.iaload, 1) := by decide +kernel
theorem dX12_now_59 : decode cX12_now 59 = .ok (.ireturn, 1) := by decide +kernel
theorem dX12_now_60 : decode cX12_now 60 = .ok (.aload_n 0, 1) := by decide +kernel
theorem dX12_now_61 : decode cX12_now 61 = .ok (.getfield 13, 3) := by decide +kernel
theorem dX12_now_64 : decode cX12_now 64 = .ok (.bipush 73, 2) := by decide +kernel
theorem dX12_now_66 : decode cX12_now 66 = .ok (.iaload, 1) := by decide +kernel
theorem dX12_now_67 : decode cX12_now 67 = .ok (.ireturn, 1) := by decide +kernel
theorem dX12_now_68 : decode cX12_now 68 = .ok (.aload_n 0, 1) := by decide +kernel
theorem dX12_now_69 : decode cX12_now 69 = .ok (.getfield 13, 3) := by decide +kernel
theorem dX12_now_72 : decode cX12_now 72 = .ok (.bipush 74, 2) := by decide +kernel
theorem dX12_now_74 : decode cX12_now 74 = .ok (.iaload, 1) := by decide +kernel
theorem dX12_now_75 : decode cX12_now 75 = .ok (.ireturn, 1) := by decide +kernel
theorem dX12_now_76 : decode cX12_now 76 = .ok (.aload_n 0, 1) := by decide +kernel
theorem dX12_now_77 : decode cX12_now 77 = .ok (.getfield 13, 3) := by decide +kernel
theorem dX12_now_80 : decode cX12_now 80 = .ok (.bipush 75, 2) := by decide +kernel
theorem dX12_now_82 : decode cX12_now 82 = .ok (.iaload, 1) := by decide +kernel
theorem dX12_now_83 : decode cX12_now 83 = .ok (.ireturn, 1) := by decide +kernel
theorem dX12_now_84 : decode cX12_now 84 = .ok (.aload_n 0, 1) := by decide +kernel
theorem dX12_now_85 : decode cX12_now 85 = .ok (.getfield 13, 3) := by decide +kernel
theorem dX12_now_88 : decode cX12_now 88 = .ok (.bipush 76, 2) := by decide +kernel
theorem dX12_now_90 : decode cX12_now 90 = .ok (.iaload, 1) := by decide +kernel
theorem dX12_now_91 : decode cX12_now 91 = .ok (.ireturn, 1) := by decide +kernel
theorem dX12_now_92 : decode cX12_now 92 = .ok (.aload_n 0, 1) := by decide +kernel
theorem dX12_now_93 : decode cX12_now 93 = .ok (.bipush 84, 2) := by decide +kernel
theorem dX12_now_95 : decode cX12_now 95 = .ok (.invokevirtual 253, 3) := by decide +kernel
theorem dX12_now_98 : decode cX12_now 98 = .ok (.ireturn, 1) := by decide +kernel
theorem dX12_now_99 : decode cX12_now 99 = .ok (.aload_n 0, 1) := by decide +kernel
theorem dX12_now_100 : decode cX12_now 100 = .ok (.bipush 98, 2) := by decide +kernel
theorem dX12_now_102 : decode cX12_now 102 = .ok (.invokevirtual 253, 3) := by decide +kernel
theorem dX12_now_105 : decode cX12_now 105 = .ok (.ireturn, 1) := by decide +kernel
theorem dX12_now_106 : decode cX12_now 106 = .ok (.aload_n 0, 1) := by decide +kernel
theorem dX12_now_107 : decode cX12_now 107 = .ok (.getfield 13, 3) := by decide +kernel
theorem dX12_now_110 : decode cX12_now 110 = .ok (.bipush 77, 2) := by decide +kernel
theorem dX12_now_112 : decode cX12_now 112 = .ok (.iaload, 1) := by decide +kernel
theorem dX12_now_113 : decode cX12_now 113 = .ok (.ireturn, 1) := by decide +kernel
theorem dX12_now_114 : decode cX12_now 114 = .ok (.iconst (-1), 1) := by decide +kernel
theorem dX12_now_115 : decode cX12_now 115 = .ok (.ireturn, 1) := by decide +kernel
theorem dX12_outs_0 : decode cX12_outs 0 = .ok (.aload_n 0, 1) := by decide +kernel
theorem dX12_outs_1 : decode cX12_outs 1 = .ok (.getfield 13, 3) := by decide +kernel
theorem dX12_outs_4 : decode cX12_outs 4 = .ok (.bipush 73, 2) := by decide +kernel
theorem dX12_outs_6 : decode cX12_outs 6 = .ok (.iaload, 1) := by decide +kernel
theorem dX12_outs_7 : decode cX12_outs 7 = .ok (.aload_n 0, 1) := by decide +kernel
theorem dX12_outs_8 : decode cX12_outs 8 = .ok (.getfield 13, 3) := by decide +kernel
theorem dX12_outs_11 : decode cX12_outs 11 = .ok (.bipush 74, 2) := by decide +kernel
theorem dX12_outs_13 : decode cX12_outs 13 = .ok (.iaload, 1) := by decide +kernel
theorem dX12_outs_14 : decode cX12_outs 14 = .ok (.ior, 1) := by decide +kernel
theorem dX12_outs_15 : decode cX12_outs 15 = .ok (.ireturn, 1) := by decide +kernel
theorem dX12_pass_0 : decode cX12_pass 0 = .ok (.aload_n 0, 1) := by decide +kernel
theorem dX12_pass_1 : decode cX12_pass 1 = .ok (.iload_n 1, 1) := by decide +kernel
theorem dX12_pass_2 : decode cX12_pass 2 = .ok (.aload_n 0, 1) := by decide +kernel
theorem dX12_pass_3 : decode cX12_pass 3 = .ok (.invokevirtual 259, 3) := by decide +kernel
theorem dX12_pass_6 : decode cX12_pass 6 = .ok (.invokevirtual 262, 3) := by decide +kernel
theorem dX12_pass_9 : decode cX12_pass 9 = .ok (.istore_n 2, 1) := by decide +kernel
theorem dX12_pass_10 : decode cX12_pass 10 = .ok (.aload_n 0, 1) := by decide +kernel
theorem dX12_pass_11 : decode cX12_pass 11 = .ok (.getfield 13, 3) := by decide +kernel
theorem dX12_pass_14 : decode cX12_pass 14 = .ok (.iconst 3, 1) := by decide +kernel
theorem dX12_pass_15 : decode cX12_pass 15 = .ok (.iaload, 1) := by decide +kernel
theorem dX12_pass_16 : decode cX12_pass 16 = .ok (.istore_n 3, 1) := by decide +kernel
theorem dX12_pass_17 : decode cX12_pass 17 = .ok (.iconst 0, 1) := by decide +kernel
theorem dX12_pass_18 : decode cX12_pass 18 = .ok (.istore 4, 2) := by decide +kernel
theorem dX12_pass_20 : decode cX12_pass 20 = .ok (.iload 4, 2) := by decide +kernel
theorem dX12_pass_22 : decode cX12_pass 22 = .ok (.bipush 6, 2) := by decide +kernel
theorem dX12_pass_24 : decode cX12_pass 24 = .ok (.if_icmp .ge 95, 3) := by decide +kernel
theorem dX12_pass_27 : decode cX12_pass 27 = .ok (.aload_n 0, 1) := by decide +kernel
theorem dX12_pass_28 : decode cX12_pass 28 = .ok (.iload_n 1, 1) := by decide +kernel
theorem dX12_pass_29 : decode cX12_pass 29 = .ok (.iload 4, 2) := by decide +kernel
theorem dX12_pass_31 : decode cX12_pass 31 = .ok (.invokevirtual 234, 3) := by decide +kernel
theorem dX12_pass_34 : decode cX12_pass 34 = .ok (.istore 5, 2) := by decide +kernel
theorem dX12_pass_36 : decode cX12_pass 36 = .ok (.iload 5, 2) := by decide +kernel
theorem dX12_pass_38 : decode cX12_pass 38 = .ok (.iload_n 3, 1) := by decide +kernel
theorem dX12_pass_39 : decode cX12_pass 39 = .ok (.invokestatic 265, 3) := by decide +kernel
theorem dX12_pass_42 : decode cX12_pass 42 = .ok (.istore 6, 2) := by decide +kernel
theorem dX12_pass_44 : decode cX12_pass 44 = .ok (.iload_n 3, 1) := by decide +kernel
theorem dX12_pass_45 : decode cX12_pass 45 = .ok (.iload 6, 2) := by decide +kernel
theorem dX12_pass_47 : decode cX12_pass 47 = .ok (.isub, 1) := by decide +kernel
theorem dX12_pass_48 : decode cX12_pass 48 = .ok (.istore_n 3, 1) := by decide +kernel
theorem dX12_pass_49 : decode cX12_pass 49 = .ok (.aload_n 0, 1) := by decide +kernel
theorem dX12_pass_50 : decode cX12_pass 50 = .ok (.getfield 13, 3) := by decide +kernel
theorem dX12_pass_53 : decode cX12_pass 53 = .ok (.bipush 105, 2) := by decide +kernel
theorem dX12_pass_55 : decode cX12_pass 55 = .ok (.bipush 6, 2) := by decide +kernel
theorem dX12_pass_57 : decode cX12_pass 57 = .ok (.iload_n 1, 1) := by decide +kernel
theorem dX12_pass_58 : decode cX12_pass 58 = .ok (.imul, 1) := by decide +kernel
theorem dX12_pass_59 : decode cX12_pass 59 = .ok (.iadd, 1) := by decide +kernel
theorem dX12_pass_60 : decode cX12_pass 60 = .ok (.iload 4, 2) := by decide +kernel
theorem dX12_pass_62 : decode cX12_pass 62 = .ok (.iadd, 1) := by decide +kernel
theorem dX12_pass_63 : decode cX12_pass 63 = .ok (.iconst 0, 1) := by decide +kernel
theorem dX12_pass_64 : decode cX12_pass 64 = .ok (.iastore, 1) := by decide +kernel
theorem dX12_pass_65 : decode cX12_pass 65 = .ok (.aload_n 0, 1) := by decide +kernel
theorem dX12_pass_66 : decode cX12_pass 66 = .ok (.getfield 13, 3) := by decide +kernel
theorem dX12_pass_69 : decode cX12_pass 69 = .ok (.bipush 75, 2) := by decide +kernel
theorem dX12_pass_71 : decode cX12_pass 71 = .ok (.dup2, 1) := by decide +kernel
theorem dX12_pass_72 : decode cX12_pass 72 = .ok (.iaload, 1) := by decide +kernel
theorem dX12_pass_73 : decode cX12_pass 73 = .ok (.iload 6, 2) := by decide +kernel
theorem dX12_pass_75 : decode cX12_pass 75 = .ok (.iadd, 1) := by decide +kernel
theorem dX12_pass_76 : decode cX12_pass 76 = .ok (.iastore, 1) := by decide +kernel
theorem dX12_pass_77 : decode cX12_pass 77 = .ok (.aload_n 0, 1) := by decide +kernel
theorem dX12_pass_78 : decode cX12_pass 78 = .ok (.getfield 13, 3) := by decide +kernel
theorem dX12_pass_81 : decode cX12_pass 81 = .ok (.iload_n 2, 1) := by decide +kernel
theorem dX12_pass_82 : decode cX12_pass 82 = .ok (.iconst (-1), 1) := by decide +kernel
theorem dX12_pass_83 : decode cX12_pass 83 = .ok (.if_icmp .ne 11, 3) := by decide +kernel
theorem dX12_pass_86 : decode cX12_pass 86 = .ok (.bipush 78, 2) := by decide +kernel
theorem dX12_pass_88 : decode cX12_pass 88 = .ok (.iload 4, 2) := by decide +kernel
theorem dX12_pass_90 : decode cX12_pass 90 = .ok (.iadd, 1) := by decide +kernel
theorem dX12_pass_91 : decode cX12_pass 91 = .ok (.goto 13, 3) := by decide +kernel
theorem dX12_pass_94 : decode cX12_pass 94 = .ok (.bipush 105, 2) := by decide +kernel
theorem dX12_pass_96 : decode cX12_pass 96 = .ok (.bipush 6, 2) := by decide +kernel
theorem dX12_pass_98 : decode cX12_pass 98 = .ok (.iload_n 2, 1) := by decide +kernel
theorem dX12_pass_99 : decode cX12_pass 99 = .ok (.imul, 1) := by decide +kernel
theorem dX12_pass_100 : decode cX12_pass 100 = .ok (.iadd, 1) := by decide +kernel
theorem dX12_pass_101 : decode cX12_pass 101 = .ok (.iload 4, 2) := by decide +kernel
theorem dX12_pass_103 : decode cX12_pass 103 = .ok (.iadd, 1) := by decide +kernel
theorem dX12_pass_104 : decode cX12_pass 104 = .ok (.dup2, 1) := by decide +kernel
theorem dX12_pass_105 : decode cX12_pass 105 = .ok (.iaload, 1) := by decide +kernel
theorem dX12_pass_106 : decode cX12_pass 106 = .ok (.iload 5, 2) := by decide +kernel
theorem dX12_pass_108 : decode cX12_pass 108 = .ok (.iload 6, 2) := by decide +kernel
theorem dX12_pass_110 : decode cX12_pass 110 = .ok (.isub, 1) := by decide +kernel
theorem dX12_pass_111 : decode cX12_pass 111 = .ok (.iadd, 1) := by decide +kernel
theorem dX12_pass_112 : decode cX12_pass 112 = .ok (.iastore, 1) := by decide +kernel
theorem dX12_pass_113 : decode cX12_pass 113 = .ok (.iinc 4 1, 3) := by decide +kernel
theorem dX12_pass_116 : decode cX12_pass 116 = .ok (.goto (-96), 3) := by decide +kernel
theorem dX12_pass_119 : decode cX12_pass 119 = .ok (.aload_n 0, 1) := by decide +kernel
theorem dX12_pass_120 : decode cX12_pass 120 = .ok (.getfield 13, 3) := by decide +kernel
theorem dX12_pass_123 : decode cX12_pass 123 = .ok (.bipush 77, 2) := by decide +kernel
theorem dX12_pass_125 : decode cX12_pass 125 = .ok (.dup2, 1) := by decide +kernel
theorem dX12_pass_126 : decode cX12_pass 126 = .ok (.iaload, 1) := by decide +kernel
theorem dX12_pass_127 : decode cX12_pass 127 = .ok (.iconst 1, 1) := by decide +kernel
theorem dX12_pass_128 : decode cX12_pass 128 = .ok (.iadd, 1) := by decide +kernel
theorem dX12_pass_129 : decode cX12_pass 129 = .ok (.iastore, 1) := by decide +kernel
theorem dX12_pass_130 : decode cX12_pass 130 = .ok (.return_, 1) := by decide +kernel
theorem dX12_snap_0 : decode cX12_snap 0 = .ok (.aload_n 0, 1) := by decide +kernel
theorem dX12_snap_1 : decode cX12_snap 1 = .ok (.getfield 228, 3) := by decide +kernel
theorem dX12_snap_4 : decode cX12_snap 4 = .ok (.bipush 8, 2) := by decide +kernel
theorem dX12_snap_6 : decode cX12_snap 6 = .ok (.if_icmp .ne 43, 3) := by decide +kernel
theorem dX12_snap_9 : decode cX12_snap 9 = .ok (.iconst 0, 1) := by decide +kernel
theorem dX12_snap_10 : decode cX12_snap 10 = .ok (.istore_n 1, 1) := by decide +kernel
theorem dX12_snap_11 : decode cX12_snap 11 = .ok (.iload_n 1, 1) := by decide +kernel
theorem dX12_snap_12 : decode cX12_snap 12 = .ok (.sipush 525, 3) := by decide +kernel
theorem dX12_snap_15 : decode cX12_snap 15 = .ok (.if_icmp .ge 24, 3) := by decide +kernel
theorem dX12_snap_18 : decode cX12_snap 18 = .ok (.aload_n 0, 1) := by decide +kernel
theorem dX12_snap_19 : decode cX12_snap 19 = .ok (.getfield 22, 3) := by decide +kernel
theorem dX12_snap_22 : decode cX12_snap 22 = .ok (.iload_n 1, 1) := by decide +kernel
theorem dX12_snap_23 : decode cX12_snap 23 = .ok (.aload_n 0, 1) := by decide +kernel
theorem dX12_snap_24 : decode cX12_snap 24 = .ok (.getfield 22, 3) := by decide +kernel
theorem dX12_snap_27 : decode cX12_snap 27 = .ok (.iload_n 1, 1) := by decide +kernel
theorem dX12_snap_28 : decode cX12_snap 28 = .ok (.bipush 75, 2) := by decide +kernel
theorem dX12_snap_30 : decode cX12_snap 30 = .ok (.iadd, 1) := by decide +kernel
theorem dX12_snap_31 : decode cX12_snap 31 = .ok (.iaload, 1) := by decide +kernel
theorem dX12_snap_32 : decode cX12_snap 32 = .ok (.iastore, 1) := by decide +kernel
theorem dX12_snap_33 : decode cX12_snap 33 = .ok (.iinc 1 1, 3) := by decide +kernel
theorem dX12_snap_36 : decode cX12_snap 36 = .ok (.goto (-25), 3) := by decide +kernel
theorem dX12_snap_39 : decode cX12_snap 39 = .ok (.aload_n 0, 1) := by decide +kernel
theorem dX12_snap_40 : decode cX12_snap 40 = .ok (.dup, 1) := by decide +kernel
theorem dX12_snap_41 : decode cX12_snap 41 = .ok (.getfield 228, 3) := by decide +kernel
theorem dX12_snap_44 : decode cX12_snap 44 = .ok (.iconst 1, 1) := by decide +kernel
theorem dX12_snap_45 : decode cX12_snap 45 = .ok (.isub, 1) := by decide +kernel
theorem dX12_snap_46 : decode cX12_snap 46 = .ok (.putfield 228, 3) := by decide +kernel
theorem dX12_snap_49 : decode cX12_snap 49 = .ok (.iconst 0, 1) := by decide +kernel
theorem dX12_snap_50 : decode cX12_snap 50 = .ok (.istore_n 1, 1) := by decide +kernel
theorem dX12_snap_51 : decode cX12_snap 51 = .ok (.iload_n 1, 1) := by decide +kernel
theorem dX12_snap_52 : decode cX12_snap 52 = .ok (.bipush 75, 2) := by decide +kernel
theorem dX12_snap_54 : decode cX12_snap 54 = .ok (.if_icmp .ge 32, 3) := by decide +kernel
theorem dX12_snap_57 : decode cX12_snap 57 = .ok (.aload_n 0, 1) := by decide +kernel
theorem dX12_snap_58 : decode cX12_snap 58 = .ok (.getfield 22, 3) := by decide +kernel
theorem dX12_snap_61 : decode cX12_snap 61 = .ok (.bipush 75, 2) := by decide +kernel
theorem dX12_snap_63 : decode cX12_snap 63 = .ok (.aload_n 0, 1) := by decide +kernel
theorem dX12_snap_64 : decode cX12_snap 64 = .ok (.getfield 228, 3) := by decide +kernel
theorem dX12_snap_67 : decode cX12_snap 67 = .ok (.imul, 1) := by decide +kernel
theorem dX12_snap_68 : decode cX12_snap 68 = .ok (.iload_n 1, 1) := by decide +kernel
theorem dX12_snap_69 : decode cX12_snap 69 = .ok (.iadd, 1) := by decide +kernel
theorem dX12_snap_70 : decode cX12_snap 70 = .ok (.aload_n 0, 1) := by decide +kernel
theorem dX12_snap_71 : decode cX12_snap 71 = .ok (.getfield 13, 3) := by decide +kernel
theorem dX12_snap_74 : decode cX12_snap 74 = .ok (.bipush 72, 2) := by decide +kernel
theorem dX12_snap_76 : decode cX12_snap 76 = .ok (.iload_n 1, 1) := by decide +kernel
theorem dX12_snap_77 : decode cX12_snap 77 = .ok (.iadd, 1) := by decide +kernel
theorem dX12_snap_78 : decode cX12_snap 78 = .ok (.iaload, 1) := by decide +kernel
theorem dX12_snap_79 : decode cX12_snap 79 = .ok (.iastore, 1) := by decide +kernel
theorem dX12_snap_80 : decode cX12_snap 80 = .ok (.iinc 1 1, 3) := by decide +kernel
theorem dX12_snap_83 : decode cX12_snap 83 = .ok (.goto (-32), 3) := by decide +kernel
theorem dX12_snap_86 : decode cX12_snap 86 = .ok (.aload_n 0, 1) := by decide +kernel
theorem dX12_snap_87 : decode cX12_snap 87 = .ok (.dup, 1) := by decide +kernel
theorem dX12_snap_88 : decode cX12_snap 88 = .ok (.getfield 228, 3) := by decide +kernel
theorem dX12_snap_91 : decode cX12_snap 91 = .ok (.iconst 1, 1) := by decide +kernel
theorem dX12_snap_92 : decode cX12_snap 92 = .ok (.iadd, 1) := by decide +kernel
theorem dX12_snap_93 : decode cX12_snap 93 = .ok (.putfield 228, 3) := by decide +kernel
theorem dX12_snap_96 : decode cX12_snap 96 = .ok (.return_, 1) := by decide +kernel
theorem dX12_wantsYet_0 : decode cX12_wantsYet 0 = .ok (.aload_n 0, 1) := by decide +kernel
theorem dX12_wantsYet_1 : decode cX12_wantsYet 1 = .ok (.getfield 13, 3) := by decide +kernel
theorem dX12_wantsYet_4 : decode cX12_wantsYet 4 = .ok (.iconst 4, 1) := by decide +kernel
theorem dX12_wantsYet_5 : decode cX12_wantsYet 5 = .ok (.iload_n 1, 1) := by decide +kernel
theorem dX12_wantsYet_6 : decode cX12_wantsYet 6 = .ok (.iadd, 1) := by decide +kernel
theorem dX12_wantsYet_7 : decode cX12_wantsYet 7 = .ok (.iaload, 1) := by decide +kernel
theorem dX12_wantsYet_8 : decode cX12_wantsYet 8 = .ok (.aload_n 0, 1) := by decide +kernel
theorem dX12_wantsYet_9 : decode cX12_wantsYet 9 = .ok (.getfield 13, 3) := by decide +kernel
theorem dX12_wantsYet_12 : decode cX12_wantsYet 12 = .ok (.bipush 91, 2) := by decide +kernel
theorem dX12_wantsYet_14 : decode cX12_wantsYet 14 = .ok (.iload_n 1, 1) := by decide +kernel
theorem dX12_wantsYet_15 : decode cX12_wantsYet 15 = .ok (.iadd, 1) := by decide +kernel
theorem dX12_wantsYet_16 : decode cX12_wantsYet 16 = .ok (.iaload, 1) := by decide +kernel
theorem dX12_wantsYet_17 : decode cX12_wantsYet 17 = .ok (.isub, 1) := by decide +kernel
theorem dX12_wantsYet_18 : decode cX12_wantsYet 18 = .ok (.ireturn, 1) := by decide +kernel
theorem dX12_why_0 : decode cX12_why 0 = .ok (.aload_n 0, 1) := by decide +kernel
theorem dX12_why_1 : decode cX12_why 1 = .ok (.iload_n 2, 1) := by decide +kernel
theorem dX12_why_2 : decode cX12_why 2 = .ok (.invokevirtual 244, 3) := by decide +kernel
theorem dX12_why_5 : decode cX12_why 5 = .ok (.ifCond .eq 5, 3) := by decide +kernel
theorem dX12_why_8 : decode cX12_why 8 = .ok (.iconst 1, 1) := by decide +kernel
theorem dX12_why_9 : decode cX12_why 9 = .ok (.ireturn, 1) := by decide +kernel
theorem dX12_why_10 : decode cX12_why 10 = .ok (.iload_n 1, 1) := by decide +kernel
theorem dX12_why_11 : decode cX12_why 11 = .ok (.tableswitch 138 0 4 #[33, 64, 84, 98, 118], 33) := by decide +kernel
theorem dX12_why_44 : decode cX12_why 44 = .ok (.aload_n 0, 1) := by decide +kernel
theorem dX12_why_45 : decode cX12_why 45 = .ok (.iload_n 2, 1) := by decide +kernel
theorem dX12_why_46 : decode cX12_why 46 = .ok (.iload_n 3, 1) := by decide +kernel
theorem dX12_why_47 : decode cX12_why 47 = .ok (.invokevirtual 234, 3) := by decide +kernel
theorem dX12_why_50 : decode cX12_why 50 = .ok (.iload 4, 2) := by decide +kernel
theorem dX12_why_52 : decode cX12_why 52 = .ok (.if_icmp .ge 7, 3) := by decide +kernel
theorem dX12_why_55 : decode cX12_why 55 = .ok (.iconst 2, 1) := by decide +kernel
theorem dX12_why_56 : decode cX12_why 56 = .ok (.goto 18, 3) := by decide +kernel
theorem dX12_why_59 : decode cX12_why 59 = .ok (.iload 4, 2) := by decide +kernel
theorem dX12_why_61 : decode cX12_why 61 = .ok (.aload_n 0, 1) := by decide +kernel
theorem dX12_why_62 : decode cX12_why 62 = .ok (.iload_n 2, 1) := by decide +kernel
theorem dX12_why_63 : decode cX12_why 63 = .ok (.invokevirtual 268, 3) := by decide +kernel
theorem dX12_why_66 : decode cX12_why 66 = .ok (.if_icmp .le 7, 3) := by decide +kernel
theorem dX12_why_69 : decode cX12_why 69 = .ok (.iconst 3, 1) := by decide +kernel
theorem dX12_why_70 : decode cX12_why 70 = .ok (.goto 4, 3) := by decide +kernel
theorem dX12_why_73 : decode cX12_why 73 = .ok (.iconst 0, 1) := by decide +kernel
theorem dX12_why_74 : decode cX12_why 74 = .ok (.ireturn, 1) := by decide +kernel
theorem dX12_why_75 : decode cX12_why 75 = .ok (.aload_n 0, 1) := by decide +kernel
theorem dX12_why_76 : decode cX12_why 76 = .ok (.getfield 13, 3) := by decide +kernel
theorem dX12_why_79 : decode cX12_why 79 = .ok (.bipush 78, 2) := by decide +kernel
theorem dX12_why_81 : decode cX12_why 81 = .ok (.iload_n 3, 1) := by decide +kernel
theorem dX12_why_82 : decode cX12_why 82 = .ok (.iadd, 1) := by decide +kernel
theorem dX12_why_83 : decode cX12_why 83 = .ok (.iaload, 1) := by decide +kernel
theorem dX12_why_84 : decode cX12_why 84 = .ok (.iload 4, 2) := by decide +kernel
theorem dX12_why_86 : decode cX12_why 86 = .ok (.if_icmp .ge 7, 3) := by decide +kernel
theorem dX12_why_89 : decode cX12_why 89 = .ok (.iconst 2, 1) := by decide +kernel
theorem dX12_why_90 : decode cX12_why 90 = .ok (.goto 4, 3) := by decide +kernel
theorem dX12_why_93 : decode cX12_why 93 = .ok (.iconst 0, 1) := by decide +kernel
theorem dX12_why_94 : decode cX12_why 94 = .ok (.ireturn, 1) := by decide +kernel
theorem dX12_why_95 : decode cX12_why 95 = .ok (.aload_n 0, 1) := by decide +kernel
theorem dX12_why_96 : decode cX12_why 96 = .ok (.iload_n 2, 1) := by decide +kernel
theorem dX12_why_97 : decode cX12_why 97 = .ok (.invokevirtual 247, 3) := by decide +kernel
theorem dX12_why_100 : decode cX12_why 100 = .ok (.ifCond .ne 7, 3) := by decide +kernel
theorem dX12_why_103 : decode cX12_why 103 = .ok (.iconst 2, 1) := by decide +kernel
theorem dX12_why_104 : decode cX12_why 104 = .ok (.goto 4, 3) := by decide +kernel
theorem dX12_why_107 : decode cX12_why 107 = .ok (.iconst 0, 1) := by decide +kernel
theorem dX12_why_108 : decode cX12_why 108 = .ok (.ireturn, 1) := by decide +kernel
theorem dX12_why_109 : decode cX12_why 109 = .ok (.aload_n 0, 1) := by decide +kernel
theorem dX12_why_110 : decode cX12_why 110 = .ok (.getfield 13, 3) := by decide +kernel
theorem dX12_why_113 : decode cX12_why 113 = .ok (.bipush 74, 2) := by decide +kernel
theorem dX12_why_115 : decode cX12_why 115 = .ok (.iaload, 1) := by decide +kernel
theorem dX12_why_116 : decode cX12_why 116 = .ok (.iload_n 2, 1) := by decide +kernel
theorem dX12_why_117 : decode cX12_why 117 = .ok (.invokestatic 231, 3) := by decide +kernel
theorem dX12_why_120 : decode cX12_why 120 = .ok (.ifCond .eq 7, 3) := by decide +kernel
theorem dX12_why_123 : decode cX12_why 123 = .ok (.iconst 2, 1) := by decide +kernel
theorem dX12_why_124 : decode cX12_why 124 = .ok (.goto 4, 3) := by decide +kernel
theorem dX12_why_127 : decode cX12_why 127 = .ok (.iconst 0, 1) := by decide +kernel
theorem dX12_why_128 : decode cX12_why 128 = .ok (.ireturn, 1) := by decide +kernel
theorem dX12_why_129 : decode cX12_why 129 = .ok (.aload_n 0, 1) := by decide +kernel
theorem dX12_why_130 : decode cX12_why 130 = .ok (.getfield 13, 3) := by decide +kernel
theorem dX12_why_133 : decode cX12_why 133 = .ok (.bipush 74, 2) := by decide +kernel
theorem dX12_why_135 : decode cX12_why 135 = .ok (.iaload, 1) := by decide +kernel
theorem dX12_why_136 : decode cX12_why 136 = .ok (.iload_n 2, 1) := by decide +kernel
theorem dX12_why_137 : decode cX12_why 137 = .ok (.invokestatic 231, 3) := by decide +kernel
theorem dX12_why_140 : decode cX12_why 140 = .ok (.ifCond .eq 7, 3) := by decide +kernel
theorem dX12_why_143 : decode cX12_why 143 = .ok (.iconst 0, 1) := by decide +kernel
theorem dX12_why_144 : decode cX12_why 144 = .ok (.goto 4, 3) := by decide +kernel
theorem dX12_why_147 : decode cX12_why 147 = .ok (.iconst 2, 1) := by decide +kernel
theorem dX12_why_148 : decode cX12_why 148 = .ok (.ireturn, 1) := by decide +kernel
theorem dX12_why_149 : decode cX12_why 149 = .ok (.iconst 0, 1) := by decide +kernel
theorem dX12_why_150 : decode cX12_why 150 = .ok (.ireturn, 1) := by decide +kernel
theorem rc_75 : Rg 75 75 75 := ⟨by decide, by decide⟩
theorem rc_76 : Rg 76 76 76 := ⟨by decide, by decide⟩
theorem rc_77 : Rg 77 77 77 := ⟨by decide, by decide⟩
theorem rc_525 : Rg 525 525 525 := ⟨by decide, by decide⟩
set_option maxRecDepth 100000 in
set_option maxHeartbeats 8000000 in
theorem c_X12_now {l : Launch} {D : va_G} {cy : Nat → ClassId} {L : List Nat} {κ ln : Nat → Nat} {R : Nat → Nat → Option Nat} {I : Nat → Nat → Int32} {J : Nat → Nat → Int64} {ow : Nat → Nat × Nat} (W9 : ∀ a ∈ L, Shp L κ ln R ow a) {x : Nat} (hLx : x ∈ L) (hkx : κ x = 12) (a0 : Int32) (hU : Iw L κ R ow I) : CtI l yX12_now cX12_now 2 (some .int) { frames := 1, cells := 0, slots := 0, locals := 23 } D cy L κ ln R I J [.ref x, .int a0] (fun r I2 J2 => Iw L κ R ow I2 ∧ Fq L κ ow [1200] I I2 ∧ Fq L κ ow [] J J2 ∧ Rg (-2147483648) 2147483647 r) := by
  refine CtI.of (by decide +kernel) (Nat.le_of_ble_eq_true rfl) ?_
  intro p e s m below meth c B K
  have C := B.1
  have hF : Fq L κ ow [1200] I I := fq_rf
  have hG : Fq L κ ow [] J J := fq_rf
  obtain ⟨b_1, hb_1, hb_1L, hb_1k, hb_1n, hb_1o⟩ := shp_a (W9 x hLx) hkx 14 14 389 rfl (by decide)
  refine g_lo (is := [0, 1]) (lo2 := [(0, .ref x), (1, .int a0)]) rfl ?_
  refine g_aload_n C 0 dX12_now_0 rfl rfl ?_
  refine g_iconst C (v := 0) dX12_now_1 (by decide) ?_
  refine h_putI C K hLx hkx f_12_82 p_12_0 dX12_now_2 (fun I_2 hI_2 => ?_)
  have hU_3 := iw_put W9 hU hI_2 (ro_o hkx (by decide)) (lo := (-2147483648)) (hi := 2147483647) (rfl) (rg_all _) rfl
  have hF_4 := fq_puto hF hI_2 hkx (by decide) (by decide)
  refine g_iload_n C 1 dX12_now_5 rfl rfl ?_
  by_cases c_5 : a0.toInt = 0
  · skip
    have r_6 := rg_of (a := 0) (b := 0) 0 c_5 (by decide) (by decide)
    refine g_tableIn C (tgt := 52) dX12_now_6 (by omega) (by omega) (off := 46) (by rw [c_5]; rfl) (by decide) ?_
    refine g_aload_n C 0 dX12_now_52 rfl rfl ?_
    refine g_getR C K hLx hkx f_12_13 hb_1 dX12_now_53 ?_
    refine g_bipush C (v := 72) dX12_now_56 (by decide) ?_
    obtain ⟨x_7, hx_7, rx_7⟩ := ex_any (z0 := I_2 b_1 (72))
    refine h_iald C K hb_1L hb_1k (v := x_7) (72) (by decide) (by decide) (by rw [hb_1n]; decide) hx_7 dX12_now_58 ?_
    exact g_zret (ty := .int) (r := x_7) B K rfl (rfl) ⟨hU_3, hF_4, hG, rx_7⟩ dX12_now_59
  by_cases c_8 : a0.toInt = 1
  · skip
    have r_9 := rg_of (a := 1) (b := 1) 1 c_8 (by decide) (by decide)
    refine g_tableIn C (tgt := 60) dX12_now_6 (by omega) (by omega) (off := 54) (by rw [c_8]; rfl) (by decide) ?_
    refine g_aload_n C 0 dX12_now_60 rfl rfl ?_
    refine g_getR C K hLx hkx f_12_13 hb_1 dX12_now_61 ?_
    refine g_bipush C (v := 73) dX12_now_64 (by decide) ?_
    obtain ⟨x_10, hx_10, rx_10⟩ := ex_any (z0 := I_2 b_1 (73))
    refine h_iald C K hb_1L hb_1k (v := x_10) (73) (by decide) (by decide) (by rw [hb_1n]; decide) hx_10 dX12_now_66 ?_
    exact g_zret (ty := .int) (r := x_10) B K rfl (rfl) ⟨hU_3, hF_4, hG, rx_10⟩ dX12_now_67
  by_cases c_11 : a0.toInt = 2
  · skip
    have r_12 := rg_of (a := 2) (b := 2) 2 c_11 (by decide) (by decide)
    refine g_tableIn C (tgt := 68) dX12_now_6 (by omega) (by omega) (off := 62) (by rw [c_11]; rfl) (by decide) ?_
    refine g_aload_n C 0 dX12_now_68 rfl rfl ?_
    refine g_getR C K hLx hkx f_12_13 hb_1 dX12_now_69 ?_
    refine g_bipush C (v := 74) dX12_now_72 (by decide) ?_
    obtain ⟨x_13, hx_13, rx_13⟩ := ex_any (z0 := I_2 b_1 (74))
    refine h_iald C K hb_1L hb_1k (v := x_13) (74) (by decide) (by decide) (by rw [hb_1n]; decide) hx_13 dX12_now_74 ?_
    exact g_zret (ty := .int) (r := x_13) B K rfl (rfl) ⟨hU_3, hF_4, hG, rx_13⟩ dX12_now_75
  by_cases c_14 : a0.toInt = 3
  · skip
    have r_15 := rg_of (a := 3) (b := 3) 3 c_14 (by decide) (by decide)
    refine g_tableIn C (tgt := 76) dX12_now_6 (by omega) (by omega) (off := 70) (by rw [c_14]; rfl) (by decide) ?_
    refine g_aload_n C 0 dX12_now_76 rfl rfl ?_
    refine g_getR C K hLx hkx f_12_13 hb_1 dX12_now_77 ?_
    refine g_bipush C (v := 75) dX12_now_80 (by decide) ?_
    obtain ⟨x_16, hx_16, rx_16⟩ := ex_any (z0 := I_2 b_1 (75))
    refine h_iald C K hb_1L hb_1k (v := x_16) (75) (by decide) (by decide) (by rw [hb_1n]; decide) hx_16 dX12_now_82 ?_
    exact g_zret (ty := .int) (r := x_16) B K rfl (rfl) ⟨hU_3, hF_4, hG, rx_16⟩ dX12_now_83
  by_cases c_17 : a0.toInt = 4
  · skip
    have r_18 := rg_of (a := 4) (b := 4) 4 c_17 (by decide) (by decide)
    refine g_tableIn C (tgt := 84) dX12_now_6 (by omega) (by omega) (off := 78) (by rw [c_17]; rfl) (by decide) ?_
    refine g_aload_n C 0 dX12_now_84 rfl rfl ?_
    refine g_getR C K hLx hkx f_12_13 hb_1 dX12_now_85 ?_
    refine g_bipush C (v := 76) dX12_now_88 (by decide) ?_
    obtain ⟨x_19, hx_19, rx_19⟩ := ex_any (z0 := I_2 b_1 (76))
    refine h_iald C K hb_1L hb_1k (v := x_19) (76) (by decide) (by decide) (by rw [hb_1n]; decide) hx_19 dX12_now_90 ?_
    exact g_zret (ty := .int) (r := x_19) B K rfl (rfl) ⟨hU_3, hF_4, hG, rx_19⟩ dX12_now_91
  by_cases c_20 : a0.toInt = 5
  · skip
    have r_21 := rg_of (a := 5) (b := 5) 5 c_20 (by decide) (by decide)
    refine g_tableIn C (tgt := 92) dX12_now_6 (by omega) (by omega) (off := 86) (by rw [c_20]; rfl) (by decide) ?_
    refine g_aload_n C 0 dX12_now_92 rfl rfl ?_
    refine g_bipush C (v := 84) dX12_now_93 (by decide) ?_
    refine g_callVI C K (c_X12_sumOf_84 W9 hLx hkx   hU_3) hLx hkx (by decide) rfl v_12_253 rfl ⟨rfl, rfl⟩ ⟨Nat.le_of_ble_eq_true rfl, Nat.le_of_ble_eq_true rfl⟩ (Nat.le_of_ble_eq_true rfl) ⟨Nat.le_of_ble_eq_true rfl, Nat.le_of_ble_eq_true rfl⟩ dX12_now_95 rfl (st := []) (fun x_22 I_23 J_24 h_25 => ?_)
    obtain ⟨rfl, rfl, rx_22⟩ := h_25
    exact g_zret (ty := .int) (r := x_22) B K rfl (rfl) ⟨hU_3, hF_4, hG, rx_22⟩ dX12_now_98
  by_cases c_26 : a0.toInt = 6
  · skip
    have r_27 := rg_of (a := 6) (b := 6) 6 c_26 (by decide) (by decide)
    refine g_tableIn C (tgt := 99) dX12_now_6 (by omega) (by omega) (off := 93) (by rw [c_26]; rfl) (by decide) ?_
    refine g_aload_n C 0 dX12_now_99 rfl rfl ?_
    refine g_bipush C (v := 98) dX12_now_100 (by decide) ?_
    refine g_callVI C K (c_X12_sumOf_98 W9 hLx hkx   hU_3) hLx hkx (by decide) rfl v_12_253 rfl ⟨rfl, rfl⟩ ⟨Nat.le_of_ble_eq_true rfl, Nat.le_of_ble_eq_true rfl⟩ (Nat.le_of_ble_eq_true rfl) ⟨Nat.le_of_ble_eq_true rfl, Nat.le_of_ble_eq_true rfl⟩ dX12_now_102 rfl (st := []) (fun x_28 I_29 J_30 h_31 => ?_)
    obtain ⟨rfl, rfl, rx_28⟩ := h_31
    exact g_zret (ty := .int) (r := x_28) B K rfl (rfl) ⟨hU_3, hF_4, hG, rx_28⟩ dX12_now_105
  by_cases c_32 : a0.toInt = 7
  · skip
    have r_33 := rg_of (a := 7) (b := 7) 7 c_32 (by decide) (by decide)
    refine g_tableIn C (tgt := 106) dX12_now_6 (by omega) (by omega) (off := 100) (by rw [c_32]; rfl) (by decide) ?_
    refine g_aload_n C 0 dX12_now_106 rfl rfl ?_
    refine g_getR C K hLx hkx f_12_13 hb_1 dX12_now_107 ?_
    refine g_bipush C (v := 77) dX12_now_110 (by decide) ?_
    obtain ⟨x_34, hx_34, rx_34⟩ := ex_any (z0 := I_2 b_1 (77))
    refine h_iald C K hb_1L hb_1k (v := x_34) (77) (by decide) (by decide) (by rw [hb_1n]; decide) hx_34 dX12_now_112 ?_
    exact g_zret (ty := .int) (r := x_34) B K rfl (rfl) ⟨hU_3, hF_4, hG, rx_34⟩ dX12_now_113
  have n_36 : ¬ a0 = 0 := (fun q => c_5 (by rw [q]; decide))
  have n_37 : ¬ a0 = 1 := (fun q => c_8 (by rw [q]; decide))
  have n_38 : ¬ a0 = 2 := (fun q => c_11 (by rw [q]; decide))
  have n_39 : ¬ a0 = 3 := (fun q => c_14 (by rw [q]; decide))
  have n_40 : ¬ a0 = 4 := (fun q => c_17 (by rw [q]; decide))
  have n_41 : ¬ a0 = 5 := (fun q => c_20 (by rw [q]; decide))
  have n_42 : ¬ a0 = 6 := (fun q => c_26 (by rw [q]; decide))
  have n_43 : ¬ a0 = 7 := (fun q => c_32 (by rw [q]; decide))
  obtain ⟨q_351, q_352⟩ := id ((rg_all a0))
  refine g_tableOut C (tgt := 114) dX12_now_6 (by omega) (by decide) ?_
  refine g_iconst C (v := (-1)) dX12_now_114 (by decide) ?_
  exact g_zret (ty := .int) (r := (-1)) B K rfl (rfl) ⟨hU_3, hF_4, hG, rg_all _⟩ dX12_now_115
set_option maxRecDepth 100000 in
set_option maxHeartbeats 8000000 in
theorem c_X12_nextTo {l : Launch} {D : va_G} {cy : Nat → ClassId} {L : List Nat} {κ ln : Nat → Nat} {R : Nat → Nat → Option Nat} {I : Nat → Nat → Int32} {J : Nat → Nat → Int64} {ow : Nat → Nat × Nat} (W9 : ∀ a ∈ L, Shp L κ ln R ow a) {x : Nat} (hLx : x ∈ L) (hkx : κ x = 12) (a0 : Int32) (a1 : Int32) (ra0 : Rg 0 6 a0) (hU : Iw L κ R ow I) : CtI l yX12_nextTo cX12_nextTo 5 (some .int) { frames := 1, cells := 0, slots := 0, locals := 21 } D cy L κ ln R I J [.ref x, .int a0, .int a1] (fun r I2 J2 => I = I2 ∧ J = J2 ∧ Rg (-1) 6 r) := by
  refine CtI.of (by decide +kernel) (Nat.le_of_ble_eq_true rfl) ?_
  intro p e s m below meth c B K
  have C := B.1
  obtain ⟨b_1, hb_1, hb_1L, hb_1k, hb_1n, hb_1o⟩ := shp_a (W9 x hLx) hkx 14 14 389 rfl (by decide)
  refine g_lo (is := [0, 1, 2]) (lo2 := [(0, .ref x), (1, .int a0), (2, .int a1)]) rfl ?_
  have l_10 : ∀ (n_10 : Nat) (v_2 : Int32) (rv_2 : Rg 0 7 v_2) (v_3 : Int32) (rv_3 : Rg 1 7 v_3) (hm_4 : 7 < (v_3 : Int32).toInt + (n_10 : Int)), WG p l e { frames := 1, cells := 0, slots := 0, locals := 21 } s m ([.ref x, .int a0, .int a1] : List Value).toArray below meth c 5 0 0 (MQ below (Qi_ D cy L κ ln R (fun r I2 J2 => I = I2 ∧ J = J2 ∧ Rg (-1) 6 r)) ([.ref x, .int a0, .int a1] : List Value).toArray s 0 0 (Al_ L)) D cy (Al_ L) s.heap L κ ln R I J 10 [(0, .ref x), (1, .int a0), (2, .int a1), (3, .int v_2), (4, .int v_3)] [] := by
    intro n_10
    induction n_10 with
    | zero =>
      intro v_2 rv_2 v_3 rv_3 hm_4
      exact ms_0 rv_3 hm_4
    | succ n_10 ih_10 =>
      intro v_2 rv_2 v_3 rv_3 hm_4
      refine g_iload C 4 dX12_nextTo_10 rfl ?_
      refine g_iload_n C 3 dX12_nextTo_12 rfl rfl ?_
      refine g_icmp_ge C (tgt := 42) dX12_nextTo_13 (by decide) (fun h_5 => ?_) (fun h_5 => ?_)
      · skip
        refine g_iconst C (v := (-1)) dX12_nextTo_42 (by decide) ?_
        exact g_zret (ty := .int) (r := (-1)) B K rfl (rfl) ⟨rfl, rfl, rg_w rc_m1 (by decide) (by decide)⟩ dX12_nextTo_43
      · skip
        have r_6 := lt_l (hi := 6) (nle h_5) rv_3 rv_2 (by decide)
        have r_7 := lt_r (lo := 2) (nle h_5) rv_3 rv_2 (by decide)
        refine g_iload_n C 2 dX12_nextTo_16 rfl rfl ?_
        refine g_iload_n C 1 dX12_nextTo_17 rfl rfl ?_
        refine g_iload C 4 dX12_nextTo_18 rfl ?_
        obtain ⟨x_8, hx_8, rx_8, tx_8⟩ := ex_add 1 12 ra0 r_6 (by decide) (by decide) (by decide) (by decide)
        refine g_iadd C (v := x_8) dX12_nextTo_20 hx_8 ?_
        refine g_iload_n C 3 dX12_nextTo_21 rfl rfl ?_
        obtain ⟨x_9, hx_9, rx_9⟩ := ex_rem (b := 12) (d := 7) 6 (rg_w rx_8 (by decide) (by decide)) (rg_w r_7 (by decide) (by decide)) (by decide)
        refine g_irem C (v := x_9) dX12_nextTo_22 (rg_ne0 r_7 (by decide)) hx_9 ?_
        refine g_callSI C K (c_X12_has W9 a1 x_9  hU) s_12_231 rfl ⟨rfl, rfl⟩ ⟨Nat.le_of_ble_eq_true rfl, Nat.le_of_ble_eq_true rfl⟩ (Nat.le_of_ble_eq_true rfl) ⟨Nat.le_of_ble_eq_true rfl, Nat.le_of_ble_eq_true rfl⟩ dX12_nextTo_23 rfl (st := []) (fun x_10 I_11 J_12 h_13 => ?_)
        obtain ⟨rfl, rfl, rx_10, ex_10⟩ := h_13
        refine g_if_ne C (tgt := 36) dX12_nextTo_26 (by decide) (fun h_14 => ?_) (fun h_14 => ?_)
        · skip
          have n_15 : ¬ x_10 = 0 := h_14
          have r_16 := ne_lo (lo := 1) n_15 rx_10 rc_0 rfl (by decide)
          obtain ⟨x_17, hx_17, rx_17, tx_17⟩ := ex_add (y := 1) 2 7 r_6 rc_1 (by decide) (by decide) (by decide) (by decide)
          refine g_iinc C dX12_nextTo_36 (k := 4) (v := x_17) rfl hx_17 (by decide) (lo2 := [(4, .int x_17), (0, .ref x), (1, .int a0), (2, .int a1), (3, .int v_2)]) rfl ?_
          refine g_goto C (tgt := 10) dX12_nextTo_39 (by decide) ?_
          refine g_lo (is := [1, 2, 3, 4, 0]) (lo2 := [(0, .ref x), (1, .int a0), (2, .int a1), (3, .int v_2), (4, .int x_17)]) rfl ?_
          exact ih_10 v_2 (rg_w r_7 (by decide) (by decide)) x_17 (rg_w rx_17 (by decide) (by decide)) (ms_1 hm_4 (ti_k tx_17 rc_1) (by decide))
        · skip
          have r_18 := (⟨(rx_10).1, (eq_rg (h_14) rc_0).2⟩ : Rg 0 0 x_10)
          refine g_iload_n C 1 dX12_nextTo_29 rfl rfl ?_
          refine g_iload C 4 dX12_nextTo_30 rfl ?_
          refine g_iadd C (v := x_8) dX12_nextTo_32 hx_8 ?_
          refine g_iload_n C 3 dX12_nextTo_33 rfl rfl ?_
          refine g_irem C (v := x_9) dX12_nextTo_34 (rg_ne0 r_7 (by decide)) hx_9 ?_
          exact g_zret (ty := .int) (r := x_9) B K rfl (rfl) ⟨rfl, rfl, rg_w rx_9 (by decide) (by decide)⟩ dX12_nextTo_35
  refine g_aload_n C 0 dX12_nextTo_0 rfl rfl ?_
  refine g_getR C K hLx hkx f_12_13 hb_1 dX12_nextTo_1 ?_
  refine g_iconst C (v := 0) dX12_nextTo_4 (by decide) ?_
  obtain ⟨x_19, hx_19, rx_19⟩ := ex_getw (I := I) (a := b_1) (j := 0) (lo := 0) (hi := 7) hU.1 hb_1L (ro_a hb_1k (by decide) hb_1o hkx rfl) (by decide)
  refine h_iald C K hb_1L hb_1k (v := x_19) (0) (by decide) (by decide) (by rw [hb_1n]; decide) hx_19 dX12_nextTo_5 ?_
  refine g_istore_n C dX12_nextTo_6 rfl (by decide) (lo2 := [(3, .int x_19), (0, .ref x), (1, .int a0), (2, .int a1)]) rfl ?_
  refine g_iconst C (v := 1) dX12_nextTo_7 (by decide) ?_
  refine g_istore C dX12_nextTo_8 (by decide) (lo2 := [(4, .int 1), (3, .int x_19), (0, .ref x), (1, .int a0), (2, .int a1)]) rfl ?_
  refine g_lo (is := [2, 3, 4, 1, 0]) (lo2 := [(0, .ref x), (1, .int a0), (2, .int a1), (3, .int x_19), (4, .int 1)]) rfl ?_
  exact l_10 7 x_19 (rx_19) 1 (rg_w rc_1 (by decide) (by decide)) (ms_s (a := 1) (b := 7) (N := 7) (rg_w rc_1 (by decide) (by decide)) (by decide))
set_option maxRecDepth 100000 in
set_option maxHeartbeats 8000000 in
theorem c_X12_heirBy {l : Launch} {D : va_G} {cy : Nat → ClassId} {L : List Nat} {κ ln : Nat → Nat} {R : Nat → Nat → Option Nat} {I : Nat → Nat → Int32} {J : Nat → Nat → Int64} {ow : Nat → Nat × Nat} (W9 : ∀ a ∈ L, Shp L κ ln R ow a) {x : Nat} (hLx : x ∈ L) (hkx : κ x = 12) (a0 : Int32) (a1 : Int32) (ra0 : Rg 0 6 a0) (hU : Iw L κ R ow I) : CtI l yX12_heirBy cX12_heirBy 6 (some .int) { frames := 2, cells := 0, slots := 0, locals := 45 } D cy L κ ln R I J [.ref x, .int a0, .int a1] (fun r I2 J2 => I = I2 ∧ J = J2 ∧ Rg (-1) 6 r) := by
  refine CtI.of (by decide +kernel) (Nat.le_of_ble_eq_true rfl) ?_
  intro p e s m below meth c B K
  have C := B.1
  obtain ⟨b_1, hb_1, hb_1L, hb_1k, hb_1n, hb_1o⟩ := shp_a (W9 x hLx) hkx 14 14 389 rfl (by decide)
  refine g_lo (is := [0, 1, 2]) (lo2 := [(0, .ref x), (1, .int a0), (2, .int a1)]) rfl ?_
  have l_28 : ∀ (n_28 : Nat) (v_2 : Int32) (rv_2 : Rg (-1) 6 v_2) (v_3 : Int32) (rv_3 : Rg (-1) 6 v_3) (hm_4 : (v_3 : Int32).toInt - (-1) < (n_28 : Int)), WG p l e { frames := 2, cells := 0, slots := 0, locals := 45 } s m ([.ref x, .int a0, .int a1] : List Value).toArray below meth c 6 0 0 (MQ below (Qi_ D cy L κ ln R (fun r I2 J2 => I = I2 ∧ J = J2 ∧ Rg (-1) 6 r)) ([.ref x, .int a0, .int a1] : List Value).toArray s 0 0 (Al_ L)) D cy (Al_ L) s.heap L κ ln R I J 28 [(0, .ref x), (1, .int a0), (2, .int a1), (3, .int v_2), (4, .int v_3)] [] := by
    intro n_28
    induction n_28 with
    | zero =>
      intro v_2 rv_2 v_3 rv_3 hm_4
      exact md_0 rv_3 hm_4
    | succ n_28 ih_28 =>
      intro v_2 rv_2 v_3 rv_3 hm_4
      have j_125 : ∀ (v_5 : Int32) (rv_5 : Rg (-1) 6 v_5) (v_6 : Int32) (rv_6 : Rg 0 6 v_6) (hm_7 : (v_6 : Int32).toInt - (-1) < ((n_28 + 1 : Nat) : Int)), WG p l e { frames := 2, cells := 0, slots := 0, locals := 45 } s m ([.ref x, .int a0, .int a1] : List Value).toArray below meth c 6 0 0 (MQ below (Qi_ D cy L κ ln R (fun r I2 J2 => I = I2 ∧ J = J2 ∧ Rg (-1) 6 r)) ([.ref x, .int a0, .int a1] : List Value).toArray s 0 0 (Al_ L)) D cy (Al_ L) s.heap L κ ln R I J 125 [(0, .ref x), (1, .int a0), (2, .int a1), (3, .int v_5), (4, .int v_6)] [] := by
        intro v_5 rv_5 v_6 rv_6 hm_7
        obtain ⟨x_8, hx_8, rx_8, tx_8⟩ := ex_add (y := (-1)) (-1) 5 rv_6 rc_m1 (by decide) (by decide) (by decide) (by decide)
        refine g_iinc C dX12_heirBy_125 (k := 4) (v := x_8) rfl hx_8 (by decide) (lo2 := [(4, .int x_8), (0, .ref x), (1, .int a0), (2, .int a1), (3, .int v_5)]) rfl ?_
        refine g_goto C (tgt := 28) dX12_heirBy_128 (by decide) ?_
        refine g_lo (is := [1, 2, 3, 4, 0]) (lo2 := [(0, .ref x), (1, .int a0), (2, .int a1), (3, .int v_5), (4, .int x_8)]) rfl ?_
        exact ih_28 v_5 (rv_5) x_8 (rg_w rx_8 (by decide) (by decide)) (md_1 hm_7 (ti_k tx_8 rc_m1) (by decide))
      have j_110 : ∀ (v_9 : Int32) (rv_9 : Rg (-1) 6 v_9) (v_10 : Int32) (rv_10 : Rg 0 6 v_10) (hm_11 : (v_10 : Int32).toInt - (-1) < ((n_28 + 1 : Nat) : Int)), WG p l e { frames := 2, cells := 0, slots := 0, locals := 45 } s m ([.ref x, .int a0, .int a1] : List Value).toArray below meth c 6 0 0 (MQ below (Qi_ D cy L κ ln R (fun r I2 J2 => I = I2 ∧ J = J2 ∧ Rg (-1) 6 r)) ([.ref x, .int a0, .int a1] : List Value).toArray s 0 0 (Al_ L)) D cy (Al_ L) s.heap L κ ln R I J 110 [(0, .ref x), (1, .int a0), (2, .int a1), (3, .int v_9), (4, .int v_10)] [] := by
        intro v_9 rv_9 v_10 rv_10 hm_11
        refine g_iconst C (v := 1) dX12_heirBy_110 (by decide) ?_
        refine g_goto C (tgt := 115) dX12_heirBy_111 (by decide) ?_
        refine g_istore C dX12_heirBy_115 (by decide) (lo2 := [(5, .int 1), (0, .ref x), (1, .int a0), (2, .int a1), (3, .int v_9), (4, .int v_10)]) rfl ?_
        refine g_iload C 0 dX12_heirBy_117 rfl ?_
        refine g_if_eq C (tgt := 125) dX12_heirBy_119 (by decide) (fun h_12 => ?_) (fun h_12 => ?_)
        · skip
          exact absurd (h_12) (by decide)
        · skip
          refine g_iload C 5 dX12_heirBy_122 rfl ?_
          refine g_istore_n C dX12_heirBy_124 rfl (by decide) (lo2 := [(3, .int v_10), (5, .int 1), (0, .ref x), (1, .int a0), (2, .int a1), (4, .int v_10)]) rfl ?_
          refine g_lo (is := [2, 3, 4, 0, 5]) (lo2 := [(0, .ref x), (1, .int a0), (2, .int a1), (3, .int v_10), (4, .int v_10)]) rfl ?_
          exact j_125 v_10 (rg_w rv_10 (by decide) (by decide)) v_10 (rv_10) hm_11
      refine g_iload C 4 dX12_heirBy_28 rfl ?_
      refine g_if_lt C (tgt := 131) dX12_heirBy_30 (by decide) (fun h_13 => ?_) (fun h_13 => ?_)
      · skip
        have r_14 := lt_l (hi := (-1)) (h_13) rv_3 rc_0 (by decide)
        refine g_iload_n C 3 dX12_heirBy_131 rfl rfl ?_
        refine g_iconst C (v := (-1)) dX12_heirBy_132 (by decide) ?_
        refine g_icmp_ne C (tgt := 155) dX12_heirBy_133 (by decide) (fun h_15 => ?_) (fun h_15 => ?_)
        · skip
          have n_16 : ¬ v_2 = (-1) := h_15
          have r_17 := ne_lo (lo := 0) n_16 rv_2 rc_m1 rfl (by decide)
          refine g_iload_n C 3 dX12_heirBy_155 rfl rfl ?_
          exact g_zret (ty := .int) (r := v_2) B K rfl (rfl) ⟨rfl, rfl, rg_w r_17 (by decide) (by decide)⟩ dX12_heirBy_156
        · skip
          have r_18 := (⟨(rv_2).1, (eq_rg (h_15) rc_m1).2⟩ : Rg (-1) (-1) v_2)
          refine g_aload_n C 0 dX12_heirBy_136 rfl rfl ?_
          refine g_getR C K hLx hkx f_12_13 hb_1 dX12_heirBy_137 ?_
          refine g_iconst C (v := 2) dX12_heirBy_140 (by decide) ?_
          obtain ⟨x_19, hx_19, rx_19⟩ := ex_any (z0 := I b_1 (2))
          refine h_iald C K hb_1L hb_1k (v := x_19) (2) (by decide) (by decide) (by rw [hb_1n]; decide) hx_19 dX12_heirBy_141 ?_
          refine g_iconst C (v := 1) dX12_heirBy_142 (by decide) ?_
          refine g_icmp_ne C (tgt := 155) dX12_heirBy_143 (by decide) (fun h_20 => ?_) (fun h_20 => ?_)
          · skip
            have n_21 : ¬ x_19 = 1 := h_20
            refine g_iload_n C 3 dX12_heirBy_155 rfl rfl ?_
            exact g_zret (ty := .int) (r := v_2) B K rfl (rfl) ⟨rfl, rfl, rg_w r_18 (by decide) (by decide)⟩ dX12_heirBy_156
          · skip
            have r_22 := (⟨(eq_rg (h_20) rc_1).1, (eq_rg (h_20) rc_1).2⟩ : Rg 1 1 x_19)
            refine g_aload_n C 0 dX12_heirBy_146 rfl rfl ?_
            refine g_iload_n C 1 dX12_heirBy_147 rfl rfl ?_
            refine g_iload_n C 2 dX12_heirBy_148 rfl rfl ?_
            refine g_callVI C K (c_X12_nextTo W9 hLx hkx a0 a1 (ra0) hU) hLx hkx (by decide) rfl v_12_256 rfl ⟨rfl, rfl⟩ ⟨Nat.le_of_ble_eq_true rfl, Nat.le_of_ble_eq_true rfl⟩ (Nat.le_of_ble_eq_true rfl) ⟨Nat.le_of_ble_eq_true rfl, Nat.le_of_ble_eq_true rfl⟩ dX12_heirBy_149 rfl (st := []) (fun x_23 I_24 J_25 h_26 => ?_)
            obtain ⟨rfl, rfl, rx_23⟩ := h_26
            refine g_goto C (tgt := 156) dX12_heirBy_152 (by decide) ?_
            exact g_zret (ty := .int) (r := x_23) B K rfl (rfl) ⟨rfl, rfl, rx_23⟩ dX12_heirBy_156
      · skip
        have r_27 := le_r (nlt h_13) rc_0 rv_3
        refine g_iload C 4 dX12_heirBy_33 rfl ?_
        refine g_iload_n C 1 dX12_heirBy_35 rfl rfl ?_
        refine g_icmp_eq C (tgt := 125) dX12_heirBy_36 (by decide) (fun h_28 => ?_) (fun h_28 => ?_)
        · skip
          refine g_lo (is := [0, 1, 2, 3, 4]) (lo2 := [(0, .ref x), (1, .int a0), (2, .int a1), (3, .int v_2), (4, .int v_3)]) rfl ?_
          exact j_125 v_2 (rv_2) v_3 (r_27) hm_4
        · skip
          refine g_iload_n C 2 dX12_heirBy_39 rfl rfl ?_
          refine g_iload C 4 dX12_heirBy_40 rfl ?_
          refine g_callSI C K (c_X12_has W9 a1 v_3  hU) s_12_231 rfl ⟨rfl, rfl⟩ ⟨Nat.le_of_ble_eq_true rfl, Nat.le_of_ble_eq_true rfl⟩ (Nat.le_of_ble_eq_true rfl) ⟨Nat.le_of_ble_eq_true rfl, Nat.le_of_ble_eq_true rfl⟩ dX12_heirBy_42 rfl (st := []) (fun x_29 I_30 J_31 h_32 => ?_)
          obtain ⟨rfl, rfl, rx_29, ex_29⟩ := h_32
          refine g_if_eq C (tgt := 51) dX12_heirBy_45 (by decide) (fun h_33 => ?_) (fun h_33 => ?_)
          · skip
            have r_34 := (⟨(rx_29).1, (eq_rg (h_33) rc_0).2⟩ : Rg 0 0 x_29)
            refine g_aload_n C 0 dX12_heirBy_51 rfl rfl ?_
            refine g_getR C K hLx hkx f_12_13 hb_1 dX12_heirBy_52 ?_
            refine g_iconst C (v := 2) dX12_heirBy_55 (by decide) ?_
            obtain ⟨x_35, hx_35, rx_35⟩ := ex_any (z0 := I b_1 (2))
            refine h_iald C K hb_1L hb_1k (v := x_35) (2) (by decide) (by decide) (by rw [hb_1n]; decide) hx_35 dX12_heirBy_56 ?_
            refine g_iconst C (v := 1) dX12_heirBy_57 (by decide) ?_
            refine g_icmp_ne C (tgt := 83) dX12_heirBy_58 (by decide) (fun h_36 => ?_) (fun h_36 => ?_)
            · skip
              have n_37 : ¬ x_35 = 1 := h_36
              refine g_iload_n C 3 dX12_heirBy_83 rfl rfl ?_
              refine g_iconst C (v := (-1)) dX12_heirBy_84 (by decide) ?_
              refine g_icmp_eq C (tgt := 110) dX12_heirBy_85 (by decide) (fun h_38 => ?_) (fun h_38 => ?_)
              · skip
                have r_39 := (⟨(rv_2).1, (eq_rg (h_38) rc_m1).2⟩ : Rg (-1) (-1) v_2)
                refine g_lo (is := [0, 1, 2, 3, 4]) (lo2 := [(0, .ref x), (1, .int a0), (2, .int a1), (3, .int v_2), (4, .int v_3)]) rfl ?_
                exact j_110 v_2 (rg_w r_39 (by decide) (by decide)) v_3 (r_27) hm_4
              · skip
                have n_40 : ¬ v_2 = (-1) := h_38
                have r_41 := ne_lo (lo := 0) n_40 rv_2 rc_m1 rfl (by decide)
                refine g_aload_n C 0 dX12_heirBy_88 rfl rfl ?_
                refine g_getR C K hLx hkx f_12_13 hb_1 dX12_heirBy_89 ?_
                refine g_bipush C (v := 84) dX12_heirBy_92 (by decide) ?_
                refine g_iload C 4 dX12_heirBy_94 rfl ?_
                obtain ⟨x_42, hx_42, rx_42, tx_42⟩ := ex_add 84 90 rc_84 r_27 (by decide) (by decide) (by decide) (by decide)
                refine g_iadd C (v := x_42) dX12_heirBy_96 hx_42 ?_
                obtain ⟨x_43, hx_43, rx_43⟩ := ex_any (z0 := I b_1 (x_42.toNatClampNeg))
                refine h_iald C K hb_1L hb_1k (v := x_43) (x_42.toNatClampNeg) (rfl) (ix_0 rx_42 (by decide)) (ix_lt rx_42 (by decide) hb_1n (by decide)) hx_43 dX12_heirBy_97 ?_
                refine g_aload_n C 0 dX12_heirBy_98 rfl rfl ?_
                refine g_getR C K hLx hkx f_12_13 hb_1 dX12_heirBy_99 ?_
                refine g_bipush C (v := 84) dX12_heirBy_102 (by decide) ?_
                refine g_iload_n C 3 dX12_heirBy_104 rfl rfl ?_
                obtain ⟨x_44, hx_44, rx_44, tx_44⟩ := ex_add 84 90 rc_84 r_41 (by decide) (by decide) (by decide) (by decide)
                refine g_iadd C (v := x_44) dX12_heirBy_105 hx_44 ?_
                obtain ⟨x_45, hx_45, rx_45⟩ := ex_any (z0 := I b_1 (x_44.toNatClampNeg))
                refine h_iald C K hb_1L hb_1k (v := x_45) (x_44.toNatClampNeg) (rfl) (ix_0 rx_44 (by decide)) (ix_lt rx_44 (by decide) hb_1n (by decide)) hx_45 dX12_heirBy_106 ?_
                refine g_icmp_gt C (tgt := 114) dX12_heirBy_107 (by decide) (fun h_46 => ?_) (fun h_46 => ?_)
                · skip
                  have r_47 := lt_l (hi := 2147483646) (h_46) rx_45 rx_43 (by decide)
                  have r_48 := lt_r (lo := (-2147483647)) (h_46) rx_45 rx_43 (by decide)
                  refine g_iconst C (v := 0) dX12_heirBy_114 (by decide) ?_
                  refine g_istore C dX12_heirBy_115 (by decide) (lo2 := [(5, .int 0), (0, .ref x), (1, .int a0), (2, .int a1), (3, .int v_2), (4, .int v_3)]) rfl ?_
                  refine g_iload C 0 dX12_heirBy_117 rfl ?_
                  refine g_if_eq C (tgt := 125) dX12_heirBy_119 (by decide) (fun h_49 => ?_) (fun h_49 => ?_)
                  · skip
                    refine g_lo (is := [1, 2, 3, 4, 5]) (lo2 := [(0, .ref x), (1, .int a0), (2, .int a1), (3, .int v_2), (4, .int v_3)]) rfl ?_
                    exact j_125 v_2 (rg_w r_41 (by decide) (by decide)) v_3 (r_27) hm_4
                  · skip
                    exact absurd (h_49) (by decide)
                · skip
                  refine g_lo (is := [0, 1, 2, 3, 4]) (lo2 := [(0, .ref x), (1, .int a0), (2, .int a1), (3, .int v_2), (4, .int v_3)]) rfl ?_
                  exact j_110 v_2 (rg_w r_41 (by decide) (by decide)) v_3 (r_27) hm_4
            · skip
              have r_50 := (⟨(eq_rg (h_36) rc_1).1, (eq_rg (h_36) rc_1).2⟩ : Rg 1 1 x_35)
              refine g_aload_n C 0 dX12_heirBy_61 rfl rfl ?_
              refine g_getR C K hLx hkx f_12_13 hb_1 dX12_heirBy_62 ?_
              refine g_bipush C (v := 11) dX12_heirBy_65 (by decide) ?_
              refine g_iload C 4 dX12_heirBy_67 rfl ?_
              obtain ⟨x_51, hx_51, rx_51, tx_51⟩ := ex_add 11 17 rc_11 r_27 (by decide) (by decide) (by decide) (by decide)
              refine g_iadd C (v := x_51) dX12_heirBy_69 hx_51 ?_
              obtain ⟨x_52, hx_52, rx_52⟩ := ex_any (z0 := I b_1 (x_51.toNatClampNeg))
              refine h_iald C K hb_1L hb_1k (v := x_52) (x_51.toNatClampNeg) (rfl) (ix_0 rx_51 (by decide)) (ix_lt rx_51 (by decide) hb_1n (by decide)) hx_52 dX12_heirBy_70 ?_
              refine g_iload_n C 1 dX12_heirBy_71 rfl rfl ?_
              refine g_icmp_ne C (tgt := 79) dX12_heirBy_72 (by decide) (fun h_53 => ?_) (fun h_53 => ?_)
              · skip
                refine g_iconst C (v := 0) dX12_heirBy_79 (by decide) ?_
                refine g_goto C (tgt := 115) dX12_heirBy_80 (by decide) ?_
                refine g_istore C dX12_heirBy_115 (by decide) (lo2 := [(5, .int 0), (0, .ref x), (1, .int a0), (2, .int a1), (3, .int v_2), (4, .int v_3)]) rfl ?_
                refine g_iload C 0 dX12_heirBy_117 rfl ?_
                refine g_if_eq C (tgt := 125) dX12_heirBy_119 (by decide) (fun h_54 => ?_) (fun h_54 => ?_)
                · skip
                  refine g_lo (is := [1, 2, 3, 4, 5]) (lo2 := [(0, .ref x), (1, .int a0), (2, .int a1), (3, .int v_2), (4, .int v_3)]) rfl ?_
                  exact j_125 v_2 (rv_2) v_3 (r_27) hm_4
                · skip
                  exact absurd (h_54) (by decide)
              · skip
                have r_55 := (⟨(eq_rg (h_53) ra0).1, (eq_rg (h_53) ra0).2⟩ : Rg 0 6 x_52)
                refine g_iconst C (v := 1) dX12_heirBy_75 (by decide) ?_
                refine g_goto C (tgt := 115) dX12_heirBy_76 (by decide) ?_
                refine g_istore C dX12_heirBy_115 (by decide) (lo2 := [(5, .int 1), (0, .ref x), (1, .int a0), (2, .int a1), (3, .int v_2), (4, .int v_3)]) rfl ?_
                refine g_iload C 0 dX12_heirBy_117 rfl ?_
                refine g_if_eq C (tgt := 125) dX12_heirBy_119 (by decide) (fun h_56 => ?_) (fun h_56 => ?_)
                · skip
                  exact absurd (h_56) (by decide)
                · skip
                  refine g_iload C 5 dX12_heirBy_122 rfl ?_
                  refine g_istore_n C dX12_heirBy_124 rfl (by decide) (lo2 := [(3, .int v_3), (5, .int 1), (0, .ref x), (1, .int a0), (2, .int a1), (4, .int v_3)]) rfl ?_
                  refine g_lo (is := [2, 3, 4, 0, 5]) (lo2 := [(0, .ref x), (1, .int a0), (2, .int a1), (3, .int v_3), (4, .int v_3)]) rfl ?_
                  exact j_125 v_3 (rg_w r_27 (by decide) (by decide)) v_3 (r_27) hm_4
          · skip
            have n_57 : ¬ x_29 = 0 := h_33
            have r_58 := ne_lo (lo := 1) n_57 rx_29 rc_0 rfl (by decide)
            refine g_goto C (tgt := 125) dX12_heirBy_48 (by decide) ?_
            refine g_lo (is := [0, 1, 2, 3, 4]) (lo2 := [(0, .ref x), (1, .int a0), (2, .int a1), (3, .int v_2), (4, .int v_3)]) rfl ?_
            exact j_125 v_2 (rv_2) v_3 (r_27) hm_4
  refine g_aload_n C 0 dX12_heirBy_0 rfl rfl ?_
  refine g_getR C K hLx hkx f_12_13 hb_1 dX12_heirBy_1 ?_
  refine g_iconst C (v := 2) dX12_heirBy_4 (by decide) ?_
  obtain ⟨x_59, hx_59, rx_59⟩ := ex_any (z0 := I b_1 (2))
  refine h_iald C K hb_1L hb_1k (v := x_59) (2) (by decide) (by decide) (by rw [hb_1n]; decide) hx_59 dX12_heirBy_5 ?_
  refine g_if_ne C (tgt := 16) dX12_heirBy_6 (by decide) (fun h_60 => ?_) (fun h_60 => ?_)
  · skip
    have n_61 : ¬ x_59 = 0 := h_60
    refine g_iconst C (v := (-1)) dX12_heirBy_16 (by decide) ?_
    refine g_istore_n C dX12_heirBy_17 rfl (by decide) (lo2 := [(3, .int (-1)), (0, .ref x), (1, .int a0), (2, .int a1)]) rfl ?_
    refine g_aload_n C 1 dX12_heirBy_18 rfl rfl ?_
    refine g_getR C K hLx hkx f_12_13 hb_1 dX12_heirBy_19 ?_
    refine g_iconst C (v := 0) dX12_heirBy_22 (by decide) ?_
    obtain ⟨x_62, hx_62, rx_62⟩ := ex_getw (I := I) (a := b_1) (j := 0) (lo := 0) (hi := 7) hU.1 hb_1L (ro_a hb_1k (by decide) hb_1o hkx rfl) (by decide)
    refine h_iald C K hb_1L hb_1k (v := x_62) (0) (by decide) (by decide) (by rw [hb_1n]; decide) hx_62 dX12_heirBy_23 ?_
    refine g_iconst C (v := 1) dX12_heirBy_24 (by decide) ?_
    obtain ⟨x_63, hx_63, rx_63, tx_63⟩ := ex_sub (-1) 6 rx_62 rc_1 (by decide) (by decide) (by decide) (by decide)
    refine g_isub C (v := x_63) dX12_heirBy_25 hx_63 ?_
    refine g_istore C dX12_heirBy_26 (by decide) (lo2 := [(4, .int x_63), (3, .int (-1)), (0, .ref x), (1, .int a0), (2, .int a1)]) rfl ?_
    refine g_lo (is := [2, 3, 4, 1, 0]) (lo2 := [(0, .ref x), (1, .int a0), (2, .int a1), (3, .int (-1)), (4, .int x_63)]) rfl ?_
    exact l_28 8 (-1) (rg_w rc_m1 (by decide) (by decide)) x_63 (rx_63) (md_s (a := (-1)) (b := 6) (N := 8) (rx_63) (by decide))
  · skip
    have r_64 := (⟨(eq_rg (h_60) rc_0).1, (eq_rg (h_60) rc_0).2⟩ : Rg 0 0 x_59)
    refine g_aload_n C 0 dX12_heirBy_9 rfl rfl ?_
    refine g_iload_n C 1 dX12_heirBy_10 rfl rfl ?_
    refine g_iload_n C 2 dX12_heirBy_11 rfl rfl ?_
    refine g_callVI C K (c_X12_nextTo W9 hLx hkx a0 a1 (ra0) hU) hLx hkx (by decide) rfl v_12_256 rfl ⟨rfl, rfl⟩ ⟨Nat.le_of_ble_eq_true rfl, Nat.le_of_ble_eq_true rfl⟩ (Nat.le_of_ble_eq_true rfl) ⟨Nat.le_of_ble_eq_true rfl, Nat.le_of_ble_eq_true rfl⟩ dX12_heirBy_12 rfl (st := []) (fun x_65 I_66 J_67 h_68 => ?_)
    obtain ⟨rfl, rfl, rx_65⟩ := h_68
    exact g_zret (ty := .int) (r := x_65) B K rfl (rfl) ⟨rfl, rfl, rx_65⟩ dX12_heirBy_15
set_option maxRecDepth 100000 in
set_option maxHeartbeats 8000000 in
theorem c_X12_outs {l : Launch} {D : va_G} {cy : Nat → ClassId} {L : List Nat} {κ ln : Nat → Nat} {R : Nat → Nat → Option Nat} {I : Nat → Nat → Int32} {J : Nat → Nat → Int64} {ow : Nat → Nat × Nat} (W9 : ∀ a ∈ L, Shp L κ ln R ow a) {x : Nat} (hLx : x ∈ L) (hkx : κ x = 12) (hU : Iw L κ R ow I) : CtI l yX12_outs cX12_outs 1 (some .int) { frames := 0, cells := 0, slots := 0, locals := 0 } D cy L κ ln R I J [.ref x] (fun r I2 J2 => I = I2 ∧ J = J2 ∧ Rg (-2147483648) 2147483647 r) := by
  refine CtI.of (by decide +kernel) (Nat.le_of_ble_eq_true rfl) ?_
  intro p e s m below meth c B K
  have C := B.1
  obtain ⟨b_1, hb_1, hb_1L, hb_1k, hb_1n, hb_1o⟩ := shp_a (W9 x hLx) hkx 14 14 389 rfl (by decide)
  refine g_lo (is := [0]) (lo2 := [(0, .ref x)]) rfl ?_
  refine g_aload_n C 0 dX12_outs_0 rfl rfl ?_
  refine g_getR C K hLx hkx f_12_13 hb_1 dX12_outs_1 ?_
  refine g_bipush C (v := 73) dX12_outs_4 (by decide) ?_
  obtain ⟨x_2, hx_2, rx_2⟩ := ex_any (z0 := I b_1 (73))
  refine h_iald C K hb_1L hb_1k (v := x_2) (73) (by decide) (by decide) (by rw [hb_1n]; decide) hx_2 dX12_outs_6 ?_
  refine g_aload_n C 0 dX12_outs_7 rfl rfl ?_
  refine g_getR C K hLx hkx f_12_13 hb_1 dX12_outs_8 ?_
  refine g_bipush C (v := 74) dX12_outs_11 (by decide) ?_
  obtain ⟨x_3, hx_3, rx_3⟩ := ex_any (z0 := I b_1 (74))
  refine h_iald C K hb_1L hb_1k (v := x_3) (74) (by decide) (by decide) (by rw [hb_1n]; decide) hx_3 dX12_outs_13 ?_
  obtain ⟨x_4, hx_4, rx_4⟩ := ex_any (z0 := x_2 ||| x_3)
  refine g_ior C (v := x_4) dX12_outs_14 hx_4 ?_
  exact g_zret (ty := .int) (r := x_4) B K rfl (rfl) ⟨rfl, rfl, rx_4⟩ dX12_outs_15
set_option maxRecDepth 100000 in
set_option maxHeartbeats 8000000 in
theorem c_X12_heir {l : Launch} {D : va_G} {cy : Nat → ClassId} {L : List Nat} {κ ln : Nat → Nat} {R : Nat → Nat → Option Nat} {I : Nat → Nat → Int32} {J : Nat → Nat → Int64} {ow : Nat → Nat × Nat} (W9 : ∀ a ∈ L, Shp L κ ln R ow a) {x : Nat} (hLx : x ∈ L) (hkx : κ x = 12) (a0 : Int32) (hU : Iw L κ R ow I) : CtI l yX12_heir cX12_heir 2 (some .int) { frames := 3, cells := 0, slots := 0, locals := 70 } D cy L κ ln R I J [.ref x, .int a0] (fun r I2 J2 => Iw L κ R ow I2 ∧ Fq L κ ow [1200] I I2 ∧ Fq L κ ow [] J J2 ∧ Rg (-1) 6 r) := by
  refine CtI.of (by decide +kernel) (Nat.le_of_ble_eq_true rfl) ?_
  intro p e s m below meth c B K
  have C := B.1
  have hF : Fq L κ ow [1200] I I := fq_rf
  have hG : Fq L κ ow [] J J := fq_rf
  refine g_lo (is := [0, 1]) (lo2 := [(0, .ref x), (1, .int a0)]) rfl ?_
  refine g_aload_n C 0 dX12_heir_0 rfl rfl ?_
  refine g_iconst C (v := 0) dX12_heir_1 (by decide) ?_
  refine h_putI C K hLx hkx f_12_82 p_12_0 dX12_heir_2 (fun I_1 hI_1 => ?_)
  have hU_2 := iw_put W9 hU hI_1 (ro_o hkx (by decide)) (lo := (-2147483648)) (hi := 2147483647) (rfl) (rg_all _) rfl
  have hF_3 := fq_puto hF hI_1 hkx (by decide) (by decide)
  refine g_aload_n C 0 dX12_heir_5 rfl rfl ?_
  refine g_iload_n C 1 dX12_heir_6 rfl rfl ?_
  refine g_callVI C K (c_X12_isPerson W9 hLx hkx a0  hU_2) hLx hkx (by decide) rfl v_12_238 rfl ⟨rfl, rfl⟩ ⟨Nat.le_of_ble_eq_true rfl, Nat.le_of_ble_eq_true rfl⟩ (Nat.le_of_ble_eq_true rfl) ⟨Nat.le_of_ble_eq_true rfl, Nat.le_of_ble_eq_true rfl⟩ dX12_heir_7 rfl (st := []) (fun x_4 I_5 J_6 h_7 => ?_)
  obtain ⟨rfl, rfl, rx_4, ex_4⟩ := h_7
  refine g_if_eq C (tgt := 25) dX12_heir_10 (by decide) (fun h_8 => ?_) (fun h_8 => ?_)
  · skip
    have r_9 := (⟨(rx_4).1, (eq_rg (h_8) rc_0).2⟩ : Rg 0 0 x_4)
    refine g_iconst C (v := (-1)) dX12_heir_25 (by decide) ?_
    exact g_zret (ty := .int) (r := (-1)) B K rfl (rfl) ⟨hU_2, hF_3, hG, rg_w rc_m1 (by decide) (by decide)⟩ dX12_heir_26
  · skip
    have n_10 : ¬ x_4 = 0 := h_8
    have r_11 := ne_lo (lo := 1) n_10 rx_4 rc_0 rfl (by decide)
    have r_12 := rg_i (rg_all a0) ((ex_4) n_10) (lo := 0) (hi := 6) (by decide) (by decide)
    refine g_aload_n C 0 dX12_heir_13 rfl rfl ?_
    refine g_iload_n C 1 dX12_heir_14 rfl rfl ?_
    refine g_aload_n C 0 dX12_heir_15 rfl rfl ?_
    refine g_callVI C K (c_X12_outs W9 hLx hkx   hU_2) hLx hkx (by decide) rfl v_12_259 rfl ⟨rfl, rfl⟩ ⟨Nat.le_of_ble_eq_true rfl, Nat.le_of_ble_eq_true rfl⟩ (Nat.le_of_ble_eq_true rfl) ⟨Nat.le_of_ble_eq_true rfl, Nat.le_of_ble_eq_true rfl⟩ dX12_heir_16 rfl (st := [.int a0, .ref x]) (fun x_13 I_14 J_15 h_16 => ?_)
    obtain ⟨rfl, rfl, rx_13⟩ := h_16
    refine g_callVI C K (c_X12_heirBy W9 hLx hkx a0 x_13 (r_12) hU_2) hLx hkx (by decide) rfl v_12_262 rfl ⟨rfl, rfl⟩ ⟨Nat.le_of_ble_eq_true rfl, Nat.le_of_ble_eq_true rfl⟩ (Nat.le_of_ble_eq_true rfl) ⟨Nat.le_of_ble_eq_true rfl, Nat.le_of_ble_eq_true rfl⟩ dX12_heir_19 rfl (st := []) (fun x_17 I_18 J_19 h_20 => ?_)
    obtain ⟨rfl, rfl, rx_17⟩ := h_20
    refine g_goto C (tgt := 26) dX12_heir_22 (by decide) ?_
    exact g_zret (ty := .int) (r := x_17) B K rfl (rfl) ⟨hU_2, hF_3, hG, rx_17⟩ dX12_heir_26
set_option maxRecDepth 100000 in
set_option maxHeartbeats 8000000 in
theorem c_X12_line {l : Launch} {D : va_G} {cy : Nat → ClassId} {L : List Nat} {κ ln : Nat → Nat} {R : Nat → Nat → Option Nat} {I : Nat → Nat → Int32} {J : Nat → Nat → Int64} {ow : Nat → Nat × Nat} (W9 : ∀ a ∈ L, Shp L κ ln R ow a) {x : Nat} (hLx : x ∈ L) (hkx : κ x = 12) (a0 : Int32) (a1 : Int32) (hU : Iw L κ R ow I) : CtI l yX12_line cX12_line 6 (some .int) { frames := 3, cells := 0, slots := 0, locals := 70 } D cy L κ ln R I J [.ref x, .int a0, .int a1] (fun r I2 J2 => Iw L κ R ow I2 ∧ Fq L κ ow [1200] I I2 ∧ Fq L κ ow [] J J2 ∧ Rg (-1) 6 r) := by
  refine CtI.of (by decide +kernel) (Nat.le_of_ble_eq_true rfl) ?_
  intro p e s m below meth c B K
  have C := B.1
  have hF : Fq L κ ow [1200] I I := fq_rf
  have hG : Fq L κ ow [] J J := fq_rf
  refine g_lo (is := [0, 1, 2]) (lo2 := [(0, .ref x), (1, .int a0), (2, .int a1)]) rfl ?_
  have l_35 : ∀ (n_35 : Nat) (I_1 : Nat → Nat → Int32) (J_2 : Nat → Nat → Int64) (hU_3 : Iw L κ R ow I_1) (hF_4 : Fq L κ ow [1200] I I_1) (hG_5 : Fq L κ ow [] J J_2) (r_6 : Rg 0 6 a0) (r_7 : Rg 0 2147483647 a1) (v_8 : Int32) (v_9 : Int32) (rv_9 : Rg (-1) 6 v_9) (v_10 : Int32) (rv_10 : Rg 0 2147483647 v_10) (q_11 : I_1 x 0 = 0) (hm_12 : 2147483647 < (v_10 : Int32).toInt + (n_35 : Int)), WG p l e { frames := 3, cells := 0, slots := 0, locals := 70 } s m ([.ref x, .int a0, .int a1] : List Value).toArray below meth c 6 0 0 (MQ below (Qi_ D cy L κ ln R (fun r I2 J2 => Iw L κ R ow I2 ∧ Fq L κ ow [1200] I I2 ∧ Fq L κ ow [] J J2 ∧ Rg (-1) 6 r)) ([.ref x, .int a0, .int a1] : List Value).toArray s 0 0 (Al_ L)) D cy (Al_ L) s.heap L κ ln R I_1 J_2 35 [(0, .ref x), (1, .int a0), (2, .int a1), (3, .int v_8), (4, .int v_9), (5, .int v_10)] [] := by
    intro n_35
    induction n_35 with
    | zero =>
      intro I_1 J_2 hU_3 hF_4 hG_5 r_6 r_7 v_8 v_9 rv_9 v_10 rv_10 q_11 hm_12
      exact ms_0 rv_10 hm_12
    | succ n_35 ih_35 =>
      intro I_1 J_2 hU_3 hF_4 hG_5 r_6 r_7 v_8 v_9 rv_9 v_10 rv_10 q_11 hm_12
      refine g_iload C 5 dX12_line_35 rfl ?_
      refine g_iload_n C 2 dX12_line_37 rfl rfl ?_
      refine g_icmp_ge C (tgt := 68) dX12_line_38 (by decide) (fun h_13 => ?_) (fun h_13 => ?_)
      · skip
        refine g_iload C 4 dX12_line_68 rfl ?_
        exact g_zret (ty := .int) (r := v_9) B K rfl (rfl) ⟨hU_3, hF_4, hG_5, rv_9⟩ dX12_line_70
      · skip
        have r_14 := lt_l (hi := 2147483646) (nle h_13) rv_10 r_7 (by decide)
        have r_15 := lt_r (lo := 1) (nle h_13) rv_10 r_7 (by decide)
        refine g_iload C 4 dX12_line_41 rfl ?_
        refine g_iconst C (v := (-1)) dX12_line_43 (by decide) ?_
        refine g_icmp_eq C (tgt := 68) dX12_line_44 (by decide) (fun h_16 => ?_) (fun h_16 => ?_)
        · skip
          have r_17 := (⟨(rv_9).1, (eq_rg (h_16) rc_m1).2⟩ : Rg (-1) (-1) v_9)
          refine g_iload C 4 dX12_line_68 rfl ?_
          exact g_zret (ty := .int) (r := v_9) B K rfl (rfl) ⟨hU_3, hF_4, hG_5, rg_w r_17 (by decide) (by decide)⟩ dX12_line_70
        · skip
          have n_18 : ¬ v_9 = (-1) := h_16
          have r_19 := ne_lo (lo := 0) n_18 rv_9 rc_m1 rfl (by decide)
          refine g_iload_n C 3 dX12_line_47 rfl rfl ?_
          refine g_iconst C (v := 1) dX12_line_48 (by decide) ?_
          refine g_iload C 4 dX12_line_49 rfl ?_
          obtain ⟨x_20, hx_20, rx_20⟩ := ex_shl (x := 1) (y := v_9) 6 64 rfl (r_19) (by decide)
          refine g_ishl C (v := x_20) dX12_line_51 hx_20 ?_
          obtain ⟨x_21, hx_21, rx_21⟩ := ex_any (z0 := v_8 ||| x_20)
          refine g_ior C (v := x_21) dX12_line_52 hx_21 ?_
          refine g_istore_n C dX12_line_53 rfl (by decide) (lo2 := [(3, .int x_21), (0, .ref x), (1, .int a0), (2, .int a1), (4, .int v_9), (5, .int v_10)]) rfl ?_
          refine g_aload_n C 1 dX12_line_54 rfl rfl ?_
          refine g_iload_n C 2 dX12_line_55 rfl rfl ?_
          refine g_iload_n C 0 dX12_line_56 rfl rfl ?_
          refine g_callVI C K (c_X12_heirBy W9 hLx hkx a0 x_21 (r_6) hU_3) hLx hkx (by decide) rfl v_12_262 rfl ⟨rfl, rfl⟩ ⟨Nat.le_of_ble_eq_true rfl, Nat.le_of_ble_eq_true rfl⟩ (Nat.le_of_ble_eq_true rfl) ⟨Nat.le_of_ble_eq_true rfl, Nat.le_of_ble_eq_true rfl⟩ dX12_line_57 rfl (st := []) (fun x_22 I_23 J_24 h_25 => ?_)
          obtain ⟨rfl, rfl, rx_22⟩ := h_25
          refine g_istore C dX12_line_60 (by decide) (lo2 := [(4, .int x_22), (3, .int x_21), (0, .ref x), (1, .int a0), (2, .int a1), (5, .int v_10)]) rfl ?_
          obtain ⟨x_26, hx_26, rx_26, tx_26⟩ := ex_add (y := 1) 1 2147483647 r_14 rc_1 (by decide) (by decide) (by decide) (by decide)
          refine g_iinc C dX12_line_62 (k := 5) (v := x_26) rfl hx_26 (by decide) (lo2 := [(5, .int x_26), (4, .int x_22), (3, .int x_21), (0, .ref x), (1, .int a0), (2, .int a1)]) rfl ?_
          refine g_goto C (tgt := 35) dX12_line_65 (by decide) ?_
          refine g_lo (is := [3, 4, 5, 2, 1, 0]) (lo2 := [(0, .ref x), (1, .int a0), (2, .int a1), (3, .int x_21), (4, .int x_22), (5, .int x_26)]) rfl ?_
          exact ih_35 I_1 J_2 hU_3 hF_4 hG_5 (r_6) (rg_w r_15 (by decide) (by decide)) x_21 x_22 (rx_22) x_26 (rg_w rx_26 (by decide) (by decide)) q_11 (ms_1 hm_12 (ti_k tx_26 rc_1) (by decide))
  refine g_aload_n C 0 dX12_line_0 rfl rfl ?_
  refine g_iconst C (v := 0) dX12_line_1 (by decide) ?_
  refine h_putI C K hLx hkx f_12_82 p_12_0 dX12_line_2 (fun I_27 hI_27 => ?_)
  have hU_28 := iw_put W9 hU hI_27 (ro_o hkx (by decide)) (lo := (-2147483648)) (hi := 2147483647) (rfl) (rg_all _) rfl
  have hF_29 := fq_puto hF hI_27 hkx (by decide) (by decide)
  refine g_aload_n C 0 dX12_line_5 rfl rfl ?_
  refine g_iload_n C 1 dX12_line_6 rfl rfl ?_
  refine g_callVI C K (c_X12_isPerson W9 hLx hkx a0  hU_28) hLx hkx (by decide) rfl v_12_238 rfl ⟨rfl, rfl⟩ ⟨Nat.le_of_ble_eq_true rfl, Nat.le_of_ble_eq_true rfl⟩ (Nat.le_of_ble_eq_true rfl) ⟨Nat.le_of_ble_eq_true rfl, Nat.le_of_ble_eq_true rfl⟩ dX12_line_7 rfl (st := []) (fun x_30 I_31 J_32 h_33 => ?_)
  obtain ⟨rfl, rfl, rx_30, ex_30⟩ := h_33
  refine g_if_eq C (tgt := 17) dX12_line_10 (by decide) (fun h_34 => ?_) (fun h_34 => ?_)
  · skip
    have r_35 := (⟨(rx_30).1, (eq_rg (h_34) rc_0).2⟩ : Rg 0 0 x_30)
    refine g_iconst C (v := (-1)) dX12_line_17 (by decide) ?_
    exact g_zret (ty := .int) (r := (-1)) B K rfl (rfl) ⟨hU_28, hF_29, hG, rg_w rc_m1 (by decide) (by decide)⟩ dX12_line_18
  · skip
    have n_36 : ¬ x_30 = 0 := h_34
    have r_37 := ne_lo (lo := 1) n_36 rx_30 rc_0 rfl (by decide)
    have r_38 := rg_i (rg_all a0) ((ex_30) n_36) (lo := 0) (hi := 6) (by decide) (by decide)
    refine g_iload_n C 2 dX12_line_13 rfl rfl ?_
    refine g_if_ge C (tgt := 19) dX12_line_14 (by decide) (fun h_39 => ?_) (fun h_39 => ?_)
    · skip
      have r_40 := le_r (h_39) rc_0 (rg_all a1)
      refine g_aload_n C 0 dX12_line_19 rfl rfl ?_
      refine g_callVI C K (c_X12_outs W9 hLx hkx   hU_28) hLx hkx (by decide) rfl v_12_259 rfl ⟨rfl, rfl⟩ ⟨Nat.le_of_ble_eq_true rfl, Nat.le_of_ble_eq_true rfl⟩ (Nat.le_of_ble_eq_true rfl) ⟨Nat.le_of_ble_eq_true rfl, Nat.le_of_ble_eq_true rfl⟩ dX12_line_20 rfl (st := []) (fun x_41 I_42 J_43 h_44 => ?_)
      obtain ⟨rfl, rfl, rx_41⟩ := h_44
      refine g_istore_n C dX12_line_23 rfl (by decide) (lo2 := [(3, .int x_41), (0, .ref x), (1, .int a0), (2, .int a1)]) rfl ?_
      refine g_aload_n C 1 dX12_line_24 rfl rfl ?_
      refine g_iload_n C 2 dX12_line_25 rfl rfl ?_
      refine g_iload_n C 0 dX12_line_26 rfl rfl ?_
      refine g_callVI C K (c_X12_heirBy W9 hLx hkx a0 x_41 (r_38) hU_28) hLx hkx (by decide) rfl v_12_262 rfl ⟨rfl, rfl⟩ ⟨Nat.le_of_ble_eq_true rfl, Nat.le_of_ble_eq_true rfl⟩ (Nat.le_of_ble_eq_true rfl) ⟨Nat.le_of_ble_eq_true rfl, Nat.le_of_ble_eq_true rfl⟩ dX12_line_27 rfl (st := []) (fun x_45 I_46 J_47 h_48 => ?_)
      obtain ⟨rfl, rfl, rx_45⟩ := h_48
      refine g_istore C dX12_line_30 (by decide) (lo2 := [(4, .int x_45), (3, .int x_41), (0, .ref x), (1, .int a0), (2, .int a1)]) rfl ?_
      refine g_iconst C (v := 0) dX12_line_32 (by decide) ?_
      refine g_istore C dX12_line_33 (by decide) (lo2 := [(5, .int 0), (4, .int x_45), (3, .int x_41), (0, .ref x), (1, .int a0), (2, .int a1)]) rfl ?_
      refine g_lo (is := [3, 4, 5, 2, 1, 0]) (lo2 := [(0, .ref x), (1, .int a0), (2, .int a1), (3, .int x_41), (4, .int x_45), (5, .int 0)]) rfl ?_
      exact l_35 2147483648 I_27 J hU_28 hF_29 hG (r_38) (r_40) x_41 x_45 (rx_45) 0 (rg_w rc_0 (by decide) (by decide)) (kp_s hI_27) (ms_s (a := 0) (b := 2147483647) (N := 2147483648) (rg_w rc_0 (by decide) (by decide)) (by decide))
    · skip
      have r_49 := lt_l (hi := (-1)) (nle h_39) (rg_all a1) rc_0 (by decide)
      refine g_iconst C (v := (-1)) dX12_line_17 (by decide) ?_
      exact g_zret (ty := .int) (r := (-1)) B K rfl (rfl) ⟨hU_28, hF_29, hG, rg_w rc_m1 (by decide) (by decide)⟩ dX12_line_18
set_option maxRecDepth 100000 in
set_option maxHeartbeats 8000000 in
theorem c_X12_doEat {l : Launch} {D : va_G} {cy : Nat → ClassId} {L : List Nat} {κ ln : Nat → Nat} {R : Nat → Nat → Option Nat} {I : Nat → Nat → Int32} {J : Nat → Nat → Int64} {ow : Nat → Nat × Nat} (W9 : ∀ a ∈ L, Shp L κ ln R ow a) {x : Nat} (hLx : x ∈ L) (hkx : κ x = 12) (a0 : Int32) (a1 : Int32) (a2 : Int32) (ra0 : Rg 0 6 a0) (ra1 : Rg 0 5 a1) (ra2 : Rg 0 60 a2) (hU : Iw L κ R ow I) (he : ∀ a, R x 14 = some a → Ea_ (I a) a0.toNatClampNeg a1.toNatClampNeg a2) : CtV l yX12_doEat cX12_doEat 4 none { frames := 0, cells := 0, slots := 0, locals := 0 } D cy L κ ln R I J [.ref x, .int a0, .int a1, .int a2] (fun I2 J2 => Iw L κ R ow I2 ∧ Fq L κ ow [83400] I I2 ∧ Fq L κ ow [] J J2 ∧ (Hd_ R x I I2)) := by
  refine CtV.of (by decide +kernel) (Nat.le_of_ble_eq_true rfl) ?_
  intro p e s m below meth c B K
  have C := B.1
  have hF : Fq L κ ow [83400] I I := fq_rf
  have hG : Fq L κ ow [] J J := fq_rf
  obtain ⟨b_1, hb_1, hb_1L, hb_1k, hb_1n, hb_1o⟩ := shp_a (W9 x hLx) hkx 14 14 389 rfl (by decide)
  refine g_lo (is := [0, 1, 2, 3]) (lo2 := [(0, .ref x), (1, .int a0), (2, .int a1), (3, .int a2)]) rfl ?_
  refine g_aload_n C 0 dX12_doEat_0 rfl rfl ?_
  refine g_getR C K hLx hkx f_12_13 hb_1 dX12_doEat_1 ?_
  refine g_bipush C (v := 105) dX12_doEat_4 (by decide) ?_
  refine g_bipush C (v := 6) dX12_doEat_6 (by decide) ?_
  refine g_iload_n C 1 dX12_doEat_8 rfl rfl ?_
  obtain ⟨x_2, hx_2, rx_2, tx_2⟩ := ex_mulT 0 36 rc_6 ra0 (by decide) (by decide) (by decide) (by decide) (by decide)
  refine g_imul C (v := x_2) dX12_doEat_9 hx_2 ?_
  obtain ⟨x_3, hx_3, rx_3, tx_3⟩ := ex_add 105 141 rc_105 rx_2 (by decide) (by decide) (by decide) (by decide)
  refine g_iadd C (v := x_3) dX12_doEat_10 hx_3 ?_
  refine g_iload_n C 2 dX12_doEat_11 rfl rfl ?_
  obtain ⟨x_4, hx_4, rx_4, tx_4⟩ := ex_add 105 146 rx_3 ra1 (by decide) (by decide) (by decide) (by decide)
  refine g_iadd C (v := x_4) dX12_doEat_12 hx_4 ?_
  refine g_dup2 C dX12_doEat_13 rfl rfl ?_
  obtain ⟨x_5, hx_5, rx_5⟩ := ex_getw (I := I) (a := b_1) (j := x_4.toNatClampNeg) (lo := 0) (hi := 379) hU.1 hb_1L (ro_a hb_1k (by decide) hb_1o hkx rfl) (bn_834.trans (zq_105 (ix_k (lo := 105) (hi := 146) rx_4 (by decide) (by decide) (by decide))))
  refine h_iald C K hb_1L hb_1k (v := x_5) (x_4.toNatClampNeg) (rfl) (ix_0 rx_4 (by decide)) (ix_lt rx_4 (by decide) hb_1n (by decide)) hx_5 dX12_doEat_14 ?_
  refine g_iload_n C 3 dX12_doEat_15 rfl rfl ?_
  obtain ⟨x_6, hx_6, rx_6, tx_6⟩ := ex_suble 379 rx_5 ra2 ((ea_le (he _ hb_1) (show x_4.toNatClampNeg = 105 + 6 * a0.toNatClampNeg + a1.toNatClampNeg from by rw [nx_a tx_4 rx_3 ra1 (by decide), nx_a tx_3 rc_105 rx_2 (by decide), nx_m (k := 6) tx_2 ra0 (by decide)]; rfl) hx_5)) (by decide) (by decide)
  refine g_isub C (v := x_6) dX12_doEat_16 hx_6 ?_
  refine h_iast C K hb_1L hb_1k (x_4.toNatClampNeg) (rfl) (ix_0 rx_4 (by decide)) (ix_lt rx_4 (by decide) hb_1n (by decide)) dX12_doEat_17 (fun I_7 hI_7 => ?_)
  have hU_8 := iw_less W9 hU (uw_put hU.1 hI_7 (ro_a hb_1k (by decide) hb_1o hkx rfl) (lo := 0) (hi := 379) (bn_834.trans (zq_105 (ix_k (lo := 105) (hi := 146) rx_4 (by decide) (by decide) (by decide)))) (rx_6)) hLx hkx hb_1 hI_7 (ix_lt (n := 6) (N := 6) ra1 (by decide) rfl (by decide)) (Or.inr ⟨a0.toNatClampNeg, (ix_lt (n := 7) (N := 7) ra0 (by decide) rfl (by decide)), rfl⟩ : cl_ a1.toNatClampNeg (33 + 6 * a0.toNatClampNeg + a1.toNatClampNeg)) (show x_4.toNatClampNeg = 72 + (33 + 6 * a0.toNatClampNeg + a1.toNatClampNeg) from by rw [nx_a tx_4 rx_3 ra1 (by decide), nx_a tx_3 rc_105 rx_2 (by decide), nx_m (k := 6) tx_2 ra0 (by decide)]; show 105 + 6 * _ + _ = _; omega) (by rw [hx_5, tx_6]; have := (ra2).1; omega)
  have hF_9 := fq_puta hF hI_7 (ro_a hb_1k (by decide) hb_1o hkx rfl) (by decide) (by decide)
  refine g_aload_n C 0 dX12_doEat_18 rfl rfl ?_
  refine g_getR C K hLx hkx f_12_13 hb_1 dX12_doEat_19 ?_
  refine g_bipush C (v := 84) dX12_doEat_22 (by decide) ?_
  refine g_iload_n C 1 dX12_doEat_24 rfl rfl ?_
  obtain ⟨x_10, hx_10, rx_10, tx_10⟩ := ex_add 84 90 rc_84 ra0 (by decide) (by decide) (by decide) (by decide)
  refine g_iadd C (v := x_10) dX12_doEat_25 hx_10 ?_
  refine g_dup2 C dX12_doEat_26 rfl rfl ?_
  obtain ⟨x_11, hx_11, rx_11⟩ := ex_any (z0 := I_7 b_1 (x_10.toNatClampNeg))
  refine h_iald C K hb_1L hb_1k (v := x_11) (x_10.toNatClampNeg) (rfl) (ix_0 rx_10 (by decide)) (ix_lt rx_10 (by decide) hb_1n (by decide)) hx_11 dX12_doEat_27 ?_
  refine g_iload_n C 3 dX12_doEat_28 rfl rfl ?_
  obtain ⟨x_12, hx_12, rx_12⟩ := ex_any (z0 := x_11 + a2)
  refine g_iadd C (v := x_12) dX12_doEat_29 hx_12 ?_
  refine h_iast C K hb_1L hb_1k (x_10.toNatClampNeg) (rfl) (ix_0 rx_10 (by decide)) (ix_lt rx_10 (by decide) hb_1n (by decide)) dX12_doEat_30 (fun I_13 hI_13 => ?_)
  have hU_14 := iw_free W9 hU_8 (uw_put hU_8.1 hI_13 (ro_a hb_1k (by decide) hb_1o hkx rfl) (lo := (-2147483648)) (hi := 2147483647) (bn_834.trans (zq_84 (ix_k (lo := 84) (hi := 90) rx_10 (by decide) (by decide) (by decide)))) (rx_12)) hLx hkx hb_1 hI_13 (by have := ix_k (lo := 84) (hi := 90) rx_10 (by decide) (by decide) (by decide); omega)
  have hF_15 := fq_puta hF_9 hI_13 (ro_a hb_1k (by decide) hb_1o hkx rfl) (by decide) (by decide)
  refine g_aload_n C 0 dX12_doEat_31 rfl rfl ?_
  refine g_getR C K hLx hkx f_12_13 hb_1 dX12_doEat_32 ?_
  refine g_bipush C (v := 91) dX12_doEat_35 (by decide) ?_
  refine g_iload_n C 1 dX12_doEat_37 rfl rfl ?_
  obtain ⟨x_16, hx_16, rx_16, tx_16⟩ := ex_add 91 97 rc_91 ra0 (by decide) (by decide) (by decide) (by decide)
  refine g_iadd C (v := x_16) dX12_doEat_38 hx_16 ?_
  refine g_dup2 C dX12_doEat_39 rfl rfl ?_
  obtain ⟨x_17, hx_17, rx_17⟩ := ex_getw (I := I_13) (a := b_1) (j := x_16.toNatClampNeg) (lo := 0) (hi := 20) hU_14.1 hb_1L (ro_a hb_1k (by decide) hb_1o hkx rfl) (bn_834.trans (zq_91 (ix_k (lo := 91) (hi := 97) rx_16 (by decide) (by decide) (by decide))))
  refine h_iald C K hb_1L hb_1k (v := x_17) (x_16.toNatClampNeg) (rfl) (ix_0 rx_16 (by decide)) (ix_lt rx_16 (by decide) hb_1n (by decide)) hx_17 dX12_doEat_40 ?_
  refine g_iload_n C 3 dX12_doEat_41 rfl rfl ?_
  obtain ⟨x_18, hx_18, rx_18, tx_18⟩ := ex_add 0 80 rx_17 ra2 (by decide) (by decide) (by decide) (by decide)
  refine g_iadd C (v := x_18) dX12_doEat_42 hx_18 ?_
  have q_19 := ju_rg (he _ hb_1) hI_7 (show x_4.toNatClampNeg = 105 + 6 * a0.toNatClampNeg + a1.toNatClampNeg from by rw [nx_a tx_4 rx_3 ra1 (by decide), nx_a tx_3 rc_105 rx_2 (by decide), nx_m (k := 6) tx_2 ra0 (by decide)]; rfl) hI_13 (show x_10.toNatClampNeg = 84 + a0.toNatClampNeg from by rw [nx_a tx_10 rc_84 ra0 (by decide)]; rfl) (ix_lt (n := 7) (N := 7) ra0 (by decide) rfl (by decide)) hx_17 (show x_16.toNatClampNeg = 91 + a0.toNatClampNeg from by rw [nx_a tx_16 rc_91 ra0 (by decide)]; rfl) tx_18 (rx_18) hU_14.1 hb_1L (ro_a hb_1k (by decide) hb_1o hkx rfl)
  refine h_iast C K hb_1L hb_1k (x_16.toNatClampNeg) (rfl) (ix_0 rx_16 (by decide)) (ix_lt rx_16 (by decide) hb_1n (by decide)) dX12_doEat_43 (fun I_20 hI_20 => ?_)
  have hU_21 := iw_just W9 hU_14 (uw_put hU_14.1 hI_20 (ro_a hb_1k (by decide) hb_1o hkx rfl) (lo := 0) (hi := 20) (bn_834.trans (zq_91 (ix_k (lo := 91) (hi := 97) rx_16 (by decide) (by decide) (by decide)))) (q_19.1)) hLx hkx hb_1 hI_20 (ix_lt (n := 7) (N := 7) ra0 (by decide) rfl (by decide)) (show x_16.toNatClampNeg = 91 + a0.toNatClampNeg from by rw [nx_a tx_16 rc_91 ra0 (by decide)]; rfl) q_19.2
  have hF_22 := fq_puta hF_15 hI_20 (ro_a hb_1k (by decide) hb_1o hkx rfl) (by decide) (by decide)
  exact g_vret B K rfl ⟨hU_21, hF_22, hG, (hd_u (r := 0) W9 hLx hkx (hd_u (r := 0) W9 hLx hkx (hd_u (r := 0) W9 hLx hkx hd_rf hI_7 (Or.inr (Or.inr (ix_ge rx_4 (by decide))))) hI_13 (Or.inr (Or.inr (ix_ge rx_10 (by decide))))) hI_20 (Or.inr (Or.inr (ix_ge rx_16 (by decide)))))⟩ dX12_doEat_44
set_option maxRecDepth 100000 in
set_option maxHeartbeats 8000000 in
theorem c_X12_least {l : Launch} {D : va_G} {cy : Nat → ClassId} {L : List Nat} {κ ln : Nat → Nat} {R : Nat → Nat → Option Nat} {I : Nat → Nat → Int32} {J : Nat → Nat → Int64} {ow : Nat → Nat × Nat} (W9 : ∀ a ∈ L, Shp L κ ln R ow a) (a0 : Int32) (a1 : Int32) (hU : Iw L κ R ow I) : CtI l yX12_least cX12_least 2 (some .int) { frames := 0, cells := 0, slots := 0, locals := 0 } D cy L κ ln R I J [.int a0, .int a1] (fun r I2 J2 => I = I2 ∧ J = J2 ∧ Rg (-2147483648) 2147483647 r ∧ (r ≤ a0 ∧ r ≤ a1 ∧ (r = a0 ∨ r = a1))) := by
  refine CtI.of (by decide +kernel) (Nat.le_of_ble_eq_true rfl) ?_
  intro p e s m below meth c B K
  have C := B.1
  refine g_lo (is := [0, 1]) (lo2 := [(0, .int a0), (1, .int a1)]) rfl ?_
  refine g_iload_n C 0 dX12_least_0 rfl rfl ?_
  refine g_iload_n C 1 dX12_least_1 rfl rfl ?_
  refine g_icmp_ge C (tgt := 9) dX12_least_2 (by decide) (fun h_1 => ?_) (fun h_1 => ?_)
  · skip
    refine g_iload_n C 1 dX12_least_9 rfl rfl ?_
    exact g_zret (ty := .int) (r := a1) B K rfl (rfl) ⟨rfl, rfl, (rg_all a1), ⟨h_1, Int32.le_refl _, Or.inr rfl⟩⟩ dX12_least_10
  · skip
    have r_2 := lt_l (hi := 2147483646) (nle h_1) (rg_all a0) (rg_all a1) (by decide)
    have r_3 := lt_r (lo := (-2147483647)) (nle h_1) (rg_all a0) (rg_all a1) (by decide)
    refine g_iload_n C 0 dX12_least_5 rfl rfl ?_
    refine g_goto C (tgt := 10) dX12_least_6 (by decide) ?_
    exact g_zret (ty := .int) (r := a0) B K rfl (rfl) ⟨rfl, rfl, rg_all _, ⟨Int32.le_refl _, Int32.le_of_lt (nle h_1), Or.inl rfl⟩⟩ dX12_least_10
set_option maxRecDepth 100000 in
set_option maxHeartbeats 8000000 in
theorem c_X12_pass {l : Launch} {D : va_G} {cy : Nat → ClassId} {L : List Nat} {κ ln : Nat → Nat} {R : Nat → Nat → Option Nat} {I : Nat → Nat → Int32} {J : Nat → Nat → Int64} {ow : Nat → Nat × Nat} (W9 : ∀ a ∈ L, Shp L κ ln R ow a) {x : Nat} (hLx : x ∈ L) (hkx : κ x = 12) (a0 : Int32) (ra0 : Rg 0 6 a0) (hU : Iw L κ R ow I) : CtV l yX12_pass cX12_pass 7 none { frames := 3, cells := 0, slots := 0, locals := 70 } D cy L κ ln R I J [.ref x, .int a0] (fun I2 J2 => Iw L κ R ow I2 ∧ Fq L κ ow [83400] I I2 ∧ Fq L κ ow [] J J2 ∧ (Hd_ R x I I2)) := by
  refine CtV.of (by decide +kernel) (Nat.le_of_ble_eq_true rfl) ?_
  intro p e s m below meth c B K
  have C := B.1
  have hF : Fq L κ ow [83400] I I := fq_rf
  have hG : Fq L κ ow [] J J := fq_rf
  obtain ⟨b_1, hb_1, hb_1L, hb_1k, hb_1n, hb_1o⟩ := shp_a (W9 x hLx) hkx 14 14 389 rfl (by decide)
  refine g_lo (is := [0, 1]) (lo2 := [(0, .ref x), (1, .int a0)]) rfl ?_
  have l_20 : ∀ (n_20 : Nat) (I_2 : Nat → Nat → Int32) (J_3 : Nat → Nat → Int64) (hU_4 : Iw L κ R ow I_2) (hF_5 : Fq L κ ow [83400] I I_2) (hG_6 : Fq L κ ow [] J J_3) (v_7 : Int32) (rv_7 : Rg (-1) 6 v_7) (v_8 : Int32) (rv_8 : Rg 0 9 v_8) (v_9 : Int32) (rv_9 : Rg 0 6 v_9) (hd_10 : Hd_ R x I I_2) (hm_11 : 6 < (v_9 : Int32).toInt + (n_20 : Int)), WG p l e { frames := 3, cells := 0, slots := 0, locals := 70 } s m ([.ref x, .int a0] : List Value).toArray below meth c 7 0 0 (MQ below (Qv_ D cy L κ ln R (fun I2 J2 => Iw L κ R ow I2 ∧ Fq L κ ow [83400] I I2 ∧ Fq L κ ow [] J J2 ∧ (Hd_ R x I I2))) ([.ref x, .int a0] : List Value).toArray s 0 0 (Al_ L)) D cy (Al_ L) s.heap L κ ln R I_2 J_3 20 [(0, .ref x), (1, .int a0), (2, .int v_7), (3, .int v_8), (4, .int v_9)] [] := by
    intro n_20
    induction n_20 with
    | zero =>
      intro I_2 J_3 hU_4 hF_5 hG_6 v_7 rv_7 v_8 rv_8 v_9 rv_9 hd_10 hm_11
      exact ms_0 rv_9 hm_11
    | succ n_20 ih_20 =>
      intro I_2 J_3 hU_4 hF_5 hG_6 v_7 rv_7 v_8 rv_8 v_9 rv_9 hd_10 hm_11
      refine g_iload C 4 dX12_pass_20 rfl ?_
      refine g_bipush C (v := 6) dX12_pass_22 (by decide) ?_
      refine g_icmp_ge C (tgt := 119) dX12_pass_24 (by decide) (fun h_12 => ?_) (fun h_12 => ?_)
      · skip
        have r_13 := le_r (h_12) rc_6 rv_9
        refine g_aload_n C 0 dX12_pass_119 rfl rfl ?_
        refine g_getR C K hLx hkx f_12_13 hb_1 dX12_pass_120 ?_
        refine g_bipush C (v := 77) dX12_pass_123 (by decide) ?_
        refine g_dup2 C dX12_pass_125 rfl rfl ?_
        obtain ⟨x_14, hx_14, rx_14⟩ := ex_any (z0 := I_2 b_1 (77))
        refine h_iald C K hb_1L hb_1k (v := x_14) (77) (by decide) (by decide) (by rw [hb_1n]; decide) hx_14 dX12_pass_126 ?_
        refine g_iconst C (v := 1) dX12_pass_127 (by decide) ?_
        obtain ⟨x_15, hx_15, rx_15⟩ := ex_any (z0 := x_14 + 1)
        refine g_iadd C (v := x_15) dX12_pass_128 hx_15 ?_
        refine h_iast C K hb_1L hb_1k (77) (by decide) (by decide) (by rw [hb_1n]; decide) dX12_pass_129 (fun I_16 hI_16 => ?_)
        have hU_17 := iw_free W9 hU_4 (uw_put hU_4.1 hI_16 (ro_a hb_1k (by decide) hb_1o hkx rfl) (lo := (-2147483648)) (hi := 2147483647) (by decide) (rx_15)) hLx hkx hb_1 hI_16 (by omega)
        have hF_18 := fq_puta hF_5 hI_16 (ro_a hb_1k (by decide) hb_1o hkx rfl) (by decide) (by decide)
        exact g_vret B K rfl ⟨hU_17, hF_18, hG_6, (hd_u (r := 0) W9 hLx hkx hd_10 hI_16 (Or.inr (Or.inr (by decide))))⟩ dX12_pass_130
      · skip
        have r_19 := lt_l (hi := 5) (nle h_12) rv_9 rc_6 (by decide)
        refine g_aload_n C 0 dX12_pass_27 rfl rfl ?_
        refine g_iload_n C 1 dX12_pass_28 rfl rfl ?_
        refine g_iload C 4 dX12_pass_29 rfl ?_
        refine g_callVI C K (c_X12_onPlate W9 hLx hkx a0 v_9 (ra0) (r_19) hU_4) hLx hkx (by decide) rfl v_12_234 rfl ⟨rfl, rfl⟩ ⟨Nat.le_of_ble_eq_true rfl, Nat.le_of_ble_eq_true rfl⟩ (Nat.le_of_ble_eq_true rfl) ⟨Nat.le_of_ble_eq_true rfl, Nat.le_of_ble_eq_true rfl⟩ dX12_pass_31 rfl (st := []) (fun x_20 I_21 J_22 h_23 => ?_)
        obtain ⟨rfl, rfl, rx_20, ex_20⟩ := h_23
        refine g_istore C dX12_pass_34 (by decide) (lo2 := [(5, .int x_20), (0, .ref x), (1, .int a0), (2, .int v_7), (3, .int v_8), (4, .int v_9)]) rfl ?_
        refine g_iload C 0 dX12_pass_36 rfl ?_
        refine g_iload_n C 4 dX12_pass_38 rfl rfl ?_
        refine g_callSI C K (c_X12_least W9 x_20 v_8  hU_4) s_12_265 rfl ⟨rfl, rfl⟩ ⟨Nat.le_of_ble_eq_true rfl, Nat.le_of_ble_eq_true rfl⟩ (Nat.le_of_ble_eq_true rfl) ⟨Nat.le_of_ble_eq_true rfl, Nat.le_of_ble_eq_true rfl⟩ dX12_pass_39 rfl (st := []) (fun x_24 I_25 J_26 h_27 => ?_)
        obtain ⟨rfl, rfl, rx_24, ex_24⟩ := h_27
        have r_28 := ls_rg ex_24 rx_20 rv_8 (lo := 0) (hi := 9) (by decide) (by decide)
        refine g_istore C dX12_pass_42 (by decide) (lo2 := [(6, .int x_24), (5, .int x_20), (0, .ref x), (1, .int a0), (2, .int v_7), (3, .int v_8), (4, .int v_9)]) rfl ?_
        refine g_iload_n C 5 dX12_pass_44 rfl rfl ?_
        refine g_iload C 0 dX12_pass_45 rfl ?_
        obtain ⟨x_29, hx_29, rx_29, tx_29⟩ := ex_suble 9 rv_8 r_28 (ex_24.2.1) (by decide) (by decide)
        refine g_isub C (v := x_29) dX12_pass_47 hx_29 ?_
        refine g_istore_n C dX12_pass_48 rfl (by decide) (lo2 := [(3, .int x_29), (6, .int x_24), (5, .int x_20), (0, .ref x), (1, .int a0), (2, .int v_7), (4, .int v_9)]) rfl ?_
        refine g_aload_n C 3 dX12_pass_49 rfl rfl ?_
        refine g_getR C K hLx hkx f_12_13 hb_1 dX12_pass_50 ?_
        refine g_bipush C (v := 105) dX12_pass_53 (by decide) ?_
        refine g_bipush C (v := 6) dX12_pass_55 (by decide) ?_
        refine g_iload_n C 4 dX12_pass_57 rfl rfl ?_
        obtain ⟨x_30, hx_30, rx_30, tx_30⟩ := ex_mulT 0 36 rc_6 ra0 (by decide) (by decide) (by decide) (by decide) (by decide)
        refine g_imul C (v := x_30) dX12_pass_58 hx_30 ?_
        obtain ⟨x_31, hx_31, rx_31, tx_31⟩ := ex_add 105 141 rc_105 rx_30 (by decide) (by decide) (by decide) (by decide)
        refine g_iadd C (v := x_31) dX12_pass_59 hx_31 ?_
        refine g_iload C 6 dX12_pass_60 rfl ?_
        obtain ⟨x_32, hx_32, rx_32, tx_32⟩ := ex_add 105 146 rx_31 r_19 (by decide) (by decide) (by decide) (by decide)
        refine g_iadd C (v := x_32) dX12_pass_62 hx_32 ?_
        refine g_iconst C (v := 0) dX12_pass_63 (by decide) ?_
        refine h_iast C K hb_1L hb_1k (x_32.toNatClampNeg) (rfl) (ix_0 rx_32 (by decide)) (ix_lt rx_32 (by decide) hb_1n (by decide)) dX12_pass_64 (fun I_33 hI_33 => ?_)
        have hU_34 := uw_put hU_4.1 hI_33 (ro_a hb_1k (by decide) hb_1o hkx rfl) (lo := 0) (hi := 379) (bn_834.trans (zq_105 (ix_k (lo := 105) (hi := 146) rx_32 (by decide) (by decide) (by decide)))) (rg_w rc_0 (by decide) (by decide))
        have hF_35 := fq_puta hF_5 hI_33 (ro_a hb_1k (by decide) hb_1o hkx rfl) (by decide) (by decide)
        refine g_aload_n C 3 dX12_pass_65 rfl rfl ?_
        refine g_getR C K hLx hkx f_12_13 hb_1 dX12_pass_66 ?_
        refine g_bipush C (v := 75) dX12_pass_69 (by decide) ?_
        refine g_dup2 C dX12_pass_71 rfl rfl ?_
        obtain ⟨x_36, hx_36, rx_36⟩ := ex_any (z0 := I_33 b_1 (75))
        refine h_iald C K hb_1L hb_1k (v := x_36) (75) (by decide) (by decide) (by rw [hb_1n]; decide) hx_36 dX12_pass_72 ?_
        refine g_iload C 1 dX12_pass_73 rfl ?_
        obtain ⟨x_37, hx_37, rx_37⟩ := ex_any (z0 := x_36 + x_24)
        refine g_iadd C (v := x_37) dX12_pass_75 hx_37 ?_
        refine h_iast C K hb_1L hb_1k (75) (by decide) (by decide) (by rw [hb_1n]; decide) dX12_pass_76 (fun I_38 hI_38 => ?_)
        have hU_39 := uw_put hU_34 hI_38 (ro_a hb_1k (by decide) hb_1o hkx rfl) (lo := (-2147483648)) (hi := 2147483647) (by decide) (rx_37)
        have hF_40 := fq_puta hF_35 hI_38 (ro_a hb_1k (by decide) hb_1o hkx rfl) (by decide) (by decide)
        refine g_aload_n C 3 dX12_pass_77 rfl rfl ?_
        refine g_getR C K hLx hkx f_12_13 hb_1 dX12_pass_78 ?_
        refine g_iload_n C 5 dX12_pass_81 rfl rfl ?_
        refine g_iconst C (v := (-1)) dX12_pass_82 (by decide) ?_
        refine g_icmp_ne C (tgt := 94) dX12_pass_83 (by decide) (fun h_41 => ?_) (fun h_41 => ?_)
        · skip
          have n_42 : ¬ v_7 = (-1) := h_41
          have r_43 := ne_lo (lo := 0) n_42 rv_7 rc_m1 rfl (by decide)
          refine g_bipush C (v := 105) dX12_pass_94 (by decide) ?_
          refine g_bipush C (v := 6) dX12_pass_96 (by decide) ?_
          refine g_iload_n C 5 dX12_pass_98 rfl rfl ?_
          obtain ⟨x_44, hx_44, rx_44, tx_44⟩ := ex_mulT 0 36 rc_6 r_43 (by decide) (by decide) (by decide) (by decide) (by decide)
          refine g_imul C (v := x_44) dX12_pass_99 hx_44 ?_
          obtain ⟨x_45, hx_45, rx_45, tx_45⟩ := ex_add 105 141 rc_105 rx_44 (by decide) (by decide) (by decide) (by decide)
          refine g_iadd C (v := x_45) dX12_pass_100 hx_45 ?_
          refine g_iload C 6 dX12_pass_101 rfl ?_
          obtain ⟨x_46, hx_46, rx_46, tx_46⟩ := ex_add 105 146 rx_45 r_19 (by decide) (by decide) (by decide) (by decide)
          refine g_iadd C (v := x_46) dX12_pass_103 hx_46 ?_
          refine g_dup2 C dX12_pass_104 rfl rfl ?_
          obtain ⟨x_47, hx_47, rx_47⟩ := ex_getw (I := I_38) (a := b_1) (j := x_46.toNatClampNeg) (lo := 0) (hi := 379) hU_39 hb_1L (ro_a hb_1k (by decide) hb_1o hkx rfl) (bn_834.trans (zq_105 (ix_k (lo := 105) (hi := 146) rx_46 (by decide) (by decide) (by decide))))
          refine h_iald C K hb_1L hb_1k (v := x_47) (x_46.toNatClampNeg) (rfl) (ix_0 rx_46 (by decide)) (ix_lt rx_46 (by decide) hb_1n (by decide)) hx_47 dX12_pass_105 ?_
          refine g_iload C 2 dX12_pass_106 rfl ?_
          refine g_iload C 1 dX12_pass_108 rfl ?_
          obtain ⟨x_48, hx_48, rx_48, tx_48⟩ := ex_suble 379 rx_20 r_28 (ex_24.1) (by decide) (by decide)
          refine g_isub C (v := x_48) dX12_pass_110 hx_48 ?_
          obtain ⟨x_49, hx_49, rx_49, tx_49⟩ := ex_add 0 758 rx_47 rx_48 (by decide) (by decide) (by decide) (by decide)
          refine g_iadd C (v := x_49) dX12_pass_111 hx_49 ?_
          have q_50 := (show I_2 b_1 x_32.toNatClampNeg = x_20 from by rw [(show x_32.toNatClampNeg = 105 + 6 * a0.toNatClampNeg + v_9.toNatClampNeg from by rw [nx_a tx_32 rx_31 r_19 (by decide), nx_a tx_31 rc_105 rx_30 (by decide), nx_m (k := 6) tx_30 ra0 (by decide)]; rfl)]; exact (ex_20 _ hb_1).symm)
          have q_51 := rm_mv (I2 := I_38) W9 hU_4 hLx hkx hb_1 hb_1L (ro_a hb_1k (by decide) hb_1o hkx rfl) hI_33 (fun i hi => by rw [hI_38, u2_j (by rcases hi with q | ⟨p, hp, q⟩ <;> omega)]) (ix_lt (n := 6) (N := 6) r_19 (by decide) rfl (by decide)) (Or.inr ⟨a0.toNatClampNeg, (ix_lt (n := 7) (N := 7) ra0 (by decide) rfl (by decide)), rfl⟩ : cl_ v_9.toNatClampNeg (33 + 6 * a0.toNatClampNeg + v_9.toNatClampNeg)) (Or.inr ⟨v_7.toNatClampNeg, (ix_lt (n := 7) (N := 7) r_43 (by decide) rfl (by decide)), rfl⟩ : cl_ v_9.toNatClampNeg (33 + 6 * v_7.toNatClampNeg + v_9.toNatClampNeg)) (show x_32.toNatClampNeg = 72 + (33 + 6 * a0.toNatClampNeg + v_9.toNatClampNeg) from by rw [nx_a tx_32 rx_31 r_19 (by decide), nx_a tx_31 rc_105 rx_30 (by decide), nx_m (k := 6) tx_30 ra0 (by decide)]; show 105 + 6 * _ + _ = _; omega) (show x_46.toNatClampNeg = 72 + (33 + 6 * v_7.toNatClampNeg + v_9.toNatClampNeg) from by rw [nx_a tx_46 rx_45 r_19 (by decide), nx_a tx_45 rc_105 rx_44 (by decide), nx_m (k := 6) tx_44 r_43 (by decide)]; show 105 + 6 * _ + _ = _; omega) (by decide)
          have q_52 := (show x_48.toInt ≤ (I_2 b_1 x_32.toNatClampNeg).toInt - (0 : Int32).toInt from by rw [q_50, tx_48, show (0 : Int32).toInt = 0 from by decide]; have := (r_28).1; omega)
          have r_53 := rm_z q_51 hx_47 q_52 tx_49 (rx_49)
          refine h_iast C K hb_1L hb_1k (x_46.toNatClampNeg) (rfl) (ix_0 rx_46 (by decide)) (ix_lt rx_46 (by decide) hb_1n (by decide)) dX12_pass_112 (fun I_54 hI_54 => ?_)
          have hU_55 := iw_mv W9 hU_4.2 (uw_put hU_39 hI_54 (ro_a hb_1k (by decide) hb_1o hkx rfl) (lo := 0) (hi := 379) (bn_834.trans (zq_105 (ix_k (lo := 105) (hi := 146) rx_46 (by decide) (by decide) (by decide)))) (r_53)) hLx hkx hb_1 hI_33 hI_38 (by omega) hI_54 (ix_lt (n := 6) (N := 6) r_19 (by decide) rfl (by decide)) (Or.inr ⟨a0.toNatClampNeg, (ix_lt (n := 7) (N := 7) ra0 (by decide) rfl (by decide)), rfl⟩ : cl_ v_9.toNatClampNeg (33 + 6 * a0.toNatClampNeg + v_9.toNatClampNeg)) (Or.inr ⟨v_7.toNatClampNeg, (ix_lt (n := 7) (N := 7) r_43 (by decide) rfl (by decide)), rfl⟩ : cl_ v_9.toNatClampNeg (33 + 6 * v_7.toNatClampNeg + v_9.toNatClampNeg)) (show x_32.toNatClampNeg = 72 + (33 + 6 * a0.toNatClampNeg + v_9.toNatClampNeg) from by rw [nx_a tx_32 rx_31 r_19 (by decide), nx_a tx_31 rc_105 rx_30 (by decide), nx_m (k := 6) tx_30 ra0 (by decide)]; show 105 + 6 * _ + _ = _; omega) (show x_46.toNatClampNeg = 72 + (33 + 6 * v_7.toNatClampNeg + v_9.toNatClampNeg) from by rw [nx_a tx_46 rx_45 r_19 (by decide), nx_a tx_45 rc_105 rx_44 (by decide), nx_m (k := 6) tx_44 r_43 (by decide)]; show 105 + 6 * _ + _ = _; omega) x_48.toInt q_52 (by rw [hx_47]; exact tx_49)
          have hF_56 := fq_puta hF_40 hI_54 (ro_a hb_1k (by decide) hb_1o hkx rfl) (by decide) (by decide)
          obtain ⟨x_57, hx_57, rx_57, tx_57⟩ := ex_add (y := 1) 1 6 r_19 rc_1 (by decide) (by decide) (by decide) (by decide)
          refine g_iinc C dX12_pass_113 (k := 6) (v := x_57) rfl hx_57 (by decide) (lo2 := [(4, .int x_57), (3, .int x_29), (6, .int x_24), (5, .int x_20), (0, .ref x), (1, .int a0), (2, .int v_7)]) rfl ?_
          refine g_goto C (tgt := 20) dX12_pass_116 (by decide) ?_
          refine g_lo (is := [4, 5, 6, 1, 0]) (lo2 := [(0, .ref x), (1, .int a0), (2, .int v_7), (3, .int x_29), (4, .int x_57)]) rfl ?_
          exact ih_20 I_54 J_3 hU_55 hF_56 hG_6 v_7 (rg_w r_43 (by decide) (by decide)) x_29 (rx_29) x_57 (rg_w rx_57 (by decide) (by decide)) (hd_u (r := 0) W9 hLx hkx (hd_u (r := 0) W9 hLx hkx (hd_u (r := 0) W9 hLx hkx hd_10 hI_33 (Or.inr (Or.inr (ix_ge rx_32 (by decide))))) hI_38 (Or.inr (Or.inr (by decide)))) hI_54 (Or.inr (Or.inr (ix_ge rx_46 (by decide))))) (ms_1 hm_11 (ti_k tx_57 rc_1) (by decide))
        · skip
          have r_58 := (⟨(rv_7).1, (eq_rg (h_41) rc_m1).2⟩ : Rg (-1) (-1) v_7)
          refine g_bipush C (v := 78) dX12_pass_86 (by decide) ?_
          refine g_iload C 6 dX12_pass_88 rfl ?_
          obtain ⟨x_59, hx_59, rx_59, tx_59⟩ := ex_add 78 83 rc_78 r_19 (by decide) (by decide) (by decide) (by decide)
          refine g_iadd C (v := x_59) dX12_pass_90 hx_59 ?_
          refine g_goto C (tgt := 104) dX12_pass_91 (by decide) ?_
          refine g_dup2 C dX12_pass_104 rfl rfl ?_
          obtain ⟨x_60, hx_60, rx_60⟩ := ex_getw (I := I_38) (a := b_1) (j := x_59.toNatClampNeg) (lo := 0) (hi := 379) hU_39 hb_1L (ro_a hb_1k (by decide) hb_1o hkx rfl) (bn_834.trans (zq_78 (ix_k (lo := 78) (hi := 83) rx_59 (by decide) (by decide) (by decide))))
          refine h_iald C K hb_1L hb_1k (v := x_60) (x_59.toNatClampNeg) (rfl) (ix_0 rx_59 (by decide)) (ix_lt rx_59 (by decide) hb_1n (by decide)) hx_60 dX12_pass_105 ?_
          refine g_iload C 2 dX12_pass_106 rfl ?_
          refine g_iload C 1 dX12_pass_108 rfl ?_
          obtain ⟨x_61, hx_61, rx_61, tx_61⟩ := ex_suble 379 rx_20 r_28 (ex_24.1) (by decide) (by decide)
          refine g_isub C (v := x_61) dX12_pass_110 hx_61 ?_
          obtain ⟨x_62, hx_62, rx_62, tx_62⟩ := ex_add 0 758 rx_60 rx_61 (by decide) (by decide) (by decide) (by decide)
          refine g_iadd C (v := x_62) dX12_pass_111 hx_62 ?_
          have q_63 := (show I_2 b_1 x_32.toNatClampNeg = x_20 from by rw [(show x_32.toNatClampNeg = 105 + 6 * a0.toNatClampNeg + v_9.toNatClampNeg from by rw [nx_a tx_32 rx_31 r_19 (by decide), nx_a tx_31 rc_105 rx_30 (by decide), nx_m (k := 6) tx_30 ra0 (by decide)]; rfl)]; exact (ex_20 _ hb_1).symm)
          have q_64 := rm_mv (I2 := I_38) W9 hU_4 hLx hkx hb_1 hb_1L (ro_a hb_1k (by decide) hb_1o hkx rfl) hI_33 (fun i hi => by rw [hI_38, u2_j (by rcases hi with q | ⟨p, hp, q⟩ <;> omega)]) (ix_lt (n := 6) (N := 6) r_19 (by decide) rfl (by decide)) (Or.inr ⟨a0.toNatClampNeg, (ix_lt (n := 7) (N := 7) ra0 (by decide) rfl (by decide)), rfl⟩ : cl_ v_9.toNatClampNeg (33 + 6 * a0.toNatClampNeg + v_9.toNatClampNeg)) (Or.inl rfl : cl_ v_9.toNatClampNeg (6 + v_9.toNatClampNeg)) (show x_32.toNatClampNeg = 72 + (33 + 6 * a0.toNatClampNeg + v_9.toNatClampNeg) from by rw [nx_a tx_32 rx_31 r_19 (by decide), nx_a tx_31 rc_105 rx_30 (by decide), nx_m (k := 6) tx_30 ra0 (by decide)]; show 105 + 6 * _ + _ = _; omega) (show x_59.toNatClampNeg = 72 + (6 + v_9.toNatClampNeg) from by rw [nx_a tx_59 rc_78 r_19 (by decide)]; show 78 + _ = _; omega) (by decide)
          have q_65 := (show x_61.toInt ≤ (I_2 b_1 x_32.toNatClampNeg).toInt - (0 : Int32).toInt from by rw [q_63, tx_61, show (0 : Int32).toInt = 0 from by decide]; have := (r_28).1; omega)
          have r_66 := rm_z q_64 hx_60 q_65 tx_62 (rx_62)
          refine h_iast C K hb_1L hb_1k (x_59.toNatClampNeg) (rfl) (ix_0 rx_59 (by decide)) (ix_lt rx_59 (by decide) hb_1n (by decide)) dX12_pass_112 (fun I_67 hI_67 => ?_)
          have hU_68 := iw_mv W9 hU_4.2 (uw_put hU_39 hI_67 (ro_a hb_1k (by decide) hb_1o hkx rfl) (lo := 0) (hi := 379) (bn_834.trans (zq_78 (ix_k (lo := 78) (hi := 83) rx_59 (by decide) (by decide) (by decide)))) (r_66)) hLx hkx hb_1 hI_33 hI_38 (by omega) hI_67 (ix_lt (n := 6) (N := 6) r_19 (by decide) rfl (by decide)) (Or.inr ⟨a0.toNatClampNeg, (ix_lt (n := 7) (N := 7) ra0 (by decide) rfl (by decide)), rfl⟩ : cl_ v_9.toNatClampNeg (33 + 6 * a0.toNatClampNeg + v_9.toNatClampNeg)) (Or.inl rfl : cl_ v_9.toNatClampNeg (6 + v_9.toNatClampNeg)) (show x_32.toNatClampNeg = 72 + (33 + 6 * a0.toNatClampNeg + v_9.toNatClampNeg) from by rw [nx_a tx_32 rx_31 r_19 (by decide), nx_a tx_31 rc_105 rx_30 (by decide), nx_m (k := 6) tx_30 ra0 (by decide)]; show 105 + 6 * _ + _ = _; omega) (show x_59.toNatClampNeg = 72 + (6 + v_9.toNatClampNeg) from by rw [nx_a tx_59 rc_78 r_19 (by decide)]; show 78 + _ = _; omega) x_61.toInt q_65 (by rw [hx_60]; exact tx_62)
          have hF_69 := fq_puta hF_40 hI_67 (ro_a hb_1k (by decide) hb_1o hkx rfl) (by decide) (by decide)
          obtain ⟨x_70, hx_70, rx_70, tx_70⟩ := ex_add (y := 1) 1 6 r_19 rc_1 (by decide) (by decide) (by decide) (by decide)
          refine g_iinc C dX12_pass_113 (k := 6) (v := x_70) rfl hx_70 (by decide) (lo2 := [(4, .int x_70), (3, .int x_29), (6, .int x_24), (5, .int x_20), (0, .ref x), (1, .int a0), (2, .int v_7)]) rfl ?_
          refine g_goto C (tgt := 20) dX12_pass_116 (by decide) ?_
          refine g_lo (is := [4, 5, 6, 1, 0]) (lo2 := [(0, .ref x), (1, .int a0), (2, .int v_7), (3, .int x_29), (4, .int x_70)]) rfl ?_
          exact ih_20 I_67 J_3 hU_68 hF_69 hG_6 v_7 (rg_w r_58 (by decide) (by decide)) x_29 (rx_29) x_70 (rg_w rx_70 (by decide) (by decide)) (hd_u (r := 0) W9 hLx hkx (hd_u (r := 0) W9 hLx hkx (hd_u (r := 0) W9 hLx hkx hd_10 hI_33 (Or.inr (Or.inr (ix_ge rx_32 (by decide))))) hI_38 (Or.inr (Or.inr (by decide)))) hI_67 (Or.inr (Or.inr (ix_ge rx_59 (by decide))))) (ms_1 hm_11 (ti_k tx_70 rc_1) (by decide))
  refine g_aload_n C 0 dX12_pass_0 rfl rfl ?_
  refine g_iload_n C 1 dX12_pass_1 rfl rfl ?_
  refine g_aload_n C 0 dX12_pass_2 rfl rfl ?_
  refine g_callVI C K (c_X12_outs W9 hLx hkx   hU) hLx hkx (by decide) rfl v_12_259 rfl ⟨rfl, rfl⟩ ⟨Nat.le_of_ble_eq_true rfl, Nat.le_of_ble_eq_true rfl⟩ (Nat.le_of_ble_eq_true rfl) ⟨Nat.le_of_ble_eq_true rfl, Nat.le_of_ble_eq_true rfl⟩ dX12_pass_3 rfl (st := [.int a0, .ref x]) (fun x_71 I_72 J_73 h_74 => ?_)
  obtain ⟨rfl, rfl, rx_71⟩ := h_74
  refine g_callVI C K (c_X12_heirBy W9 hLx hkx a0 x_71 (ra0) hU) hLx hkx (by decide) rfl v_12_262 rfl ⟨rfl, rfl⟩ ⟨Nat.le_of_ble_eq_true rfl, Nat.le_of_ble_eq_true rfl⟩ (Nat.le_of_ble_eq_true rfl) ⟨Nat.le_of_ble_eq_true rfl, Nat.le_of_ble_eq_true rfl⟩ dX12_pass_6 rfl (st := []) (fun x_75 I_76 J_77 h_78 => ?_)
  obtain ⟨rfl, rfl, rx_75⟩ := h_78
  refine g_istore_n C dX12_pass_9 rfl (by decide) (lo2 := [(2, .int x_75), (0, .ref x), (1, .int a0)]) rfl ?_
  refine g_aload_n C 1 dX12_pass_10 rfl rfl ?_
  refine g_getR C K hLx hkx f_12_13 hb_1 dX12_pass_11 ?_
  refine g_iconst C (v := 3) dX12_pass_14 (by decide) ?_
  obtain ⟨x_79, hx_79, rx_79⟩ := ex_getw (I := I) (a := b_1) (j := 3) (lo := 0) (hi := 9) hU.1 hb_1L (ro_a hb_1k (by decide) hb_1o hkx rfl) (by decide)
  refine h_iald C K hb_1L hb_1k (v := x_79) (3) (by decide) (by decide) (by rw [hb_1n]; decide) hx_79 dX12_pass_15 ?_
  refine g_istore_n C dX12_pass_16 rfl (by decide) (lo2 := [(3, .int x_79), (2, .int x_75), (0, .ref x), (1, .int a0)]) rfl ?_
  refine g_iconst C (v := 0) dX12_pass_17 (by decide) ?_
  refine g_istore C dX12_pass_18 (by decide) (lo2 := [(4, .int 0), (3, .int x_79), (2, .int x_75), (0, .ref x), (1, .int a0)]) rfl ?_
  refine g_lo (is := [3, 4, 2, 1, 0]) (lo2 := [(0, .ref x), (1, .int a0), (2, .int x_75), (3, .int x_79), (4, .int 0)]) rfl ?_
  exact l_20 7 I J hU hF hG x_75 (rx_75) x_79 (rx_79) 0 (rg_w rc_0 (by decide) (by decide)) hd_rf (ms_s (a := 0) (b := 6) (N := 7) (rg_w rc_0 (by decide) (by decide)) (by decide))
set_option maxRecDepth 100000 in
set_option maxHeartbeats 8000000 in
theorem c_X12_live {l : Launch} {D : va_G} {cy : Nat → ClassId} {L : List Nat} {κ ln : Nat → Nat} {R : Nat → Nat → Option Nat} {I : Nat → Nat → Int32} {J : Nat → Nat → Int64} {ow : Nat → Nat × Nat} (W9 : ∀ a ∈ L, Shp L κ ln R ow a) {x : Nat} (hLx : x ∈ L) (hkx : κ x = 12) (a0 : Int32) (a1 : Int32) (a2 : Int32) (a3 : Int32) (ra0 : Rg 0 5 a0) (ra1 : Rg 0 6 a1) (ra2 : Rg 0 5 a2) (ra3 : Rg 0 60 a3) (hU : Iw L κ R ow I) (hl : (∀ a, R x 14 = some a → (a0 = 0 → Ea_ (I a) a1.toNatClampNeg a2.toNatClampNeg a3) ∧ (a0 = 1 → a3.toInt ≤ (I a (78 + a2.toNatClampNeg)).toInt))) : CtV l yX12_live cX12_live 5 none { frames := 4, cells := 0, slots := 0, locals := 96 } D cy L κ ln R I J [.ref x, .int a0, .int a1, .int a2, .int a3] (fun I2 J2 => Iw L κ R ow I2 ∧ Fq L κ ow [83400] I I2 ∧ Fq L κ ow [] J J2 ∧ (Hd_ R x I I2)) := by
  refine CtV.of (by decide +kernel) (Nat.le_of_ble_eq_true rfl) ?_
  intro p e s m below meth c B K
  have C := B.1
  have hF : Fq L κ ow [83400] I I := fq_rf
  have hG : Fq L κ ow [] J J := fq_rf
  obtain ⟨b_1, hb_1, hb_1L, hb_1k, hb_1n, hb_1o⟩ := shp_a (W9 x hLx) hkx 14 14 389 rfl (by decide)
  refine g_lo (is := [0, 1, 2, 3, 4]) (lo2 := [(0, .ref x), (1, .int a0), (2, .int a1), (3, .int a2), (4, .int a3)]) rfl ?_
  refine g_iload_n C 1 dX12_live_0 rfl rfl ?_
  by_cases c_2 : a0.toInt = 0
  · skip
    have r_3 := rg_of (a := 0) (b := 0) 0 c_2 (by decide) (by decide)
    refine g_tableIn C (tgt := 36) dX12_live_1 (by omega) (by omega) (off := 35) (by rw [c_2]; rfl) (by decide) ?_
    refine g_aload_n C 0 dX12_live_36 rfl rfl ?_
    refine g_iload_n C 2 dX12_live_37 rfl rfl ?_
    refine g_iload_n C 3 dX12_live_38 rfl rfl ?_
    refine g_iload C 4 dX12_live_39 rfl ?_
    refine g_callVV C K (c_X12_doEat W9 hLx hkx a1 a2 a3 (ra1) (ra2) (ra3) hU  (fun a ha => (hl a ha).1 (rg_1k r_3 rc_0))) hLx hkx (by decide) rfl v_12_271 rfl ⟨rfl, rfl⟩ ⟨Nat.le_of_ble_eq_true rfl, Nat.le_of_ble_eq_true rfl⟩ (Nat.le_of_ble_eq_true rfl) ⟨Nat.le_of_ble_eq_true rfl, Nat.le_of_ble_eq_true rfl⟩ dX12_live_41 rfl (st := []) (fun I_5 J_6 h_7 => ?_)
    obtain ⟨hUI_5, hFI_5, hGJ_6, ex_4⟩ := h_7
    have hF_8 := fq_tr hF hFI_5 (by decide)
    have hG_9 := fq_tr hG hGJ_6 (by decide)
    exact g_vret B K rfl ⟨hUI_5, hF_8, hG_9, (hd_t hd_rf ex_4)⟩ dX12_live_44
  by_cases c_10 : a0.toInt = 1
  · skip
    have r_11 := rg_of (a := 1) (b := 1) 1 c_10 (by decide) (by decide)
    refine g_tableIn C (tgt := 45) dX12_live_1 (by omega) (by omega) (off := 44) (by rw [c_10]; rfl) (by decide) ?_
    refine g_aload_n C 0 dX12_live_45 rfl rfl ?_
    refine g_getR C K hLx hkx f_12_13 hb_1 dX12_live_46 ?_
    refine g_bipush C (v := 78) dX12_live_49 (by decide) ?_
    refine g_iload_n C 3 dX12_live_51 rfl rfl ?_
    obtain ⟨x_12, hx_12, rx_12, tx_12⟩ := ex_add 78 83 rc_78 ra2 (by decide) (by decide) (by decide) (by decide)
    refine g_iadd C (v := x_12) dX12_live_52 hx_12 ?_
    refine g_dup2 C dX12_live_53 rfl rfl ?_
    obtain ⟨x_13, hx_13, rx_13⟩ := ex_getw (I := I) (a := b_1) (j := x_12.toNatClampNeg) (lo := 0) (hi := 379) hU.1 hb_1L (ro_a hb_1k (by decide) hb_1o hkx rfl) (bn_834.trans (zq_78 (ix_k (lo := 78) (hi := 83) rx_12 (by decide) (by decide) (by decide))))
    refine h_iald C K hb_1L hb_1k (v := x_13) (x_12.toNatClampNeg) (rfl) (ix_0 rx_12 (by decide)) (ix_lt rx_12 (by decide) hb_1n (by decide)) hx_13 dX12_live_54 ?_
    refine g_iload C 4 dX12_live_55 rfl ?_
    obtain ⟨x_14, hx_14, rx_14, tx_14⟩ := ex_suble 379 rx_13 ra3 ((Int32.le_iff_toInt_le.mpr (by rw [← hx_13, (show x_12.toNatClampNeg = 78 + a2.toNatClampNeg from by rw [nx_a tx_12 rc_78 ra2 (by decide)]; rfl)]; exact (hl _ hb_1).2 (rg_1k r_11 rc_1)))) (by decide) (by decide)
    refine g_isub C (v := x_14) dX12_live_57 hx_14 ?_
    refine h_iast C K hb_1L hb_1k (x_12.toNatClampNeg) (rfl) (ix_0 rx_12 (by decide)) (ix_lt rx_12 (by decide) hb_1n (by decide)) dX12_live_58 (fun I_15 hI_15 => ?_)
    have hU_16 := uw_put hU.1 hI_15 (ro_a hb_1k (by decide) hb_1o hkx rfl) (lo := 0) (hi := 379) (bn_834.trans (zq_78 (ix_k (lo := 78) (hi := 83) rx_12 (by decide) (by decide) (by decide)))) (rx_14)
    have hF_17 := fq_puta hF hI_15 (ro_a hb_1k (by decide) hb_1o hkx rfl) (by decide) (by decide)
    refine g_aload_n C 0 dX12_live_59 rfl rfl ?_
    refine g_getR C K hLx hkx f_12_13 hb_1 dX12_live_60 ?_
    refine g_bipush C (v := 105) dX12_live_63 (by decide) ?_
    refine g_bipush C (v := 6) dX12_live_65 (by decide) ?_
    refine g_iload_n C 2 dX12_live_67 rfl rfl ?_
    obtain ⟨x_18, hx_18, rx_18, tx_18⟩ := ex_mulT 0 36 rc_6 ra1 (by decide) (by decide) (by decide) (by decide) (by decide)
    refine g_imul C (v := x_18) dX12_live_68 hx_18 ?_
    obtain ⟨x_19, hx_19, rx_19, tx_19⟩ := ex_add 105 141 rc_105 rx_18 (by decide) (by decide) (by decide) (by decide)
    refine g_iadd C (v := x_19) dX12_live_69 hx_19 ?_
    refine g_iload_n C 3 dX12_live_70 rfl rfl ?_
    obtain ⟨x_20, hx_20, rx_20, tx_20⟩ := ex_add 105 146 rx_19 ra2 (by decide) (by decide) (by decide) (by decide)
    refine g_iadd C (v := x_20) dX12_live_71 hx_20 ?_
    refine g_dup2 C dX12_live_72 rfl rfl ?_
    obtain ⟨x_21, hx_21, rx_21⟩ := ex_getw (I := I_15) (a := b_1) (j := x_20.toNatClampNeg) (lo := 0) (hi := 379) hU_16 hb_1L (ro_a hb_1k (by decide) hb_1o hkx rfl) (bn_834.trans (zq_105 (ix_k (lo := 105) (hi := 146) rx_20 (by decide) (by decide) (by decide))))
    refine h_iald C K hb_1L hb_1k (v := x_21) (x_20.toNatClampNeg) (rfl) (ix_0 rx_20 (by decide)) (ix_lt rx_20 (by decide) hb_1n (by decide)) hx_21 dX12_live_73 ?_
    refine g_iload C 4 dX12_live_74 rfl ?_
    obtain ⟨x_22, hx_22, rx_22, tx_22⟩ := ex_add 0 439 rx_21 ra3 (by decide) (by decide) (by decide) (by decide)
    refine g_iadd C (v := x_22) dX12_live_76 hx_22 ?_
    have q_23 := rm_mv (I2 := I_15) (v1 := x_14) W9 hU hLx hkx hb_1 hb_1L (ro_a hb_1k (by decide) hb_1o hkx rfl) hI_15 (fun _ _ => rfl) (ix_lt (n := 6) (N := 6) ra2 (by decide) rfl (by decide)) (Or.inl rfl : cl_ a2.toNatClampNeg (6 + a2.toNatClampNeg)) (Or.inr ⟨a1.toNatClampNeg, (ix_lt (n := 7) (N := 7) ra1 (by decide) rfl (by decide)), rfl⟩ : cl_ a2.toNatClampNeg (33 + 6 * a1.toNatClampNeg + a2.toNatClampNeg)) (show x_12.toNatClampNeg = 72 + (6 + a2.toNatClampNeg) from by rw [nx_a tx_12 rc_78 ra2 (by decide)]; show 78 + _ = _; omega) (show x_20.toNatClampNeg = 72 + (33 + 6 * a1.toNatClampNeg + a2.toNatClampNeg) from by rw [nx_a tx_20 rx_19 ra2 (by decide), nx_a tx_19 rc_105 rx_18 (by decide), nx_m (k := 6) tx_18 ra1 (by decide)]; show 105 + 6 * _ + _ = _; omega) (by have := (rx_14).1; omega)
    have q_24 := (show a3.toInt ≤ (I b_1 x_12.toNatClampNeg).toInt - x_14.toInt from by rw [hx_13, tx_14]; omega)
    have r_25 := rm_z q_23 hx_21 q_24 tx_22 (rx_22)
    refine h_iast C K hb_1L hb_1k (x_20.toNatClampNeg) (rfl) (ix_0 rx_20 (by decide)) (ix_lt rx_20 (by decide) hb_1n (by decide)) dX12_live_77 (fun I_26 hI_26 => ?_)
    have hU_27 := iw_mv2 W9 hU.2 (uw_put hU_16 hI_26 (ro_a hb_1k (by decide) hb_1o hkx rfl) (lo := 0) (hi := 379) (bn_834.trans (zq_105 (ix_k (lo := 105) (hi := 146) rx_20 (by decide) (by decide) (by decide)))) (r_25)) hLx hkx hb_1 hI_15 hI_26 (ix_lt (n := 6) (N := 6) ra2 (by decide) rfl (by decide)) (Or.inl rfl : cl_ a2.toNatClampNeg (6 + a2.toNatClampNeg)) (Or.inr ⟨a1.toNatClampNeg, (ix_lt (n := 7) (N := 7) ra1 (by decide) rfl (by decide)), rfl⟩ : cl_ a2.toNatClampNeg (33 + 6 * a1.toNatClampNeg + a2.toNatClampNeg)) (show x_12.toNatClampNeg = 72 + (6 + a2.toNatClampNeg) from by rw [nx_a tx_12 rc_78 ra2 (by decide)]; show 78 + _ = _; omega) (show x_20.toNatClampNeg = 72 + (33 + 6 * a1.toNatClampNeg + a2.toNatClampNeg) from by rw [nx_a tx_20 rx_19 ra2 (by decide), nx_a tx_19 rc_105 rx_18 (by decide), nx_m (k := 6) tx_18 ra1 (by decide)]; show 105 + 6 * _ + _ = _; omega) a3.toInt q_24 (by rw [hx_21]; exact tx_22)
    have hF_28 := fq_puta hF_17 hI_26 (ro_a hb_1k (by decide) hb_1o hkx rfl) (by decide) (by decide)
    exact g_vret B K rfl ⟨hU_27, hF_28, hG, (hd_u (r := 0) W9 hLx hkx (hd_u (r := 0) W9 hLx hkx hd_rf hI_15 (Or.inr (Or.inr (ix_ge rx_12 (by decide))))) hI_26 (Or.inr (Or.inr (ix_ge rx_20 (by decide)))))⟩ dX12_live_78
  by_cases c_29 : a0.toInt = 2
  · skip
    have r_30 := rg_of (a := 2) (b := 2) 2 c_29 (by decide) (by decide)
    refine g_tableIn C (tgt := 79) dX12_live_1 (by omega) (by omega) (off := 78) (by rw [c_29]; rfl) (by decide) ?_
    refine g_aload_n C 0 dX12_live_79 rfl rfl ?_
    refine g_iload_n C 2 dX12_live_80 rfl rfl ?_
    refine g_callVV C K (c_X12_pass W9 hLx hkx a1 (ra1) hU) hLx hkx (by decide) rfl v_12_275 rfl ⟨rfl, rfl⟩ ⟨Nat.le_of_ble_eq_true rfl, Nat.le_of_ble_eq_true rfl⟩ (Nat.le_of_ble_eq_true rfl) ⟨Nat.le_of_ble_eq_true rfl, Nat.le_of_ble_eq_true rfl⟩ dX12_live_81 rfl (st := []) (fun I_32 J_33 h_34 => ?_)
    obtain ⟨hUI_32, hFI_32, hGJ_33, ex_31⟩ := h_34
    have hF_35 := fq_tr hF hFI_32 (by decide)
    have hG_36 := fq_tr hG hGJ_33 (by decide)
    exact g_vret B K rfl ⟨hUI_32, hF_35, hG_36, (hd_t hd_rf ex_31)⟩ dX12_live_84
  by_cases c_37 : a0.toInt = 3
  · skip
    have r_38 := rg_of (a := 3) (b := 3) 3 c_37 (by decide) (by decide)
    refine g_tableIn C (tgt := 85) dX12_live_1 (by omega) (by omega) (off := 84) (by rw [c_37]; rfl) (by decide) ?_
    refine g_aload_n C 0 dX12_live_85 rfl rfl ?_
    refine g_getR C K hLx hkx f_12_13 hb_1 dX12_live_86 ?_
    refine g_bipush C (v := 74) dX12_live_89 (by decide) ?_
    refine g_dup2 C dX12_live_91 rfl rfl ?_
    obtain ⟨x_39, hx_39, rx_39⟩ := ex_any (z0 := I b_1 (74))
    refine h_iald C K hb_1L hb_1k (v := x_39) (74) (by decide) (by decide) (by rw [hb_1n]; decide) hx_39 dX12_live_92 ?_
    refine g_iconst C (v := 1) dX12_live_93 (by decide) ?_
    refine g_iload_n C 2 dX12_live_94 rfl rfl ?_
    obtain ⟨x_40, hx_40, rx_40⟩ := ex_shl (x := 1) (y := a1) 6 64 rfl (ra1) (by decide)
    refine g_ishl C (v := x_40) dX12_live_95 hx_40 ?_
    obtain ⟨x_41, hx_41, rx_41⟩ := ex_any (z0 := x_39 ^^^ x_40)
    refine g_ixor C (v := x_41) dX12_live_96 hx_41 ?_
    refine h_iast C K hb_1L hb_1k (74) (by decide) (by decide) (by rw [hb_1n]; decide) dX12_live_97 (fun I_42 hI_42 => ?_)
    have hU_43 := iw_free W9 hU (uw_put hU.1 hI_42 (ro_a hb_1k (by decide) hb_1o hkx rfl) (lo := (-2147483648)) (hi := 2147483647) (by decide) (rx_41)) hLx hkx hb_1 hI_42 (by omega)
    have hF_44 := fq_puta hF hI_42 (ro_a hb_1k (by decide) hb_1o hkx rfl) (by decide) (by decide)
    exact g_vret B K rfl ⟨hU_43, hF_44, hG, (hd_u (r := 0) W9 hLx hkx hd_rf hI_42 (Or.inr (Or.inr (by decide))))⟩ dX12_live_98
  by_cases c_45 : a0.toInt = 4
  · skip
    have r_46 := rg_of (a := 4) (b := 4) 4 c_45 (by decide) (by decide)
    refine g_tableIn C (tgt := 85) dX12_live_1 (by omega) (by omega) (off := 84) (by rw [c_45]; rfl) (by decide) ?_
    refine g_aload_n C 0 dX12_live_85 rfl rfl ?_
    refine g_getR C K hLx hkx f_12_13 hb_1 dX12_live_86 ?_
    refine g_bipush C (v := 74) dX12_live_89 (by decide) ?_
    refine g_dup2 C dX12_live_91 rfl rfl ?_
    obtain ⟨x_47, hx_47, rx_47⟩ := ex_any (z0 := I b_1 (74))
    refine h_iald C K hb_1L hb_1k (v := x_47) (74) (by decide) (by decide) (by rw [hb_1n]; decide) hx_47 dX12_live_92 ?_
    refine g_iconst C (v := 1) dX12_live_93 (by decide) ?_
    refine g_iload_n C 2 dX12_live_94 rfl rfl ?_
    obtain ⟨x_48, hx_48, rx_48⟩ := ex_shl (x := 1) (y := a1) 6 64 rfl (ra1) (by decide)
    refine g_ishl C (v := x_48) dX12_live_95 hx_48 ?_
    obtain ⟨x_49, hx_49, rx_49⟩ := ex_any (z0 := x_47 ^^^ x_48)
    refine g_ixor C (v := x_49) dX12_live_96 hx_49 ?_
    refine h_iast C K hb_1L hb_1k (74) (by decide) (by decide) (by rw [hb_1n]; decide) dX12_live_97 (fun I_50 hI_50 => ?_)
    have hU_51 := iw_free W9 hU (uw_put hU.1 hI_50 (ro_a hb_1k (by decide) hb_1o hkx rfl) (lo := (-2147483648)) (hi := 2147483647) (by decide) (rx_49)) hLx hkx hb_1 hI_50 (by omega)
    have hF_52 := fq_puta hF hI_50 (ro_a hb_1k (by decide) hb_1o hkx rfl) (by decide) (by decide)
    exact g_vret B K rfl ⟨hU_51, hF_52, hG, (hd_u (r := 0) W9 hLx hkx hd_rf hI_50 (Or.inr (Or.inr (by decide))))⟩ dX12_live_98
  have n_54 : ¬ a0 = 0 := (fun q => c_2 (by rw [q]; decide))
  have r_55 := ne_lo (lo := 1) n_54 ra0 rc_0 rfl (by decide)
  have n_56 : ¬ a0 = 1 := (fun q => c_10 (by rw [q]; decide))
  have r_57 := ne_lo (lo := 2) n_56 r_55 rc_1 rfl (by decide)
  have n_58 : ¬ a0 = 2 := (fun q => c_29 (by rw [q]; decide))
  have r_59 := ne_lo (lo := 3) n_58 r_57 rc_2 rfl (by decide)
  have n_60 : ¬ a0 = 3 := (fun q => c_37 (by rw [q]; decide))
  have r_61 := ne_lo (lo := 4) n_60 r_59 rc_3 rfl (by decide)
  have n_62 : ¬ a0 = 4 := (fun q => c_45 (by rw [q]; decide))
  have r_63 := ne_lo (lo := 5) n_62 r_61 rc_4 rfl (by decide)
  obtain ⟨q_531, q_532⟩ := id (r_63)
  refine g_tableOut C (tgt := 99) dX12_live_1 (by omega) (by decide) ?_
  refine g_aload_n C 0 dX12_live_99 rfl rfl ?_
  refine g_getR C K hLx hkx f_12_13 hb_1 dX12_live_100 ?_
  refine g_bipush C (v := 73) dX12_live_103 (by decide) ?_
  refine g_dup2 C dX12_live_105 rfl rfl ?_
  obtain ⟨x_64, hx_64, rx_64⟩ := ex_any (z0 := I b_1 (73))
  refine h_iald C K hb_1L hb_1k (v := x_64) (73) (by decide) (by decide) (by rw [hb_1n]; decide) hx_64 dX12_live_106 ?_
  refine g_iconst C (v := 1) dX12_live_107 (by decide) ?_
  refine g_iload_n C 2 dX12_live_108 rfl rfl ?_
  obtain ⟨x_65, hx_65, rx_65⟩ := ex_shl (x := 1) (y := a1) 6 64 rfl (ra1) (by decide)
  refine g_ishl C (v := x_65) dX12_live_109 hx_65 ?_
  obtain ⟨x_66, hx_66, rx_66⟩ := ex_any (z0 := x_64 ||| x_65)
  refine g_ior C (v := x_66) dX12_live_110 hx_66 ?_
  refine h_iast C K hb_1L hb_1k (73) (by decide) (by decide) (by rw [hb_1n]; decide) dX12_live_111 (fun I_67 hI_67 => ?_)
  have hU_68 := iw_free W9 hU (uw_put hU.1 hI_67 (ro_a hb_1k (by decide) hb_1o hkx rfl) (lo := (-2147483648)) (hi := 2147483647) (by decide) (rx_66)) hLx hkx hb_1 hI_67 (by omega)
  have hF_69 := fq_puta hF hI_67 (ro_a hb_1k (by decide) hb_1o hkx rfl) (by decide) (by decide)
  refine g_aload_n C 0 dX12_live_112 rfl rfl ?_
  refine g_iload_n C 2 dX12_live_113 rfl rfl ?_
  refine g_callVI C K (c_X12_plateOf W9 hLx hkx a1 (ra1) hU_68) hLx hkx (by decide) rfl v_12_247 rfl ⟨rfl, rfl⟩ ⟨Nat.le_of_ble_eq_true rfl, Nat.le_of_ble_eq_true rfl⟩ (Nat.le_of_ble_eq_true rfl) ⟨Nat.le_of_ble_eq_true rfl, Nat.le_of_ble_eq_true rfl⟩ dX12_live_114 rfl (st := []) (fun x_70 I_71 J_72 h_73 => ?_)
  obtain ⟨rfl, rfl, rx_70⟩ := h_73
  refine g_if_le C (tgt := 125) dX12_live_117 (by decide) (fun h_74 => ?_) (fun h_74 => ?_)
  · skip
    have r_75 := le_l (h_74) rx_70 rc_0
    exact g_vret B K rfl ⟨hU_68, hF_69, hG, (hd_u (r := 0) W9 hLx hkx hd_rf hI_67 (Or.inr (Or.inr (by decide))))⟩ dX12_live_125
  · skip
    have r_76 := lt_r (lo := 1) (nle h_74) rc_0 rx_70 (by decide)
    refine g_aload_n C 0 dX12_live_120 rfl rfl ?_
    refine g_iload_n C 2 dX12_live_121 rfl rfl ?_
    refine g_callVV C K (c_X12_pass W9 hLx hkx a1 (ra1) hU_68) hLx hkx (by decide) rfl v_12_275 rfl ⟨rfl, rfl⟩ ⟨Nat.le_of_ble_eq_true rfl, Nat.le_of_ble_eq_true rfl⟩ (Nat.le_of_ble_eq_true rfl) ⟨Nat.le_of_ble_eq_true rfl, Nat.le_of_ble_eq_true rfl⟩ dX12_live_122 rfl (st := []) (fun I_78 J_79 h_80 => ?_)
    obtain ⟨hUI_78, hFI_78, hGJ_79, ex_77⟩ := h_80
    have hF_81 := fq_tr hF_69 hFI_78 (by decide)
    have hG_82 := fq_tr hG hGJ_79 (by decide)
    exact g_vret B K rfl ⟨hUI_78, hF_81, hG_82, (hd_t (hd_u (r := 0) W9 hLx hkx hd_rf hI_67 (Or.inr (Or.inr (by decide)))) ex_77)⟩ dX12_live_125
set_option maxRecDepth 100000 in
set_option maxHeartbeats 8000000 in
theorem c_X12_snap {l : Launch} {D : va_G} {cy : Nat → ClassId} {L : List Nat} {κ ln : Nat → Nat} {R : Nat → Nat → Option Nat} {I : Nat → Nat → Int32} {J : Nat → Nat → Int64} {ow : Nat → Nat × Nat} (W9 : ∀ a ∈ L, Shp L κ ln R ow a) {x : Nat} (hLx : x ∈ L) (hkx : κ x = 12) (hU : Iw L κ R ow I) : CtV l yX12_snap cX12_snap 2 none { frames := 0, cells := 0, slots := 0, locals := 0 } D cy L κ ln R I J [.ref x] (fun I2 J2 => Iw L κ R ow I2 ∧ Fq L κ ow [1223, 83700] I I2 ∧ Fq L κ ow [] J J2 ∧ (Hd_ R x I I2)) := by
  refine CtV.of (by decide +kernel) (Nat.le_of_ble_eq_true rfl) ?_
  intro p e s m below meth c B K
  have C := B.1
  have hF : Fq L κ ow [1223, 83700] I I := fq_rf
  have hG : Fq L κ ow [] J J := fq_rf
  obtain ⟨b_1, hb_1, hb_1L, hb_1k, hb_1n, hb_1o⟩ := shp_a (W9 x hLx) hkx 17 14 600 rfl (by decide)
  obtain ⟨b_2, hb_2, hb_2L, hb_2k, hb_2n, hb_2o⟩ := shp_a (W9 x hLx) hkx 14 14 389 rfl (by decide)
  refine g_lo (is := [0]) (lo2 := [(0, .ref x)]) rfl ?_
  have j_49 : ∀ (I_3 : Nat → Nat → Int32) (J_4 : Nat → Nat → Int64) (hU_5 : Iw L κ R ow I_3) (hF_6 : Fq L κ ow [1223, 83700] I I_3) (hG_7 : Fq L κ ow [] J J_4) (v_8 : Int32) (rv_8 : Rg 0 7 v_8) (nv_8_8 : ¬ v_8 = 8) (q_9 : I_3 x 23 = v_8) (hd_10 : Hd_ R x I I_3), WG p l e { frames := 0, cells := 0, slots := 0, locals := 0 } s m ([.ref x] : List Value).toArray below meth c 2 0 0 (MQ below (Qv_ D cy L κ ln R (fun I2 J2 => Iw L κ R ow I2 ∧ Fq L κ ow [1223, 83700] I I2 ∧ Fq L κ ow [] J J2 ∧ (Hd_ R x I I2))) ([.ref x] : List Value).toArray s 0 0 (Al_ L)) D cy (Al_ L) s.heap L κ ln R I_3 J_4 49 [(0, .ref x)] [] := by
    intro I_3 J_4 hU_5 hF_6 hG_7 v_8 rv_8 nv_8_8 q_9 hd_10
    refine g_iconst C (v := 0) dX12_snap_49 (by decide) ?_
    refine g_istore_n C dX12_snap_50 rfl (by decide) (lo2 := [(1, .int 0), (0, .ref x)]) rfl ?_
    refine g_lo (is := [1, 0]) (lo2 := [(0, .ref x), (1, .int 0)]) rfl ?_
    have ex_51 : ∀ (I_12 : Nat → Nat → Int32) (hI_12 : I_12 = cpn_ I_3 b_2 b_1 (72) (75 * v_8.toNatClampNeg) 75) (v_11 : Int32) (rv_11 : Rg 75 75 v_11), WG p l e { frames := 0, cells := 0, slots := 0, locals := 0 } s m ([.ref x] : List Value).toArray below meth c 2 0 0 (MQ below (Qv_ D cy L κ ln R (fun I2 J2 => Iw L κ R ow I2 ∧ Fq L κ ow [1223, 83700] I I2 ∧ Fq L κ ow [] J J2 ∧ (Hd_ R x I I2))) ([.ref x] : List Value).toArray s 0 0 (Al_ L)) D cy (Al_ L) s.heap L κ ln R I_12 J_4 86 [(0, .ref x), (1, .int v_11)] [] := by
      intro I_12 hI_12 v_11 rv_11
      have hF_13 := fq_cpn hF_6 hI_12 (ro_a hb_1k (by decide) hb_1o hkx rfl) (by decide) (by decide)
      have hU_14 := uw_cpn hU_5.1 hb_2L hI_12 (ro_a hb_1k (by decide) hb_1o hkx rfl) (ro_a hb_2k (by decide) hb_2o hkx rfl) (fun i hi => by rw [bn_837, bn_834, show (75 * v_8.toNatClampNeg + i) % 75 = i by omega]; exact ⟨Int.le_refl _, Int.le_refl _⟩)
      refine g_aload_n C 0 dX12_snap_86 rfl rfl ?_
      refine g_dup C dX12_snap_87 rfl ?_
      refine g_getI C K hLx hkx f_12_228 (v := v_8) (kp_cn (κ := κ) hI_12 (by rw [hkx, hb_1k]; decide) q_9) dX12_snap_88 ?_
      refine g_iconst C (v := 1) dX12_snap_91 (by decide) ?_
      obtain ⟨x_15, hx_15, rx_15, tx_15⟩ := ex_add 1 8 rv_8 rc_1 (by decide) (by decide) (by decide) (by decide)
      refine g_iadd C (v := x_15) dX12_snap_92 hx_15 ?_
      refine h_putI C K hLx hkx f_12_228 p_12_23 dX12_snap_93 (fun I_16 hI_16 => ?_)
      have hU_17 := iw_sn W9 hU_5 (uw_put hU_14 hI_16 (ro_o hkx (by decide)) (lo := 0) (hi := 8) (rfl) (rg_w rx_15 (by decide) (by decide))) hLx hkx hb_2 hb_1 hI_12 hI_16 q_9 (rv_8).1 (ti_k tx_15 rc_1)
      have hF_18 := fq_puto hF_13 hI_16 hkx (by decide) (by decide)
      exact g_vret B K rfl ⟨hU_17, hF_18, hG_7, (hd_u (r := 0) W9 hLx hkx (hd_c (r := 837) W9 hLx hkx hd_10 hI_12 (Or.inl ⟨(ro_a hb_1k (by decide) hb_1o hkx rfl), by decide⟩)) hI_16 (Or.inl (ro_o hkx (by decide))))⟩ dX12_snap_96
    have l_51 : ∀ (m_51 : Nat) (v_19 : Int32) (I_20 : Nat → Nat → Int32), v_19.toInt + (m_51 : Int) = 75 → 0 ≤ v_19.toInt → I_20 = cpn_ I_3 b_2 b_1 (72) (75 * v_8.toNatClampNeg) v_19.toNatClampNeg → WG p l e { frames := 0, cells := 0, slots := 0, locals := 0 } s m ([.ref x] : List Value).toArray below meth c 2 0 0 (MQ below (Qv_ D cy L κ ln R (fun I2 J2 => Iw L κ R ow I2 ∧ Fq L κ ow [1223, 83700] I I2 ∧ Fq L κ ow [] J J2 ∧ (Hd_ R x I I2))) ([.ref x] : List Value).toArray s 0 0 (Al_ L)) D cy (Al_ L) s.heap L κ ln R I_20 J_4 51 [(0, .ref x), (1, .int v_19)] [] := by
      intro m_51
      induction m_51 with
      | zero =>
        intro v_19 I_20 hk_51 h0_51 hI_20
        have rv_19 : Rg 75 75 v_19 := by unfold Rg; omega
        refine g_iload_n C 1 dX12_snap_51 rfl rfl ?_
        refine g_bipush C (v := 75) dX12_snap_52 (by decide) ?_
        refine g_icmp_ge C (tgt := 86) dX12_snap_54 (by decide) (fun h_21 => ?_) (fun h_21 => ?_)
        · skip
          refine g_lo (is := [0, 1]) (lo2 := [(0, .ref x), (1, .int v_19)]) rfl ?_
          exact ex_51 I_20 (hI_20.trans (congrArg (fun q => cpn_ I_3 b_2 b_1 (72) (75 * v_8.toNatClampNeg) q) (show v_19.toNatClampNeg = 75 from by have := ix_n rv_19 (by decide); have := rv_19.1; have := rv_19.2; omega))) v_19 rv_19
        · skip
          have r_22 := lt_l (hi := 74) (nle h_21) rv_19 rc_75 (by decide)
          exact rg_no r_22 (by decide)
      | succ m_51 ih_51 =>
        intro v_19 I_20 hk_51 h0_51 hI_20
        have rv_19 : Rg 0 74 v_19 := by unfold Rg; omega
        refine g_iload_n C 1 dX12_snap_51 rfl rfl ?_
        refine g_bipush C (v := 75) dX12_snap_52 (by decide) ?_
        refine g_icmp_ge C (tgt := 86) dX12_snap_54 (by decide) (fun h_23 => ?_) (fun h_23 => ?_)
        · skip
          have r_24 := le_r (h_23) rc_75 rv_19
          exact rg_no r_24 (by decide)
        · skip
          refine g_aload_n C 0 dX12_snap_57 rfl rfl ?_
          refine g_getR C K hLx hkx f_12_22 hb_1 dX12_snap_58 ?_
          refine g_bipush C (v := 75) dX12_snap_61 (by decide) ?_
          refine g_aload_n C 0 dX12_snap_63 rfl rfl ?_
          refine g_getI C K hLx hkx f_12_228 (v := v_8) (kp_cn (κ := κ) hI_20 (by rw [hkx, hb_1k]; decide) q_9) dX12_snap_64 ?_
          obtain ⟨x_25, hx_25, rx_25, tx_25⟩ := ex_mulT 0 525 rc_75 rv_8 (by decide) (by decide) (by decide) (by decide) (by decide)
          refine g_imul C (v := x_25) dX12_snap_67 hx_25 ?_
          refine g_iload_n C 1 dX12_snap_68 rfl rfl ?_
          obtain ⟨x_26, hx_26, rx_26, tx_26⟩ := ex_add 0 599 rx_25 rv_19 (by decide) (by decide) (by decide) (by decide)
          refine g_iadd C (v := x_26) dX12_snap_69 hx_26 ?_
          refine g_aload_n C 0 dX12_snap_70 rfl rfl ?_
          refine g_getR C K hLx hkx f_12_13 hb_2 dX12_snap_71 ?_
          refine g_bipush C (v := 72) dX12_snap_74 (by decide) ?_
          refine g_iload_n C 1 dX12_snap_76 rfl rfl ?_
          obtain ⟨x_27, hx_27, rx_27, tx_27⟩ := ex_add 72 146 rc_72 rv_19 (by decide) (by decide) (by decide) (by decide)
          refine g_iadd C (v := x_27) dX12_snap_77 hx_27 ?_
          obtain ⟨x_28, hx_28, rx_28⟩ := ex_any (z0 := I_20 b_2 (x_27.toNatClampNeg))
          refine h_iald C K hb_2L hb_2k (v := x_28) (x_27.toNatClampNeg) (rfl) (ix_0 rx_27 (by decide)) (ix_lt rx_27 (by decide) hb_2n (by decide)) hx_28 dX12_snap_78 ?_
          refine h_iast C K hb_1L hb_1k (x_26.toNatClampNeg) (rfl) (ix_0 rx_26 (by decide)) (ix_lt rx_26 (by decide) hb_1n (by decide)) dX12_snap_79 (fun I_29 hI_29 => ?_)
          obtain ⟨x_30, hx_30, rx_30, tx_30⟩ := ex_add (y := 1) 1 75 rv_19 rc_1 (by decide) (by decide) (by decide) (by decide)
          refine g_iinc C dX12_snap_80 (k := 1) (v := x_30) rfl hx_30 (by decide) (lo2 := [(1, .int x_30), (0, .ref x)]) rfl ?_
          refine g_goto C (tgt := 51) dX12_snap_83 (by decide) ?_
          refine g_lo (is := [1, 0]) (lo2 := [(0, .ref x), (1, .int x_30)]) rfl ?_
          have kk_51 : x_30.toNatClampNeg = v_19.toNatClampNeg + 1 := by have q1 := ix_n rv_19 (by decide); have q2 := (ti_k tx_30 rc_1); have q3 : x_30.toNatClampNeg = x_30.toInt.toNat := rfl; omega
          exact ih_51 x_30 I_29 (by have := (ti_k tx_30 rc_1); omega) (by have := (ti_k tx_30 rc_1); omega) (by rw [kk_51]; exact cpn_s hI_20 hx_28 hI_29 (show x_27.toNatClampNeg = (72) + v_19.toNatClampNeg from by rw [nx_a tx_27 rc_72 rv_19 (by decide)]; simp only [show (72 : Int32).toNatClampNeg = 72 from rfl] <;> omega) (show x_26.toNatClampNeg = (75 * v_8.toNatClampNeg) + v_19.toNatClampNeg from by rw [nx_a tx_26 rx_25 rv_19 (by decide), nx_m (k := 75) tx_25 rv_8 (by decide)] <;> omega) (Or.inl (ne_ro (ro_a hb_2k (by decide) hb_2o hkx rfl) (ro_a hb_1k (by decide) hb_1o hkx rfl) (by decide))))
    exact l_51 75 0 I_3 (by decide) (by decide) cpn_0
  refine g_aload_n C 0 dX12_snap_0 rfl rfl ?_
  obtain ⟨x_31, hx_31, rx_31⟩ := ex_getw (I := I) (a := x) (j := 23) (lo := 0) (hi := 8) hU.1 hLx (ro_o hkx (by decide)) rfl
  refine g_getI C K hLx hkx f_12_228 (v := x_31) hx_31 dX12_snap_1 ?_
  refine g_bipush C (v := 8) dX12_snap_4 (by decide) ?_
  refine g_icmp_ne C (tgt := 49) dX12_snap_6 (by decide) (fun h_32 => ?_) (fun h_32 => ?_)
  · skip
    have n_33 : ¬ x_31 = 8 := h_32
    have r_34 := ne_hi (hi := 7) n_33 rx_31 rc_8 rfl (by decide)
    refine g_lo (is := [0]) (lo2 := [(0, .ref x)]) rfl ?_
    exact j_49 I J hU hF hG x_31 (r_34) (n_33) hx_31 hd_rf
  · skip
    have r_35 := (⟨(eq_rg (h_32) rc_8).1, (rx_31).2⟩ : Rg 8 8 x_31)
    refine g_iconst C (v := 0) dX12_snap_9 (by decide) ?_
    refine g_istore_n C dX12_snap_10 rfl (by decide) (lo2 := [(1, .int 0), (0, .ref x)]) rfl ?_
    refine g_lo (is := [1, 0]) (lo2 := [(0, .ref x), (1, .int 0)]) rfl ?_
    have ex_11 : ∀ (I_37 : Nat → Nat → Int32) (hI_37 : I_37 = cpn_ I b_1 b_1 (75) (0) 525) (v_36 : Int32) (rv_36 : Rg 525 525 v_36), WG p l e { frames := 0, cells := 0, slots := 0, locals := 0 } s m ([.ref x] : List Value).toArray below meth c 2 0 0 (MQ below (Qv_ D cy L κ ln R (fun I2 J2 => Iw L κ R ow I2 ∧ Fq L κ ow [1223, 83700] I I2 ∧ Fq L κ ow [] J J2 ∧ (Hd_ R x I I2))) ([.ref x] : List Value).toArray s 0 0 (Al_ L)) D cy (Al_ L) s.heap L κ ln R I_37 J 39 [(0, .ref x), (1, .int v_36)] [] := by
      intro I_37 hI_37 v_36 rv_36
      have hF_38 := fq_cpn hF hI_37 (ro_a hb_1k (by decide) hb_1o hkx rfl) (by decide) (by decide)
      have hU_39 := uw_cpn hU.1 hb_1L hI_37 (ro_a hb_1k (by decide) hb_1o hkx rfl) (ro_a hb_1k (by decide) hb_1o hkx rfl) (fun i _ => by rw [bn_837, bn_837, show (0 + i) % 75 = (75 + i) % 75 by omega]; exact ⟨Int.le_refl _, Int.le_refl _⟩)
      refine g_aload_n C 0 dX12_snap_39 rfl rfl ?_
      refine g_dup C dX12_snap_40 rfl ?_
      refine g_getI C K hLx hkx f_12_228 (v := x_31) (kp_cn (κ := κ) hI_37 (by rw [hkx, hb_1k]; decide) hx_31) dX12_snap_41 ?_
      refine g_iconst C (v := 1) dX12_snap_44 (by decide) ?_
      obtain ⟨x_40, hx_40, rx_40, tx_40⟩ := ex_sub 7 7 r_35 rc_1 (by decide) (by decide) (by decide) (by decide)
      refine g_isub C (v := x_40) dX12_snap_45 hx_40 ?_
      refine h_putI C K hLx hkx f_12_228 p_12_23 dX12_snap_46 (fun I_41 hI_41 => ?_)
      have hU_42 := iw_sh W9 hU (uw_put hU_39 hI_41 (ro_o hkx (by decide)) (lo := 0) (hi := 8) (rfl) (rg_w rx_40 (by decide) (by decide))) hLx hkx hb_1 hI_37 hI_41 (by rw [hx_31]; have := (r_35).1; have := (r_35).2; omega) (by have := (rx_40).1; have := (rx_40).2; omega)
      have hF_43 := fq_puto hF_38 hI_41 hkx (by decide) (by decide)
      refine g_lo (is := [0]) (lo2 := [(0, .ref x)]) rfl ?_
      exact j_49 I_41 J hU_42 hF_43 hG x_40 (rg_w rx_40 (by decide) (by decide)) (rg_nek rx_40 rc_8 (by decide)) (kp_s hI_41) (hd_u (r := 0) W9 hLx hkx (hd_c (r := 837) W9 hLx hkx hd_rf hI_37 (Or.inl ⟨(ro_a hb_1k (by decide) hb_1o hkx rfl), by decide⟩)) hI_41 (Or.inl (ro_o hkx (by decide))))
    have l_11 : ∀ (m_11 : Nat) (v_44 : Int32) (I_45 : Nat → Nat → Int32), v_44.toInt + (m_11 : Int) = 525 → 0 ≤ v_44.toInt → I_45 = cpn_ I b_1 b_1 (75) (0) v_44.toNatClampNeg → WG p l e { frames := 0, cells := 0, slots := 0, locals := 0 } s m ([.ref x] : List Value).toArray below meth c 2 0 0 (MQ below (Qv_ D cy L κ ln R (fun I2 J2 => Iw L κ R ow I2 ∧ Fq L κ ow [1223, 83700] I I2 ∧ Fq L κ ow [] J J2 ∧ (Hd_ R x I I2))) ([.ref x] : List Value).toArray s 0 0 (Al_ L)) D cy (Al_ L) s.heap L κ ln R I_45 J 11 [(0, .ref x), (1, .int v_44)] [] := by
      intro m_11
      induction m_11 with
      | zero =>
        intro v_44 I_45 hk_11 h0_11 hI_45
        have rv_44 : Rg 525 525 v_44 := by unfold Rg; omega
        refine g_iload_n C 1 dX12_snap_11 rfl rfl ?_
        refine g_sipush C (v := 525) dX12_snap_12 (by decide) ?_
        refine g_icmp_ge C (tgt := 39) dX12_snap_15 (by decide) (fun h_46 => ?_) (fun h_46 => ?_)
        · skip
          refine g_lo (is := [0, 1]) (lo2 := [(0, .ref x), (1, .int v_44)]) rfl ?_
          exact ex_11 I_45 (hI_45.trans (congrArg (fun q => cpn_ I b_1 b_1 (75) (0) q) (show v_44.toNatClampNeg = 525 from by have := ix_n rv_44 (by decide); have := rv_44.1; have := rv_44.2; omega))) v_44 rv_44
        · skip
          have r_47 := lt_l (hi := 524) (nle h_46) rv_44 rc_525 (by decide)
          exact rg_no r_47 (by decide)
      | succ m_11 ih_11 =>
        intro v_44 I_45 hk_11 h0_11 hI_45
        have rv_44 : Rg 0 524 v_44 := by unfold Rg; omega
        refine g_iload_n C 1 dX12_snap_11 rfl rfl ?_
        refine g_sipush C (v := 525) dX12_snap_12 (by decide) ?_
        refine g_icmp_ge C (tgt := 39) dX12_snap_15 (by decide) (fun h_48 => ?_) (fun h_48 => ?_)
        · skip
          have r_49 := le_r (h_48) rc_525 rv_44
          exact rg_no r_49 (by decide)
        · skip
          refine g_aload_n C 0 dX12_snap_18 rfl rfl ?_
          refine g_getR C K hLx hkx f_12_22 hb_1 dX12_snap_19 ?_
          refine g_iload_n C 1 dX12_snap_22 rfl rfl ?_
          refine g_aload_n C 0 dX12_snap_23 rfl rfl ?_
          refine g_getR C K hLx hkx f_12_22 hb_1 dX12_snap_24 ?_
          refine g_iload_n C 1 dX12_snap_27 rfl rfl ?_
          refine g_bipush C (v := 75) dX12_snap_28 (by decide) ?_
          obtain ⟨x_50, hx_50, rx_50, tx_50⟩ := ex_add 75 599 rv_44 rc_75 (by decide) (by decide) (by decide) (by decide)
          refine g_iadd C (v := x_50) dX12_snap_30 hx_50 ?_
          obtain ⟨x_51, hx_51, rx_51⟩ := ex_any (z0 := I_45 b_1 (x_50.toNatClampNeg))
          refine h_iald C K hb_1L hb_1k (v := x_51) (x_50.toNatClampNeg) (rfl) (ix_0 rx_50 (by decide)) (ix_lt rx_50 (by decide) hb_1n (by decide)) hx_51 dX12_snap_31 ?_
          refine h_iast C K hb_1L hb_1k (v_44.toNatClampNeg) (rfl) (ix_0 rv_44 (by decide)) (ix_lt rv_44 (by decide) hb_1n (by decide)) dX12_snap_32 (fun I_52 hI_52 => ?_)
          obtain ⟨x_53, hx_53, rx_53, tx_53⟩ := ex_add (y := 1) 1 525 rv_44 rc_1 (by decide) (by decide) (by decide) (by decide)
          refine g_iinc C dX12_snap_33 (k := 1) (v := x_53) rfl hx_53 (by decide) (lo2 := [(1, .int x_53), (0, .ref x)]) rfl ?_
          refine g_goto C (tgt := 11) dX12_snap_36 (by decide) ?_
          refine g_lo (is := [1, 0]) (lo2 := [(0, .ref x), (1, .int x_53)]) rfl ?_
          have kk_11 : x_53.toNatClampNeg = v_44.toNatClampNeg + 1 := by have q1 := ix_n rv_44 (by decide); have q2 := (ti_k tx_53 rc_1); have q3 : x_53.toNatClampNeg = x_53.toInt.toNat := rfl; omega
          exact ih_11 x_53 I_52 (by have := (ti_k tx_53 rc_1); omega) (by have := (ti_k tx_53 rc_1); omega) (by rw [kk_11]; exact cpn_s hI_45 hx_51 hI_52 (show x_50.toNatClampNeg = (75) + v_44.toNatClampNeg from by rw [nx_a tx_50 rv_44 rc_75 (by decide)]; simp only [show (75 : Int32).toNatClampNeg = 75 from rfl] <;> omega) (show v_44.toNatClampNeg = (0) + v_44.toNatClampNeg from by omega) (Or.inr (Or.inl (by have q1 := ix_n rv_44 (by decide); have q2 := rv_44.2; omega))))
    exact l_11 525 0 I (by decide) (by decide) cpn_0
set_option maxRecDepth 100000 in
set_option maxHeartbeats 8000000 in
theorem c_X12_wantsYet {l : Launch} {D : va_G} {cy : Nat → ClassId} {L : List Nat} {κ ln : Nat → Nat} {R : Nat → Nat → Option Nat} {I : Nat → Nat → Int32} {J : Nat → Nat → Int64} {ow : Nat → Nat × Nat} (W9 : ∀ a ∈ L, Shp L κ ln R ow a) {x : Nat} (hLx : x ∈ L) (hkx : κ x = 12) (a0 : Int32) (ra0 : Rg 0 6 a0) (hU : Iw L κ R ow I) : CtI l yX12_wantsYet cX12_wantsYet 2 (some .int) { frames := 0, cells := 0, slots := 0, locals := 0 } D cy L κ ln R I J [.ref x, .int a0] (fun r I2 J2 => I = I2 ∧ J = J2 ∧ Rg 0 20 r ∧ (∀ a, R x 14 = some a → r.toInt = (I a (4 + a0.toNatClampNeg)).toInt - (I a (91 + a0.toNatClampNeg)).toInt)) := by
  refine CtI.of (by decide +kernel) (Nat.le_of_ble_eq_true rfl) ?_
  intro p e s m below meth c B K
  have C := B.1
  obtain ⟨b_1, hb_1, hb_1L, hb_1k, hb_1n, hb_1o⟩ := shp_a (W9 x hLx) hkx 14 14 389 rfl (by decide)
  refine g_lo (is := [0, 1]) (lo2 := [(0, .ref x), (1, .int a0)]) rfl ?_
  refine g_aload_n C 0 dX12_wantsYet_0 rfl rfl ?_
  refine g_getR C K hLx hkx f_12_13 hb_1 dX12_wantsYet_1 ?_
  refine g_iconst C (v := 4) dX12_wantsYet_4 (by decide) ?_
  refine g_iload_n C 1 dX12_wantsYet_5 rfl rfl ?_
  obtain ⟨x_2, hx_2, rx_2, tx_2⟩ := ex_add 4 10 rc_4 ra0 (by decide) (by decide) (by decide) (by decide)
  refine g_iadd C (v := x_2) dX12_wantsYet_6 hx_2 ?_
  obtain ⟨x_3, hx_3, rx_3⟩ := ex_getw (I := I) (a := b_1) (j := x_2.toNatClampNeg) (lo := 0) (hi := 20) hU.1 hb_1L (ro_a hb_1k (by decide) hb_1o hkx rfl) (bn_834.trans (zq_4 (ix_k (lo := 4) (hi := 10) rx_2 (by decide) (by decide) (by decide))))
  refine h_iald C K hb_1L hb_1k (v := x_3) (x_2.toNatClampNeg) (rfl) (ix_0 rx_2 (by decide)) (ix_lt rx_2 (by decide) hb_1n (by decide)) hx_3 dX12_wantsYet_7 ?_
  refine g_aload_n C 0 dX12_wantsYet_8 rfl rfl ?_
  refine g_getR C K hLx hkx f_12_13 hb_1 dX12_wantsYet_9 ?_
  refine g_bipush C (v := 91) dX12_wantsYet_12 (by decide) ?_
  refine g_iload_n C 1 dX12_wantsYet_14 rfl rfl ?_
  obtain ⟨x_4, hx_4, rx_4, tx_4⟩ := ex_add 91 97 rc_91 ra0 (by decide) (by decide) (by decide) (by decide)
  refine g_iadd C (v := x_4) dX12_wantsYet_15 hx_4 ?_
  obtain ⟨x_5, hx_5, rx_5⟩ := ex_getw (I := I) (a := b_1) (j := x_4.toNatClampNeg) (lo := 0) (hi := 20) hU.1 hb_1L (ro_a hb_1k (by decide) hb_1o hkx rfl) (bn_834.trans (zq_91 (ix_k (lo := 91) (hi := 97) rx_4 (by decide) (by decide) (by decide))))
  refine h_iald C K hb_1L hb_1k (v := x_5) (x_4.toNatClampNeg) (rfl) (ix_0 rx_4 (by decide)) (ix_lt rx_4 (by decide) hb_1n (by decide)) hx_5 dX12_wantsYet_16 ?_
  obtain ⟨x_6, hx_6, rx_6, tx_6⟩ := ex_suble 20 rx_3 rx_5 ((Int32.le_iff_toInt_le.mpr (by rw [← hx_5, ← hx_3, (show x_4.toNatClampNeg = 91 + a0.toNatClampNeg from by rw [nx_a tx_4 rc_91 ra0 (by decide)]; rfl), (show x_2.toNatClampNeg = 4 + a0.toNatClampNeg from by rw [nx_a tx_2 rc_4 ra0 (by decide)]; rfl)]; exact gj_le W9 hU.2 hLx hkx hb_1 (ix_lt (n := 7) (N := 7) ra0 (by decide) rfl (by decide))))) (by decide) (by decide)
  refine g_isub C (v := x_6) dX12_wantsYet_17 hx_6 ?_
  exact g_zret (ty := .int) (r := x_6) B K rfl (rfl) ⟨rfl, rfl, rx_6, (fun a ha => by rw [hb_1] at ha; cases ha; rw [← (show x_4.toNatClampNeg = 91 + a0.toNatClampNeg from by rw [nx_a tx_4 rc_91 ra0 (by decide)]; rfl), ← (show x_2.toNatClampNeg = 4 + a0.toNatClampNeg from by rw [nx_a tx_2 rc_4 ra0 (by decide)]; rfl), hx_5, hx_3]; exact tx_6)⟩ dX12_wantsYet_18
set_option maxRecDepth 100000 in
set_option maxHeartbeats 8000000 in
theorem c_X12_why {l : Launch} {D : va_G} {cy : Nat → ClassId} {L : List Nat} {κ ln : Nat → Nat} {R : Nat → Nat → Option Nat} {I : Nat → Nat → Int32} {J : Nat → Nat → Int64} {ow : Nat → Nat × Nat} (W9 : ∀ a ∈ L, Shp L κ ln R ow a) {x : Nat} (hLx : x ∈ L) (hkx : κ x = 12) (a0 : Int32) (a1 : Int32) (a2 : Int32) (a3 : Int32) (ra0 : Rg 0 5 a0) (ra1 : Rg 0 6 a1) (ra2 : Rg 0 5 a2) (ra3 : Rg 0 60 a3) (hU : Iw L κ R ow I) : CtI l yX12_why cX12_why 5 (some .int) { frames := 2, cells := 0, slots := 0, locals := 45 } D cy L κ ln R I J [.ref x, .int a0, .int a1, .int a2, .int a3] (fun r I2 J2 => I = I2 ∧ J = J2 ∧ Rg 0 3 r ∧ (r = 0 → (∀ a, R x 14 = some a → (a0 = 0 → Ea_ (I a) a1.toNatClampNeg a2.toNatClampNeg a3) ∧ (a0 = 1 → a3.toInt ≤ (I a (78 + a2.toNatClampNeg)).toInt)))) := by
  refine CtI.of (by decide +kernel) (Nat.le_of_ble_eq_true rfl) ?_
  intro p e s m below meth c B K
  have C := B.1
  obtain ⟨b_1, hb_1, hb_1L, hb_1k, hb_1n, hb_1o⟩ := shp_a (W9 x hLx) hkx 14 14 389 rfl (by decide)
  refine g_lo (is := [0, 1, 2, 3, 4]) (lo2 := [(0, .ref x), (1, .int a0), (2, .int a1), (3, .int a2), (4, .int a3)]) rfl ?_
  refine g_aload_n C 0 dX12_why_0 rfl rfl ?_
  refine g_iload_n C 2 dX12_why_1 rfl rfl ?_
  refine g_callVI C K (c_X12_isDead W9 hLx hkx a1 (ra1) hU) hLx hkx (by decide) rfl v_12_244 rfl ⟨rfl, rfl⟩ ⟨Nat.le_of_ble_eq_true rfl, Nat.le_of_ble_eq_true rfl⟩ (Nat.le_of_ble_eq_true rfl) ⟨Nat.le_of_ble_eq_true rfl, Nat.le_of_ble_eq_true rfl⟩ dX12_why_2 rfl (st := []) (fun x_2 I_3 J_4 h_5 => ?_)
  obtain ⟨rfl, rfl, rx_2⟩ := h_5
  refine g_if_eq C (tgt := 10) dX12_why_5 (by decide) (fun h_6 => ?_) (fun h_6 => ?_)
  · skip
    have r_7 := (⟨(rx_2).1, (eq_rg (h_6) rc_0).2⟩ : Rg 0 0 x_2)
    refine g_iload_n C 1 dX12_why_10 rfl rfl ?_
    by_cases c_8 : a0.toInt = 0
    · skip
      have r_9 := rg_of (a := 0) (b := 0) 0 c_8 (by decide) (by decide)
      refine g_tableIn C (tgt := 44) dX12_why_11 (by omega) (by omega) (off := 33) (by rw [c_8]; rfl) (by decide) ?_
      refine g_aload_n C 0 dX12_why_44 rfl rfl ?_
      refine g_iload_n C 2 dX12_why_45 rfl rfl ?_
      refine g_iload_n C 3 dX12_why_46 rfl rfl ?_
      refine g_callVI C K (c_X12_onPlate W9 hLx hkx a1 a2 (ra1) (ra2) hU) hLx hkx (by decide) rfl v_12_234 rfl ⟨rfl, rfl⟩ ⟨Nat.le_of_ble_eq_true rfl, Nat.le_of_ble_eq_true rfl⟩ (Nat.le_of_ble_eq_true rfl) ⟨Nat.le_of_ble_eq_true rfl, Nat.le_of_ble_eq_true rfl⟩ dX12_why_47 rfl (st := []) (fun x_10 I_11 J_12 h_13 => ?_)
      obtain ⟨rfl, rfl, rx_10, ex_10⟩ := h_13
      refine g_iload C 4 dX12_why_50 rfl ?_
      refine g_icmp_ge C (tgt := 59) dX12_why_52 (by decide) (fun h_14 => ?_) (fun h_14 => ?_)
      · skip
        refine g_iload C 4 dX12_why_59 rfl ?_
        refine g_aload_n C 0 dX12_why_61 rfl rfl ?_
        refine g_iload_n C 2 dX12_why_62 rfl rfl ?_
        refine g_callVI C K (c_X12_wantsYet W9 hLx hkx a1 (ra1) hU) hLx hkx (by decide) rfl v_12_268 rfl ⟨rfl, rfl⟩ ⟨Nat.le_of_ble_eq_true rfl, Nat.le_of_ble_eq_true rfl⟩ (Nat.le_of_ble_eq_true rfl) ⟨Nat.le_of_ble_eq_true rfl, Nat.le_of_ble_eq_true rfl⟩ dX12_why_63 rfl (st := [.int a3]) (fun x_15 I_16 J_17 h_18 => ?_)
        obtain ⟨rfl, rfl, rx_15, ex_15⟩ := h_18
        refine g_icmp_le C (tgt := 73) dX12_why_66 (by decide) (fun h_19 => ?_) (fun h_19 => ?_)
        · skip
          have r_20 := le_l (h_19) ra3 rx_15
          refine g_iconst C (v := 0) dX12_why_73 (by decide) ?_
          exact g_zret (ty := .int) (r := 0) B K rfl (rfl) ⟨rfl, rfl, rg_w rc_0 (by decide) (by decide), (fun _ a ha => ⟨(fun _ => ea_mk (ex_10 a ha) (ex_15 a ha) (h_14) (h_19)), (fun q => absurd q (rg_nek r_9 rc_1 (by decide)))⟩)⟩ dX12_why_74
        · skip
          have r_21 := lt_r (lo := 1) (nle h_19) rx_15 ra3 (by decide)
          refine g_iconst C (v := 3) dX12_why_69 (by decide) ?_
          refine g_goto C (tgt := 74) dX12_why_70 (by decide) ?_
          exact g_zret (ty := .int) (r := 3) B K rfl (rfl) ⟨rfl, rfl, rg_w rc_3 (by decide) (by decide), (fun q => absurd q (by decide))⟩ dX12_why_74
      · skip
        have r_22 := lt_l (hi := 59) (nle h_14) rx_10 ra3 (by decide)
        have r_23 := lt_r (lo := 1) (nle h_14) rx_10 ra3 (by decide)
        refine g_iconst C (v := 2) dX12_why_55 (by decide) ?_
        refine g_goto C (tgt := 74) dX12_why_56 (by decide) ?_
        exact g_zret (ty := .int) (r := 2) B K rfl (rfl) ⟨rfl, rfl, rg_w rc_2 (by decide) (by decide), (fun q => absurd q (by decide))⟩ dX12_why_74
    by_cases c_24 : a0.toInt = 1
    · skip
      have r_25 := rg_of (a := 1) (b := 1) 1 c_24 (by decide) (by decide)
      refine g_tableIn C (tgt := 75) dX12_why_11 (by omega) (by omega) (off := 64) (by rw [c_24]; rfl) (by decide) ?_
      refine g_aload_n C 0 dX12_why_75 rfl rfl ?_
      refine g_getR C K hLx hkx f_12_13 hb_1 dX12_why_76 ?_
      refine g_bipush C (v := 78) dX12_why_79 (by decide) ?_
      refine g_iload_n C 3 dX12_why_81 rfl rfl ?_
      obtain ⟨x_26, hx_26, rx_26, tx_26⟩ := ex_add 78 83 rc_78 ra2 (by decide) (by decide) (by decide) (by decide)
      refine g_iadd C (v := x_26) dX12_why_82 hx_26 ?_
      obtain ⟨x_27, hx_27, rx_27⟩ := ex_getw (I := I) (a := b_1) (j := x_26.toNatClampNeg) (lo := 0) (hi := 379) hU.1 hb_1L (ro_a hb_1k (by decide) hb_1o hkx rfl) (bn_834.trans (zq_78 (ix_k (lo := 78) (hi := 83) rx_26 (by decide) (by decide) (by decide))))
      refine h_iald C K hb_1L hb_1k (v := x_27) (x_26.toNatClampNeg) (rfl) (ix_0 rx_26 (by decide)) (ix_lt rx_26 (by decide) hb_1n (by decide)) hx_27 dX12_why_83 ?_
      refine g_iload C 4 dX12_why_84 rfl ?_
      refine g_icmp_ge C (tgt := 93) dX12_why_86 (by decide) (fun h_28 => ?_) (fun h_28 => ?_)
      · skip
        refine g_iconst C (v := 0) dX12_why_93 (by decide) ?_
        exact g_zret (ty := .int) (r := 0) B K rfl (rfl) ⟨rfl, rfl, rg_w rc_0 (by decide) (by decide), (fun _ a ha => ⟨(fun q => absurd q (rg_nek r_25 rc_0 (by decide))), (fun _ => by rw [hb_1] at ha; cases ha; rw [← (show x_26.toNatClampNeg = 78 + a2.toNatClampNeg from by rw [nx_a tx_26 rc_78 ra2 (by decide)]; rfl), hx_27]; exact Int32.le_iff_toInt_le.mp (h_28))⟩)⟩ dX12_why_94
      · skip
        have r_29 := lt_l (hi := 59) (nle h_28) rx_27 ra3 (by decide)
        have r_30 := lt_r (lo := 1) (nle h_28) rx_27 ra3 (by decide)
        refine g_iconst C (v := 2) dX12_why_89 (by decide) ?_
        refine g_goto C (tgt := 94) dX12_why_90 (by decide) ?_
        exact g_zret (ty := .int) (r := 2) B K rfl (rfl) ⟨rfl, rfl, rg_w rc_2 (by decide) (by decide), (fun q => absurd q (by decide))⟩ dX12_why_94
    by_cases c_31 : a0.toInt = 2
    · skip
      have r_32 := rg_of (a := 2) (b := 2) 2 c_31 (by decide) (by decide)
      refine g_tableIn C (tgt := 95) dX12_why_11 (by omega) (by omega) (off := 84) (by rw [c_31]; rfl) (by decide) ?_
      refine g_aload_n C 0 dX12_why_95 rfl rfl ?_
      refine g_iload_n C 2 dX12_why_96 rfl rfl ?_
      refine g_callVI C K (c_X12_plateOf W9 hLx hkx a1 (ra1) hU) hLx hkx (by decide) rfl v_12_247 rfl ⟨rfl, rfl⟩ ⟨Nat.le_of_ble_eq_true rfl, Nat.le_of_ble_eq_true rfl⟩ (Nat.le_of_ble_eq_true rfl) ⟨Nat.le_of_ble_eq_true rfl, Nat.le_of_ble_eq_true rfl⟩ dX12_why_97 rfl (st := []) (fun x_33 I_34 J_35 h_36 => ?_)
      obtain ⟨rfl, rfl, rx_33⟩ := h_36
      refine g_if_ne C (tgt := 107) dX12_why_100 (by decide) (fun h_37 => ?_) (fun h_37 => ?_)
      · skip
        have n_38 : ¬ x_33 = 0 := h_37
        have r_39 := ne_lo (lo := 1) n_38 rx_33 rc_0 rfl (by decide)
        refine g_iconst C (v := 0) dX12_why_107 (by decide) ?_
        exact g_zret (ty := .int) (r := 0) B K rfl (rfl) ⟨rfl, rfl, rg_w rc_0 (by decide) (by decide), (fun _ a ha => ⟨(fun q => absurd q (rg_nek r_32 rc_0 (by decide))), (fun q => absurd q (rg_nek r_32 rc_1 (by decide)))⟩)⟩ dX12_why_108
      · skip
        have r_40 := (⟨(rx_33).1, (eq_rg (h_37) rc_0).2⟩ : Rg 0 0 x_33)
        refine g_iconst C (v := 2) dX12_why_103 (by decide) ?_
        refine g_goto C (tgt := 108) dX12_why_104 (by decide) ?_
        exact g_zret (ty := .int) (r := 2) B K rfl (rfl) ⟨rfl, rfl, rg_w rc_2 (by decide) (by decide), (fun q => absurd q (by decide))⟩ dX12_why_108
    by_cases c_41 : a0.toInt = 3
    · skip
      have r_42 := rg_of (a := 3) (b := 3) 3 c_41 (by decide) (by decide)
      refine g_tableIn C (tgt := 109) dX12_why_11 (by omega) (by omega) (off := 98) (by rw [c_41]; rfl) (by decide) ?_
      refine g_aload_n C 0 dX12_why_109 rfl rfl ?_
      refine g_getR C K hLx hkx f_12_13 hb_1 dX12_why_110 ?_
      refine g_bipush C (v := 74) dX12_why_113 (by decide) ?_
      obtain ⟨x_43, hx_43, rx_43⟩ := ex_any (z0 := I b_1 (74))
      refine h_iald C K hb_1L hb_1k (v := x_43) (74) (by decide) (by decide) (by rw [hb_1n]; decide) hx_43 dX12_why_115 ?_
      refine g_iload_n C 2 dX12_why_116 rfl rfl ?_
      refine g_callSI C K (c_X12_has W9 x_43 a1  hU) s_12_231 rfl ⟨rfl, rfl⟩ ⟨Nat.le_of_ble_eq_true rfl, Nat.le_of_ble_eq_true rfl⟩ (Nat.le_of_ble_eq_true rfl) ⟨Nat.le_of_ble_eq_true rfl, Nat.le_of_ble_eq_true rfl⟩ dX12_why_117 rfl (st := []) (fun x_44 I_45 J_46 h_47 => ?_)
      obtain ⟨rfl, rfl, rx_44, ex_44⟩ := h_47
      refine g_if_eq C (tgt := 127) dX12_why_120 (by decide) (fun h_48 => ?_) (fun h_48 => ?_)
      · skip
        have r_49 := (⟨(rx_44).1, (eq_rg (h_48) rc_0).2⟩ : Rg 0 0 x_44)
        refine g_iconst C (v := 0) dX12_why_127 (by decide) ?_
        exact g_zret (ty := .int) (r := 0) B K rfl (rfl) ⟨rfl, rfl, rg_w rc_0 (by decide) (by decide), (fun _ a ha => ⟨(fun q => absurd q (rg_nek r_42 rc_0 (by decide))), (fun q => absurd q (rg_nek r_42 rc_1 (by decide)))⟩)⟩ dX12_why_128
      · skip
        have n_50 : ¬ x_44 = 0 := h_48
        have r_51 := ne_lo (lo := 1) n_50 rx_44 rc_0 rfl (by decide)
        refine g_iconst C (v := 2) dX12_why_123 (by decide) ?_
        refine g_goto C (tgt := 128) dX12_why_124 (by decide) ?_
        exact g_zret (ty := .int) (r := 2) B K rfl (rfl) ⟨rfl, rfl, rg_w rc_2 (by decide) (by decide), (fun q => absurd q (by decide))⟩ dX12_why_128
    by_cases c_52 : a0.toInt = 4
    · skip
      have r_53 := rg_of (a := 4) (b := 4) 4 c_52 (by decide) (by decide)
      refine g_tableIn C (tgt := 129) dX12_why_11 (by omega) (by omega) (off := 118) (by rw [c_52]; rfl) (by decide) ?_
      refine g_aload_n C 0 dX12_why_129 rfl rfl ?_
      refine g_getR C K hLx hkx f_12_13 hb_1 dX12_why_130 ?_
      refine g_bipush C (v := 74) dX12_why_133 (by decide) ?_
      obtain ⟨x_54, hx_54, rx_54⟩ := ex_any (z0 := I b_1 (74))
      refine h_iald C K hb_1L hb_1k (v := x_54) (74) (by decide) (by decide) (by rw [hb_1n]; decide) hx_54 dX12_why_135 ?_
      refine g_iload_n C 2 dX12_why_136 rfl rfl ?_
      refine g_callSI C K (c_X12_has W9 x_54 a1  hU) s_12_231 rfl ⟨rfl, rfl⟩ ⟨Nat.le_of_ble_eq_true rfl, Nat.le_of_ble_eq_true rfl⟩ (Nat.le_of_ble_eq_true rfl) ⟨Nat.le_of_ble_eq_true rfl, Nat.le_of_ble_eq_true rfl⟩ dX12_why_137 rfl (st := []) (fun x_55 I_56 J_57 h_58 => ?_)
      obtain ⟨rfl, rfl, rx_55, ex_55⟩ := h_58
      refine g_if_eq C (tgt := 147) dX12_why_140 (by decide) (fun h_59 => ?_) (fun h_59 => ?_)
      · skip
        have r_60 := (⟨(rx_55).1, (eq_rg (h_59) rc_0).2⟩ : Rg 0 0 x_55)
        refine g_iconst C (v := 2) dX12_why_147 (by decide) ?_
        exact g_zret (ty := .int) (r := 2) B K rfl (rfl) ⟨rfl, rfl, rg_w rc_2 (by decide) (by decide), (fun q => absurd q (by decide))⟩ dX12_why_148
      · skip
        have n_61 : ¬ x_55 = 0 := h_59
        have r_62 := ne_lo (lo := 1) n_61 rx_55 rc_0 rfl (by decide)
        refine g_iconst C (v := 0) dX12_why_143 (by decide) ?_
        refine g_goto C (tgt := 148) dX12_why_144 (by decide) ?_
        exact g_zret (ty := .int) (r := 0) B K rfl (rfl) ⟨rfl, rfl, rg_w rc_0 (by decide) (by decide), (fun _ a ha => ⟨(fun q => absurd q (rg_nek r_53 rc_0 (by decide))), (fun q => absurd q (rg_nek r_53 rc_1 (by decide)))⟩)⟩ dX12_why_148
    have n_64 : ¬ a0 = 0 := (fun q => c_8 (by rw [q]; decide))
    have r_65 := ne_lo (lo := 1) n_64 ra0 rc_0 rfl (by decide)
    have n_66 : ¬ a0 = 1 := (fun q => c_24 (by rw [q]; decide))
    have r_67 := ne_lo (lo := 2) n_66 r_65 rc_1 rfl (by decide)
    have n_68 : ¬ a0 = 2 := (fun q => c_31 (by rw [q]; decide))
    have r_69 := ne_lo (lo := 3) n_68 r_67 rc_2 rfl (by decide)
    have n_70 : ¬ a0 = 3 := (fun q => c_41 (by rw [q]; decide))
    have r_71 := ne_lo (lo := 4) n_70 r_69 rc_3 rfl (by decide)
    have n_72 : ¬ a0 = 4 := (fun q => c_52 (by rw [q]; decide))
    have r_73 := ne_lo (lo := 5) n_72 r_71 rc_4 rfl (by decide)
    obtain ⟨q_631, q_632⟩ := id (r_73)
    refine g_tableOut C (tgt := 149) dX12_why_11 (by omega) (by decide) ?_
    refine g_iconst C (v := 0) dX12_why_149 (by decide) ?_
    exact g_zret (ty := .int) (r := 0) B K rfl (rfl) ⟨rfl, rfl, rg_w rc_0 (by decide) (by decide), (fun _ a ha => ⟨(fun q => absurd q (rg_nek r_73 rc_0 (by decide))), (fun q => absurd q (rg_nek r_73 rc_1 (by decide)))⟩)⟩ dX12_why_150
  · skip
    have n_74 : ¬ x_2 = 0 := h_6
    have r_75 := ne_lo (lo := 1) n_74 rx_2 rc_0 rfl (by decide)
    refine g_iconst C (v := 1) dX12_why_8 (by decide) ?_
    exact g_zret (ty := .int) (r := 1) B K rfl (rfl) ⟨rfl, rfl, rg_w rc_1 (by decide) (by decide), (fun q => absurd q (by decide))⟩ dX12_why_9
set_option maxRecDepth 100000 in
set_option maxHeartbeats 8000000 in
theorem c_X12_act {l : Launch} {D : va_G} {cy : Nat → ClassId} {L : List Nat} {κ ln : Nat → Nat} {R : Nat → Nat → Option Nat} {I : Nat → Nat → Int32} {J : Nat → Nat → Int64} {ow : Nat → Nat × Nat} (W9 : ∀ a ∈ L, Shp L κ ln R ow a) {x : Nat} (hLx : x ∈ L) (hkx : κ x = 12) (a0 : Int32) (a1 : Int32) (a2 : Int32) (a3 : Int32) (ra0 : Rg 0 5 a0) (ra1 : Rg 0 6 a1) (ra2 : Rg 0 5 a2) (ra3 : Rg 0 40 a3) (hU : Iw L κ R ow I) : CtI l yX12_act cX12_act 6 (some .int) { frames := 5, cells := 0, slots := 0, locals := 120 } D cy L κ ln R I J [.ref x, .int a0, .int a1, .int a2, .int a3] (fun r I2 J2 => Iw L κ R ow I2 ∧ Fq L κ ow [1223, 83400, 83700] I I2 ∧ Fq L κ ow [] J J2 ∧ Rg 0 3 r ∧ (Hd_ R x I I2)) := by
  refine CtI.of (by decide +kernel) (Nat.le_of_ble_eq_true rfl) ?_
  intro p e s m below meth c B K
  have C := B.1
  have hF : Fq L κ ow [1223, 83400, 83700] I I := fq_rf
  have hG : Fq L κ ow [] J J := fq_rf
  obtain ⟨b_1, hb_1, hb_1L, hb_1k, hb_1n, hb_1o⟩ := shp_a (W9 x hLx) hkx 14 14 389 rfl (by decide)
  refine g_lo (is := [0, 1, 2, 3, 4]) (lo2 := [(0, .ref x), (1, .int a0), (2, .int a1), (3, .int a2), (4, .int a3)]) rfl ?_
  refine g_aload_n C 0 dX12_act_0 rfl rfl ?_
  refine g_iload_n C 1 dX12_act_1 rfl rfl ?_
  refine g_iload_n C 2 dX12_act_2 rfl rfl ?_
  refine g_iload_n C 3 dX12_act_3 rfl rfl ?_
  refine g_iload C 4 dX12_act_4 rfl ?_
  refine g_callVI C K (c_X12_why W9 hLx hkx a0 a1 a2 a3 (ra0) (ra1) (ra2) (rg_w ra3 (by decide) (by decide)) hU) hLx hkx (by decide) rfl v_12_278 rfl ⟨rfl, rfl⟩ ⟨Nat.le_of_ble_eq_true rfl, Nat.le_of_ble_eq_true rfl⟩ (Nat.le_of_ble_eq_true rfl) ⟨Nat.le_of_ble_eq_true rfl, Nat.le_of_ble_eq_true rfl⟩ dX12_act_6 rfl (st := []) (fun x_2 I_3 J_4 h_5 => ?_)
  obtain ⟨rfl, rfl, rx_2, ex_2⟩ := h_5
  refine g_istore C dX12_act_9 (by decide) (lo2 := [(5, .int x_2), (0, .ref x), (1, .int a0), (2, .int a1), (3, .int a2), (4, .int a3)]) rfl ?_
  refine g_iload C 0 dX12_act_11 rfl ?_
  refine g_if_eq C (tgt := 19) dX12_act_13 (by decide) (fun h_6 => ?_) (fun h_6 => ?_)
  · skip
    have r_7 := (⟨(rx_2).1, (eq_rg (h_6) rc_0).2⟩ : Rg 0 0 x_2)
    refine g_aload_n C 1 dX12_act_19 rfl rfl ?_
    refine g_callVV C K (c_X12_snap W9 hLx hkx   hU) hLx hkx (by decide) rfl v_12_282 rfl ⟨rfl, rfl⟩ ⟨Nat.le_of_ble_eq_true rfl, Nat.le_of_ble_eq_true rfl⟩ (Nat.le_of_ble_eq_true rfl) ⟨Nat.le_of_ble_eq_true rfl, Nat.le_of_ble_eq_true rfl⟩ dX12_act_20 rfl (st := []) (fun I_9 J_10 h_11 => ?_)
    obtain ⟨hUI_9, hFI_9, hGJ_10, ex_8⟩ := h_11
    have hF_12 := fq_tr hF hFI_9 (by decide)
    have hG_13 := fq_tr hG hGJ_10 (by decide)
    refine g_aload_n C 1 dX12_act_23 rfl rfl ?_
    refine g_iload_n C 2 dX12_act_24 rfl rfl ?_
    refine g_iload_n C 3 dX12_act_25 rfl rfl ?_
    refine g_iload_n C 4 dX12_act_26 rfl rfl ?_
    refine g_iload C 5 dX12_act_27 rfl ?_
    refine g_callVV C K (c_X12_live W9 hLx hkx a0 a1 a2 a3 (ra0) (ra1) (ra2) (rg_w ra3 (by decide) (by decide)) hUI_9  (fun a ha => by rw [hb_1] at ha; cases ha; rw [show I_9 b_1 = _ from funext fun j => fq_ar hFI_9 hb_1L (ro_a hb_1k (by decide) hb_1o hkx rfl) (by decide) (by decide) rfl]; exact (ex_2 (rg_1k r_7 rc_0)) _ hb_1)) hLx hkx (by decide) rfl v_12_285 rfl ⟨rfl, rfl⟩ ⟨Nat.le_of_ble_eq_true rfl, Nat.le_of_ble_eq_true rfl⟩ (Nat.le_of_ble_eq_true rfl) ⟨Nat.le_of_ble_eq_true rfl, Nat.le_of_ble_eq_true rfl⟩ dX12_act_29 rfl (st := []) (fun I_15 J_16 h_17 => ?_)
    obtain ⟨hUI_15, hFI_15, hGJ_16, ex_14⟩ := h_17
    have hF_18 := fq_tr hF_12 hFI_15 (by decide)
    have hG_19 := fq_tr hG_13 hGJ_16 (by decide)
    refine g_iconst C (v := 0) dX12_act_32 (by decide) ?_
    exact g_zret (ty := .int) (r := 0) B K rfl (rfl) ⟨hUI_15, hF_18, hG_19, rg_w rc_0 (by decide) (by decide), (hd_t (hd_t hd_rf ex_8) ex_14)⟩ dX12_act_33
  · skip
    have n_20 : ¬ x_2 = 0 := h_6
    have r_21 := ne_lo (lo := 1) n_20 rx_2 rc_0 rfl (by decide)
    refine g_iload C 0 dX12_act_16 rfl ?_
    exact g_zret (ty := .int) (r := x_2) B K rfl (rfl) ⟨hU, hF, hG, rg_w r_21 (by decide) (by decide), hd_rf⟩ dX12_act_18
