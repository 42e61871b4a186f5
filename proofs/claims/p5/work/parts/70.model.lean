theorem dX12_byteAt_0 : decode cX12_byteAt 0 = .ok (.aload_n 0, 1) := by decide +kernel
theorem dX12_byteAt_1 : decode cX12_byteAt 1 = .ok (.iconst 0, 1) := by decide +kernel
theorem dX12_byteAt_2 : decode cX12_byteAt 2 = .ok (.putfield 82, 3) := by decide +kernel
theorem dX12_byteAt_5 : decode cX12_byteAt 5 = .ok (.iload_n 1, 1) := by decide +kernel
theorem dX12_byteAt_6 : decode cX12_byteAt 6 = .ok (.iconst 0, 1) := by decide +kernel
theorem dX12_byteAt_7 : decode cX12_byteAt 7 = .ok (.aload_n 0, 1) := by decide +kernel
theorem dX12_byteAt_8 : decode cX12_byteAt 8 = .ok (.getfield 335, 3) := by decide +kernel
theorem dX12_byteAt_11 : decode cX12_byteAt 11 = .ok (.iconst 1, 1) := by decide +kernel
theorem dX12_byteAt_12 : decode cX12_byteAt 12 = .ok (.isub, 1) := by decide +kernel
theorem dX12_byteAt_13 : decode cX12_byteAt 13 = .ok (.invokestatic 149, 3) := by decide +kernel
theorem dX12_byteAt_16 : decode cX12_byteAt 16 = .ok (.ifCond .eq 12, 3) := by decide +kernel
theorem dX12_byteAt_19 : decode cX12_byteAt 19 = .ok (.aload_n 0, 1) := by decide +kernel
theorem dX12_byteAt_20 : decode cX12_byteAt 20 = .ok (.getfield 70, 3) := by decide +kernel
theorem dX12_byteAt_23 : decode cX12_byteAt 23 = .ok (.iload_n 1, 1) := by decide +kernel
theorem dX12_byteAt_24 : decode cX12_byteAt 24 = .ok (.iaload, 1) := by decide +kernel
theorem dX12_byteAt_25 : decode cX12_byteAt 25 = .ok (.goto 4, 3) := by decide +kernel
theorem dX12_byteAt_28 : decode cX12_byteAt 28 = .ok (.iconst (-1), 1) := by decide +kernel
theorem dX12_byteAt_29 : decode cX12_byteAt 29 = .ok (.ireturn, 1) := by decide +kernel
theorem dX12_draw_0 : decode cX12_draw 0 = .ok (.aload_n 0, 1) := by decide +kernel
theorem dX12_draw_1 : decode cX12_draw 1 = .ok (.aload_n 0, 1) := by decide +kernel
theorem dX12_draw_2 : decode cX12_draw 2 = .ok (.getfield 351, 3) := by decide +kernel
theorem dX12_draw_5 : decode cX12_draw 5 = .ok (.ldc_w 354, 3) := by decide +kernel
theorem dX12_draw_8 : decode cX12_draw 8 = .ok (.imul, 1) := by decide +kernel
theorem dX12_draw_9 : decode cX12_draw 9 = .ok (.sipush 12345, 3) := by decide +kernel
theorem dX12_draw_12 : decode cX12_draw 12 = .ok (.iadd, 1) := by decide +kernel
theorem dX12_draw_13 : decode cX12_draw 13 = .ok (.putfield 351, 3) := by decide +kernel
theorem dX12_draw_16 : decode cX12_draw 16 = .ok (.aload_n 0, 1) := by decide +kernel
theorem dX12_draw_17 : decode cX12_draw 17 = .ok (.getfield 351, 3) := by decide +kernel
theorem dX12_draw_20 : decode cX12_draw 20 = .ok (.bipush 8, 2) := by decide +kernel
theorem dX12_draw_22 : decode cX12_draw 22 = .ok (.iushr, 1) := by decide +kernel
theorem dX12_draw_23 : decode cX12_draw 23 = .ok (.iload_n 1, 1) := by decide +kernel
theorem dX12_draw_24 : decode cX12_draw 24 = .ok (.irem, 1) := by decide +kernel
theorem dX12_draw_25 : decode cX12_draw 25 = .ok (.ireturn, 1) := by decide +kernel
theorem dX12_drawMeals_0 : decode cX12_drawMeals 0 = .ok (.aload_n 0, 1) := by decide +kernel
theorem dX12_drawMeals_1 : decode cX12_drawMeals 1 = .ok (.iload_n 2, 1) := by decide +kernel
theorem dX12_drawMeals_2 : decode cX12_drawMeals 2 = .ok (.putfield 351, 3) := by decide +kernel
theorem dX12_drawMeals_5 : decode cX12_drawMeals 5 = .ok (.iload_n 1, 1) := by decide +kernel
theorem dX12_drawMeals_6 : decode cX12_drawMeals 6 = .ok (.sipush 200, 3) := by decide +kernel
theorem dX12_drawMeals_9 : decode cX12_drawMeals 9 = .ok (.aload_n 0, 1) := by decide +kernel
theorem dX12_drawMeals_10 : decode cX12_drawMeals 10 = .ok (.getfield 13, 3) := by decide +kernel
theorem dX12_drawMeals_13 : decode cX12_drawMeals 13 = .ok (.bipush 72, 2) := by decide +kernel
theorem dX12_drawMeals_15 : decode cX12_drawMeals 15 = .ok (.iaload, 1) := by decide +kernel
theorem dX12_drawMeals_16 : decode cX12_drawMeals 16 = .ok (.isub, 1) := by decide +kernel
theorem dX12_drawMeals_17 : decode cX12_drawMeals 17 = .ok (.invokestatic 265, 3) := by decide +kernel
theorem dX12_drawMeals_20 : decode cX12_drawMeals 20 = .ok (.istore_n 3, 1) := by decide +kernel
theorem dX12_drawMeals_21 : decode cX12_drawMeals 21 = .ok (.iconst 0, 1) := by decide +kernel
theorem dX12_drawMeals_22 : decode cX12_drawMeals 22 = .ok (.istore 4, 2) := by decide +kernel
theorem dX12_drawMeals_24 : decode cX12_drawMeals 24 = .ok (.iload 4, 2) := by decide +kernel
theorem dX12_drawMeals_26 : decode cX12_drawMeals 26 = .ok (.iload_n 3, 1) := by decide +kernel
theorem dX12_drawMeals_27 : decode cX12_drawMeals 27 = .ok (.if_icmp .ge 108, 3) := by decide +kernel
theorem dX12_drawMeals_30 : decode cX12_drawMeals 30 = .ok (.iconst 0, 1) := by decide +kernel
theorem dX12_drawMeals_31 : decode cX12_drawMeals 31 = .ok (.istore 5, 2) := by decide +kernel
theorem dX12_drawMeals_33 : decode cX12_drawMeals 33 = .ok (.iload 5, 2) := by decide +kernel
theorem dX12_drawMeals_35 : decode cX12_drawMeals 35 = .ok (.aload_n 0, 1) := by decide +kernel
theorem dX12_drawMeals_36 : decode cX12_drawMeals 36 = .ok (.getfield 13, 3) := by decide +kernel
theorem dX12_drawMeals_39 : decode cX12_drawMeals 39 = .ok (.iconst 0, 1) := by decide +kernel
theorem dX12_drawMeals_40 : decode cX12_drawMeals 40 = .ok (.iaload, 1) := by decide +kernel
theorem dX12_drawMeals_41 : decode cX12_drawMeals 41 = .ok (.if_icmp .ge 84, 3) := by decide +kernel
theorem dX12_drawMeals_44 : decode cX12_drawMeals 44 = .ok (.aload_n 0, 1) := by decide +kernel
theorem dX12_drawMeals_45 : decode cX12_drawMeals 45 = .ok (.iload 5, 2) := by decide +kernel
theorem dX12_drawMeals_47 : decode cX12_drawMeals 47 = .ok (.invokevirtual 244, 3) := by decide +kernel
theorem dX12_drawMeals_50 : decode cX12_drawMeals 50 = .ok (.ifCond .eq 6, 3) := by decide +kernel
theorem dX12_drawMeals_53 : decode cX12_drawMeals 53 = .ok (.goto 66, 3) := by decide +kernel
theorem dX12_drawMeals_56 : decode cX12_drawMeals 56 = .ok (.aload_n 0, 1) := by decide +kernel
theorem dX12_drawMeals_57 : decode cX12_drawMeals 57 = .ok (.bipush 6, 2) := by decide +kernel
theorem dX12_drawMeals_59 : decode cX12_drawMeals 59 = .ok (.invokevirtual 355, 3) := by decide +kernel
theorem dX12_drawMeals_62 : decode cX12_drawMeals 62 = .ok (.istore 6, 2) := by decide +kernel
theorem dX12_drawMeals_64 : decode cX12_drawMeals 64 = .ok (.iload 6, 2) := by decide +kernel
theorem dX12_drawMeals_66 : decode cX12_drawMeals 66 = .ok (.ifCond .ne 21, 3) := by decide +kernel
theorem dX12_drawMeals_69 : decode cX12_drawMeals 69 = .ok (.aload_n 0, 1) := by decide +kernel
theorem dX12_drawMeals_70 : decode cX12_drawMeals 70 = .ok (.iload 5, 2) := by decide +kernel
theorem dX12_drawMeals_72 : decode cX12_drawMeals 72 = .ok (.invokevirtual 247, 3) := by decide +kernel
theorem dX12_drawMeals_75 : decode cX12_drawMeals 75 = .ok (.ifCond .le 44, 3) := by decide +kernel
theorem dX12_drawMeals_78 : decode cX12_drawMeals 78 = .ok (.aload_n 0, 1) := by decide +kernel
theorem dX12_drawMeals_79 : decode cX12_drawMeals 79 = .ok (.iload 5, 2) := by decide +kernel
theorem dX12_drawMeals_81 : decode cX12_drawMeals 81 = .ok (.invokevirtual 275, 3) := by decide +kernel
theorem dX12_drawMeals_84 : decode cX12_drawMeals 84 = .ok (.goto 35, 3) := by decide +kernel
theorem dX12_drawMeals_87 : decode cX12_drawMeals 87 = .ok (.iload 6, 2) := by decide +kernel
theorem dX12_drawMeals_89 : decode cX12_drawMeals 89 = .ok (.iconst 1, 1) := by decide +kernel
theorem dX12_drawMeals_90 : decode cX12_drawMeals 90 = .ok (.if_icmp .le 12, 3) := by decide +kernel
theorem dX12_drawMeals_93 : decode cX12_drawMeals 93 = .ok (.aload_n 0, 1) := by decide +kernel
theorem dX12_drawMeals_94 : decode cX12_drawMeals 94 = .ok (.iload 5, 2) := by decide +kernel
theorem dX12_drawMeals_96 : decode cX12_drawMeals 96 = .ok (.invokevirtual 301, 3) := by decide +kernel
theorem dX12_drawMeals_99 : decode cX12_drawMeals 99 = .ok (.goto 20, 3) := by decide +kernel
theorem dX12_drawMeals_102 : decode cX12_drawMeals 102 = .ok (.aload_n 0, 1) := by decide +kernel
theorem dX12_drawMeals_103 : decode cX12_drawMeals 103 = .ok (.iconst 4, 1) := by decide +kernel
theorem dX12_drawMeals_104 : decode cX12_drawMeals 104 = .ok (.invokevirtual 355, 3) := by decide +kernel
theorem dX12_drawMeals_107 : decode cX12_drawMeals 107 = .ok (.ifCond .ne 12, 3) := by decide +kernel
theorem dX12_drawMeals_110 : decode cX12_drawMeals 110 = .ok (.aload_n 0, 1) := by decide +kernel
theorem dX12_drawMeals_111 : decode cX12_drawMeals 111 = .ok (.iconst 5, 1) := by decide +kernel
theorem dX12_drawMeals_112 : decode cX12_drawMeals 112 = .ok (.iload 5, 2) := by decide +kernel
theorem dX12_drawMeals_114 : decode cX12_drawMeals 114 = .ok (.iconst 0, 1) := by decide +kernel
theorem dX12_drawMeals_115 : decode cX12_drawMeals 115 = .ok (.iconst 0, 1) := by decide +kernel
theorem dX12_drawMeals_116 : decode cX12_drawMeals 116 = .ok (.invokevirtual 285, 3) := by decide +kernel
theorem dX12_drawMeals_119 : decode cX12_drawMeals 119 = .ok (.iinc 5 1, 3) := by decide +kernel
theorem dX12_drawMeals_122 : decode cX12_drawMeals 122 = .ok (.goto (-89), 3) := by decide +kernel
theorem dX12_drawMeals_125 : decode cX12_drawMeals 125 = .ok (.aload_n 0, 1) := by decide +kernel
theorem dX12_drawMeals_126 : decode cX12_drawMeals 126 = .ok (.invokevirtual 292, 3) := by decide +kernel
theorem dX12_drawMeals_129 : decode cX12_drawMeals 129 = .ok (.iinc 4 1, 3) := by decide +kernel
theorem dX12_drawMeals_132 : decode cX12_drawMeals 132 = .ok (.goto (-108), 3) := by decide +kernel
theorem dX12_drawMeals_135 : decode cX12_drawMeals 135 = .ok (.iload_n 3, 1) := by decide +kernel
theorem dX12_drawMeals_136 : decode cX12_drawMeals 136 = .ok (.ireturn, 1) := by decide +kernel
theorem dX12_drawn_0 : decode cX12_drawn 0 = .ok (.aload_n 0, 1) := by decide +kernel
theorem dX12_drawn_1 : decode cX12_drawn 1 = .ok (.iconst 0, 1) := by decide +kernel
theorem dX12_drawn_2 : decode cX12_drawn 2 = .ok (.putfield 82, 3) := by decide +kernel
theorem dX12_drawn_5 : decode cX12_drawn 5 = .ok (.iload_n 1, 1) := by decide +kernel
theorem dX12_drawn_6 : decode cX12_drawn 6 = .ok (.iconst 1, 1) := by decide +kernel
theorem dX12_drawn_7 : decode cX12_drawn 7 = .ok (.bipush 60, 2) := by decide +kernel
theorem dX12_drawn_9 : decode cX12_drawn 9 = .ok (.invokestatic 149, 3) := by decide +kernel
theorem dX12_drawn_12 : decode cX12_drawn 12 = .ok (.ifCond .eq 12, 3) := by decide +kernel
theorem dX12_drawn_15 : decode cX12_drawn 15 = .ok (.aload_n 0, 1) := by decide +kernel
theorem dX12_drawn_16 : decode cX12_drawn 16 = .ok (.getfield 13, 3) := by decide +kernel
theorem dX12_drawn_19 : decode cX12_drawn 19 = .ok (.iconst 0, 1) := by decide +kernel
theorem dX12_drawn_20 : decode cX12_drawn 20 = .ok (.iaload, 1) := by decide +kernel
theorem dX12_drawn_21 : decode cX12_drawn 21 = .ok (.ifCond .ne 5, 3) := by decide +kernel
theorem dX12_drawn_24 : decode cX12_drawn 24 = .ok (.iconst (-1), 1) := by decide +kernel
theorem dX12_drawn_25 : decode cX12_drawn 25 = .ok (.ireturn, 1) := by decide +kernel
theorem dX12_drawn_26 : decode cX12_drawn 26 = .ok (.aload_n 0, 1) := by decide +kernel
theorem dX12_drawn_27 : decode cX12_drawn 27 = .ok (.getfield 13, 3) := by decide +kernel
theorem dX12_drawn_30 : decode cX12_drawn 30 = .ok (.bipush 72, 2) := by decide +kernel
theorem dX12_drawn_32 : decode cX12_drawn 32 = .ok (.iaload, 1) := by decide +kernel
theorem dX12_drawn_33 : decode cX12_drawn 33 = .ok (.sipush 200, 3) := by decide +kernel
theorem dX12_drawn_36 : decode cX12_drawn 36 = .ok (.if_icmp .ne 5, 3) := by decide +kernel
theorem dX12_drawn_39 : decode cX12_drawn 39 = .ok (.iconst 0, 1) := by decide +kernel
theorem dX12_drawn_40 : decode cX12_drawn 40 = .ok (.ireturn, 1) := by decide +kernel
theorem dX12_drawn_41 : decode cX12_drawn 41 = .ok (.aload_n 0, 1) := by decide +kernel
theorem dX12_drawn_42 : decode cX12_drawn 42 = .ok (.invokevirtual 282, 3) := by decide +kernel
theorem dX12_drawn_45 : decode cX12_drawn 45 = .ok (.aload_n 0, 1) := by decide +kernel
theorem dX12_drawn_46 : decode cX12_drawn 46 = .ok (.iload_n 1, 1) := by decide +kernel
theorem dX12_drawn_47 : decode cX12_drawn 47 = .ok (.iload_n 2, 1) := by decide +kernel
theorem dX12_drawn_48 : decode cX12_drawn 48 = .ok (.invokevirtual 358, 3) := by decide +kernel
theorem dX12_drawn_51 : decode cX12_drawn 51 = .ok (.ireturn, 1) := by decide +kernel
theorem dX12_odds_0 : decode cX12_odds 0 = .ok (.aload_n 0, 1) := by decide +kernel
theorem dX12_odds_1 : decode cX12_odds 1 = .ok (.iconst 0, 1) := by decide +kernel
theorem dX12_odds_2 : decode cX12_odds 2 = .ok (.putfield 82, 3) := by decide +kernel
theorem dX12_odds_5 : decode cX12_odds 5 = .ok (.aload_n 0, 1) := by decide +kernel
theorem dX12_odds_6 : decode cX12_odds 6 = .ok (.iload_n 1, 1) := by decide +kernel
theorem dX12_odds_7 : decode cX12_odds 7 = .ok (.invokevirtual 238, 3) := by decide +kernel
theorem dX12_odds_10 : decode cX12_odds 10 = .ok (.ifCond .eq 13, 3) := by decide +kernel
theorem dX12_odds_13 : decode cX12_odds 13 = .ok (.iload_n 2, 1) := by decide +kernel
theorem dX12_odds_14 : decode cX12_odds 14 = .ok (.iconst 1, 1) := by decide +kernel
theorem dX12_odds_15 : decode cX12_odds 15 = .ok (.bipush 30, 2) := by decide +kernel
theorem dX12_odds_17 : decode cX12_odds 17 = .ok (.invokestatic 149, 3) := by decide +kernel
theorem dX12_odds_20 : decode cX12_odds 20 = .ok (.ifCond .ne 5, 3) := by decide +kernel
theorem dX12_odds_23 : decode cX12_odds 23 = .ok (.iconst (-1), 1) := by decide +kernel
theorem dX12_odds_24 : decode cX12_odds 24 = .ok (.ireturn, 1) := by decide +kernel
theorem dX12_odds_25 : decode cX12_odds 25 = .ok (.aload_n 0, 1) := by decide +kernel
theorem dX12_odds_26 : decode cX12_odds 26 = .ok (.invokevirtual 329, 3) := by decide +kernel
theorem dX12_odds_29 : decode cX12_odds 29 = .ok (.iconst 0, 1) := by decide +kernel
theorem dX12_odds_30 : decode cX12_odds 30 = .ok (.istore 4, 2) := by decide +kernel
theorem dX12_odds_32 : decode cX12_odds 32 = .ok (.iconst 0, 1) := by decide +kernel
theorem dX12_odds_33 : decode cX12_odds 33 = .ok (.istore 5, 2) := by decide +kernel
theorem dX12_odds_35 : decode cX12_odds 35 = .ok (.iload 5, 2) := by decide +kernel
theorem dX12_odds_37 : decode cX12_odds 37 = .ok (.iload_n 2, 1) := by decide +kernel
theorem dX12_odds_38 : decode cX12_odds 38 = .ok (.if_icmp .ge 35, 3) := by decide +kernel
theorem dX12_odds_41 : decode cX12_odds 41 = .ok (.aload_n 0, 1) := by decide +kernel
theorem dX12_odds_42 : decode cX12_odds 42 = .ok (.bipush 10, 2) := by decide +kernel
theorem dX12_odds_44 : decode cX12_odds 44 = .ok (.iload_n 3, 1) := by decide +kernel
theorem dX12_odds_45 : decode cX12_odds 45 = .ok (.iload 5, 2) := by decide +kernel
theorem dX12_odds_47 : decode cX12_odds 47 = .ok (.iadd, 1) := by decide +kernel
theorem dX12_odds_48 : decode cX12_odds 48 = .ok (.invokevirtual 358, 3) := by decide +kernel
theorem dX12_odds_51 : decode cX12_odds 51 = .ok (.pop, 1) := by decide +kernel
theorem dX12_odds_52 : decode cX12_odds 52 = .ok (.aload_n 0, 1) := by decide +kernel
theorem dX12_odds_53 : decode cX12_odds 53 = .ok (.iload_n 1, 1) := by decide +kernel
theorem dX12_odds_54 : decode cX12_odds 54 = .ok (.invokevirtual 244, 3) := by decide +kernel
theorem dX12_odds_57 : decode cX12_odds 57 = .ok (.ifCond .ne 6, 3) := by decide +kernel
theorem dX12_odds_60 : decode cX12_odds 60 = .ok (.iinc 4 1, 3) := by decide +kernel
theorem dX12_odds_63 : decode cX12_odds 63 = .ok (.aload_n 0, 1) := by decide +kernel
theorem dX12_odds_64 : decode cX12_odds 64 = .ok (.invokevirtual 332, 3) := by decide +kernel
theorem dX12_odds_67 : decode cX12_odds 67 = .ok (.iinc 5 1, 3) := by decide +kernel
theorem dX12_odds_70 : decode cX12_odds 70 = .ok (.goto (-35), 3) := by decide +kernel
theorem dX12_odds_73 : decode cX12_odds 73 = .ok (.iload 4, 2) := by decide +kernel
theorem dX12_odds_75 : decode cX12_odds 75 = .ok (.ireturn, 1) := by decide +kernel
theorem dX12_will_0 : decode cX12_will 0 = .ok (.aload_n 0, 1) := by decide +kernel
theorem dX12_will_1 : decode cX12_will 1 = .ok (.iconst 0, 1) := by decide +kernel
theorem dX12_will_2 : decode cX12_will 2 = .ok (.putfield 82, 3) := by decide +kernel
theorem dX12_will_5 : decode cX12_will 5 = .ok (.aload_n 0, 1) := by decide +kernel
theorem dX12_will_6 : decode cX12_will 6 = .ok (.iload_n 1, 1) := by decide +kernel
theorem dX12_will_7 : decode cX12_will 7 = .ok (.invokevirtual 238, 3) := by decide +kernel
theorem dX12_will_10 : decode cX12_will 10 = .ok (.ifCond .ne 5, 3) := by decide +kernel
theorem dX12_will_13 : decode cX12_will 13 = .ok (.iconst (-1), 1) := by decide +kernel
theorem dX12_will_14 : decode cX12_will 14 = .ok (.ireturn, 1) := by decide +kernel
theorem dX12_will_15 : decode cX12_will 15 = .ok (.aload_n 0, 1) := by decide +kernel
theorem dX12_will_16 : decode cX12_will 16 = .ok (.iconst 0, 1) := by decide +kernel
theorem dX12_will_17 : decode cX12_will 17 = .ok (.putfield 335, 3) := by decide +kernel
theorem dX12_will_20 : decode cX12_will 20 = .ok (.aload_n 0, 1) := by decide +kernel
theorem dX12_will_21 : decode cX12_will 21 = .ok (.aload_n 0, 1) := by decide +kernel
theorem dX12_will_22 : decode cX12_will 22 = .ok (.getfield 28, 3) := by decide +kernel
theorem dX12_will_25 : decode cX12_will 25 = .ok (.iload_n 1, 1) := by decide +kernel
theorem dX12_will_26 : decode cX12_will 26 = .ok (.laload, 1) := by decide +kernel
theorem dX12_will_27 : decode cX12_will 27 = .ok (.invokevirtual 338, 3) := by decide +kernel
theorem dX12_will_30 : decode cX12_will 30 = .ok (.aload_n 0, 1) := by decide +kernel
theorem dX12_will_31 : decode cX12_will 31 = .ok (.bipush 108, 2) := by decide +kernel
theorem dX12_will_33 : decode cX12_will 33 = .ok (.bipush 101, 2) := by decide +kernel
theorem dX12_will_35 : decode cX12_will 35 = .ok (.bipush 97, 2) := by decide +kernel
theorem dX12_will_37 : decode cX12_will 37 = .ok (.bipush 118, 2) := by decide +kernel
theorem dX12_will_39 : decode cX12_will 39 = .ok (.bipush 101, 2) := by decide +kernel
theorem dX12_will_41 : decode cX12_will 41 = .ok (.bipush 115, 2) := by decide +kernel
theorem dX12_will_43 : decode cX12_will 43 = .ok (.iconst 0, 1) := by decide +kernel
theorem dX12_will_44 : decode cX12_will 44 = .ok (.invokestatic 132, 3) := by decide +kernel
theorem dX12_will_47 : decode cX12_will 47 = .ok (.invokevirtual 348, 3) := by decide +kernel
theorem dX12_will_50 : decode cX12_will 50 = .ok (.aload_n 0, 1) := by decide +kernel
theorem dX12_will_51 : decode cX12_will 51 = .ok (.iload_n 1, 1) := by decide +kernel
theorem dX12_will_52 : decode cX12_will 52 = .ok (.invokevirtual 247, 3) := by decide +kernel
theorem dX12_will_55 : decode cX12_will 55 = .ok (.ifCond .ne 29, 3) := by decide +kernel
theorem dX12_will_58 : decode cX12_will 58 = .ok (.aload_n 0, 1) := by decide +kernel
theorem dX12_will_59 : decode cX12_will 59 = .ok (.bipush 110, 2) := by decide +kernel
theorem dX12_will_61 : decode cX12_will 61 = .ok (.bipush 111, 2) := by decide +kernel
theorem dX12_will_63 : decode cX12_will 63 = .ok (.bipush 116, 2) := by decide +kernel
theorem dX12_will_65 : decode cX12_will 65 = .ok (.bipush 104, 2) := by decide +kernel
theorem dX12_will_67 : decode cX12_will 67 = .ok (.bipush 105, 2) := by decide +kernel
theorem dX12_will_69 : decode cX12_will 69 = .ok (.bipush 110, 2) := by decide +kernel
theorem dX12_will_71 : decode cX12_will 71 = .ok (.bipush 103, 2) := by decide +kernel
theorem dX12_will_73 : decode cX12_will 73 = .ok (.invokestatic 132, 3) := by decide +kernel
theorem dX12_will_76 : decode cX12_will 76 = .ok (.invokevirtual 348, 3) := by decide +kernel
theorem dX12_will_79 : decode cX12_will 79 = .ok (.aload_n 0, 1) := by decide +kernel
theorem dX12_will_80 : decode cX12_will 80 = .ok (.getfield 335, 3) := by decide +kernel
theorem dX12_will_83 : decode cX12_will 83 = .ok (.ireturn, 1) := by decide +kernel
theorem dX12_will_84 : decode cX12_will 84 = .ok (.aload_n 0, 1) := by decide +kernel
theorem dX12_will_85 : decode cX12_will 85 = .ok (.bipush 32, 2) := by decide +kernel
theorem dX12_will_87 : decode cX12_will 87 = .ok (.invokevirtual 342, 3) := by decide +kernel
theorem dX12_will_90 : decode cX12_will 90 = .ok (.aload_n 0, 1) := by decide +kernel
theorem dX12_will_91 : decode cX12_will 91 = .ok (.aload_n 0, 1) := by decide +kernel
theorem dX12_will_92 : decode cX12_will 92 = .ok (.iload_n 1, 1) := by decide +kernel
theorem dX12_will_93 : decode cX12_will 93 = .ok (.invokevirtual 247, 3) := by decide +kernel
theorem dX12_will_96 : decode cX12_will 96 = .ok (.invokevirtual 345, 3) := by decide +kernel
theorem dX12_will_99 : decode cX12_will 99 = .ok (.aload_n 0, 1) := by decide +kernel
theorem dX12_will_100 : decode cX12_will 100 = .ok (.bipush 116, 2) := by decide +kernel
theorem dX12_will_102 : decode cX12_will 102 = .ok (.bipush 111, 2) := by decide +kernel
theorem dX12_will_104 : decode cX12_will 104 = .ok (.iconst 0, 1) := by decide +kernel
theorem dX12_will_105 : decode cX12_will 105 = .ok (.iconst 0, 1) := by decide +kernel
theorem dX12_will_106 : decode cX12_will 106 = .ok (.iconst 0, 1) := by decide +kernel
theorem dX12_will_107 : decode cX12_will 107 = .ok (.iconst 0, 1) := by decide +kernel
theorem dX12_will_108 : decode cX12_will 108 = .ok (.iconst 0, 1) := by decide +kernel
theorem dX12_will_109 : decode cX12_will 109 = .ok (.invokestatic 132, 3) := by decide +kernel
theorem dX12_will_112 : decode cX12_will 112 = .ok (.invokevirtual 348, 3) := by decide +kernel
theorem dX12_will_115 : decode cX12_will 115 = .ok (.aload_n 0, 1) := by decide +kernel
theorem dX12_will_116 : decode cX12_will 116 = .ok (.iload_n 1, 1) := by decide +kernel
theorem dX12_will_117 : decode cX12_will 117 = .ok (.aload_n 0, 1) := by decide +kernel
theorem dX12_will_118 : decode cX12_will 118 = .ok (.invokevirtual 259, 3) := by decide +kernel
theorem dX12_will_121 : decode cX12_will 121 = .ok (.invokevirtual 262, 3) := by decide +kernel
theorem dX12_will_124 : decode cX12_will 124 = .ok (.istore_n 2, 1) := by decide +kernel
theorem dX12_will_125 : decode cX12_will 125 = .ok (.aload_n 0, 1) := by decide +kernel
theorem dX12_will_126 : decode cX12_will 126 = .ok (.iload_n 2, 1) := by decide +kernel
theorem dX12_will_127 : decode cX12_will 127 = .ok (.iconst (-1), 1) := by decide +kernel
theorem dX12_will_128 : decode cX12_will 128 = .ok (.if_icmp .ne 22, 3) := by decide +kernel
theorem dX12_will_131 : decode cX12_will 131 = .ok (.bipush 110, 2) := by decide +kernel
theorem dX12_will_133 : decode cX12_will 133 = .ok (.bipush 111, 2) := by decide +kernel
theorem dX12_will_135 : decode cX12_will 135 = .ok (.bipush 98, 2) := by decide +kernel
theorem dX12_will_137 : decode cX12_will 137 = .ok (.bipush 111, 2) := by decide +kernel
theorem dX12_will_139 : decode cX12_will 139 = .ok (.bipush 100, 2) := by decide +kernel
theorem dX12_will_141 : decode cX12_will 141 = .ok (.bipush 121, 2) := by decide +kernel
theorem dX12_will_143 : decode cX12_will 143 = .ok (.iconst 0, 1) := by decide +kernel
theorem dX12_will_144 : decode cX12_will 144 = .ok (.invokestatic 132, 3) := by decide +kernel
theorem dX12_will_147 : decode cX12_will 147 = .ok (.goto 9, 3) := by decide +kernel
theorem dX12_will_150 : decode cX12_will 150 = .ok (.aload_n 0, 1) := by decide +kernel
theorem dX12_will_151 : decode cX12_will 151 = .ok (.getfield 28, 3) := by decide +kernel
theorem dX12_will_154 : decode cX12_will 154 = .ok (.iload_n 2, 1) := by decide +kernel
theorem dX12_will_155 : decode cX12_will 155 = .ok (.laload, 1) := by decide +kernel
theorem dX12_will_156 : decode cX12_will 156 = .ok (.invokevirtual 348, 3) := by decide +kernel
theorem dX12_will_159 : decode cX12_will 159 = .ok (.aload_n 0, 1) := by decide +kernel
theorem dX12_will_160 : decode cX12_will 160 = .ok (.getfield 335, 3) := by decide +kernel
theorem dX12_will_163 : decode cX12_will 163 = .ok (.ireturn, 1) := by decide +kernel
theorem dX12_writeNext_0 : decode cX12_writeNext 0 = .ok (.aload_n 0, 1) := by decide +kernel
theorem dX12_writeNext_1 : decode cX12_writeNext 1 = .ok (.bipush 32, 2) := by decide +kernel
theorem dX12_writeNext_3 : decode cX12_writeNext 3 = .ok (.invokevirtual 342, 3) := by decide +kernel
theorem dX12_writeNext_6 : decode cX12_writeNext 6 = .ok (.aload_n 0, 1) := by decide +kernel
theorem dX12_writeNext_7 : decode cX12_writeNext 7 = .ok (.lload_n 1, 1) := by decide +kernel
theorem dX12_writeNext_8 : decode cX12_writeNext 8 = .ok (.invokevirtual 338, 3) := by decide +kernel
theorem dX12_writeNext_11 : decode cX12_writeNext 11 = .ok (.return_, 1) := by decide +kernel
theorem dX12_writeNumber_0 : decode cX12_writeNumber 0 = .ok (.iload_n 1, 1) := by decide +kernel
theorem dX12_writeNumber_1 : decode cX12_writeNumber 1 = .ok (.bipush 9, 2) := by decide +kernel
theorem dX12_writeNumber_3 : decode cX12_writeNumber 3 = .ok (.if_icmp .le 11, 3) := by decide +kernel
theorem dX12_writeNumber_6 : decode cX12_writeNumber 6 = .ok (.aload_n 0, 1) := by decide +kernel
theorem dX12_writeNumber_7 : decode cX12_writeNumber 7 = .ok (.iload_n 1, 1) := by decide +kernel
theorem dX12_writeNumber_8 : decode cX12_writeNumber 8 = .ok (.bipush 10, 2) := by decide +kernel
theorem dX12_writeNumber_10 : decode cX12_writeNumber 10 = .ok (.idiv, 1) := by decide +kernel
theorem dX12_writeNumber_11 : decode cX12_writeNumber 11 = .ok (.invokevirtual 345, 3) := by decide +kernel
theorem dX12_writeNumber_14 : decode cX12_writeNumber 14 = .ok (.aload_n 0, 1) := by decide +kernel
theorem dX12_writeNumber_15 : decode cX12_writeNumber 15 = .ok (.bipush 48, 2) := by decide +kernel
theorem dX12_writeNumber_17 : decode cX12_writeNumber 17 = .ok (.iload_n 1, 1) := by decide +kernel
theorem dX12_writeNumber_18 : decode cX12_writeNumber 18 = .ok (.bipush 10, 2) := by decide +kernel
theorem dX12_writeNumber_20 : decode cX12_writeNumber 20 = .ok (.irem, 1) := by decide +kernel
theorem dX12_writeNumber_21 : decode cX12_writeNumber 21 = .ok (.iadd, 1) := by decide +kernel
theorem dX12_writeNumber_22 : decode cX12_writeNumber 22 = .ok (.invokevirtual 342, 3) := by decide +kernel
theorem dX12_writeNumber_25 : decode cX12_writeNumber 25 = .ok (.return_, 1) := by decide +kernel
theorem rc_121 : Rg 121 121 121 := ⟨by decide, by decide⟩
set_option maxRecDepth 100000 in
set_option maxHeartbeats 8000000 in
theorem c_X12_writeWord_12 {l : Launch} {D : va_G} {cy : Nat → ClassId} {L : List Nat} {κ ln : Nat → Nat} {R : Nat → Nat → Option Nat} {I : Nat → Nat → Int32} {J : Nat → Nat → Int64} {ow : Nat → Nat × Nat} (W9 : ∀ a ∈ L, Shp L κ ln R ow a) {x : Nat} (hLx : x ∈ L) (hkx : κ x = 12) (a0 : Int64) (hU : Iw L κ R ow I) (hp0 : Rg 0 52 (I x 40)) (hw : a0.toInt < (150094635296999121 : Int)) : CtV l yX12_writeWord cX12_writeWord 3 none { frames := 12, cells := 0, slots := 0, locals := 263 } D cy L κ ln R I J [.ref x, .long a0] (fun I2 J2 => Iw L κ R ow I2 ∧ Fq L κ ow [1240, 85900] I I2 ∧ Fq L κ ow [] J J2 ∧ ((I x 40).toInt + 1 ≤ (I2 x 40).toInt ∧ (I2 x 40).toInt ≤ (I x 40).toInt + 12)) := by
  refine CtV.of (by decide +kernel) (Nat.le_of_ble_eq_true rfl) ?_
  intro p e s m below meth c B K
  have C := B.1
  have hF : Fq L κ ow [1240, 85900] I I := fq_rf
  have hG : Fq L κ ow [] J J := fq_rf
  obtain ⟨xp0, hxp0, rxp0⟩ : ∃ z, I x 40 = z ∧ Rg 0 52 z := ⟨_, rfl, hp0⟩
  refine g_lo (is := [0, 1]) (lo2 := [(0, .ref x), (1, .long a0)]) rfl ?_
  refine g_lload_n C 1 dX12_writeWord_0 rfl rfl ?_
  refine g_ldc2 C kl_128 dX12_writeWord_1 ?_
  refine g_lcmpO C dX12_writeWord_4 (fun x_1 rx_1 qx_1 => ?_)
  refine g_if_lt C (tgt := 17) dX12_writeWord_5 (by decide) (fun h_2 => ?_) (fun h_2 => ?_)
  · skip
    have r_3 := lt_l (hi := (-1)) (h_2) rx_1 rc_0 (by decide)
    refine g_aload_n C 0 dX12_writeWord_17 rfl rfl ?_
    refine g_bipush C (v := 96) dX12_writeWord_18 (by decide) ?_
    refine g_lload_n C 1 dX12_writeWord_20 rfl rfl ?_
    refine g_ldc2 C kl_128 dX12_writeWord_21 ?_
    refine g_lrem C dX12_writeWord_24 (by decide) (fun y_4 => ?_)
    obtain ⟨x_5, hx_5, rx_5⟩ := ex_any (z0 := Int64.toInt32 y_4)
    refine g_l2i C (v := x_5) dX12_writeWord_25 hx_5 ?_
    obtain ⟨x_6, hx_6, rx_6⟩ := ex_any (z0 := 96 + x_5)
    refine g_iadd C (v := x_6) dX12_writeWord_26 hx_6 ?_
    refine g_callVV C K (c_X12_write W9 hLx hkx x_6  hU  (eq_rg hxp0 (rg_w rxp0 (by decide) (by decide)))) hLx hkx (by decide) rfl v_12_342 rfl ⟨rfl, rfl⟩ ⟨Nat.le_of_ble_eq_true rfl, Nat.le_of_ble_eq_true rfl⟩ (Nat.le_of_ble_eq_true rfl) ⟨Nat.le_of_ble_eq_true rfl, Nat.le_of_ble_eq_true rfl⟩ dX12_writeWord_27 rfl (st := []) (fun I_8 J_9 h_10 => ?_)
    obtain ⟨hUI_8, hFI_8, hGJ_9, ex_7⟩ := h_10
    have hF_11 := fq_tr hF hFI_8 (by decide)
    have hG_12 := fq_tr hG hGJ_9 (by decide)
    obtain ⟨x_13, hx_13, rx_13, tx_13, ux_13⟩ := tx_b (lo := 1) (hi := 53) ex_7 hxp0 rxp0 (by decide) (by decide)
    exact g_vret B K rfl ⟨hUI_8, hF_11, hG_12, (tx_m hxp0 hx_13 ⟨by omega, by omega⟩)⟩ dX12_writeWord_30
  · skip
    have r_14 := le_r (nlt h_2) rc_0 rx_1
    refine g_aload_n C 0 dX12_writeWord_8 rfl rfl ?_
    refine g_lload_n C 1 dX12_writeWord_9 rfl rfl ?_
    refine g_ldc2 C kl_128 dX12_writeWord_10 ?_
    obtain ⟨y_15, hy_15⟩ : ∃ z, a0 / 27 = z := ⟨_, rfl⟩
    refine g_ldivE C (v := y_15) dX12_writeWord_13 (by decide) hy_15 ?_
    refine g_callVV C K (c_X12_writeWord_11 W9 hLx hkx y_15  hU  (eq_rg hxp0 (rg_w rxp0 (by decide) (by decide))) (ld_27 (k := 150094635296999121) (qx_1 (nlt h_2)) hy_15 hw (by decide))) hLx hkx (by decide) rfl v_12_338 rfl ⟨rfl, rfl⟩ ⟨Nat.le_of_ble_eq_true rfl, Nat.le_of_ble_eq_true rfl⟩ (Nat.le_of_ble_eq_true rfl) ⟨Nat.le_of_ble_eq_true rfl, Nat.le_of_ble_eq_true rfl⟩ dX12_writeWord_14 rfl (st := []) (fun I_17 J_18 h_19 => ?_)
    obtain ⟨hUI_17, hFI_17, hGJ_18, ex_16⟩ := h_19
    have hF_20 := fq_tr hF hFI_17 (by decide)
    have hG_21 := fq_tr hG hGJ_18 (by decide)
    obtain ⟨x_22, hx_22, rx_22, tx_22, ux_22⟩ := tx_b (lo := 1) (hi := 63) ex_16 hxp0 rxp0 (by decide) (by decide)
    refine g_aload_n C 0 dX12_writeWord_17 rfl rfl ?_
    refine g_bipush C (v := 96) dX12_writeWord_18 (by decide) ?_
    refine g_lload_n C 1 dX12_writeWord_20 rfl rfl ?_
    refine g_ldc2 C kl_128 dX12_writeWord_21 ?_
    refine g_lrem C dX12_writeWord_24 (by decide) (fun y_23 => ?_)
    obtain ⟨x_24, hx_24, rx_24⟩ := ex_any (z0 := Int64.toInt32 y_23)
    refine g_l2i C (v := x_24) dX12_writeWord_25 hx_24 ?_
    obtain ⟨x_25, hx_25, rx_25⟩ := ex_any (z0 := 96 + x_24)
    refine g_iadd C (v := x_25) dX12_writeWord_26 hx_25 ?_
    refine g_callVV C K (c_X12_write W9 hLx hkx x_25  hUI_17  (eq_rg hx_22 (rg_w rx_22 (by decide) (by decide)))) hLx hkx (by decide) rfl v_12_342 rfl ⟨rfl, rfl⟩ ⟨Nat.le_of_ble_eq_true rfl, Nat.le_of_ble_eq_true rfl⟩ (Nat.le_of_ble_eq_true rfl) ⟨Nat.le_of_ble_eq_true rfl, Nat.le_of_ble_eq_true rfl⟩ dX12_writeWord_27 rfl (st := []) (fun I_27 J_28 h_29 => ?_)
    obtain ⟨hUI_27, hFI_27, hGJ_28, ex_26⟩ := h_29
    have hF_30 := fq_tr hF_20 hFI_27 (by decide)
    have hG_31 := fq_tr hG_21 hGJ_28 (by decide)
    obtain ⟨x_32, hx_32, rx_32, tx_32, ux_32⟩ := tx_b (lo := 2) (hi := 64) ex_26 hx_22 rx_22 (by decide) (by decide)
    exact g_vret B K rfl ⟨hUI_27, hF_30, hG_31, (tx_m hxp0 hx_32 ⟨by omega, by omega⟩)⟩ dX12_writeWord_30
set_option maxRecDepth 100000 in
set_option maxHeartbeats 8000000 in
theorem c_X12_writeWord_13 {l : Launch} {D : va_G} {cy : Nat → ClassId} {L : List Nat} {κ ln : Nat → Nat} {R : Nat → Nat → Option Nat} {I : Nat → Nat → Int32} {J : Nat → Nat → Int64} {ow : Nat → Nat × Nat} (W9 : ∀ a ∈ L, Shp L κ ln R ow a) {x : Nat} (hLx : x ∈ L) (hkx : κ x = 12) (a0 : Int64) (hU : Iw L κ R ow I) (hp0 : Rg 0 51 (I x 40)) (hw : a0.toInt < (4052555153018976267 : Int)) : CtV l yX12_writeWord cX12_writeWord 3 none { frames := 13, cells := 0, slots := 0, locals := 285 } D cy L κ ln R I J [.ref x, .long a0] (fun I2 J2 => Iw L κ R ow I2 ∧ Fq L κ ow [1240, 85900] I I2 ∧ Fq L κ ow [] J J2 ∧ ((I x 40).toInt + 1 ≤ (I2 x 40).toInt ∧ (I2 x 40).toInt ≤ (I x 40).toInt + 13)) := by
  refine CtV.of (by decide +kernel) (Nat.le_of_ble_eq_true rfl) ?_
  intro p e s m below meth c B K
  have C := B.1
  have hF : Fq L κ ow [1240, 85900] I I := fq_rf
  have hG : Fq L κ ow [] J J := fq_rf
  obtain ⟨xp0, hxp0, rxp0⟩ : ∃ z, I x 40 = z ∧ Rg 0 51 z := ⟨_, rfl, hp0⟩
  refine g_lo (is := [0, 1]) (lo2 := [(0, .ref x), (1, .long a0)]) rfl ?_
  refine g_lload_n C 1 dX12_writeWord_0 rfl rfl ?_
  refine g_ldc2 C kl_128 dX12_writeWord_1 ?_
  refine g_lcmpO C dX12_writeWord_4 (fun x_1 rx_1 qx_1 => ?_)
  refine g_if_lt C (tgt := 17) dX12_writeWord_5 (by decide) (fun h_2 => ?_) (fun h_2 => ?_)
  · skip
    have r_3 := lt_l (hi := (-1)) (h_2) rx_1 rc_0 (by decide)
    refine g_aload_n C 0 dX12_writeWord_17 rfl rfl ?_
    refine g_bipush C (v := 96) dX12_writeWord_18 (by decide) ?_
    refine g_lload_n C 1 dX12_writeWord_20 rfl rfl ?_
    refine g_ldc2 C kl_128 dX12_writeWord_21 ?_
    refine g_lrem C dX12_writeWord_24 (by decide) (fun y_4 => ?_)
    obtain ⟨x_5, hx_5, rx_5⟩ := ex_any (z0 := Int64.toInt32 y_4)
    refine g_l2i C (v := x_5) dX12_writeWord_25 hx_5 ?_
    obtain ⟨x_6, hx_6, rx_6⟩ := ex_any (z0 := 96 + x_5)
    refine g_iadd C (v := x_6) dX12_writeWord_26 hx_6 ?_
    refine g_callVV C K (c_X12_write W9 hLx hkx x_6  hU  (eq_rg hxp0 (rg_w rxp0 (by decide) (by decide)))) hLx hkx (by decide) rfl v_12_342 rfl ⟨rfl, rfl⟩ ⟨Nat.le_of_ble_eq_true rfl, Nat.le_of_ble_eq_true rfl⟩ (Nat.le_of_ble_eq_true rfl) ⟨Nat.le_of_ble_eq_true rfl, Nat.le_of_ble_eq_true rfl⟩ dX12_writeWord_27 rfl (st := []) (fun I_8 J_9 h_10 => ?_)
    obtain ⟨hUI_8, hFI_8, hGJ_9, ex_7⟩ := h_10
    have hF_11 := fq_tr hF hFI_8 (by decide)
    have hG_12 := fq_tr hG hGJ_9 (by decide)
    obtain ⟨x_13, hx_13, rx_13, tx_13, ux_13⟩ := tx_b (lo := 1) (hi := 52) ex_7 hxp0 rxp0 (by decide) (by decide)
    exact g_vret B K rfl ⟨hUI_8, hF_11, hG_12, (tx_m hxp0 hx_13 ⟨by omega, by omega⟩)⟩ dX12_writeWord_30
  · skip
    have r_14 := le_r (nlt h_2) rc_0 rx_1
    refine g_aload_n C 0 dX12_writeWord_8 rfl rfl ?_
    refine g_lload_n C 1 dX12_writeWord_9 rfl rfl ?_
    refine g_ldc2 C kl_128 dX12_writeWord_10 ?_
    obtain ⟨y_15, hy_15⟩ : ∃ z, a0 / 27 = z := ⟨_, rfl⟩
    refine g_ldivE C (v := y_15) dX12_writeWord_13 (by decide) hy_15 ?_
    refine g_callVV C K (c_X12_writeWord_12 W9 hLx hkx y_15  hU  (eq_rg hxp0 (rg_w rxp0 (by decide) (by decide))) (ld_27 (k := 4052555153018976267) (qx_1 (nlt h_2)) hy_15 hw (by decide))) hLx hkx (by decide) rfl v_12_338 rfl ⟨rfl, rfl⟩ ⟨Nat.le_of_ble_eq_true rfl, Nat.le_of_ble_eq_true rfl⟩ (Nat.le_of_ble_eq_true rfl) ⟨Nat.le_of_ble_eq_true rfl, Nat.le_of_ble_eq_true rfl⟩ dX12_writeWord_14 rfl (st := []) (fun I_17 J_18 h_19 => ?_)
    obtain ⟨hUI_17, hFI_17, hGJ_18, ex_16⟩ := h_19
    have hF_20 := fq_tr hF hFI_17 (by decide)
    have hG_21 := fq_tr hG hGJ_18 (by decide)
    obtain ⟨x_22, hx_22, rx_22, tx_22, ux_22⟩ := tx_b (lo := 1) (hi := 63) ex_16 hxp0 rxp0 (by decide) (by decide)
    refine g_aload_n C 0 dX12_writeWord_17 rfl rfl ?_
    refine g_bipush C (v := 96) dX12_writeWord_18 (by decide) ?_
    refine g_lload_n C 1 dX12_writeWord_20 rfl rfl ?_
    refine g_ldc2 C kl_128 dX12_writeWord_21 ?_
    refine g_lrem C dX12_writeWord_24 (by decide) (fun y_23 => ?_)
    obtain ⟨x_24, hx_24, rx_24⟩ := ex_any (z0 := Int64.toInt32 y_23)
    refine g_l2i C (v := x_24) dX12_writeWord_25 hx_24 ?_
    obtain ⟨x_25, hx_25, rx_25⟩ := ex_any (z0 := 96 + x_24)
    refine g_iadd C (v := x_25) dX12_writeWord_26 hx_25 ?_
    refine g_callVV C K (c_X12_write W9 hLx hkx x_25  hUI_17  (eq_rg hx_22 (rg_w rx_22 (by decide) (by decide)))) hLx hkx (by decide) rfl v_12_342 rfl ⟨rfl, rfl⟩ ⟨Nat.le_of_ble_eq_true rfl, Nat.le_of_ble_eq_true rfl⟩ (Nat.le_of_ble_eq_true rfl) ⟨Nat.le_of_ble_eq_true rfl, Nat.le_of_ble_eq_true rfl⟩ dX12_writeWord_27 rfl (st := []) (fun I_27 J_28 h_29 => ?_)
    obtain ⟨hUI_27, hFI_27, hGJ_28, ex_26⟩ := h_29
    have hF_30 := fq_tr hF_20 hFI_27 (by decide)
    have hG_31 := fq_tr hG_21 hGJ_28 (by decide)
    obtain ⟨x_32, hx_32, rx_32, tx_32, ux_32⟩ := tx_b (lo := 2) (hi := 64) ex_26 hx_22 rx_22 (by decide) (by decide)
    exact g_vret B K rfl ⟨hUI_27, hF_30, hG_31, (tx_m hxp0 hx_32 ⟨by omega, by omega⟩)⟩ dX12_writeWord_30
set_option maxRecDepth 100000 in
set_option maxHeartbeats 8000000 in
theorem c_X12_writeWord_14 {l : Launch} {D : va_G} {cy : Nat → ClassId} {L : List Nat} {κ ln : Nat → Nat} {R : Nat → Nat → Option Nat} {I : Nat → Nat → Int32} {J : Nat → Nat → Int64} {ow : Nat → Nat × Nat} (W9 : ∀ a ∈ L, Shp L κ ln R ow a) {x : Nat} (hLx : x ∈ L) (hkx : κ x = 12) (a0 : Int64) (hU : Iw L κ R ow I) (hp0 : Rg 0 50 (I x 40)) (hw : a0.toInt < (109418989131512359209 : Int)) : CtV l yX12_writeWord cX12_writeWord 3 none { frames := 14, cells := 0, slots := 0, locals := 307 } D cy L κ ln R I J [.ref x, .long a0] (fun I2 J2 => Iw L κ R ow I2 ∧ Fq L κ ow [1240, 85900] I I2 ∧ Fq L κ ow [] J J2 ∧ ((I x 40).toInt + 1 ≤ (I2 x 40).toInt ∧ (I2 x 40).toInt ≤ (I x 40).toInt + 14)) := by
  refine CtV.of (by decide +kernel) (Nat.le_of_ble_eq_true rfl) ?_
  intro p e s m below meth c B K
  have C := B.1
  have hF : Fq L κ ow [1240, 85900] I I := fq_rf
  have hG : Fq L κ ow [] J J := fq_rf
  obtain ⟨xp0, hxp0, rxp0⟩ : ∃ z, I x 40 = z ∧ Rg 0 50 z := ⟨_, rfl, hp0⟩
  refine g_lo (is := [0, 1]) (lo2 := [(0, .ref x), (1, .long a0)]) rfl ?_
  refine g_lload_n C 1 dX12_writeWord_0 rfl rfl ?_
  refine g_ldc2 C kl_128 dX12_writeWord_1 ?_
  refine g_lcmpO C dX12_writeWord_4 (fun x_1 rx_1 qx_1 => ?_)
  refine g_if_lt C (tgt := 17) dX12_writeWord_5 (by decide) (fun h_2 => ?_) (fun h_2 => ?_)
  · skip
    have r_3 := lt_l (hi := (-1)) (h_2) rx_1 rc_0 (by decide)
    refine g_aload_n C 0 dX12_writeWord_17 rfl rfl ?_
    refine g_bipush C (v := 96) dX12_writeWord_18 (by decide) ?_
    refine g_lload_n C 1 dX12_writeWord_20 rfl rfl ?_
    refine g_ldc2 C kl_128 dX12_writeWord_21 ?_
    refine g_lrem C dX12_writeWord_24 (by decide) (fun y_4 => ?_)
    obtain ⟨x_5, hx_5, rx_5⟩ := ex_any (z0 := Int64.toInt32 y_4)
    refine g_l2i C (v := x_5) dX12_writeWord_25 hx_5 ?_
    obtain ⟨x_6, hx_6, rx_6⟩ := ex_any (z0 := 96 + x_5)
    refine g_iadd C (v := x_6) dX12_writeWord_26 hx_6 ?_
    refine g_callVV C K (c_X12_write W9 hLx hkx x_6  hU  (eq_rg hxp0 (rg_w rxp0 (by decide) (by decide)))) hLx hkx (by decide) rfl v_12_342 rfl ⟨rfl, rfl⟩ ⟨Nat.le_of_ble_eq_true rfl, Nat.le_of_ble_eq_true rfl⟩ (Nat.le_of_ble_eq_true rfl) ⟨Nat.le_of_ble_eq_true rfl, Nat.le_of_ble_eq_true rfl⟩ dX12_writeWord_27 rfl (st := []) (fun I_8 J_9 h_10 => ?_)
    obtain ⟨hUI_8, hFI_8, hGJ_9, ex_7⟩ := h_10
    have hF_11 := fq_tr hF hFI_8 (by decide)
    have hG_12 := fq_tr hG hGJ_9 (by decide)
    obtain ⟨x_13, hx_13, rx_13, tx_13, ux_13⟩ := tx_b (lo := 1) (hi := 51) ex_7 hxp0 rxp0 (by decide) (by decide)
    exact g_vret B K rfl ⟨hUI_8, hF_11, hG_12, (tx_m hxp0 hx_13 ⟨by omega, by omega⟩)⟩ dX12_writeWord_30
  · skip
    have r_14 := le_r (nlt h_2) rc_0 rx_1
    refine g_aload_n C 0 dX12_writeWord_8 rfl rfl ?_
    refine g_lload_n C 1 dX12_writeWord_9 rfl rfl ?_
    refine g_ldc2 C kl_128 dX12_writeWord_10 ?_
    obtain ⟨y_15, hy_15⟩ : ∃ z, a0 / 27 = z := ⟨_, rfl⟩
    refine g_ldivE C (v := y_15) dX12_writeWord_13 (by decide) hy_15 ?_
    refine g_callVV C K (c_X12_writeWord_13 W9 hLx hkx y_15  hU  (eq_rg hxp0 (rg_w rxp0 (by decide) (by decide))) (ld_27 (k := 109418989131512359209) (qx_1 (nlt h_2)) hy_15 hw (by decide))) hLx hkx (by decide) rfl v_12_338 rfl ⟨rfl, rfl⟩ ⟨Nat.le_of_ble_eq_true rfl, Nat.le_of_ble_eq_true rfl⟩ (Nat.le_of_ble_eq_true rfl) ⟨Nat.le_of_ble_eq_true rfl, Nat.le_of_ble_eq_true rfl⟩ dX12_writeWord_14 rfl (st := []) (fun I_17 J_18 h_19 => ?_)
    obtain ⟨hUI_17, hFI_17, hGJ_18, ex_16⟩ := h_19
    have hF_20 := fq_tr hF hFI_17 (by decide)
    have hG_21 := fq_tr hG hGJ_18 (by decide)
    obtain ⟨x_22, hx_22, rx_22, tx_22, ux_22⟩ := tx_b (lo := 1) (hi := 63) ex_16 hxp0 rxp0 (by decide) (by decide)
    refine g_aload_n C 0 dX12_writeWord_17 rfl rfl ?_
    refine g_bipush C (v := 96) dX12_writeWord_18 (by decide) ?_
    refine g_lload_n C 1 dX12_writeWord_20 rfl rfl ?_
    refine g_ldc2 C kl_128 dX12_writeWord_21 ?_
    refine g_lrem C dX12_writeWord_24 (by decide) (fun y_23 => ?_)
    obtain ⟨x_24, hx_24, rx_24⟩ := ex_any (z0 := Int64.toInt32 y_23)
    refine g_l2i C (v := x_24) dX12_writeWord_25 hx_24 ?_
    obtain ⟨x_25, hx_25, rx_25⟩ := ex_any (z0 := 96 + x_24)
    refine g_iadd C (v := x_25) dX12_writeWord_26 hx_25 ?_
    refine g_callVV C K (c_X12_write W9 hLx hkx x_25  hUI_17  (eq_rg hx_22 (rg_w rx_22 (by decide) (by decide)))) hLx hkx (by decide) rfl v_12_342 rfl ⟨rfl, rfl⟩ ⟨Nat.le_of_ble_eq_true rfl, Nat.le_of_ble_eq_true rfl⟩ (Nat.le_of_ble_eq_true rfl) ⟨Nat.le_of_ble_eq_true rfl, Nat.le_of_ble_eq_true rfl⟩ dX12_writeWord_27 rfl (st := []) (fun I_27 J_28 h_29 => ?_)
    obtain ⟨hUI_27, hFI_27, hGJ_28, ex_26⟩ := h_29
    have hF_30 := fq_tr hF_20 hFI_27 (by decide)
    have hG_31 := fq_tr hG_21 hGJ_28 (by decide)
    obtain ⟨x_32, hx_32, rx_32, tx_32, ux_32⟩ := tx_b (lo := 2) (hi := 64) ex_26 hx_22 rx_22 (by decide) (by decide)
    exact g_vret B K rfl ⟨hUI_27, hF_30, hG_31, (tx_m hxp0 hx_32 ⟨by omega, by omega⟩)⟩ dX12_writeWord_30
set_option maxRecDepth 100000 in
set_option maxHeartbeats 8000000 in
theorem c_X12_writeNext {l : Launch} {D : va_G} {cy : Nat → ClassId} {L : List Nat} {κ ln : Nat → Nat} {R : Nat → Nat → Option Nat} {I : Nat → Nat → Int32} {J : Nat → Nat → Int64} {ow : Nat → Nat × Nat} (W9 : ∀ a ∈ L, Shp L κ ln R ow a) {x : Nat} (hLx : x ∈ L) (hkx : κ x = 12) (a0 : Int64) (hU : Iw L κ R ow I) (hp0 : Rg 0 49 (I x 40)) : CtV l yX12_writeNext cX12_writeNext 3 none { frames := 15, cells := 0, slots := 0, locals := 329 } D cy L κ ln R I J [.ref x, .long a0] (fun I2 J2 => Iw L κ R ow I2 ∧ Fq L κ ow [1240, 85900] I I2 ∧ Fq L κ ow [] J J2 ∧ ((I x 40).toInt + 1 ≤ (I2 x 40).toInt ∧ (I2 x 40).toInt ≤ (I x 40).toInt + 15)) := by
  refine CtV.of (by decide +kernel) (Nat.le_of_ble_eq_true rfl) ?_
  intro p e s m below meth c B K
  have C := B.1
  have hF : Fq L κ ow [1240, 85900] I I := fq_rf
  have hG : Fq L κ ow [] J J := fq_rf
  obtain ⟨xp0, hxp0, rxp0⟩ : ∃ z, I x 40 = z ∧ Rg 0 49 z := ⟨_, rfl, hp0⟩
  refine g_lo (is := [0, 1]) (lo2 := [(0, .ref x), (1, .long a0)]) rfl ?_
  refine g_aload_n C 0 dX12_writeNext_0 rfl rfl ?_
  refine g_bipush C (v := 32) dX12_writeNext_1 (by decide) ?_
  refine g_callVV C K (c_X12_write W9 hLx hkx 32  hU  (eq_rg hxp0 (rg_w rxp0 (by decide) (by decide)))) hLx hkx (by decide) rfl v_12_342 rfl ⟨rfl, rfl⟩ ⟨Nat.le_of_ble_eq_true rfl, Nat.le_of_ble_eq_true rfl⟩ (Nat.le_of_ble_eq_true rfl) ⟨Nat.le_of_ble_eq_true rfl, Nat.le_of_ble_eq_true rfl⟩ dX12_writeNext_3 rfl (st := []) (fun I_2 J_3 h_4 => ?_)
  obtain ⟨hUI_2, hFI_2, hGJ_3, ex_1⟩ := h_4
  have hF_5 := fq_tr hF hFI_2 (by decide)
  have hG_6 := fq_tr hG hGJ_3 (by decide)
  obtain ⟨x_7, hx_7, rx_7, tx_7, ux_7⟩ := tx_b (lo := 1) (hi := 50) ex_1 hxp0 rxp0 (by decide) (by decide)
  refine g_aload_n C 0 dX12_writeNext_6 rfl rfl ?_
  refine g_lload_n C 1 dX12_writeNext_7 rfl rfl ?_
  refine g_callVV C K (c_X12_writeWord_14 W9 hLx hkx a0  hUI_2  (eq_rg hx_7 (rg_w rx_7 (by decide) (by decide))) (by have := Int64.toInt_lt a0; omega)) hLx hkx (by decide) rfl v_12_338 rfl ⟨rfl, rfl⟩ ⟨Nat.le_of_ble_eq_true rfl, Nat.le_of_ble_eq_true rfl⟩ (Nat.le_of_ble_eq_true rfl) ⟨Nat.le_of_ble_eq_true rfl, Nat.le_of_ble_eq_true rfl⟩ dX12_writeNext_8 rfl (st := []) (fun I_9 J_10 h_11 => ?_)
  obtain ⟨hUI_9, hFI_9, hGJ_10, ex_8⟩ := h_11
  have hF_12 := fq_tr hF_5 hFI_9 (by decide)
  have hG_13 := fq_tr hG_6 hGJ_10 (by decide)
  obtain ⟨x_14, hx_14, rx_14, tx_14, ux_14⟩ := tx_b (lo := 2) (hi := 64) ex_8 hx_7 rx_7 (by decide) (by decide)
  exact g_vret B K rfl ⟨hUI_9, hF_12, hG_13, (tx_m hxp0 hx_14 ⟨by omega, by omega⟩)⟩ dX12_writeNext_11
set_option maxRecDepth 100000 in
set_option maxHeartbeats 8000000 in
theorem c_X12_writeNumber_1 {l : Launch} {D : va_G} {cy : Nat → ClassId} {L : List Nat} {κ ln : Nat → Nat} {R : Nat → Nat → Option Nat} {I : Nat → Nat → Int32} {J : Nat → Nat → Int64} {ow : Nat → Nat × Nat} (W9 : ∀ a ∈ L, Shp L κ ln R ow a) {x : Nat} (hLx : x ∈ L) (hkx : κ x = 12) (a0 : Int32) (ra0 : Rg 0 9 a0) (hU : Iw L κ R ow I) (hp0 : Rg 0 63 (I x 40)) : CtV l yX12_writeNumber cX12_writeNumber 2 none { frames := 1, cells := 0, slots := 0, locals := 21 } D cy L κ ln R I J [.ref x, .int a0] (fun I2 J2 => Iw L κ R ow I2 ∧ Fq L κ ow [1240, 85900] I I2 ∧ Fq L κ ow [] J J2 ∧ ((I x 40).toInt + 1 ≤ (I2 x 40).toInt ∧ (I2 x 40).toInt ≤ (I x 40).toInt + 1)) := by
  refine CtV.of (by decide +kernel) (Nat.le_of_ble_eq_true rfl) ?_
  intro p e s m below meth c B K
  have C := B.1
  have hF : Fq L κ ow [1240, 85900] I I := fq_rf
  have hG : Fq L κ ow [] J J := fq_rf
  obtain ⟨xp0, hxp0, rxp0⟩ : ∃ z, I x 40 = z ∧ Rg 0 63 z := ⟨_, rfl, hp0⟩
  refine g_lo (is := [0, 1]) (lo2 := [(0, .ref x), (1, .int a0)]) rfl ?_
  refine g_iload_n C 1 dX12_writeNumber_0 rfl rfl ?_
  refine g_bipush C (v := 9) dX12_writeNumber_1 (by decide) ?_
  refine g_icmp_le C (tgt := 14) dX12_writeNumber_3 (by decide) (fun h_1 => ?_) (fun h_1 => ?_)
  · skip
    refine g_aload_n C 0 dX12_writeNumber_14 rfl rfl ?_
    refine g_bipush C (v := 48) dX12_writeNumber_15 (by decide) ?_
    refine g_iload_n C 1 dX12_writeNumber_17 rfl rfl ?_
    refine g_bipush C (v := 10) dX12_writeNumber_18 (by decide) ?_
    obtain ⟨x_2, hx_2, rx_2⟩ := ex_rem (b := 9) (d := 10) 9 (ra0) (rg_w rc_10 (by decide) (by decide)) (by decide)
    refine g_irem C (v := x_2) dX12_writeNumber_20 (rg_ne0 rc_10 (by decide)) hx_2 ?_
    obtain ⟨x_3, hx_3, rx_3, tx_3⟩ := ex_add 48 57 rc_48 rx_2 (by decide) (by decide) (by decide) (by decide)
    refine g_iadd C (v := x_3) dX12_writeNumber_21 hx_3 ?_
    refine g_callVV C K (c_X12_write W9 hLx hkx x_3  hU  (eq_rg hxp0 (rxp0))) hLx hkx (by decide) rfl v_12_342 rfl ⟨rfl, rfl⟩ ⟨Nat.le_of_ble_eq_true rfl, Nat.le_of_ble_eq_true rfl⟩ (Nat.le_of_ble_eq_true rfl) ⟨Nat.le_of_ble_eq_true rfl, Nat.le_of_ble_eq_true rfl⟩ dX12_writeNumber_22 rfl (st := []) (fun I_5 J_6 h_7 => ?_)
    obtain ⟨hUI_5, hFI_5, hGJ_6, ex_4⟩ := h_7
    have hF_8 := fq_tr hF hFI_5 (by decide)
    have hG_9 := fq_tr hG hGJ_6 (by decide)
    obtain ⟨x_10, hx_10, rx_10, tx_10, ux_10⟩ := tx_b (lo := 1) (hi := 64) ex_4 hxp0 rxp0 (by decide) (by decide)
    exact g_vret B K rfl ⟨hUI_5, hF_8, hG_9, (tx_m hxp0 hx_10 ⟨by omega, by omega⟩)⟩ dX12_writeNumber_25
  · skip
    have r_11 := lt_r (lo := 10) (nle h_1) rc_9 ra0 (by decide)
    exact rg_no r_11 (by decide)
set_option maxRecDepth 100000 in
set_option maxHeartbeats 8000000 in
theorem c_X12_writeNumber_2 {l : Launch} {D : va_G} {cy : Nat → ClassId} {L : List Nat} {κ ln : Nat → Nat} {R : Nat → Nat → Option Nat} {I : Nat → Nat → Int32} {J : Nat → Nat → Int64} {ow : Nat → Nat × Nat} (W9 : ∀ a ∈ L, Shp L κ ln R ow a) {x : Nat} (hLx : x ∈ L) (hkx : κ x = 12) (a0 : Int32) (ra0 : Rg 0 99 a0) (hU : Iw L κ R ow I) (hp0 : Rg 0 62 (I x 40)) : CtV l yX12_writeNumber cX12_writeNumber 2 none { frames := 2, cells := 0, slots := 0, locals := 42 } D cy L κ ln R I J [.ref x, .int a0] (fun I2 J2 => Iw L κ R ow I2 ∧ Fq L κ ow [1240, 85900] I I2 ∧ Fq L κ ow [] J J2 ∧ ((I x 40).toInt + 1 ≤ (I2 x 40).toInt ∧ (I2 x 40).toInt ≤ (I x 40).toInt + 2)) := by
  refine CtV.of (by decide +kernel) (Nat.le_of_ble_eq_true rfl) ?_
  intro p e s m below meth c B K
  have C := B.1
  have hF : Fq L κ ow [1240, 85900] I I := fq_rf
  have hG : Fq L κ ow [] J J := fq_rf
  obtain ⟨xp0, hxp0, rxp0⟩ : ∃ z, I x 40 = z ∧ Rg 0 62 z := ⟨_, rfl, hp0⟩
  refine g_lo (is := [0, 1]) (lo2 := [(0, .ref x), (1, .int a0)]) rfl ?_
  refine g_iload_n C 1 dX12_writeNumber_0 rfl rfl ?_
  refine g_bipush C (v := 9) dX12_writeNumber_1 (by decide) ?_
  refine g_icmp_le C (tgt := 14) dX12_writeNumber_3 (by decide) (fun h_1 => ?_) (fun h_1 => ?_)
  · skip
    have r_2 := le_l (h_1) ra0 rc_9
    refine g_aload_n C 0 dX12_writeNumber_14 rfl rfl ?_
    refine g_bipush C (v := 48) dX12_writeNumber_15 (by decide) ?_
    refine g_iload_n C 1 dX12_writeNumber_17 rfl rfl ?_
    refine g_bipush C (v := 10) dX12_writeNumber_18 (by decide) ?_
    obtain ⟨x_3, hx_3, rx_3⟩ := ex_rem (b := 9) (d := 10) 9 (r_2) (rg_w rc_10 (by decide) (by decide)) (by decide)
    refine g_irem C (v := x_3) dX12_writeNumber_20 (rg_ne0 rc_10 (by decide)) hx_3 ?_
    obtain ⟨x_4, hx_4, rx_4, tx_4⟩ := ex_add 48 57 rc_48 rx_3 (by decide) (by decide) (by decide) (by decide)
    refine g_iadd C (v := x_4) dX12_writeNumber_21 hx_4 ?_
    refine g_callVV C K (c_X12_write W9 hLx hkx x_4  hU  (eq_rg hxp0 (rg_w rxp0 (by decide) (by decide)))) hLx hkx (by decide) rfl v_12_342 rfl ⟨rfl, rfl⟩ ⟨Nat.le_of_ble_eq_true rfl, Nat.le_of_ble_eq_true rfl⟩ (Nat.le_of_ble_eq_true rfl) ⟨Nat.le_of_ble_eq_true rfl, Nat.le_of_ble_eq_true rfl⟩ dX12_writeNumber_22 rfl (st := []) (fun I_6 J_7 h_8 => ?_)
    obtain ⟨hUI_6, hFI_6, hGJ_7, ex_5⟩ := h_8
    have hF_9 := fq_tr hF hFI_6 (by decide)
    have hG_10 := fq_tr hG hGJ_7 (by decide)
    obtain ⟨x_11, hx_11, rx_11, tx_11, ux_11⟩ := tx_b (lo := 1) (hi := 63) ex_5 hxp0 rxp0 (by decide) (by decide)
    exact g_vret B K rfl ⟨hUI_6, hF_9, hG_10, (tx_m hxp0 hx_11 ⟨by omega, by omega⟩)⟩ dX12_writeNumber_25
  · skip
    have r_12 := lt_r (lo := 10) (nle h_1) rc_9 ra0 (by decide)
    refine g_aload_n C 0 dX12_writeNumber_6 rfl rfl ?_
    refine g_iload_n C 1 dX12_writeNumber_7 rfl rfl ?_
    refine g_bipush C (v := 10) dX12_writeNumber_8 (by decide) ?_
    obtain ⟨x_13, hx_13, rx_13⟩ := ex_divk (b := 99) (hi := 9) (rg_w r_12 (by decide) (by decide)) rc_10 (by decide) (by decide)
    refine g_idiv C (v := x_13) dX12_writeNumber_10 (rg_ne0 rc_10 (by decide)) hx_13 ?_
    refine g_callVV C K (c_X12_writeNumber_1 W9 hLx hkx x_13 (rx_13) hU  (eq_rg hxp0 (rg_w rxp0 (by decide) (by decide)))) hLx hkx (by decide) rfl v_12_345 rfl ⟨rfl, rfl⟩ ⟨Nat.le_of_ble_eq_true rfl, Nat.le_of_ble_eq_true rfl⟩ (Nat.le_of_ble_eq_true rfl) ⟨Nat.le_of_ble_eq_true rfl, Nat.le_of_ble_eq_true rfl⟩ dX12_writeNumber_11 rfl (st := []) (fun I_15 J_16 h_17 => ?_)
    obtain ⟨hUI_15, hFI_15, hGJ_16, ex_14⟩ := h_17
    have hF_18 := fq_tr hF hFI_15 (by decide)
    have hG_19 := fq_tr hG hGJ_16 (by decide)
    obtain ⟨x_20, hx_20, rx_20, tx_20, ux_20⟩ := tx_b (lo := 1) (hi := 63) ex_14 hxp0 rxp0 (by decide) (by decide)
    refine g_aload_n C 0 dX12_writeNumber_14 rfl rfl ?_
    refine g_bipush C (v := 48) dX12_writeNumber_15 (by decide) ?_
    refine g_iload_n C 1 dX12_writeNumber_17 rfl rfl ?_
    refine g_bipush C (v := 10) dX12_writeNumber_18 (by decide) ?_
    obtain ⟨x_21, hx_21, rx_21⟩ := ex_rem (b := 99) (d := 10) 9 (rg_w r_12 (by decide) (by decide)) (rg_w rc_10 (by decide) (by decide)) (by decide)
    refine g_irem C (v := x_21) dX12_writeNumber_20 (rg_ne0 rc_10 (by decide)) hx_21 ?_
    obtain ⟨x_22, hx_22, rx_22, tx_22⟩ := ex_add 48 57 rc_48 rx_21 (by decide) (by decide) (by decide) (by decide)
    refine g_iadd C (v := x_22) dX12_writeNumber_21 hx_22 ?_
    refine g_callVV C K (c_X12_write W9 hLx hkx x_22  hUI_15  (eq_rg hx_20 (rg_w rx_20 (by decide) (by decide)))) hLx hkx (by decide) rfl v_12_342 rfl ⟨rfl, rfl⟩ ⟨Nat.le_of_ble_eq_true rfl, Nat.le_of_ble_eq_true rfl⟩ (Nat.le_of_ble_eq_true rfl) ⟨Nat.le_of_ble_eq_true rfl, Nat.le_of_ble_eq_true rfl⟩ dX12_writeNumber_22 rfl (st := []) (fun I_24 J_25 h_26 => ?_)
    obtain ⟨hUI_24, hFI_24, hGJ_25, ex_23⟩ := h_26
    have hF_27 := fq_tr hF_18 hFI_24 (by decide)
    have hG_28 := fq_tr hG_19 hGJ_25 (by decide)
    obtain ⟨x_29, hx_29, rx_29, tx_29, ux_29⟩ := tx_b (lo := 2) (hi := 64) ex_23 hx_20 rx_20 (by decide) (by decide)
    exact g_vret B K rfl ⟨hUI_24, hF_27, hG_28, (tx_m hxp0 hx_29 ⟨by omega, by omega⟩)⟩ dX12_writeNumber_25
set_option maxRecDepth 100000 in
set_option maxHeartbeats 8000000 in
theorem c_X12_writeNumber_3 {l : Launch} {D : va_G} {cy : Nat → ClassId} {L : List Nat} {κ ln : Nat → Nat} {R : Nat → Nat → Option Nat} {I : Nat → Nat → Int32} {J : Nat → Nat → Int64} {ow : Nat → Nat × Nat} (W9 : ∀ a ∈ L, Shp L κ ln R ow a) {x : Nat} (hLx : x ∈ L) (hkx : κ x = 12) (a0 : Int32) (ra0 : Rg 0 999 a0) (hU : Iw L κ R ow I) (hp0 : Rg 0 61 (I x 40)) : CtV l yX12_writeNumber cX12_writeNumber 2 none { frames := 3, cells := 0, slots := 0, locals := 63 } D cy L κ ln R I J [.ref x, .int a0] (fun I2 J2 => Iw L κ R ow I2 ∧ Fq L κ ow [1240, 85900] I I2 ∧ Fq L κ ow [] J J2 ∧ ((I x 40).toInt + 1 ≤ (I2 x 40).toInt ∧ (I2 x 40).toInt ≤ (I x 40).toInt + 3)) := by
  refine CtV.of (by decide +kernel) (Nat.le_of_ble_eq_true rfl) ?_
  intro p e s m below meth c B K
  have C := B.1
  have hF : Fq L κ ow [1240, 85900] I I := fq_rf
  have hG : Fq L κ ow [] J J := fq_rf
  obtain ⟨xp0, hxp0, rxp0⟩ : ∃ z, I x 40 = z ∧ Rg 0 61 z := ⟨_, rfl, hp0⟩
  refine g_lo (is := [0, 1]) (lo2 := [(0, .ref x), (1, .int a0)]) rfl ?_
  refine g_iload_n C 1 dX12_writeNumber_0 rfl rfl ?_
  refine g_bipush C (v := 9) dX12_writeNumber_1 (by decide) ?_
  refine g_icmp_le C (tgt := 14) dX12_writeNumber_3 (by decide) (fun h_1 => ?_) (fun h_1 => ?_)
  · skip
    have r_2 := le_l (h_1) ra0 rc_9
    refine g_aload_n C 0 dX12_writeNumber_14 rfl rfl ?_
    refine g_bipush C (v := 48) dX12_writeNumber_15 (by decide) ?_
    refine g_iload_n C 1 dX12_writeNumber_17 rfl rfl ?_
    refine g_bipush C (v := 10) dX12_writeNumber_18 (by decide) ?_
    obtain ⟨x_3, hx_3, rx_3⟩ := ex_rem (b := 9) (d := 10) 9 (r_2) (rg_w rc_10 (by decide) (by decide)) (by decide)
    refine g_irem C (v := x_3) dX12_writeNumber_20 (rg_ne0 rc_10 (by decide)) hx_3 ?_
    obtain ⟨x_4, hx_4, rx_4, tx_4⟩ := ex_add 48 57 rc_48 rx_3 (by decide) (by decide) (by decide) (by decide)
    refine g_iadd C (v := x_4) dX12_writeNumber_21 hx_4 ?_
    refine g_callVV C K (c_X12_write W9 hLx hkx x_4  hU  (eq_rg hxp0 (rg_w rxp0 (by decide) (by decide)))) hLx hkx (by decide) rfl v_12_342 rfl ⟨rfl, rfl⟩ ⟨Nat.le_of_ble_eq_true rfl, Nat.le_of_ble_eq_true rfl⟩ (Nat.le_of_ble_eq_true rfl) ⟨Nat.le_of_ble_eq_true rfl, Nat.le_of_ble_eq_true rfl⟩ dX12_writeNumber_22 rfl (st := []) (fun I_6 J_7 h_8 => ?_)
    obtain ⟨hUI_6, hFI_6, hGJ_7, ex_5⟩ := h_8
    have hF_9 := fq_tr hF hFI_6 (by decide)
    have hG_10 := fq_tr hG hGJ_7 (by decide)
    obtain ⟨x_11, hx_11, rx_11, tx_11, ux_11⟩ := tx_b (lo := 1) (hi := 62) ex_5 hxp0 rxp0 (by decide) (by decide)
    exact g_vret B K rfl ⟨hUI_6, hF_9, hG_10, (tx_m hxp0 hx_11 ⟨by omega, by omega⟩)⟩ dX12_writeNumber_25
  · skip
    have r_12 := lt_r (lo := 10) (nle h_1) rc_9 ra0 (by decide)
    refine g_aload_n C 0 dX12_writeNumber_6 rfl rfl ?_
    refine g_iload_n C 1 dX12_writeNumber_7 rfl rfl ?_
    refine g_bipush C (v := 10) dX12_writeNumber_8 (by decide) ?_
    obtain ⟨x_13, hx_13, rx_13⟩ := ex_divk (b := 999) (hi := 99) (rg_w r_12 (by decide) (by decide)) rc_10 (by decide) (by decide)
    refine g_idiv C (v := x_13) dX12_writeNumber_10 (rg_ne0 rc_10 (by decide)) hx_13 ?_
    refine g_callVV C K (c_X12_writeNumber_2 W9 hLx hkx x_13 (rx_13) hU  (eq_rg hxp0 (rg_w rxp0 (by decide) (by decide)))) hLx hkx (by decide) rfl v_12_345 rfl ⟨rfl, rfl⟩ ⟨Nat.le_of_ble_eq_true rfl, Nat.le_of_ble_eq_true rfl⟩ (Nat.le_of_ble_eq_true rfl) ⟨Nat.le_of_ble_eq_true rfl, Nat.le_of_ble_eq_true rfl⟩ dX12_writeNumber_11 rfl (st := []) (fun I_15 J_16 h_17 => ?_)
    obtain ⟨hUI_15, hFI_15, hGJ_16, ex_14⟩ := h_17
    have hF_18 := fq_tr hF hFI_15 (by decide)
    have hG_19 := fq_tr hG hGJ_16 (by decide)
    obtain ⟨x_20, hx_20, rx_20, tx_20, ux_20⟩ := tx_b (lo := 1) (hi := 63) ex_14 hxp0 rxp0 (by decide) (by decide)
    refine g_aload_n C 0 dX12_writeNumber_14 rfl rfl ?_
    refine g_bipush C (v := 48) dX12_writeNumber_15 (by decide) ?_
    refine g_iload_n C 1 dX12_writeNumber_17 rfl rfl ?_
    refine g_bipush C (v := 10) dX12_writeNumber_18 (by decide) ?_
    obtain ⟨x_21, hx_21, rx_21⟩ := ex_rem (b := 999) (d := 10) 9 (rg_w r_12 (by decide) (by decide)) (rg_w rc_10 (by decide) (by decide)) (by decide)
    refine g_irem C (v := x_21) dX12_writeNumber_20 (rg_ne0 rc_10 (by decide)) hx_21 ?_
    obtain ⟨x_22, hx_22, rx_22, tx_22⟩ := ex_add 48 57 rc_48 rx_21 (by decide) (by decide) (by decide) (by decide)
    refine g_iadd C (v := x_22) dX12_writeNumber_21 hx_22 ?_
    refine g_callVV C K (c_X12_write W9 hLx hkx x_22  hUI_15  (eq_rg hx_20 (rg_w rx_20 (by decide) (by decide)))) hLx hkx (by decide) rfl v_12_342 rfl ⟨rfl, rfl⟩ ⟨Nat.le_of_ble_eq_true rfl, Nat.le_of_ble_eq_true rfl⟩ (Nat.le_of_ble_eq_true rfl) ⟨Nat.le_of_ble_eq_true rfl, Nat.le_of_ble_eq_true rfl⟩ dX12_writeNumber_22 rfl (st := []) (fun I_24 J_25 h_26 => ?_)
    obtain ⟨hUI_24, hFI_24, hGJ_25, ex_23⟩ := h_26
    have hF_27 := fq_tr hF_18 hFI_24 (by decide)
    have hG_28 := fq_tr hG_19 hGJ_25 (by decide)
    obtain ⟨x_29, hx_29, rx_29, tx_29, ux_29⟩ := tx_b (lo := 2) (hi := 64) ex_23 hx_20 rx_20 (by decide) (by decide)
    exact g_vret B K rfl ⟨hUI_24, hF_27, hG_28, (tx_m hxp0 hx_29 ⟨by omega, by omega⟩)⟩ dX12_writeNumber_25
set_option maxRecDepth 100000 in
set_option maxHeartbeats 8000000 in
theorem c_X12_writeNumber_4 {l : Launch} {D : va_G} {cy : Nat → ClassId} {L : List Nat} {κ ln : Nat → Nat} {R : Nat → Nat → Option Nat} {I : Nat → Nat → Int32} {J : Nat → Nat → Int64} {ow : Nat → Nat × Nat} (W9 : ∀ a ∈ L, Shp L κ ln R ow a) {x : Nat} (hLx : x ∈ L) (hkx : κ x = 12) (a0 : Int32) (ra0 : Rg 0 9999 a0) (hU : Iw L κ R ow I) (hp0 : Rg 0 60 (I x 40)) : CtV l yX12_writeNumber cX12_writeNumber 2 none { frames := 4, cells := 0, slots := 0, locals := 84 } D cy L κ ln R I J [.ref x, .int a0] (fun I2 J2 => Iw L κ R ow I2 ∧ Fq L κ ow [1240, 85900] I I2 ∧ Fq L κ ow [] J J2 ∧ ((I x 40).toInt + 1 ≤ (I2 x 40).toInt ∧ (I2 x 40).toInt ≤ (I x 40).toInt + 4)) := by
  refine CtV.of (by decide +kernel) (Nat.le_of_ble_eq_true rfl) ?_
  intro p e s m below meth c B K
  have C := B.1
  have hF : Fq L κ ow [1240, 85900] I I := fq_rf
  have hG : Fq L κ ow [] J J := fq_rf
  obtain ⟨xp0, hxp0, rxp0⟩ : ∃ z, I x 40 = z ∧ Rg 0 60 z := ⟨_, rfl, hp0⟩
  refine g_lo (is := [0, 1]) (lo2 := [(0, .ref x), (1, .int a0)]) rfl ?_
  refine g_iload_n C 1 dX12_writeNumber_0 rfl rfl ?_
  refine g_bipush C (v := 9) dX12_writeNumber_1 (by decide) ?_
  refine g_icmp_le C (tgt := 14) dX12_writeNumber_3 (by decide) (fun h_1 => ?_) (fun h_1 => ?_)
  · skip
    have r_2 := le_l (h_1) ra0 rc_9
    refine g_aload_n C 0 dX12_writeNumber_14 rfl rfl ?_
    refine g_bipush C (v := 48) dX12_writeNumber_15 (by decide) ?_
    refine g_iload_n C 1 dX12_writeNumber_17 rfl rfl ?_
    refine g_bipush C (v := 10) dX12_writeNumber_18 (by decide) ?_
    obtain ⟨x_3, hx_3, rx_3⟩ := ex_rem (b := 9) (d := 10) 9 (r_2) (rg_w rc_10 (by decide) (by decide)) (by decide)
    refine g_irem C (v := x_3) dX12_writeNumber_20 (rg_ne0 rc_10 (by decide)) hx_3 ?_
    obtain ⟨x_4, hx_4, rx_4, tx_4⟩ := ex_add 48 57 rc_48 rx_3 (by decide) (by decide) (by decide) (by decide)
    refine g_iadd C (v := x_4) dX12_writeNumber_21 hx_4 ?_
    refine g_callVV C K (c_X12_write W9 hLx hkx x_4  hU  (eq_rg hxp0 (rg_w rxp0 (by decide) (by decide)))) hLx hkx (by decide) rfl v_12_342 rfl ⟨rfl, rfl⟩ ⟨Nat.le_of_ble_eq_true rfl, Nat.le_of_ble_eq_true rfl⟩ (Nat.le_of_ble_eq_true rfl) ⟨Nat.le_of_ble_eq_true rfl, Nat.le_of_ble_eq_true rfl⟩ dX12_writeNumber_22 rfl (st := []) (fun I_6 J_7 h_8 => ?_)
    obtain ⟨hUI_6, hFI_6, hGJ_7, ex_5⟩ := h_8
    have hF_9 := fq_tr hF hFI_6 (by decide)
    have hG_10 := fq_tr hG hGJ_7 (by decide)
    obtain ⟨x_11, hx_11, rx_11, tx_11, ux_11⟩ := tx_b (lo := 1) (hi := 61) ex_5 hxp0 rxp0 (by decide) (by decide)
    exact g_vret B K rfl ⟨hUI_6, hF_9, hG_10, (tx_m hxp0 hx_11 ⟨by omega, by omega⟩)⟩ dX12_writeNumber_25
  · skip
    have r_12 := lt_r (lo := 10) (nle h_1) rc_9 ra0 (by decide)
    refine g_aload_n C 0 dX12_writeNumber_6 rfl rfl ?_
    refine g_iload_n C 1 dX12_writeNumber_7 rfl rfl ?_
    refine g_bipush C (v := 10) dX12_writeNumber_8 (by decide) ?_
    obtain ⟨x_13, hx_13, rx_13⟩ := ex_divk (b := 9999) (hi := 999) (rg_w r_12 (by decide) (by decide)) rc_10 (by decide) (by decide)
    refine g_idiv C (v := x_13) dX12_writeNumber_10 (rg_ne0 rc_10 (by decide)) hx_13 ?_
    refine g_callVV C K (c_X12_writeNumber_3 W9 hLx hkx x_13 (rx_13) hU  (eq_rg hxp0 (rg_w rxp0 (by decide) (by decide)))) hLx hkx (by decide) rfl v_12_345 rfl ⟨rfl, rfl⟩ ⟨Nat.le_of_ble_eq_true rfl, Nat.le_of_ble_eq_true rfl⟩ (Nat.le_of_ble_eq_true rfl) ⟨Nat.le_of_ble_eq_true rfl, Nat.le_of_ble_eq_true rfl⟩ dX12_writeNumber_11 rfl (st := []) (fun I_15 J_16 h_17 => ?_)
    obtain ⟨hUI_15, hFI_15, hGJ_16, ex_14⟩ := h_17
    have hF_18 := fq_tr hF hFI_15 (by decide)
    have hG_19 := fq_tr hG hGJ_16 (by decide)
    obtain ⟨x_20, hx_20, rx_20, tx_20, ux_20⟩ := tx_b (lo := 1) (hi := 63) ex_14 hxp0 rxp0 (by decide) (by decide)
    refine g_aload_n C 0 dX12_writeNumber_14 rfl rfl ?_
    refine g_bipush C (v := 48) dX12_writeNumber_15 (by decide) ?_
    refine g_iload_n C 1 dX12_writeNumber_17 rfl rfl ?_
    refine g_bipush C (v := 10) dX12_writeNumber_18 (by decide) ?_
    obtain ⟨x_21, hx_21, rx_21⟩ := ex_rem (b := 9999) (d := 10) 9 (rg_w r_12 (by decide) (by decide)) (rg_w rc_10 (by decide) (by decide)) (by decide)
    refine g_irem C (v := x_21) dX12_writeNumber_20 (rg_ne0 rc_10 (by decide)) hx_21 ?_
    obtain ⟨x_22, hx_22, rx_22, tx_22⟩ := ex_add 48 57 rc_48 rx_21 (by decide) (by decide) (by decide) (by decide)
    refine g_iadd C (v := x_22) dX12_writeNumber_21 hx_22 ?_
    refine g_callVV C K (c_X12_write W9 hLx hkx x_22  hUI_15  (eq_rg hx_20 (rg_w rx_20 (by decide) (by decide)))) hLx hkx (by decide) rfl v_12_342 rfl ⟨rfl, rfl⟩ ⟨Nat.le_of_ble_eq_true rfl, Nat.le_of_ble_eq_true rfl⟩ (Nat.le_of_ble_eq_true rfl) ⟨Nat.le_of_ble_eq_true rfl, Nat.le_of_ble_eq_true rfl⟩ dX12_writeNumber_22 rfl (st := []) (fun I_24 J_25 h_26 => ?_)
    obtain ⟨hUI_24, hFI_24, hGJ_25, ex_23⟩ := h_26
    have hF_27 := fq_tr hF_18 hFI_24 (by decide)
    have hG_28 := fq_tr hG_19 hGJ_25 (by decide)
    obtain ⟨x_29, hx_29, rx_29, tx_29, ux_29⟩ := tx_b (lo := 2) (hi := 64) ex_23 hx_20 rx_20 (by decide) (by decide)
    exact g_vret B K rfl ⟨hUI_24, hF_27, hG_28, (tx_m hxp0 hx_29 ⟨by omega, by omega⟩)⟩ dX12_writeNumber_25
set_option maxRecDepth 100000 in
set_option maxHeartbeats 8000000 in
theorem c_X12_will {l : Launch} {D : va_G} {cy : Nat → ClassId} {L : List Nat} {κ ln : Nat → Nat} {R : Nat → Nat → Option Nat} {I : Nat → Nat → Int32} {J : Nat → Nat → Int64} {ow : Nat → Nat × Nat} (W9 : ∀ a ∈ L, Shp L κ ln R ow a) {x : Nat} (hLx : x ∈ L) (hkx : κ x = 12) (a0 : Int32) (hU : Iw L κ R ow I) : CtI l yX12_will cX12_will 3 (some .int) { frames := 16, cells := 0, slots := 0, locals := 351 } D cy L κ ln R I J [.ref x, .int a0] (fun r I2 J2 => Iw L κ R ow I2 ∧ Fq L κ ow [1200, 1240, 85900] I I2 ∧ Fq L κ ow [] J J2 ∧ Rg (-1) 64 r) := by
  refine CtI.of (by decide +kernel) (Nat.le_of_ble_eq_true rfl) ?_
  intro p e s m below meth c B K
  have C := B.1
  have hF : Fq L κ ow [1200, 1240, 85900] I I := fq_rf
  have hG : Fq L κ ow [] J J := fq_rf
  obtain ⟨b_1, hb_1, hb_1L, hb_1k, hb_1n, hb_1o⟩ := shp_a (W9 x hLx) hkx 19 15 13 rfl (by decide)
  refine g_lo (is := [0, 1]) (lo2 := [(0, .ref x), (1, .int a0)]) rfl ?_
  refine g_aload_n C 0 dX12_will_0 rfl rfl ?_
  refine g_iconst C (v := 0) dX12_will_1 (by decide) ?_
  refine h_putI C K hLx hkx f_12_82 p_12_0 dX12_will_2 (fun I_2 hI_2 => ?_)
  have hU_3 := iw_put W9 hU hI_2 (ro_o hkx (by decide)) (lo := (-2147483648)) (hi := 2147483647) (rfl) (rg_all _) rfl
  have hF_4 := fq_puto hF hI_2 hkx (by decide) (by decide)
  refine g_aload_n C 0 dX12_will_5 rfl rfl ?_
  refine g_iload_n C 1 dX12_will_6 rfl rfl ?_
  refine g_callVI C K (c_X12_isPerson W9 hLx hkx a0  hU_3) hLx hkx (by decide) rfl v_12_238 rfl ⟨rfl, rfl⟩ ⟨Nat.le_of_ble_eq_true rfl, Nat.le_of_ble_eq_true rfl⟩ (Nat.le_of_ble_eq_true rfl) ⟨Nat.le_of_ble_eq_true rfl, Nat.le_of_ble_eq_true rfl⟩ dX12_will_7 rfl (st := []) (fun x_5 I_6 J_7 h_8 => ?_)
  obtain ⟨rfl, rfl, rx_5, ex_5⟩ := h_8
  refine g_if_ne C (tgt := 15) dX12_will_10 (by decide) (fun h_9 => ?_) (fun h_9 => ?_)
  · skip
    have n_10 : ¬ x_5 = 0 := h_9
    have r_11 := ne_lo (lo := 1) n_10 rx_5 rc_0 rfl (by decide)
    have r_12 := rg_i (rg_all a0) ((ex_5) n_10) (lo := 0) (hi := 6) (by decide) (by decide)
    refine g_aload_n C 0 dX12_will_15 rfl rfl ?_
    refine g_iconst C (v := 0) dX12_will_16 (by decide) ?_
    refine h_putI C K hLx hkx f_12_335 p_12_40 dX12_will_17 (fun I_13 hI_13 => ?_)
    have hU_14 := iw_put W9 hU_3 hI_13 (ro_o hkx (by decide)) (lo := 0) (hi := 64) (rfl) (rg_w rc_0 (by decide) (by decide)) rfl
    have hF_15 := fq_puto hF_4 hI_13 hkx (by decide) (by decide)
    refine g_aload_n C 0 dX12_will_20 rfl rfl ?_
    refine g_aload_n C 0 dX12_will_21 rfl rfl ?_
    refine g_getR C K hLx hkx f_12_28 hb_1 dX12_will_22 ?_
    refine g_iload_n C 1 dX12_will_25 rfl rfl ?_
    obtain ⟨y_16, hy_16⟩ : ∃ z, J b_1 (a0.toNatClampNeg) = z := ⟨_, rfl⟩
    refine h_lald C K hb_1L hb_1k (v := y_16) (a0.toNatClampNeg) (rfl) (ix_0 r_12 (by decide)) (ix_lt r_12 (by decide) hb_1n (by decide)) hy_16 dX12_will_26 ?_
    refine g_callVV C K (c_X12_writeWord_14 W9 hLx hkx y_16  hU_14  (eq_rg (kp_s hI_13) (rg_w rc_0 (by decide) (by decide))) (by have := Int64.toInt_lt y_16; omega)) hLx hkx (by decide) rfl v_12_338 rfl ⟨rfl, rfl⟩ ⟨Nat.le_of_ble_eq_true rfl, Nat.le_of_ble_eq_true rfl⟩ (Nat.le_of_ble_eq_true rfl) ⟨Nat.le_of_ble_eq_true rfl, Nat.le_of_ble_eq_true rfl⟩ dX12_will_27 rfl (st := []) (fun I_18 J_19 h_20 => ?_)
    obtain ⟨hUI_18, hFI_18, hGJ_19, ex_17⟩ := h_20
    have hF_21 := fq_tr hF_15 hFI_18 (by decide)
    have hG_22 := fq_tr hG hGJ_19 (by decide)
    obtain ⟨x_23, hx_23, rx_23, tx_23, ux_23⟩ := tx_b (lo := 1) (hi := 14) ex_17 (kp_s hI_13) rc_0 (by decide) (by decide)
    refine g_aload_n C 0 dX12_will_30 rfl rfl ?_
    refine g_bipush C (v := 108) dX12_will_31 (by decide) ?_
    refine g_bipush C (v := 101) dX12_will_33 (by decide) ?_
    refine g_bipush C (v := 97) dX12_will_35 (by decide) ?_
    refine g_bipush C (v := 118) dX12_will_37 (by decide) ?_
    refine g_bipush C (v := 101) dX12_will_39 (by decide) ?_
    refine g_bipush C (v := 115) dX12_will_41 (by decide) ?_
    refine g_iconst C (v := 0) dX12_will_43 (by decide) ?_
    refine g_callSL C K (c_X12_spelt W9 108 101 97 118 101 115 0 (rg_w rc_108 (by decide) (by decide)) (rg_w rc_101 (by decide) (by decide)) (rg_w rc_97 (by decide) (by decide)) (rg_w rc_118 (by decide) (by decide)) (rg_w rc_101 (by decide) (by decide)) (rg_w rc_115 (by decide) (by decide)) (rg_w rc_0 (by decide) (by decide)) hUI_18) s_12_132 rfl ⟨rfl, rfl⟩ ⟨Nat.le_of_ble_eq_true rfl, Nat.le_of_ble_eq_true rfl⟩ (Nat.le_of_ble_eq_true rfl) ⟨Nat.le_of_ble_eq_true rfl, Nat.le_of_ble_eq_true rfl⟩ dX12_will_44 rfl (st := [.ref x]) (fun x_24 I_25 J_26 h_27 => ?_)
    obtain ⟨rfl, rfl, fx_24⟩ := h_27
    refine g_callVV C K (c_X12_writeNext W9 hLx hkx x_24  hUI_18  (eq_rg hx_23 (rg_w rx_23 (by decide) (by decide)))) hLx hkx (by decide) rfl v_12_348 rfl ⟨rfl, rfl⟩ ⟨Nat.le_of_ble_eq_true rfl, Nat.le_of_ble_eq_true rfl⟩ (Nat.le_of_ble_eq_true rfl) ⟨Nat.le_of_ble_eq_true rfl, Nat.le_of_ble_eq_true rfl⟩ dX12_will_47 rfl (st := []) (fun I_29 J_30 h_31 => ?_)
    obtain ⟨hUI_29, hFI_29, hGJ_30, ex_28⟩ := h_31
    have hF_32 := fq_tr hF_21 hFI_29 (by decide)
    have hG_33 := fq_tr hG_22 hGJ_30 (by decide)
    obtain ⟨x_34, hx_34, rx_34, tx_34, ux_34⟩ := tx_b (lo := 2) (hi := 29) ex_28 hx_23 rx_23 (by decide) (by decide)
    refine g_aload_n C 0 dX12_will_50 rfl rfl ?_
    refine g_iload_n C 1 dX12_will_51 rfl rfl ?_
    refine g_callVI C K (c_X12_plateOf W9 hLx hkx a0 (r_12) hUI_29) hLx hkx (by decide) rfl v_12_247 rfl ⟨rfl, rfl⟩ ⟨Nat.le_of_ble_eq_true rfl, Nat.le_of_ble_eq_true rfl⟩ (Nat.le_of_ble_eq_true rfl) ⟨Nat.le_of_ble_eq_true rfl, Nat.le_of_ble_eq_true rfl⟩ dX12_will_52 rfl (st := []) (fun x_35 I_36 J_37 h_38 => ?_)
    obtain ⟨rfl, rfl, rx_35⟩ := h_38
    refine g_if_ne C (tgt := 84) dX12_will_55 (by decide) (fun h_39 => ?_) (fun h_39 => ?_)
    · skip
      have n_40 : ¬ x_35 = 0 := h_39
      have r_41 := ne_lo (lo := 1) n_40 rx_35 rc_0 rfl (by decide)
      refine g_aload_n C 0 dX12_will_84 rfl rfl ?_
      refine g_bipush C (v := 32) dX12_will_85 (by decide) ?_
      refine g_callVV C K (c_X12_write W9 hLx hkx 32  hUI_29  (eq_rg hx_34 (rg_w rx_34 (by decide) (by decide)))) hLx hkx (by decide) rfl v_12_342 rfl ⟨rfl, rfl⟩ ⟨Nat.le_of_ble_eq_true rfl, Nat.le_of_ble_eq_true rfl⟩ (Nat.le_of_ble_eq_true rfl) ⟨Nat.le_of_ble_eq_true rfl, Nat.le_of_ble_eq_true rfl⟩ dX12_will_87 rfl (st := []) (fun I_43 J_44 h_45 => ?_)
      obtain ⟨hUI_43, hFI_43, hGJ_44, ex_42⟩ := h_45
      have hF_46 := fq_tr hF_32 hFI_43 (by decide)
      have hG_47 := fq_tr hG_33 hGJ_44 (by decide)
      obtain ⟨x_48, hx_48, rx_48, tx_48, ux_48⟩ := tx_b (lo := 3) (hi := 30) ex_42 hx_34 rx_34 (by decide) (by decide)
      refine g_aload_n C 0 dX12_will_90 rfl rfl ?_
      refine g_aload_n C 0 dX12_will_91 rfl rfl ?_
      refine g_iload_n C 1 dX12_will_92 rfl rfl ?_
      refine g_callVI C K (c_X12_plateOf W9 hLx hkx a0 (r_12) hUI_43) hLx hkx (by decide) rfl v_12_247 rfl ⟨rfl, rfl⟩ ⟨Nat.le_of_ble_eq_true rfl, Nat.le_of_ble_eq_true rfl⟩ (Nat.le_of_ble_eq_true rfl) ⟨Nat.le_of_ble_eq_true rfl, Nat.le_of_ble_eq_true rfl⟩ dX12_will_93 rfl (st := [.ref x]) (fun x_49 I_50 J_51 h_52 => ?_)
      obtain ⟨rfl, rfl, rx_49⟩ := h_52
      refine g_callVV C K (c_X12_writeNumber_4 W9 hLx hkx x_49 (rg_w rx_49 (by decide) (by decide)) hUI_43  (eq_rg hx_48 (rg_w rx_48 (by decide) (by decide)))) hLx hkx (by decide) rfl v_12_345 rfl ⟨rfl, rfl⟩ ⟨Nat.le_of_ble_eq_true rfl, Nat.le_of_ble_eq_true rfl⟩ (Nat.le_of_ble_eq_true rfl) ⟨Nat.le_of_ble_eq_true rfl, Nat.le_of_ble_eq_true rfl⟩ dX12_will_96 rfl (st := []) (fun I_54 J_55 h_56 => ?_)
      obtain ⟨hUI_54, hFI_54, hGJ_55, ex_53⟩ := h_56
      have hF_57 := fq_tr hF_46 hFI_54 (by decide)
      have hG_58 := fq_tr hG_47 hGJ_55 (by decide)
      obtain ⟨x_59, hx_59, rx_59, tx_59, ux_59⟩ := tx_b (lo := 4) (hi := 34) ex_53 hx_48 rx_48 (by decide) (by decide)
      refine g_aload_n C 0 dX12_will_99 rfl rfl ?_
      refine g_bipush C (v := 116) dX12_will_100 (by decide) ?_
      refine g_bipush C (v := 111) dX12_will_102 (by decide) ?_
      refine g_iconst C (v := 0) dX12_will_104 (by decide) ?_
      refine g_iconst C (v := 0) dX12_will_105 (by decide) ?_
      refine g_iconst C (v := 0) dX12_will_106 (by decide) ?_
      refine g_iconst C (v := 0) dX12_will_107 (by decide) ?_
      refine g_iconst C (v := 0) dX12_will_108 (by decide) ?_
      refine g_callSL C K (c_X12_spelt W9 116 111 0 0 0 0 0 (rg_w rc_116 (by decide) (by decide)) (rg_w rc_111 (by decide) (by decide)) (rg_w rc_0 (by decide) (by decide)) (rg_w rc_0 (by decide) (by decide)) (rg_w rc_0 (by decide) (by decide)) (rg_w rc_0 (by decide) (by decide)) (rg_w rc_0 (by decide) (by decide)) hUI_54) s_12_132 rfl ⟨rfl, rfl⟩ ⟨Nat.le_of_ble_eq_true rfl, Nat.le_of_ble_eq_true rfl⟩ (Nat.le_of_ble_eq_true rfl) ⟨Nat.le_of_ble_eq_true rfl, Nat.le_of_ble_eq_true rfl⟩ dX12_will_109 rfl (st := [.ref x]) (fun x_60 I_61 J_62 h_63 => ?_)
      obtain ⟨rfl, rfl, fx_60⟩ := h_63
      refine g_callVV C K (c_X12_writeNext W9 hLx hkx x_60  hUI_54  (eq_rg hx_59 (rg_w rx_59 (by decide) (by decide)))) hLx hkx (by decide) rfl v_12_348 rfl ⟨rfl, rfl⟩ ⟨Nat.le_of_ble_eq_true rfl, Nat.le_of_ble_eq_true rfl⟩ (Nat.le_of_ble_eq_true rfl) ⟨Nat.le_of_ble_eq_true rfl, Nat.le_of_ble_eq_true rfl⟩ dX12_will_112 rfl (st := []) (fun I_65 J_66 h_67 => ?_)
      obtain ⟨hUI_65, hFI_65, hGJ_66, ex_64⟩ := h_67
      have hF_68 := fq_tr hF_57 hFI_65 (by decide)
      have hG_69 := fq_tr hG_58 hGJ_66 (by decide)
      obtain ⟨x_70, hx_70, rx_70, tx_70, ux_70⟩ := tx_b (lo := 5) (hi := 49) ex_64 hx_59 rx_59 (by decide) (by decide)
      refine g_aload_n C 0 dX12_will_115 rfl rfl ?_
      refine g_iload_n C 1 dX12_will_116 rfl rfl ?_
      refine g_aload_n C 0 dX12_will_117 rfl rfl ?_
      refine g_callVI C K (c_X12_outs W9 hLx hkx   hUI_65) hLx hkx (by decide) rfl v_12_259 rfl ⟨rfl, rfl⟩ ⟨Nat.le_of_ble_eq_true rfl, Nat.le_of_ble_eq_true rfl⟩ (Nat.le_of_ble_eq_true rfl) ⟨Nat.le_of_ble_eq_true rfl, Nat.le_of_ble_eq_true rfl⟩ dX12_will_118 rfl (st := [.int a0, .ref x]) (fun x_71 I_72 J_73 h_74 => ?_)
      obtain ⟨rfl, rfl, rx_71⟩ := h_74
      refine g_callVI C K (c_X12_heirBy W9 hLx hkx a0 x_71 (r_12) hUI_65) hLx hkx (by decide) rfl v_12_262 rfl ⟨rfl, rfl⟩ ⟨Nat.le_of_ble_eq_true rfl, Nat.le_of_ble_eq_true rfl⟩ (Nat.le_of_ble_eq_true rfl) ⟨Nat.le_of_ble_eq_true rfl, Nat.le_of_ble_eq_true rfl⟩ dX12_will_121 rfl (st := []) (fun x_75 I_76 J_77 h_78 => ?_)
      obtain ⟨rfl, rfl, rx_75⟩ := h_78
      refine g_istore_n C dX12_will_124 rfl (by decide) (lo2 := [(2, .int x_75), (0, .ref x), (1, .int a0)]) rfl ?_
      refine g_aload_n C 1 dX12_will_125 rfl rfl ?_
      refine g_iload_n C 0 dX12_will_126 rfl rfl ?_
      refine g_iconst C (v := (-1)) dX12_will_127 (by decide) ?_
      refine g_icmp_ne C (tgt := 150) dX12_will_128 (by decide) (fun h_79 => ?_) (fun h_79 => ?_)
      · skip
        have n_80 : ¬ x_75 = (-1) := h_79
        have r_81 := ne_lo (lo := 0) n_80 rx_75 rc_m1 rfl (by decide)
        refine g_aload_n C 1 dX12_will_150 rfl rfl ?_
        refine g_getR C K hLx hkx f_12_28 hb_1 dX12_will_151 ?_
        refine g_iload_n C 0 dX12_will_154 rfl rfl ?_
        obtain ⟨y_82, hy_82⟩ : ∃ z, J_66 b_1 (x_75.toNatClampNeg) = z := ⟨_, rfl⟩
        refine h_lald C K hb_1L hb_1k (v := y_82) (x_75.toNatClampNeg) (rfl) (ix_0 r_81 (by decide)) (ix_lt r_81 (by decide) hb_1n (by decide)) hy_82 dX12_will_155 ?_
        refine g_callVV C K (c_X12_writeNext W9 hLx hkx y_82  hUI_65  (eq_rg hx_70 (rg_w rx_70 (by decide) (by decide)))) hLx hkx (by decide) rfl v_12_348 rfl ⟨rfl, rfl⟩ ⟨Nat.le_of_ble_eq_true rfl, Nat.le_of_ble_eq_true rfl⟩ (Nat.le_of_ble_eq_true rfl) ⟨Nat.le_of_ble_eq_true rfl, Nat.le_of_ble_eq_true rfl⟩ dX12_will_156 rfl (st := []) (fun I_84 J_85 h_86 => ?_)
        obtain ⟨hUI_84, hFI_84, hGJ_85, ex_83⟩ := h_86
        have hF_87 := fq_tr hF_68 hFI_84 (by decide)
        have hG_88 := fq_tr hG_69 hGJ_85 (by decide)
        obtain ⟨x_89, hx_89, rx_89, tx_89, ux_89⟩ := tx_b (lo := 6) (hi := 64) ex_83 hx_70 rx_70 (by decide) (by decide)
        refine g_aload_n C 1 dX12_will_159 rfl rfl ?_
        refine g_getI C K hLx hkx f_12_335 (v := x_89) hx_89 dX12_will_160 ?_
        exact g_zret (ty := .int) (r := x_89) B K rfl (rfl) ⟨hUI_84, hF_87, hG_88, rg_w rx_89 (by decide) (by decide)⟩ dX12_will_163
      · skip
        have r_90 := (⟨(rx_75).1, (eq_rg (h_79) rc_m1).2⟩ : Rg (-1) (-1) x_75)
        refine g_bipush C (v := 110) dX12_will_131 (by decide) ?_
        refine g_bipush C (v := 111) dX12_will_133 (by decide) ?_
        refine g_bipush C (v := 98) dX12_will_135 (by decide) ?_
        refine g_bipush C (v := 111) dX12_will_137 (by decide) ?_
        refine g_bipush C (v := 100) dX12_will_139 (by decide) ?_
        refine g_bipush C (v := 121) dX12_will_141 (by decide) ?_
        refine g_iconst C (v := 0) dX12_will_143 (by decide) ?_
        refine g_callSL C K (c_X12_spelt W9 110 111 98 111 100 121 0 (rg_w rc_110 (by decide) (by decide)) (rg_w rc_111 (by decide) (by decide)) (rg_w rc_98 (by decide) (by decide)) (rg_w rc_111 (by decide) (by decide)) (rg_w rc_100 (by decide) (by decide)) (rg_w rc_121 (by decide) (by decide)) (rg_w rc_0 (by decide) (by decide)) hUI_65) s_12_132 rfl ⟨rfl, rfl⟩ ⟨Nat.le_of_ble_eq_true rfl, Nat.le_of_ble_eq_true rfl⟩ (Nat.le_of_ble_eq_true rfl) ⟨Nat.le_of_ble_eq_true rfl, Nat.le_of_ble_eq_true rfl⟩ dX12_will_144 rfl (st := [.ref x]) (fun x_91 I_92 J_93 h_94 => ?_)
        obtain ⟨rfl, rfl, fx_91⟩ := h_94
        refine g_goto C (tgt := 156) dX12_will_147 (by decide) ?_
        refine g_callVV C K (c_X12_writeNext W9 hLx hkx x_91  hUI_65  (eq_rg hx_70 (rg_w rx_70 (by decide) (by decide)))) hLx hkx (by decide) rfl v_12_348 rfl ⟨rfl, rfl⟩ ⟨Nat.le_of_ble_eq_true rfl, Nat.le_of_ble_eq_true rfl⟩ (Nat.le_of_ble_eq_true rfl) ⟨Nat.le_of_ble_eq_true rfl, Nat.le_of_ble_eq_true rfl⟩ dX12_will_156 rfl (st := []) (fun I_96 J_97 h_98 => ?_)
        obtain ⟨hUI_96, hFI_96, hGJ_97, ex_95⟩ := h_98
        have hF_99 := fq_tr hF_68 hFI_96 (by decide)
        have hG_100 := fq_tr hG_69 hGJ_97 (by decide)
        obtain ⟨x_101, hx_101, rx_101, tx_101, ux_101⟩ := tx_b (lo := 6) (hi := 64) ex_95 hx_70 rx_70 (by decide) (by decide)
        refine g_aload_n C 1 dX12_will_159 rfl rfl ?_
        refine g_getI C K hLx hkx f_12_335 (v := x_101) hx_101 dX12_will_160 ?_
        exact g_zret (ty := .int) (r := x_101) B K rfl (rfl) ⟨hUI_96, hF_99, hG_100, rg_w rx_101 (by decide) (by decide)⟩ dX12_will_163
    · skip
      have r_102 := (⟨(rx_35).1, (eq_rg (h_39) rc_0).2⟩ : Rg 0 0 x_35)
      refine g_aload_n C 0 dX12_will_58 rfl rfl ?_
      refine g_bipush C (v := 110) dX12_will_59 (by decide) ?_
      refine g_bipush C (v := 111) dX12_will_61 (by decide) ?_
      refine g_bipush C (v := 116) dX12_will_63 (by decide) ?_
      refine g_bipush C (v := 104) dX12_will_65 (by decide) ?_
      refine g_bipush C (v := 105) dX12_will_67 (by decide) ?_
      refine g_bipush C (v := 110) dX12_will_69 (by decide) ?_
      refine g_bipush C (v := 103) dX12_will_71 (by decide) ?_
      refine g_callSL C K (c_X12_spelt W9 110 111 116 104 105 110 103 (rg_w rc_110 (by decide) (by decide)) (rg_w rc_111 (by decide) (by decide)) (rg_w rc_116 (by decide) (by decide)) (rg_w rc_104 (by decide) (by decide)) (rg_w rc_105 (by decide) (by decide)) (rg_w rc_110 (by decide) (by decide)) (rg_w rc_103 (by decide) (by decide)) hUI_29) s_12_132 rfl ⟨rfl, rfl⟩ ⟨Nat.le_of_ble_eq_true rfl, Nat.le_of_ble_eq_true rfl⟩ (Nat.le_of_ble_eq_true rfl) ⟨Nat.le_of_ble_eq_true rfl, Nat.le_of_ble_eq_true rfl⟩ dX12_will_73 rfl (st := [.ref x]) (fun x_103 I_104 J_105 h_106 => ?_)
      obtain ⟨rfl, rfl, fx_103⟩ := h_106
      refine g_callVV C K (c_X12_writeNext W9 hLx hkx x_103  hUI_29  (eq_rg hx_34 (rg_w rx_34 (by decide) (by decide)))) hLx hkx (by decide) rfl v_12_348 rfl ⟨rfl, rfl⟩ ⟨Nat.le_of_ble_eq_true rfl, Nat.le_of_ble_eq_true rfl⟩ (Nat.le_of_ble_eq_true rfl) ⟨Nat.le_of_ble_eq_true rfl, Nat.le_of_ble_eq_true rfl⟩ dX12_will_76 rfl (st := []) (fun I_108 J_109 h_110 => ?_)
      obtain ⟨hUI_108, hFI_108, hGJ_109, ex_107⟩ := h_110
      have hF_111 := fq_tr hF_32 hFI_108 (by decide)
      have hG_112 := fq_tr hG_33 hGJ_109 (by decide)
      obtain ⟨x_113, hx_113, rx_113, tx_113, ux_113⟩ := tx_b (lo := 3) (hi := 44) ex_107 hx_34 rx_34 (by decide) (by decide)
      refine g_aload_n C 0 dX12_will_79 rfl rfl ?_
      refine g_getI C K hLx hkx f_12_335 (v := x_113) hx_113 dX12_will_80 ?_
      exact g_zret (ty := .int) (r := x_113) B K rfl (rfl) ⟨hUI_108, hF_111, hG_112, rg_w rx_113 (by decide) (by decide)⟩ dX12_will_83
  · skip
    have r_114 := (⟨(rx_5).1, (eq_rg (h_9) rc_0).2⟩ : Rg 0 0 x_5)
    refine g_iconst C (v := (-1)) dX12_will_13 (by decide) ?_
    exact g_zret (ty := .int) (r := (-1)) B K rfl (rfl) ⟨hU_3, hF_4, hG, rg_w rc_m1 (by decide) (by decide)⟩ dX12_will_14
set_option maxRecDepth 100000 in
set_option maxHeartbeats 8000000 in
theorem c_X12_byteAt {l : Launch} {D : va_G} {cy : Nat → ClassId} {L : List Nat} {κ ln : Nat → Nat} {R : Nat → Nat → Option Nat} {I : Nat → Nat → Int32} {J : Nat → Nat → Int64} {ow : Nat → Nat × Nat} (W9 : ∀ a ∈ L, Shp L κ ln R ow a) {x : Nat} (hLx : x ∈ L) (hkx : κ x = 12) (a0 : Int32) (hU : Iw L κ R ow I) : CtI l yX12_byteAt cX12_byteAt 2 (some .int) { frames := 1, cells := 0, slots := 0, locals := 22 } D cy L κ ln R I J [.ref x, .int a0] (fun r I2 J2 => Iw L κ R ow I2 ∧ Fq L κ ow [1200] I I2 ∧ Fq L κ ow [] J J2 ∧ Rg (-2147483648) 2147483647 r) := by
  refine CtI.of (by decide +kernel) (Nat.le_of_ble_eq_true rfl) ?_
  intro p e s m below meth c B K
  have C := B.1
  have hF : Fq L κ ow [1200] I I := fq_rf
  have hG : Fq L κ ow [] J J := fq_rf
  obtain ⟨b_1, hb_1, hb_1L, hb_1k, hb_1n, hb_1o⟩ := shp_a (W9 x hLx) hkx 39 14 64 rfl (by decide)
  refine g_lo (is := [0, 1]) (lo2 := [(0, .ref x), (1, .int a0)]) rfl ?_
  refine g_aload_n C 0 dX12_byteAt_0 rfl rfl ?_
  refine g_iconst C (v := 0) dX12_byteAt_1 (by decide) ?_
  refine h_putI C K hLx hkx f_12_82 p_12_0 dX12_byteAt_2 (fun I_2 hI_2 => ?_)
  have hU_3 := iw_put W9 hU hI_2 (ro_o hkx (by decide)) (lo := (-2147483648)) (hi := 2147483647) (rfl) (rg_all _) rfl
  have hF_4 := fq_puto hF hI_2 hkx (by decide) (by decide)
  refine g_iload_n C 1 dX12_byteAt_5 rfl rfl ?_
  refine g_iconst C (v := 0) dX12_byteAt_6 (by decide) ?_
  refine g_aload_n C 0 dX12_byteAt_7 rfl rfl ?_
  obtain ⟨x_5, hx_5, rx_5⟩ := ex_getw (I := I_2) (a := x) (j := 40) (lo := 0) (hi := 64) hU_3.1 hLx (ro_o hkx (by decide)) rfl
  refine g_getI C K hLx hkx f_12_335 (v := x_5) hx_5 dX12_byteAt_8 ?_
  refine g_iconst C (v := 1) dX12_byteAt_11 (by decide) ?_
  obtain ⟨x_6, hx_6, rx_6, tx_6⟩ := ex_sub (-1) 63 rx_5 rc_1 (by decide) (by decide) (by decide) (by decide)
  refine g_isub C (v := x_6) dX12_byteAt_12 hx_6 ?_
  refine g_callSI C K (c_X12_isIn W9 a0 0 x_6 (rg_w rc_0 (by decide) (by decide)) (rg_w rx_6 (by decide) (by decide)) hU_3) s_12_149 rfl ⟨rfl, rfl⟩ ⟨Nat.le_of_ble_eq_true rfl, Nat.le_of_ble_eq_true rfl⟩ (Nat.le_of_ble_eq_true rfl) ⟨Nat.le_of_ble_eq_true rfl, Nat.le_of_ble_eq_true rfl⟩ dX12_byteAt_13 rfl (st := []) (fun x_7 I_8 J_9 h_10 => ?_)
  obtain ⟨rfl, rfl, rx_7, fx_7, ex_7⟩ := h_10
  refine g_if_eq C (tgt := 28) dX12_byteAt_16 (by decide) (fun h_11 => ?_) (fun h_11 => ?_)
  · skip
    have r_12 := (⟨(rx_7).1, (eq_rg (h_11) rc_0).2⟩ : Rg 0 0 x_7)
    refine g_iconst C (v := (-1)) dX12_byteAt_28 (by decide) ?_
    exact g_zret (ty := .int) (r := (-1)) B K rfl (rfl) ⟨hU_3, hF_4, hG, rg_all _⟩ dX12_byteAt_29
  · skip
    have n_13 : ¬ x_7 = 0 := h_11
    have r_14 := ne_lo (lo := 1) n_13 rx_7 rc_0 rfl (by decide)
    have r_15 := le_r (((ex_7.1) n_13)) rc_0 (rg_all a0)
    have r_16 := le_l (((ex_7.2) n_13)) r_15 rx_6
    have r_17 := le_r (((ex_7.2) n_13)) r_15 rx_6
    have r_18 := rg_der (k := (-1)) (lo := 1) (hi := 64) (ti_s tx_6 rc_1 (by decide)) r_17 rx_5 (by decide) (by decide)
    refine g_aload_n C 0 dX12_byteAt_19 rfl rfl ?_
    refine g_getR C K hLx hkx f_12_70 hb_1 dX12_byteAt_20 ?_
    refine g_iload_n C 1 dX12_byteAt_23 rfl rfl ?_
    obtain ⟨x_19, hx_19, rx_19⟩ := ex_any (z0 := I_2 b_1 (a0.toNatClampNeg))
    refine h_iald C K hb_1L hb_1k (v := x_19) (a0.toNatClampNeg) (rfl) (ix_0 r_16 (by decide)) (ix_lt r_16 (by decide) hb_1n (by decide)) hx_19 dX12_byteAt_24 ?_
    refine g_goto C (tgt := 29) dX12_byteAt_25 (by decide) ?_
    exact g_zret (ty := .int) (r := x_19) B K rfl (rfl) ⟨hU_3, hF_4, hG, rx_19⟩ dX12_byteAt_29
set_option maxRecDepth 100000 in
set_option maxHeartbeats 8000000 in
theorem c_X12_draw {l : Launch} {D : va_G} {cy : Nat → ClassId} {L : List Nat} {κ ln : Nat → Nat} {R : Nat → Nat → Option Nat} {I : Nat → Nat → Int32} {J : Nat → Nat → Int64} {ow : Nat → Nat × Nat} (W9 : ∀ a ∈ L, Shp L κ ln R ow a) {x : Nat} (hLx : x ∈ L) (hkx : κ x = 12) (a0 : Int32) (ra0 : Rg 4 6 a0) (hU : Iw L κ R ow I) : CtI l yX12_draw cX12_draw 2 (some .int) { frames := 0, cells := 0, slots := 0, locals := 0 } D cy L κ ln R I J [.ref x, .int a0] (fun r I2 J2 => Iw L κ R ow I2 ∧ Fq L κ ow [1241] I I2 ∧ Fq L κ ow [] J J2 ∧ Rg 0 5 r) := by
  refine CtI.of (by decide +kernel) (Nat.le_of_ble_eq_true rfl) ?_
  intro p e s m below meth c B K
  have C := B.1
  have hF : Fq L κ ow [1241] I I := fq_rf
  have hG : Fq L κ ow [] J J := fq_rf
  refine g_lo (is := [0, 1]) (lo2 := [(0, .ref x), (1, .int a0)]) rfl ?_
  refine g_aload_n C 0 dX12_draw_0 rfl rfl ?_
  refine g_aload_n C 0 dX12_draw_1 rfl rfl ?_
  obtain ⟨x_1, hx_1, rx_1⟩ := ex_getw (I := I) (a := x) (j := 41) (lo := (-2147483648)) (hi := 2147483647) hU.1 hLx (ro_o hkx (by decide)) rfl
  refine g_getI C K hLx hkx f_12_351 (v := x_1) hx_1 dX12_draw_2 ?_
  refine g_ldcw C k_SecondHelpingsModel_354 dX12_draw_5 ?_
  obtain ⟨x_2, hx_2, rx_2⟩ := ex_any (z0 := x_1 * 1103515245)
  refine g_imul C (v := x_2) dX12_draw_8 hx_2 ?_
  refine g_sipush C (v := 12345) dX12_draw_9 (by decide) ?_
  obtain ⟨x_3, hx_3, rx_3⟩ := ex_any (z0 := x_2 + 12345)
  refine g_iadd C (v := x_3) dX12_draw_12 hx_3 ?_
  refine h_putI C K hLx hkx f_12_351 p_12_41 dX12_draw_13 (fun I_4 hI_4 => ?_)
  have hU_5 := iw_put W9 hU hI_4 (ro_o hkx (by decide)) (lo := (-2147483648)) (hi := 2147483647) (rfl) (rx_3) rfl
  have hF_6 := fq_puto hF hI_4 hkx (by decide) (by decide)
  refine g_aload_n C 0 dX12_draw_16 rfl rfl ?_
  refine g_getI C K hLx hkx f_12_351 (v := x_3) (kp_s hI_4) dX12_draw_17 ?_
  refine g_bipush C (v := 8) dX12_draw_20 (by decide) ?_
  obtain ⟨x_7, hx_7, rx_7⟩ := ex_ushr8 (x := x_3)
  refine g_iushr C (v := x_7) dX12_draw_22 hx_7 ?_
  refine g_iload_n C 1 dX12_draw_23 rfl rfl ?_
  obtain ⟨x_8, hx_8, rx_8⟩ := ex_rem (b := 16777215) (d := 6) 5 (rx_7) (rg_w ra0 (by decide) (by decide)) (by decide)
  refine g_irem C (v := x_8) dX12_draw_24 (rg_ne0 ra0 (by decide)) hx_8 ?_
  exact g_zret (ty := .int) (r := x_8) B K rfl (rfl) ⟨hU_5, hF_6, hG, rx_8⟩ dX12_draw_25
set_option maxRecDepth 100000 in
set_option maxHeartbeats 8000000 in
theorem c_X12_drawMeals {l : Launch} {D : va_G} {cy : Nat → ClassId} {L : List Nat} {κ ln : Nat → Nat} {R : Nat → Nat → Option Nat} {I : Nat → Nat → Int32} {J : Nat → Nat → Int64} {ow : Nat → Nat × Nat} (W9 : ∀ a ∈ L, Shp L κ ln R ow a) {x : Nat} (hLx : x ∈ L) (hkx : κ x = 12) (a0 : Int32) (a1 : Int32) (ra0 : Rg 1 60 a0) (hU : Iw L κ R ow I) : CtI l yX12_drawMeals cX12_drawMeals 7 (some .int) { frames := 5, cells := 0, slots := 0, locals := 120 } D cy L κ ln R I J [.ref x, .int a0, .int a1] (fun r I2 J2 => Iw L κ R ow I2 ∧ Fq L κ ow [1241, 83400] I I2 ∧ Fq L κ ow [] J J2 ∧ Rg (-2147483648) 60 r ∧ (Hd_ R x I I2)) := by
  refine CtI.of (by decide +kernel) (Nat.le_of_ble_eq_true rfl) ?_
  intro p e s m below meth c B K
  have C := B.1
  have hF : Fq L κ ow [1241, 83400] I I := fq_rf
  have hG : Fq L κ ow [] J J := fq_rf
  obtain ⟨b_1, hb_1, hb_1L, hb_1k, hb_1n, hb_1o⟩ := shp_a (W9 x hLx) hkx 14 14 389 rfl (by decide)
  refine g_lo (is := [0, 1, 2]) (lo2 := [(0, .ref x), (1, .int a0), (2, .int a1)]) rfl ?_
  have l_24 : ∀ (n_24 : Nat) (I_2 : Nat → Nat → Int32) (J_3 : Nat → Nat → Int64) (hU_4 : Iw L κ R ow I_2) (hF_5 : Fq L κ ow [1241, 83400] I I_2) (hG_6 : Fq L κ ow [] J J_3) (v_7 : Int32) (rv_7 : Rg (-2147483648) 60 v_7) (v_8 : Int32) (rv_8 : Rg 0 60 v_8) (hd_9 : Hd_ R x I I_2) (hm_10 : 60 < (v_8 : Int32).toInt + (n_24 : Int)), WG p l e { frames := 5, cells := 0, slots := 0, locals := 120 } s m ([.ref x, .int a0, .int a1] : List Value).toArray below meth c 7 0 0 (MQ below (Qi_ D cy L κ ln R (fun r I2 J2 => Iw L κ R ow I2 ∧ Fq L κ ow [1241, 83400] I I2 ∧ Fq L κ ow [] J J2 ∧ Rg (-2147483648) 60 r ∧ (Hd_ R x I I2))) ([.ref x, .int a0, .int a1] : List Value).toArray s 0 0 (Al_ L)) D cy (Al_ L) s.heap L κ ln R I_2 J_3 24 [(0, .ref x), (1, .int a0), (2, .int a1), (3, .int v_7), (4, .int v_8)] [] := by
    intro n_24
    induction n_24 with
    | zero =>
      intro I_2 J_3 hU_4 hF_5 hG_6 v_7 rv_7 v_8 rv_8 hd_9 hm_10
      exact ms_0 rv_8 hm_10
    | succ n_24 ih_24 =>
      intro I_2 J_3 hU_4 hF_5 hG_6 v_7 rv_7 v_8 rv_8 hd_9 hm_10
      have l_33 : ∀ (n_33 : Nat) (I_11 : Nat → Nat → Int32) (J_12 : Nat → Nat → Int64) (hU_13 : Iw L κ R ow I_11) (hF_14 : Fq L κ ow [1241, 83400] I I_11) (hG_15 : Fq L κ ow [] J J_12) (v_16 : Int32) (rv_16 : Rg 1 60 v_16) (v_17 : Int32) (rv_17 : Rg 0 59 v_17) (v_18 : Int32) (rv_18 : Rg 0 7 v_18) (hm_19 : 60 < (v_17 : Int32).toInt + ((n_24 + 1 : Nat) : Int)) (hd_20 : Hd_ R x I I_11) (hm_21 : 7 < (v_18 : Int32).toInt + (n_33 : Int)), WG p l e { frames := 5, cells := 0, slots := 0, locals := 120 } s m ([.ref x, .int a0, .int a1] : List Value).toArray below meth c 7 0 0 (MQ below (Qi_ D cy L κ ln R (fun r I2 J2 => Iw L κ R ow I2 ∧ Fq L κ ow [1241, 83400] I I2 ∧ Fq L κ ow [] J J2 ∧ Rg (-2147483648) 60 r ∧ (Hd_ R x I I2))) ([.ref x, .int a0, .int a1] : List Value).toArray s 0 0 (Al_ L)) D cy (Al_ L) s.heap L κ ln R I_11 J_12 33 [(0, .ref x), (1, .int a0), (2, .int a1), (3, .int v_16), (4, .int v_17), (5, .int v_18)] [] := by
        intro n_33
        induction n_33 with
        | zero =>
          intro I_11 J_12 hU_13 hF_14 hG_15 v_16 rv_16 v_17 rv_17 v_18 rv_18 hm_19 hd_20 hm_21
          exact ms_0 rv_18 hm_21
        | succ n_33 ih_33 =>
          intro I_11 J_12 hU_13 hF_14 hG_15 v_16 rv_16 v_17 rv_17 v_18 rv_18 hm_19 hd_20 hm_21
          have j_119 : ∀ (I_22 : Nat → Nat → Int32) (J_23 : Nat → Nat → Int64) (hU_24 : Iw L κ R ow I_22) (hF_25 : Fq L κ ow [1241, 83400] I I_22) (hG_26 : Fq L κ ow [] J J_23) (v_27 : Int32) (rv_27 : Rg 1 60 v_27) (v_28 : Int32) (rv_28 : Rg 0 59 v_28) (v_29 : Int32) (rv_29 : Rg 0 6 v_29) (hm_30 : 60 < (v_28 : Int32).toInt + ((n_24 + 1 : Nat) : Int)) (hm_31 : 7 < (v_29 : Int32).toInt + ((n_33 + 1 : Nat) : Int)) (hd_32 : Hd_ R x I I_22), WG p l e { frames := 5, cells := 0, slots := 0, locals := 120 } s m ([.ref x, .int a0, .int a1] : List Value).toArray below meth c 7 0 0 (MQ below (Qi_ D cy L κ ln R (fun r I2 J2 => Iw L κ R ow I2 ∧ Fq L κ ow [1241, 83400] I I2 ∧ Fq L κ ow [] J J2 ∧ Rg (-2147483648) 60 r ∧ (Hd_ R x I I2))) ([.ref x, .int a0, .int a1] : List Value).toArray s 0 0 (Al_ L)) D cy (Al_ L) s.heap L κ ln R I_22 J_23 119 [(0, .ref x), (1, .int a0), (2, .int a1), (3, .int v_27), (4, .int v_28), (5, .int v_29)] [] := by
            intro I_22 J_23 hU_24 hF_25 hG_26 v_27 rv_27 v_28 rv_28 v_29 rv_29 hm_30 hm_31 hd_32
            obtain ⟨x_33, hx_33, rx_33, tx_33⟩ := ex_add (y := 1) 1 7 rv_29 rc_1 (by decide) (by decide) (by decide) (by decide)
            refine g_iinc C dX12_drawMeals_119 (k := 5) (v := x_33) rfl hx_33 (by decide) (lo2 := [(5, .int x_33), (0, .ref x), (1, .int a0), (2, .int a1), (3, .int v_27), (4, .int v_28)]) rfl ?_
            refine g_goto C (tgt := 33) dX12_drawMeals_122 (by decide) ?_
            refine g_lo (is := [1, 2, 3, 4, 5, 0]) (lo2 := [(0, .ref x), (1, .int a0), (2, .int a1), (3, .int v_27), (4, .int v_28), (5, .int x_33)]) rfl ?_
            exact ih_33 I_22 J_23 hU_24 hF_25 hG_26 v_27 (rv_27) v_28 (rv_28) x_33 (rg_w rx_33 (by decide) (by decide)) hm_30 hd_32 (ms_1 hm_31 (ti_k tx_33 rc_1) (by decide))
          refine g_iload C 5 dX12_drawMeals_33 rfl ?_
          refine g_aload_n C 0 dX12_drawMeals_35 rfl rfl ?_
          refine g_getR C K hLx hkx f_12_13 hb_1 dX12_drawMeals_36 ?_
          refine g_iconst C (v := 0) dX12_drawMeals_39 (by decide) ?_
          obtain ⟨x_34, hx_34, rx_34⟩ := ex_getw (I := I_11) (a := b_1) (j := 0) (lo := 0) (hi := 7) hU_13.1 hb_1L (ro_a hb_1k (by decide) hb_1o hkx rfl) (by decide)
          refine h_iald C K hb_1L hb_1k (v := x_34) (0) (by decide) (by decide) (by rw [hb_1n]; decide) hx_34 dX12_drawMeals_40 ?_
          refine g_icmp_ge C (tgt := 125) dX12_drawMeals_41 (by decide) (fun h_35 => ?_) (fun h_35 => ?_)
          · skip
            refine g_aload_n C 0 dX12_drawMeals_125 rfl rfl ?_
            refine g_callVV C K (c_X12_oneMeal W9 hLx hkx   hU_13) hLx hkx (by decide) rfl v_12_292 rfl ⟨rfl, rfl⟩ ⟨Nat.le_of_ble_eq_true rfl, Nat.le_of_ble_eq_true rfl⟩ (Nat.le_of_ble_eq_true rfl) ⟨Nat.le_of_ble_eq_true rfl, Nat.le_of_ble_eq_true rfl⟩ dX12_drawMeals_126 rfl (st := []) (fun I_37 J_38 h_39 => ?_)
            obtain ⟨hUI_37, hFI_37, hGJ_38, ex_36⟩ := h_39
            have hF_40 := fq_tr hF_14 hFI_37 (by decide)
            have hG_41 := fq_tr hG_15 hGJ_38 (by decide)
            obtain ⟨x_42, hx_42, rx_42, tx_42⟩ := ex_add (y := 1) 1 60 rv_17 rc_1 (by decide) (by decide) (by decide) (by decide)
            refine g_iinc C dX12_drawMeals_129 (k := 4) (v := x_42) rfl hx_42 (by decide) (lo2 := [(4, .int x_42), (0, .ref x), (1, .int a0), (2, .int a1), (3, .int v_16), (5, .int v_18)]) rfl ?_
            refine g_goto C (tgt := 24) dX12_drawMeals_132 (by decide) ?_
            refine g_lo (is := [1, 2, 3, 4, 0]) (lo2 := [(0, .ref x), (1, .int a0), (2, .int a1), (3, .int v_16), (4, .int x_42)]) rfl ?_
            exact ih_24 I_37 J_38 hUI_37 hF_40 hG_41 v_16 (rg_w rv_16 (by decide) (by decide)) x_42 (rg_w rx_42 (by decide) (by decide)) (hd_t hd_20 ex_36) (ms_1 hm_19 (ti_k tx_42 rc_1) (by decide))
          · skip
            have r_43 := lt_l (hi := 6) (nle h_35) rv_18 rx_34 (by decide)
            have r_44 := lt_r (lo := 1) (nle h_35) rv_18 rx_34 (by decide)
            refine g_aload_n C 0 dX12_drawMeals_44 rfl rfl ?_
            refine g_iload C 5 dX12_drawMeals_45 rfl ?_
            refine g_callVI C K (c_X12_isDead W9 hLx hkx v_18 (r_43) hU_13) hLx hkx (by decide) rfl v_12_244 rfl ⟨rfl, rfl⟩ ⟨Nat.le_of_ble_eq_true rfl, Nat.le_of_ble_eq_true rfl⟩ (Nat.le_of_ble_eq_true rfl) ⟨Nat.le_of_ble_eq_true rfl, Nat.le_of_ble_eq_true rfl⟩ dX12_drawMeals_47 rfl (st := []) (fun x_45 I_46 J_47 h_48 => ?_)
            obtain ⟨rfl, rfl, rx_45⟩ := h_48
            refine g_if_eq C (tgt := 56) dX12_drawMeals_50 (by decide) (fun h_49 => ?_) (fun h_49 => ?_)
            · skip
              have r_50 := (⟨(rx_45).1, (eq_rg (h_49) rc_0).2⟩ : Rg 0 0 x_45)
              refine g_aload_n C 0 dX12_drawMeals_56 rfl rfl ?_
              refine g_bipush C (v := 6) dX12_drawMeals_57 (by decide) ?_
              refine g_callVI C K (c_X12_draw W9 hLx hkx 6 (rg_w rc_6 (by decide) (by decide)) hU_13) hLx hkx (by decide) rfl v_12_355 rfl ⟨rfl, rfl⟩ ⟨Nat.le_of_ble_eq_true rfl, Nat.le_of_ble_eq_true rfl⟩ (Nat.le_of_ble_eq_true rfl) ⟨Nat.le_of_ble_eq_true rfl, Nat.le_of_ble_eq_true rfl⟩ dX12_drawMeals_59 rfl (st := []) (fun x_51 I_52 J_53 h_54 => ?_)
              obtain ⟨hUI_52, hFI_52, hGJ_53, rx_51⟩ := h_54
              have hF_55 := fq_tr hF_14 hFI_52 (by decide)
              have hG_56 := fq_tr hG_15 hGJ_53 (by decide)
              refine g_istore C dX12_drawMeals_62 (by decide) (lo2 := [(6, .int x_51), (0, .ref x), (1, .int a0), (2, .int a1), (3, .int v_16), (4, .int v_17), (5, .int v_18)]) rfl ?_
              refine g_iload C 0 dX12_drawMeals_64 rfl ?_
              refine g_if_ne C (tgt := 87) dX12_drawMeals_66 (by decide) (fun h_57 => ?_) (fun h_57 => ?_)
              · skip
                have n_58 : ¬ x_51 = 0 := h_57
                have r_59 := ne_lo (lo := 1) n_58 rx_51 rc_0 rfl (by decide)
                refine g_iload C 0 dX12_drawMeals_87 rfl ?_
                refine g_iconst C (v := 1) dX12_drawMeals_89 (by decide) ?_
                refine g_icmp_le C (tgt := 102) dX12_drawMeals_90 (by decide) (fun h_60 => ?_) (fun h_60 => ?_)
                · skip
                  have r_61 := le_l (h_60) r_59 rc_1
                  refine g_aload_n C 1 dX12_drawMeals_102 rfl rfl ?_
                  refine g_iconst C (v := 4) dX12_drawMeals_103 (by decide) ?_
                  refine g_callVI C K (c_X12_draw W9 hLx hkx 4 (rg_w rc_4 (by decide) (by decide)) hUI_52) hLx hkx (by decide) rfl v_12_355 rfl ⟨rfl, rfl⟩ ⟨Nat.le_of_ble_eq_true rfl, Nat.le_of_ble_eq_true rfl⟩ (Nat.le_of_ble_eq_true rfl) ⟨Nat.le_of_ble_eq_true rfl, Nat.le_of_ble_eq_true rfl⟩ dX12_drawMeals_104 rfl (st := []) (fun x_62 I_63 J_64 h_65 => ?_)
                  obtain ⟨hUI_63, hFI_63, hGJ_64, rx_62⟩ := h_65
                  have hF_66 := fq_tr hF_55 hFI_63 (by decide)
                  have hG_67 := fq_tr hG_56 hGJ_64 (by decide)
                  refine g_if_ne C (tgt := 119) dX12_drawMeals_107 (by decide) (fun h_68 => ?_) (fun h_68 => ?_)
                  · skip
                    have n_69 : ¬ x_62 = 0 := h_68
                    have r_70 := ne_lo (lo := 1) n_69 rx_62 rc_0 rfl (by decide)
                    refine g_lo (is := [1, 2, 3, 4, 5, 6]) (lo2 := [(0, .ref x), (1, .int a0), (2, .int a1), (3, .int v_16), (4, .int v_17), (5, .int v_18)]) rfl ?_
                    exact j_119 I_63 J_64 hUI_63 hF_66 hG_67 v_16 (rv_16) v_17 (rv_17) v_18 (r_43) hm_19 hm_21 (hd_fq W9 hLx hkx (hd_fq W9 hLx hkx hd_20 hFI_52 (by decide)) hFI_63 (by decide))
                  · skip
                    have r_71 := (⟨(rx_62).1, (eq_rg (h_68) rc_0).2⟩ : Rg 0 0 x_62)
                    refine g_aload_n C 1 dX12_drawMeals_110 rfl rfl ?_
                    refine g_iconst C (v := 5) dX12_drawMeals_111 (by decide) ?_
                    refine g_iload C 6 dX12_drawMeals_112 rfl ?_
                    refine g_iconst C (v := 0) dX12_drawMeals_114 (by decide) ?_
                    refine g_iconst C (v := 0) dX12_drawMeals_115 (by decide) ?_
                    refine g_callVV C K (c_X12_live W9 hLx hkx 5 v_18 0 0 (rg_w rc_5 (by decide) (by decide)) (r_43) (rg_w rc_0 (by decide) (by decide)) (rg_w rc_0 (by decide) (by decide)) hUI_63  (fun a ha => ⟨fun q => absurd q (by decide), fun q => absurd q (by decide)⟩)) hLx hkx (by decide) rfl v_12_285 rfl ⟨rfl, rfl⟩ ⟨Nat.le_of_ble_eq_true rfl, Nat.le_of_ble_eq_true rfl⟩ (Nat.le_of_ble_eq_true rfl) ⟨Nat.le_of_ble_eq_true rfl, Nat.le_of_ble_eq_true rfl⟩ dX12_drawMeals_116 rfl (st := []) (fun I_73 J_74 h_75 => ?_)
                    obtain ⟨hUI_73, hFI_73, hGJ_74, ex_72⟩ := h_75
                    have hF_76 := fq_tr hF_66 hFI_73 (by decide)
                    have hG_77 := fq_tr hG_67 hGJ_74 (by decide)
                    refine g_lo (is := [1, 2, 3, 4, 5, 6]) (lo2 := [(0, .ref x), (1, .int a0), (2, .int a1), (3, .int v_16), (4, .int v_17), (5, .int v_18)]) rfl ?_
                    exact j_119 I_73 J_74 hUI_73 hF_76 hG_77 v_16 (rv_16) v_17 (rv_17) v_18 (r_43) hm_19 hm_21 (hd_t (hd_fq W9 hLx hkx (hd_fq W9 hLx hkx hd_20 hFI_52 (by decide)) hFI_63 (by decide)) ex_72)
                · skip
                  have r_78 := lt_r (lo := 2) (nle h_60) rc_1 r_59 (by decide)
                  refine g_aload_n C 1 dX12_drawMeals_93 rfl rfl ?_
                  refine g_iload C 6 dX12_drawMeals_94 rfl ?_
                  refine g_callVV C K (c_X12_eatsAll W9 hLx hkx v_18 (r_43) hUI_52) hLx hkx (by decide) rfl v_12_301 rfl ⟨rfl, rfl⟩ ⟨Nat.le_of_ble_eq_true rfl, Nat.le_of_ble_eq_true rfl⟩ (Nat.le_of_ble_eq_true rfl) ⟨Nat.le_of_ble_eq_true rfl, Nat.le_of_ble_eq_true rfl⟩ dX12_drawMeals_96 rfl (st := []) (fun I_80 J_81 h_82 => ?_)
                  obtain ⟨hUI_80, hFI_80, hGJ_81, ex_79⟩ := h_82
                  have hF_83 := fq_tr hF_55 hFI_80 (by decide)
                  have hG_84 := fq_tr hG_56 hGJ_81 (by decide)
                  refine g_goto C (tgt := 119) dX12_drawMeals_99 (by decide) ?_
                  refine g_lo (is := [1, 2, 3, 4, 5, 6]) (lo2 := [(0, .ref x), (1, .int a0), (2, .int a1), (3, .int v_16), (4, .int v_17), (5, .int v_18)]) rfl ?_
                  exact j_119 I_80 J_81 hUI_80 hF_83 hG_84 v_16 (rv_16) v_17 (rv_17) v_18 (r_43) hm_19 hm_21 (hd_t (hd_fq W9 hLx hkx hd_20 hFI_52 (by decide)) ex_79)
              · skip
                have r_85 := (⟨(rx_51).1, (eq_rg (h_57) rc_0).2⟩ : Rg 0 0 x_51)
                refine g_aload_n C 1 dX12_drawMeals_69 rfl rfl ?_
                refine g_iload C 6 dX12_drawMeals_70 rfl ?_
                refine g_callVI C K (c_X12_plateOf W9 hLx hkx v_18 (r_43) hUI_52) hLx hkx (by decide) rfl v_12_247 rfl ⟨rfl, rfl⟩ ⟨Nat.le_of_ble_eq_true rfl, Nat.le_of_ble_eq_true rfl⟩ (Nat.le_of_ble_eq_true rfl) ⟨Nat.le_of_ble_eq_true rfl, Nat.le_of_ble_eq_true rfl⟩ dX12_drawMeals_72 rfl (st := []) (fun x_86 I_87 J_88 h_89 => ?_)
                obtain ⟨rfl, rfl, rx_86⟩ := h_89
                refine g_if_le C (tgt := 119) dX12_drawMeals_75 (by decide) (fun h_90 => ?_) (fun h_90 => ?_)
                · skip
                  have r_91 := le_l (h_90) rx_86 rc_0
                  refine g_lo (is := [1, 2, 3, 4, 5, 6]) (lo2 := [(0, .ref x), (1, .int a0), (2, .int a1), (3, .int v_16), (4, .int v_17), (5, .int v_18)]) rfl ?_
                  exact j_119 I_52 J_53 hUI_52 hF_55 hG_56 v_16 (rv_16) v_17 (rv_17) v_18 (r_43) hm_19 hm_21 (hd_fq W9 hLx hkx hd_20 hFI_52 (by decide))
                · skip
                  have r_92 := lt_r (lo := 1) (nle h_90) rc_0 rx_86 (by decide)
                  refine g_aload_n C 1 dX12_drawMeals_78 rfl rfl ?_
                  refine g_iload C 6 dX12_drawMeals_79 rfl ?_
                  refine g_callVV C K (c_X12_pass W9 hLx hkx v_18 (r_43) hUI_52) hLx hkx (by decide) rfl v_12_275 rfl ⟨rfl, rfl⟩ ⟨Nat.le_of_ble_eq_true rfl, Nat.le_of_ble_eq_true rfl⟩ (Nat.le_of_ble_eq_true rfl) ⟨Nat.le_of_ble_eq_true rfl, Nat.le_of_ble_eq_true rfl⟩ dX12_drawMeals_81 rfl (st := []) (fun I_94 J_95 h_96 => ?_)
                  obtain ⟨hUI_94, hFI_94, hGJ_95, ex_93⟩ := h_96
                  have hF_97 := fq_tr hF_55 hFI_94 (by decide)
                  have hG_98 := fq_tr hG_56 hGJ_95 (by decide)
                  refine g_goto C (tgt := 119) dX12_drawMeals_84 (by decide) ?_
                  refine g_lo (is := [1, 2, 3, 4, 5, 6]) (lo2 := [(0, .ref x), (1, .int a0), (2, .int a1), (3, .int v_16), (4, .int v_17), (5, .int v_18)]) rfl ?_
                  exact j_119 I_94 J_95 hUI_94 hF_97 hG_98 v_16 (rv_16) v_17 (rv_17) v_18 (r_43) hm_19 hm_21 (hd_t (hd_fq W9 hLx hkx hd_20 hFI_52 (by decide)) ex_93)
            · skip
              have n_99 : ¬ x_45 = 0 := h_49
              have r_100 := ne_lo (lo := 1) n_99 rx_45 rc_0 rfl (by decide)
              refine g_goto C (tgt := 119) dX12_drawMeals_53 (by decide) ?_
              refine g_lo (is := [0, 1, 2, 3, 4, 5]) (lo2 := [(0, .ref x), (1, .int a0), (2, .int a1), (3, .int v_16), (4, .int v_17), (5, .int v_18)]) rfl ?_
              exact j_119 I_11 J_12 hU_13 hF_14 hG_15 v_16 (rv_16) v_17 (rv_17) v_18 (r_43) hm_19 hm_21 hd_20
      refine g_iload C 4 dX12_drawMeals_24 rfl ?_
      refine g_iload_n C 3 dX12_drawMeals_26 rfl rfl ?_
      refine g_icmp_ge C (tgt := 135) dX12_drawMeals_27 (by decide) (fun h_101 => ?_) (fun h_101 => ?_)
      · skip
        refine g_iload_n C 3 dX12_drawMeals_135 rfl rfl ?_
        exact g_zret (ty := .int) (r := v_7) B K rfl (rfl) ⟨hU_4, hF_5, hG_6, rv_7, hd_9⟩ dX12_drawMeals_136
      · skip
        have r_102 := lt_l (hi := 59) (nle h_101) rv_8 rv_7 (by decide)
        have r_103 := lt_r (lo := 1) (nle h_101) rv_8 rv_7 (by decide)
        refine g_iconst C (v := 0) dX12_drawMeals_30 (by decide) ?_
        refine g_istore C dX12_drawMeals_31 (by decide) (lo2 := [(5, .int 0), (0, .ref x), (1, .int a0), (2, .int a1), (3, .int v_7), (4, .int v_8)]) rfl ?_
        refine g_lo (is := [1, 2, 3, 4, 5, 0]) (lo2 := [(0, .ref x), (1, .int a0), (2, .int a1), (3, .int v_7), (4, .int v_8), (5, .int 0)]) rfl ?_
        exact l_33 8 I_2 J_3 hU_4 hF_5 hG_6 v_7 (r_103) v_8 (r_102) 0 (rg_w rc_0 (by decide) (by decide)) hm_10 hd_9 (ms_s (a := 0) (b := 7) (N := 8) (rg_w rc_0 (by decide) (by decide)) (by decide))
  refine g_aload_n C 0 dX12_drawMeals_0 rfl rfl ?_
  refine g_iload_n C 2 dX12_drawMeals_1 rfl rfl ?_
  refine h_putI C K hLx hkx f_12_351 p_12_41 dX12_drawMeals_2 (fun I_104 hI_104 => ?_)
  have hU_105 := iw_put W9 hU hI_104 (ro_o hkx (by decide)) (lo := (-2147483648)) (hi := 2147483647) (rfl) ((rg_all a1)) rfl
  have hF_106 := fq_puto hF hI_104 hkx (by decide) (by decide)
  refine g_iload_n C 1 dX12_drawMeals_5 rfl rfl ?_
  refine g_sipush C (v := 200) dX12_drawMeals_6 (by decide) ?_
  refine g_aload_n C 0 dX12_drawMeals_9 rfl rfl ?_
  refine g_getR C K hLx hkx f_12_13 hb_1 dX12_drawMeals_10 ?_
  refine g_bipush C (v := 72) dX12_drawMeals_13 (by decide) ?_
  obtain ⟨x_107, hx_107, rx_107⟩ := ex_any (z0 := I_104 b_1 (72))
  refine h_iald C K hb_1L hb_1k (v := x_107) (72) (by decide) (by decide) (by rw [hb_1n]; decide) hx_107 dX12_drawMeals_15 ?_
  obtain ⟨x_108, hx_108, rx_108⟩ := ex_any (z0 := 200 - x_107)
  refine g_isub C (v := x_108) dX12_drawMeals_16 hx_108 ?_
  refine g_callSI C K (c_X12_least W9 a0 x_108  hU_105) s_12_265 rfl ⟨rfl, rfl⟩ ⟨Nat.le_of_ble_eq_true rfl, Nat.le_of_ble_eq_true rfl⟩ (Nat.le_of_ble_eq_true rfl) ⟨Nat.le_of_ble_eq_true rfl, Nat.le_of_ble_eq_true rfl⟩ dX12_drawMeals_17 rfl (st := []) (fun x_109 I_110 J_111 h_112 => ?_)
  obtain ⟨rfl, rfl, rx_109, ex_109⟩ := h_112
  have r_113 := ls_rg ex_109 ra0 rx_108 (lo := (-2147483648)) (hi := 60) (by decide) (by decide)
  refine g_istore_n C dX12_drawMeals_20 rfl (by decide) (lo2 := [(3, .int x_109), (0, .ref x), (1, .int a0), (2, .int a1)]) rfl ?_
  refine g_iconst C (v := 0) dX12_drawMeals_21 (by decide) ?_
  refine g_istore C dX12_drawMeals_22 (by decide) (lo2 := [(4, .int 0), (3, .int x_109), (0, .ref x), (1, .int a0), (2, .int a1)]) rfl ?_
  refine g_lo (is := [2, 3, 4, 1, 0]) (lo2 := [(0, .ref x), (1, .int a0), (2, .int a1), (3, .int x_109), (4, .int 0)]) rfl ?_
  exact l_24 61 I_104 J hU_105 hF_106 hG x_109 (r_113) 0 (rg_w rc_0 (by decide) (by decide)) (hd_u (r := 0) W9 hLx hkx hd_rf hI_104 (Or.inl (ro_o hkx (by decide)))) (ms_s (a := 0) (b := 60) (N := 61) (rg_w rc_0 (by decide) (by decide)) (by decide))
set_option maxRecDepth 100000 in
set_option maxHeartbeats 8000000 in
theorem c_X12_drawn {l : Launch} {D : va_G} {cy : Nat → ClassId} {L : List Nat} {κ ln : Nat → Nat} {R : Nat → Nat → Option Nat} {I : Nat → Nat → Int32} {J : Nat → Nat → Int64} {ow : Nat → Nat × Nat} (W9 : ∀ a ∈ L, Shp L κ ln R ow a) {x : Nat} (hLx : x ∈ L) (hkx : κ x = 12) (a0 : Int32) (a1 : Int32) (hU : Iw L κ R ow I) : CtI l yX12_drawn cX12_drawn 3 (some .int) { frames := 6, cells := 0, slots := 0, locals := 146 } D cy L κ ln R I J [.ref x, .int a0, .int a1] (fun r I2 J2 => Iw L κ R ow I2 ∧ Fq L κ ow [1200, 1223, 1241, 83400, 83700] I I2 ∧ Fq L κ ow [] J J2 ∧ Rg (-2147483648) 60 r ∧ (Hd_ R x I I2)) := by
  refine CtI.of (by decide +kernel) (Nat.le_of_ble_eq_true rfl) ?_
  intro p e s m below meth c B K
  have C := B.1
  have hF : Fq L κ ow [1200, 1223, 1241, 83400, 83700] I I := fq_rf
  have hG : Fq L κ ow [] J J := fq_rf
  obtain ⟨b_1, hb_1, hb_1L, hb_1k, hb_1n, hb_1o⟩ := shp_a (W9 x hLx) hkx 14 14 389 rfl (by decide)
  refine g_lo (is := [0, 1, 2]) (lo2 := [(0, .ref x), (1, .int a0), (2, .int a1)]) rfl ?_
  refine g_aload_n C 0 dX12_drawn_0 rfl rfl ?_
  refine g_iconst C (v := 0) dX12_drawn_1 (by decide) ?_
  refine h_putI C K hLx hkx f_12_82 p_12_0 dX12_drawn_2 (fun I_2 hI_2 => ?_)
  have hU_3 := iw_put W9 hU hI_2 (ro_o hkx (by decide)) (lo := (-2147483648)) (hi := 2147483647) (rfl) (rg_all _) rfl
  have hF_4 := fq_puto hF hI_2 hkx (by decide) (by decide)
  refine g_iload_n C 1 dX12_drawn_5 rfl rfl ?_
  refine g_iconst C (v := 1) dX12_drawn_6 (by decide) ?_
  refine g_bipush C (v := 60) dX12_drawn_7 (by decide) ?_
  refine g_callSI C K (c_X12_isIn W9 a0 1 60 (rg_w rc_1 (by decide) (by decide)) (rg_w rc_60 (by decide) (by decide)) hU_3) s_12_149 rfl ⟨rfl, rfl⟩ ⟨Nat.le_of_ble_eq_true rfl, Nat.le_of_ble_eq_true rfl⟩ (Nat.le_of_ble_eq_true rfl) ⟨Nat.le_of_ble_eq_true rfl, Nat.le_of_ble_eq_true rfl⟩ dX12_drawn_9 rfl (st := []) (fun x_5 I_6 J_7 h_8 => ?_)
  obtain ⟨rfl, rfl, rx_5, fx_5, ex_5⟩ := h_8
  refine g_if_eq C (tgt := 24) dX12_drawn_12 (by decide) (fun h_9 => ?_) (fun h_9 => ?_)
  · skip
    have r_10 := (⟨(rx_5).1, (eq_rg (h_9) rc_0).2⟩ : Rg 0 0 x_5)
    refine g_iconst C (v := (-1)) dX12_drawn_24 (by decide) ?_
    exact g_zret (ty := .int) (r := (-1)) B K rfl (rfl) ⟨hU_3, hF_4, hG, rg_w rc_m1 (by decide) (by decide), (hd_u (r := 0) W9 hLx hkx hd_rf hI_2 (Or.inl (ro_o hkx (by decide))))⟩ dX12_drawn_25
  · skip
    have n_11 : ¬ x_5 = 0 := h_9
    have r_12 := ne_lo (lo := 1) n_11 rx_5 rc_0 rfl (by decide)
    have r_13 := le_r (((ex_5.1) n_11)) rc_1 (rg_all a0)
    have r_14 := le_l (((ex_5.2) n_11)) r_13 rc_60
    refine g_aload_n C 0 dX12_drawn_15 rfl rfl ?_
    refine g_getR C K hLx hkx f_12_13 hb_1 dX12_drawn_16 ?_
    refine g_iconst C (v := 0) dX12_drawn_19 (by decide) ?_
    obtain ⟨x_15, hx_15, rx_15⟩ := ex_getw (I := I_2) (a := b_1) (j := 0) (lo := 0) (hi := 7) hU_3.1 hb_1L (ro_a hb_1k (by decide) hb_1o hkx rfl) (by decide)
    refine h_iald C K hb_1L hb_1k (v := x_15) (0) (by decide) (by decide) (by rw [hb_1n]; decide) hx_15 dX12_drawn_20 ?_
    refine g_if_ne C (tgt := 26) dX12_drawn_21 (by decide) (fun h_16 => ?_) (fun h_16 => ?_)
    · skip
      have n_17 : ¬ x_15 = 0 := h_16
      have r_18 := ne_lo (lo := 1) n_17 rx_15 rc_0 rfl (by decide)
      refine g_aload_n C 0 dX12_drawn_26 rfl rfl ?_
      refine g_getR C K hLx hkx f_12_13 hb_1 dX12_drawn_27 ?_
      refine g_bipush C (v := 72) dX12_drawn_30 (by decide) ?_
      obtain ⟨x_19, hx_19, rx_19⟩ := ex_any (z0 := I_2 b_1 (72))
      refine h_iald C K hb_1L hb_1k (v := x_19) (72) (by decide) (by decide) (by rw [hb_1n]; decide) hx_19 dX12_drawn_32 ?_
      refine g_sipush C (v := 200) dX12_drawn_33 (by decide) ?_
      refine g_icmp_ne C (tgt := 41) dX12_drawn_36 (by decide) (fun h_20 => ?_) (fun h_20 => ?_)
      · skip
        have n_21 : ¬ x_19 = 200 := h_20
        refine g_aload_n C 0 dX12_drawn_41 rfl rfl ?_
        refine g_callVV C K (c_X12_snap W9 hLx hkx   hU_3) hLx hkx (by decide) rfl v_12_282 rfl ⟨rfl, rfl⟩ ⟨Nat.le_of_ble_eq_true rfl, Nat.le_of_ble_eq_true rfl⟩ (Nat.le_of_ble_eq_true rfl) ⟨Nat.le_of_ble_eq_true rfl, Nat.le_of_ble_eq_true rfl⟩ dX12_drawn_42 rfl (st := []) (fun I_23 J_24 h_25 => ?_)
        obtain ⟨hUI_23, hFI_23, hGJ_24, ex_22⟩ := h_25
        have hF_26 := fq_tr hF_4 hFI_23 (by decide)
        have hG_27 := fq_tr hG hGJ_24 (by decide)
        refine g_aload_n C 0 dX12_drawn_45 rfl rfl ?_
        refine g_iload_n C 1 dX12_drawn_46 rfl rfl ?_
        refine g_iload_n C 2 dX12_drawn_47 rfl rfl ?_
        refine g_callVI C K (c_X12_drawMeals W9 hLx hkx a0 a1 (r_14) hUI_23) hLx hkx (by decide) rfl v_12_358 rfl ⟨rfl, rfl⟩ ⟨Nat.le_of_ble_eq_true rfl, Nat.le_of_ble_eq_true rfl⟩ (Nat.le_of_ble_eq_true rfl) ⟨Nat.le_of_ble_eq_true rfl, Nat.le_of_ble_eq_true rfl⟩ dX12_drawn_48 rfl (st := []) (fun x_28 I_29 J_30 h_31 => ?_)
        obtain ⟨hUI_29, hFI_29, hGJ_30, rx_28, ex_28⟩ := h_31
        have hF_32 := fq_tr hF_26 hFI_29 (by decide)
        have hG_33 := fq_tr hG_27 hGJ_30 (by decide)
        exact g_zret (ty := .int) (r := x_28) B K rfl (rfl) ⟨hUI_29, hF_32, hG_33, rx_28, (hd_t (hd_t (hd_u (r := 0) W9 hLx hkx hd_rf hI_2 (Or.inl (ro_o hkx (by decide)))) ex_22) ex_28)⟩ dX12_drawn_51
      · skip
        have r_34 := (⟨(eq_rg (h_20) rc_200).1, (eq_rg (h_20) rc_200).2⟩ : Rg 200 200 x_19)
        refine g_iconst C (v := 0) dX12_drawn_39 (by decide) ?_
        exact g_zret (ty := .int) (r := 0) B K rfl (rfl) ⟨hU_3, hF_4, hG, rg_w rc_0 (by decide) (by decide), (hd_u (r := 0) W9 hLx hkx hd_rf hI_2 (Or.inl (ro_o hkx (by decide))))⟩ dX12_drawn_40
    · skip
      have r_35 := (⟨(rx_15).1, (eq_rg (h_16) rc_0).2⟩ : Rg 0 0 x_15)
      refine g_iconst C (v := (-1)) dX12_drawn_24 (by decide) ?_
      exact g_zret (ty := .int) (r := (-1)) B K rfl (rfl) ⟨hU_3, hF_4, hG, rg_w rc_m1 (by decide) (by decide), (hd_u (r := 0) W9 hLx hkx hd_rf hI_2 (Or.inl (ro_o hkx (by decide))))⟩ dX12_drawn_25
set_option maxRecDepth 100000 in
set_option maxHeartbeats 8000000 in
theorem c_X12_odds {l : Launch} {D : va_G} {cy : Nat → ClassId} {L : List Nat} {κ ln : Nat → Nat} {R : Nat → Nat → Option Nat} {I : Nat → Nat → Int32} {J : Nat → Nat → Int64} {ow : Nat → Nat × Nat} (W9 : ∀ a ∈ L, Shp L κ ln R ow a) {x : Nat} (hLx : x ∈ L) (hkx : κ x = 12) (a0 : Int32) (a1 : Int32) (a2 : Int32) (hU : Iw L κ R ow I) : CtI l yX12_odds cX12_odds 6 (some .int) { frames := 6, cells := 0, slots := 0, locals := 146 } D cy L κ ln R I J [.ref x, .int a0, .int a1, .int a2] (fun r I2 J2 => Iw L κ R ow I2 ∧ Fq L κ ow [1200, 1241, 83400, 83800] I I2 ∧ Fq L κ ow [] J J2 ∧ Rg (-2147483648) 2147483647 r ∧ (Hd_ R x I I2)) := by
  refine CtI.of (by decide +kernel) (Nat.le_of_ble_eq_true rfl) ?_
  intro p e s m below meth c B K
  have C := B.1
  have hF : Fq L κ ow [1200, 1241, 83400, 83800] I I := fq_rf
  have hG : Fq L κ ow [] J J := fq_rf
  refine g_lo (is := [0, 1, 2, 3]) (lo2 := [(0, .ref x), (1, .int a0), (2, .int a1), (3, .int a2)]) rfl ?_
  have l_35 : ∀ (n_35 : Nat) (I_1 : Nat → Nat → Int32) (J_2 : Nat → Nat → Int64) (hU_3 : Iw L κ R ow I_1) (hF_4 : Fq L κ ow [1200, 1241, 83400, 83800] I I_1) (hG_5 : Fq L κ ow [] J J_2) (r_6 : Rg 0 6 a0) (r_7 : Rg 1 30 a1) (v_8 : Int32) (v_9 : Int32) (rv_9 : Rg 0 30 v_9) (q_10 : I_1 x 0 = 0) (hd_11 : Hd_ R x I I_1) (ga_12 : Ga_ R x I_1) (hm_13 : 30 < (v_9 : Int32).toInt + (n_35 : Int)), WG p l e { frames := 6, cells := 0, slots := 0, locals := 146 } s m ([.ref x, .int a0, .int a1, .int a2] : List Value).toArray below meth c 6 0 0 (MQ below (Qi_ D cy L κ ln R (fun r I2 J2 => Iw L κ R ow I2 ∧ Fq L κ ow [1200, 1241, 83400, 83800] I I2 ∧ Fq L κ ow [] J J2 ∧ Rg (-2147483648) 2147483647 r ∧ (Hd_ R x I I2))) ([.ref x, .int a0, .int a1, .int a2] : List Value).toArray s 0 0 (Al_ L)) D cy (Al_ L) s.heap L κ ln R I_1 J_2 35 [(0, .ref x), (1, .int a0), (2, .int a1), (3, .int a2), (4, .int v_8), (5, .int v_9)] [] := by
    intro n_35
    induction n_35 with
    | zero =>
      intro I_1 J_2 hU_3 hF_4 hG_5 r_6 r_7 v_8 v_9 rv_9 q_10 hd_11 ga_12 hm_13
      exact ms_0 rv_9 hm_13
    | succ n_35 ih_35 =>
      intro I_1 J_2 hU_3 hF_4 hG_5 r_6 r_7 v_8 v_9 rv_9 q_10 hd_11 ga_12 hm_13
      have j_63 : ∀ (I_14 : Nat → Nat → Int32) (J_15 : Nat → Nat → Int64) (hU_16 : Iw L κ R ow I_14) (hF_17 : Fq L κ ow [1200, 1241, 83400, 83800] I I_14) (hG_18 : Fq L κ ow [] J J_15) (r_19 : Rg 0 6 a0) (r_20 : Rg 1 30 a1) (v_21 : Int32) (v_22 : Int32) (rv_22 : Rg 0 29 v_22) (q_23 : I_14 x 0 = 0) (hm_24 : 30 < (v_22 : Int32).toInt + ((n_35 + 1 : Nat) : Int)) (hd_25 : Hd_ R x I I_14) (ga_26 : Ga_ R x I_14), WG p l e { frames := 6, cells := 0, slots := 0, locals := 146 } s m ([.ref x, .int a0, .int a1, .int a2] : List Value).toArray below meth c 6 0 0 (MQ below (Qi_ D cy L κ ln R (fun r I2 J2 => Iw L κ R ow I2 ∧ Fq L κ ow [1200, 1241, 83400, 83800] I I2 ∧ Fq L κ ow [] J J2 ∧ Rg (-2147483648) 2147483647 r ∧ (Hd_ R x I I2))) ([.ref x, .int a0, .int a1, .int a2] : List Value).toArray s 0 0 (Al_ L)) D cy (Al_ L) s.heap L κ ln R I_14 J_15 63 [(0, .ref x), (1, .int a0), (2, .int a1), (3, .int a2), (4, .int v_21), (5, .int v_22)] [] := by
        intro I_14 J_15 hU_16 hF_17 hG_18 r_19 r_20 v_21 v_22 rv_22 q_23 hm_24 hd_25 ga_26
        refine g_aload_n C 0 dX12_odds_63 rfl rfl ?_
        refine g_callVV C K (c_X12_takeBack W9 hLx hkx   hU_16  (ga_26)) hLx hkx (by decide) rfl v_12_332 rfl ⟨rfl, rfl⟩ ⟨Nat.le_of_ble_eq_true rfl, Nat.le_of_ble_eq_true rfl⟩ (Nat.le_of_ble_eq_true rfl) ⟨Nat.le_of_ble_eq_true rfl, Nat.le_of_ble_eq_true rfl⟩ dX12_odds_64 rfl (st := []) (fun I_28 J_29 h_30 => ?_)
        obtain ⟨hUI_28, hFI_28, hGJ_29, ex_27⟩ := h_30
        have hF_31 := fq_tr hF_17 hFI_28 (by decide)
        have hG_32 := fq_tr hG_18 hGJ_29 (by decide)
        obtain ⟨x_33, hx_33, rx_33, tx_33⟩ := ex_add (y := 1) 1 30 rv_22 rc_1 (by decide) (by decide) (by decide) (by decide)
        refine g_iinc C dX12_odds_67 (k := 5) (v := x_33) rfl hx_33 (by decide) (lo2 := [(5, .int x_33), (0, .ref x), (1, .int a0), (2, .int a1), (3, .int a2), (4, .int v_21)]) rfl ?_
        refine g_goto C (tgt := 35) dX12_odds_70 (by decide) ?_
        refine g_lo (is := [1, 2, 3, 4, 5, 0]) (lo2 := [(0, .ref x), (1, .int a0), (2, .int a1), (3, .int a2), (4, .int v_21), (5, .int x_33)]) rfl ?_
        exact ih_35 I_28 J_29 hUI_28 hF_31 hG_32 (r_19) (r_20) v_21 x_33 (rg_w rx_33 (by decide) (by decide)) (fq_at hFI_28 hLx hkx (by decide) (by decide) q_23) (hd_t hd_25 ex_27) (ga_mv W9 hLx hkx ga_26 ex_27 hFI_28 (by decide)) (ms_1 hm_24 (ti_k tx_33 rc_1) (by decide))
      refine g_iload C 5 dX12_odds_35 rfl ?_
      refine g_iload_n C 2 dX12_odds_37 rfl rfl ?_
      refine g_icmp_ge C (tgt := 73) dX12_odds_38 (by decide) (fun h_34 => ?_) (fun h_34 => ?_)
      · skip
        have r_35 := le_r (h_34) r_7 rv_9
        refine g_iload C 4 dX12_odds_73 rfl ?_
        exact g_zret (ty := .int) (r := v_8) B K rfl (rfl) ⟨hU_3, hF_4, hG_5, (rg_all v_8), hd_11⟩ dX12_odds_75
      · skip
        have r_36 := lt_l (hi := 29) (nle h_34) rv_9 r_7 (by decide)
        refine g_aload_n C 0 dX12_odds_41 rfl rfl ?_
        refine g_bipush C (v := 10) dX12_odds_42 (by decide) ?_
        refine g_iload_n C 3 dX12_odds_44 rfl rfl ?_
        refine g_iload C 5 dX12_odds_45 rfl ?_
        obtain ⟨x_37, hx_37, rx_37⟩ := ex_any (z0 := a2 + v_9)
        refine g_iadd C (v := x_37) dX12_odds_47 hx_37 ?_
        refine g_callVI C K (c_X12_drawMeals W9 hLx hkx 10 x_37 (rg_w rc_10 (by decide) (by decide)) hU_3) hLx hkx (by decide) rfl v_12_358 rfl ⟨rfl, rfl⟩ ⟨Nat.le_of_ble_eq_true rfl, Nat.le_of_ble_eq_true rfl⟩ (Nat.le_of_ble_eq_true rfl) ⟨Nat.le_of_ble_eq_true rfl, Nat.le_of_ble_eq_true rfl⟩ dX12_odds_48 rfl (st := []) (fun x_38 I_39 J_40 h_41 => ?_)
        obtain ⟨hUI_39, hFI_39, hGJ_40, rx_38, ex_38⟩ := h_41
        have hF_42 := fq_tr hF_4 hFI_39 (by decide)
        have hG_43 := fq_tr hG_5 hGJ_40 (by decide)
        refine g_pop C dX12_odds_51 rfl ?_
        refine g_aload_n C 0 dX12_odds_52 rfl rfl ?_
        refine g_iload_n C 1 dX12_odds_53 rfl rfl ?_
        refine g_callVI C K (c_X12_isDead W9 hLx hkx a0 (r_6) hUI_39) hLx hkx (by decide) rfl v_12_244 rfl ⟨rfl, rfl⟩ ⟨Nat.le_of_ble_eq_true rfl, Nat.le_of_ble_eq_true rfl⟩ (Nat.le_of_ble_eq_true rfl) ⟨Nat.le_of_ble_eq_true rfl, Nat.le_of_ble_eq_true rfl⟩ dX12_odds_54 rfl (st := []) (fun x_44 I_45 J_46 h_47 => ?_)
        obtain ⟨rfl, rfl, rx_44⟩ := h_47
        refine g_if_ne C (tgt := 63) dX12_odds_57 (by decide) (fun h_48 => ?_) (fun h_48 => ?_)
        · skip
          have n_49 : ¬ x_44 = 0 := h_48
          have r_50 := ne_lo (lo := 1) n_49 rx_44 rc_0 rfl (by decide)
          refine g_lo (is := [0, 1, 2, 3, 4, 5]) (lo2 := [(0, .ref x), (1, .int a0), (2, .int a1), (3, .int a2), (4, .int v_8), (5, .int v_9)]) rfl ?_
          exact j_63 I_39 J_40 hUI_39 hF_42 hG_43 (r_6) (r_7) v_8 v_9 (r_36) (fq_at hFI_39 hLx hkx (by decide) (by decide) q_10) hm_13 (hd_t hd_11 ex_38) (ga_mv W9 hLx hkx ga_12 ex_38 hFI_39 (by decide))
        · skip
          have r_51 := (⟨(rx_44).1, (eq_rg (h_48) rc_0).2⟩ : Rg 0 0 x_44)
          obtain ⟨x_52, hx_52, rx_52⟩ := ex_any (z0 := v_8 + 1)
          refine g_iinc C dX12_odds_60 (k := 4) (v := x_52) rfl hx_52 (by decide) (lo2 := [(4, .int x_52), (0, .ref x), (1, .int a0), (2, .int a1), (3, .int a2), (5, .int v_9)]) rfl ?_
          refine g_lo (is := [1, 2, 3, 4, 0, 5]) (lo2 := [(0, .ref x), (1, .int a0), (2, .int a1), (3, .int a2), (4, .int x_52), (5, .int v_9)]) rfl ?_
          exact j_63 I_39 J_40 hUI_39 hF_42 hG_43 (r_6) (r_7) x_52 v_9 (r_36) (fq_at hFI_39 hLx hkx (by decide) (by decide) q_10) hm_13 (hd_t hd_11 ex_38) (ga_mv W9 hLx hkx ga_12 ex_38 hFI_39 (by decide))
  refine g_aload_n C 0 dX12_odds_0 rfl rfl ?_
  refine g_iconst C (v := 0) dX12_odds_1 (by decide) ?_
  refine h_putI C K hLx hkx f_12_82 p_12_0 dX12_odds_2 (fun I_53 hI_53 => ?_)
  have hU_54 := iw_put W9 hU hI_53 (ro_o hkx (by decide)) (lo := (-2147483648)) (hi := 2147483647) (rfl) (rg_all _) rfl
  have hF_55 := fq_puto hF hI_53 hkx (by decide) (by decide)
  refine g_aload_n C 0 dX12_odds_5 rfl rfl ?_
  refine g_iload_n C 1 dX12_odds_6 rfl rfl ?_
  refine g_callVI C K (c_X12_isPerson W9 hLx hkx a0  hU_54) hLx hkx (by decide) rfl v_12_238 rfl ⟨rfl, rfl⟩ ⟨Nat.le_of_ble_eq_true rfl, Nat.le_of_ble_eq_true rfl⟩ (Nat.le_of_ble_eq_true rfl) ⟨Nat.le_of_ble_eq_true rfl, Nat.le_of_ble_eq_true rfl⟩ dX12_odds_7 rfl (st := []) (fun x_56 I_57 J_58 h_59 => ?_)
  obtain ⟨rfl, rfl, rx_56, ex_56⟩ := h_59
  refine g_if_eq C (tgt := 23) dX12_odds_10 (by decide) (fun h_60 => ?_) (fun h_60 => ?_)
  · skip
    have r_61 := (⟨(rx_56).1, (eq_rg (h_60) rc_0).2⟩ : Rg 0 0 x_56)
    refine g_iconst C (v := (-1)) dX12_odds_23 (by decide) ?_
    exact g_zret (ty := .int) (r := (-1)) B K rfl (rfl) ⟨hU_54, hF_55, hG, rg_all _, (hd_u (r := 0) W9 hLx hkx hd_rf hI_53 (Or.inl (ro_o hkx (by decide))))⟩ dX12_odds_24
  · skip
    have n_62 : ¬ x_56 = 0 := h_60
    have r_63 := ne_lo (lo := 1) n_62 rx_56 rc_0 rfl (by decide)
    have r_64 := rg_i (rg_all a0) ((ex_56) n_62) (lo := 0) (hi := 6) (by decide) (by decide)
    refine g_iload_n C 2 dX12_odds_13 rfl rfl ?_
    refine g_iconst C (v := 1) dX12_odds_14 (by decide) ?_
    refine g_bipush C (v := 30) dX12_odds_15 (by decide) ?_
    refine g_callSI C K (c_X12_isIn W9 a1 1 30 (rg_w rc_1 (by decide) (by decide)) (rg_w rc_30 (by decide) (by decide)) hU_54) s_12_149 rfl ⟨rfl, rfl⟩ ⟨Nat.le_of_ble_eq_true rfl, Nat.le_of_ble_eq_true rfl⟩ (Nat.le_of_ble_eq_true rfl) ⟨Nat.le_of_ble_eq_true rfl, Nat.le_of_ble_eq_true rfl⟩ dX12_odds_17 rfl (st := []) (fun x_65 I_66 J_67 h_68 => ?_)
    obtain ⟨rfl, rfl, rx_65, fx_65, ex_65⟩ := h_68
    refine g_if_ne C (tgt := 25) dX12_odds_20 (by decide) (fun h_69 => ?_) (fun h_69 => ?_)
    · skip
      have n_70 : ¬ x_65 = 0 := h_69
      have r_71 := ne_lo (lo := 1) n_70 rx_65 rc_0 rfl (by decide)
      have r_72 := le_r (((ex_65.1) n_70)) rc_1 (rg_all a1)
      have r_73 := le_l (((ex_65.2) n_70)) r_72 rc_30
      refine g_aload_n C 0 dX12_odds_25 rfl rfl ?_
      refine g_callVV C K (c_X12_layAside W9 hLx hkx   hU_54) hLx hkx (by decide) rfl v_12_329 rfl ⟨rfl, rfl⟩ ⟨Nat.le_of_ble_eq_true rfl, Nat.le_of_ble_eq_true rfl⟩ (Nat.le_of_ble_eq_true rfl) ⟨Nat.le_of_ble_eq_true rfl, Nat.le_of_ble_eq_true rfl⟩ dX12_odds_26 rfl (st := []) (fun I_75 J_76 h_77 => ?_)
      obtain ⟨hUI_75, hFI_75, hGJ_76, ex_74⟩ := h_77
      have hF_78 := fq_tr hF_55 hFI_75 (by decide)
      have hG_79 := fq_tr hG hGJ_76 (by decide)
      refine g_iconst C (v := 0) dX12_odds_29 (by decide) ?_
      refine g_istore C dX12_odds_30 (by decide) (lo2 := [(4, .int 0), (0, .ref x), (1, .int a0), (2, .int a1), (3, .int a2)]) rfl ?_
      refine g_iconst C (v := 0) dX12_odds_32 (by decide) ?_
      refine g_istore C dX12_odds_33 (by decide) (lo2 := [(5, .int 0), (4, .int 0), (0, .ref x), (1, .int a0), (2, .int a1), (3, .int a2)]) rfl ?_
      refine g_lo (is := [2, 3, 4, 5, 1, 0]) (lo2 := [(0, .ref x), (1, .int a0), (2, .int a1), (3, .int a2), (4, .int 0), (5, .int 0)]) rfl ?_
      exact l_35 31 I_75 J_76 hUI_75 hF_78 hG_79 (r_64) (r_73) 0 0 (rg_w rc_0 (by decide) (by decide)) (fq_at hFI_75 hLx hkx (by decide) (by decide) (kp_s hI_53)) (hd_t (hd_u (r := 0) W9 hLx hkx hd_rf hI_53 (Or.inl (ro_o hkx (by decide)))) ex_74.1) ex_74.2 (ms_s (a := 0) (b := 30) (N := 31) (rg_w rc_0 (by decide) (by decide)) (by decide))
    · skip
      have r_80 := (⟨(rx_65).1, (eq_rg (h_69) rc_0).2⟩ : Rg 0 0 x_65)
      refine g_iconst C (v := (-1)) dX12_odds_23 (by decide) ?_
      exact g_zret (ty := .int) (r := (-1)) B K rfl (rfl) ⟨hU_54, hF_55, hG, rg_all _, (hd_u (r := 0) W9 hLx hkx hd_rf hI_53 (Or.inl (ro_o hkx (by decide))))⟩ dX12_odds_24
