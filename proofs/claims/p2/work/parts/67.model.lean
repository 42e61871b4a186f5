theorem dX12_accept_0 : decode cX12_accept 0 = .ok (.aload_n 0, 1) := by decide +kernel
theorem dX12_accept_1 : decode cX12_accept 1 = .ok (.iconst 0, 1) := by decide +kernel
theorem dX12_accept_2 : decode cX12_accept 2 = .ok (.putfield 82, 3) := by decide +kernel
theorem dX12_accept_5 : decode cX12_accept 5 = .ok (.aload_n 0, 1) := by decide +kernel
theorem dX12_accept_6 : decode cX12_accept 6 = .ok (.iload_n 1, 1) := by decide +kernel
theorem dX12_accept_7 : decode cX12_accept 7 = .ok (.invokevirtual 238, 3) := by decide +kernel
theorem dX12_accept_10 : decode cX12_accept 10 = .ok (.ifCond .eq 14, 3) := by decide +kernel
theorem dX12_accept_13 : decode cX12_accept 13 = .ok (.aload_n 0, 1) := by decide +kernel
theorem dX12_accept_14 : decode cX12_accept 14 = .ok (.iconst 4, 1) := by decide +kernel
theorem dX12_accept_15 : decode cX12_accept 15 = .ok (.iload_n 1, 1) := by decide +kernel
theorem dX12_accept_16 : decode cX12_accept 16 = .ok (.iconst 0, 1) := by decide +kernel
theorem dX12_accept_17 : decode cX12_accept 17 = .ok (.iconst 0, 1) := by decide +kernel
theorem dX12_accept_18 : decode cX12_accept 18 = .ok (.invokevirtual 289, 3) := by decide +kernel
theorem dX12_accept_21 : decode cX12_accept 21 = .ok (.goto 4, 3) := by decide +kernel
theorem dX12_accept_24 : decode cX12_accept 24 = .ok (.iconst (-1), 1) := by decide +kernel
theorem dX12_accept_25 : decode cX12_accept 25 = .ok (.ireturn, 1) := by decide +kernel
theorem dX12_begin_0 : decode cX12_begin 0 = .ok (.aload_n 0, 1) := by decide +kernel
theorem dX12_begin_1 : decode cX12_begin 1 = .ok (.iconst 0, 1) := by decide +kernel
theorem dX12_begin_2 : decode cX12_begin 2 = .ok (.putfield 82, 3) := by decide +kernel
theorem dX12_begin_5 : decode cX12_begin 5 = .ok (.aload_n 0, 1) := by decide +kernel
theorem dX12_begin_6 : decode cX12_begin 6 = .ok (.aload_n 0, 1) := by decide +kernel
theorem dX12_begin_7 : decode cX12_begin 7 = .ok (.invokevirtual 162, 3) := by decide +kernel
theorem dX12_begin_10 : decode cX12_begin 10 = .ok (.putfield 92, 3) := by decide +kernel
theorem dX12_begin_13 : decode cX12_begin 13 = .ok (.aload_n 0, 1) := by decide +kernel
theorem dX12_begin_14 : decode cX12_begin 14 = .ok (.iload_n 1, 1) := by decide +kernel
theorem dX12_begin_15 : decode cX12_begin 15 = .ok (.putfield 101, 3) := by decide +kernel
theorem dX12_begin_18 : decode cX12_begin 18 = .ok (.aload_n 0, 1) := by decide +kernel
theorem dX12_begin_19 : decode cX12_begin 19 = .ok (.iconst 0, 1) := by decide +kernel
theorem dX12_begin_20 : decode cX12_begin 20 = .ok (.putfield 140, 3) := by decide +kernel
theorem dX12_begin_23 : decode cX12_begin 23 = .ok (.aload_n 0, 1) := by decide +kernel
theorem dX12_begin_24 : decode cX12_begin 24 = .ok (.iconst 0, 1) := by decide +kernel
theorem dX12_begin_25 : decode cX12_begin 25 = .ok (.putfield 95, 3) := by decide +kernel
theorem dX12_begin_28 : decode cX12_begin 28 = .ok (.aload_n 0, 1) := by decide +kernel
theorem dX12_begin_29 : decode cX12_begin 29 = .ok (.invokevirtual 156, 3) := by decide +kernel
theorem dX12_begin_32 : decode cX12_begin 32 = .ok (.return_, 1) := by decide +kernel
theorem dX12_die_0 : decode cX12_die 0 = .ok (.aload_n 0, 1) := by decide +kernel
theorem dX12_die_1 : decode cX12_die 1 = .ok (.iconst 0, 1) := by decide +kernel
theorem dX12_die_2 : decode cX12_die 2 = .ok (.putfield 82, 3) := by decide +kernel
theorem dX12_die_5 : decode cX12_die 5 = .ok (.aload_n 0, 1) := by decide +kernel
theorem dX12_die_6 : decode cX12_die 6 = .ok (.iload_n 1, 1) := by decide +kernel
theorem dX12_die_7 : decode cX12_die 7 = .ok (.invokevirtual 238, 3) := by decide +kernel
theorem dX12_die_10 : decode cX12_die 10 = .ok (.ifCond .eq 14, 3) := by decide +kernel
theorem dX12_die_13 : decode cX12_die 13 = .ok (.aload_n 0, 1) := by decide +kernel
theorem dX12_die_14 : decode cX12_die 14 = .ok (.iconst 5, 1) := by decide +kernel
theorem dX12_die_15 : decode cX12_die 15 = .ok (.iload_n 1, 1) := by decide +kernel
theorem dX12_die_16 : decode cX12_die 16 = .ok (.iconst 0, 1) := by decide +kernel
theorem dX12_die_17 : decode cX12_die 17 = .ok (.iconst 0, 1) := by decide +kernel
theorem dX12_die_18 : decode cX12_die 18 = .ok (.invokevirtual 289, 3) := by decide +kernel
theorem dX12_die_21 : decode cX12_die 21 = .ok (.goto 4, 3) := by decide +kernel
theorem dX12_die_24 : decode cX12_die 24 = .ok (.iconst (-1), 1) := by decide +kernel
theorem dX12_die_25 : decode cX12_die 25 = .ok (.ireturn, 1) := by decide +kernel
theorem dX12_draw_0 : decode cX12_draw 0 = .ok (.aload_n 0, 1) := by decide +kernel
theorem dX12_draw_1 : decode cX12_draw 1 = .ok (.aload_n 0, 1) := by decide +kernel
theorem dX12_draw_2 : decode cX12_draw 2 = .ok (.getfield 351, 3) := by decide +kernel
theorem dX12_draw_5 : decode cX12_draw 5 = .ok (.ldc_w 354, 3) := by decide +kernel
theorem dX12_draw_8 : decode cX12_draw 8 = .ok (.imul, 1) := by decide +kernel
theorem dX12_draw_9 : decode cX12_draw 9 = .ok (.sipush 12345, 3) := by decide +kernel
theorem dX12_draw_12 : decode cX12_draw 12 = .ok (.iadd, 1) := by decide +kernel
theorem dX12_draw_13 : decode cX12_draw 13 = .ok (.putfield 351, 3) := by decide +kernel
theorem dX12_draw_16 : decode cX12_draw 16 = .ok (.aload_n 0, 1) := by decide +kernel
theorem dX12_draw_17 : decode cX12_draw 17 = .ok (.getfield 351, 3) := by decide +kernel
theorem dX12_draw_20 : decode cX12_draw 20 = .ok (.bipush 8, 2) := by decide +kernel
theorem dX12_draw_22 : decode cX12_draw 22 = .ok (.iushr, 1) := by decide +kernel
theorem dX12_draw_23 : decode cX12_draw 23 = .ok (.iload_n 1, 1) := by decide +kernel
theorem dX12_draw_24 : decode cX12_draw 24 = .ok (.irem, 1) := by decide +kernel
theorem dX12_draw_25 : decode cX12_draw 25 = .ok (.ireturn, 1) := by decide +kernel
theorem dX12_drawMeals_0 : decode cX12_drawMeals 0 = .ok (.aload_n 0, 1) := by decide +kernel
theorem dX12_drawMeals_1 : decode cX12_drawMeals 1 = .ok (.iload_n 2, 1) := by decide +kernel
theorem dX12_drawMeals_2 : decode cX12_drawMeals 2 = .ok (.putfield 351, 3) := by decide +kernel
theorem dX12_drawMeals_5 : decode cX12_drawMeals 5 = .ok (.iload_n 1, 1) := by decide +kernel
theorem dX12_drawMeals_6 : decode cX12_drawMeals 6 = .ok (.sipush 200, 3) := by decide +kernel
theorem dX12_drawMeals_9 : decode cX12_drawMeals 9 = .ok (.aload_n 0, 1) := by decide +kernel
theorem dX12_drawMeals_10 : decode cX12_drawMeals 10 = .ok (.getfield 13, 3) := by decide +kernel
theorem dX12_drawMeals_13 : decode cX12_drawMeals 13 = .ok (.bipush 72, 2) := by decide +kernel
theorem dX12_drawMeals_15 : decode cX12_drawMeals 15 = .ok (.iaload, 1) := by decide +kernel
theorem dX12_drawMeals_16 : decode cX12_drawMeals 16 = .ok (.isub, 1) := by decide +kernel
theorem dX12_drawMeals_17 : decode cX12_drawMeals 17 = .ok (.invokestatic 265, 3) := by decide +kernel
theorem dX12_drawMeals_20 : decode cX12_drawMeals 20 = .ok (.istore_n 3, 1) := by decide +kernel
theorem dX12_drawMeals_21 : decode cX12_drawMeals 21 = .ok (.iconst 0, 1) := by decide +kernel
theorem dX12_drawMeals_22 : decode cX12_drawMeals 22 = .ok (.istore 4, 2) := by decide +kernel
theorem dX12_drawMeals_24 : decode cX12_drawMeals 24 = .ok (.iload 4, 2) := by decide +kernel
theorem dX12_drawMeals_26 : decode cX12_drawMeals 26 = .ok (.iload_n 3, 1) := by decide +kernel
theorem dX12_drawMeals_27 : decode cX12_drawMeals 27 = .ok (.if_icmp .ge 108, 3) := by decide +kernel
theorem dX12_drawMeals_30 : decode cX12_drawMeals 30 = .ok (.iconst 0, 1) := by decide +kernel
theorem dX12_drawMeals_31 : decode cX12_drawMeals 31 = .ok (.istore 5, 2) := by decide +kernel
theorem dX12_drawMeals_33 : decode cX12_drawMeals 33 = .ok (.iload 5, 2) := by decide +kernel
theorem dX12_drawMeals_35 : decode cX12_drawMeals 35 = .ok (.aload_n 0, 1) := by decide +kernel
theorem dX12_drawMeals_36 : decode cX12_drawMeals 36 = .ok (.getfield 13, 3) := by decide +kernel
theorem dX12_drawMeals_39 : decode cX12_drawMeals 39 = .ok (.iconst 0, 1) := by decide +kernel
theorem dX12_drawMeals_40 : decode cX12_drawMeals 40 = .ok (.iaload, 1) := by decide +kernel
theorem dX12_drawMeals_41 : decode cX12_drawMeals 41 = .ok (.if_icmp .ge 84, 3) := by decide +kernel
theorem dX12_drawMeals_44 : decode cX12_drawMeals 44 = .ok (.aload_n 0, 1) := by decide +kernel
theorem dX12_drawMeals_45 : decode cX12_drawMeals 45 = .ok (.iload 5, 2) := by decide +kernel
theorem dX12_drawMeals_47 : decode cX12_drawMeals 47 = .ok (.invokevirtual 244, 3) := by decide +kernel
theorem dX12_drawMeals_50 : decode cX12_drawMeals 50 = .ok (.ifCond .eq 6, 3) := by decide +kernel
theorem dX12_drawMeals_53 : decode cX12_drawMeals 53 = .ok (.goto 66, 3) := by decide +kernel
theorem dX12_drawMeals_56 : decode cX12_drawMeals 56 = .ok (.aload_n 0, 1) := by decide +kernel
theorem dX12_drawMeals_57 : decode cX12_drawMeals 57 = .ok (.bipush 6, 2) := by decide +kernel
theorem dX12_drawMeals_59 : decode cX12_drawMeals 59 = .ok (.invokevirtual 355, 3) := by decide +kernel
theorem dX12_drawMeals_62 : decode cX12_drawMeals 62 = .ok (.istore 6, 2) := by decide +kernel
theorem dX12_drawMeals_64 : decode cX12_drawMeals 64 = .ok (.iload 6, 2) := by decide +kernel
theorem dX12_drawMeals_66 : decode cX12_drawMeals 66 = .ok (.ifCond .ne 21, 3) := by decide +kernel
theorem dX12_drawMeals_69 : decode cX12_drawMeals 69 = .ok (.aload_n 0, 1) := by decide +kernel
theorem dX12_drawMeals_70 : decode cX12_drawMeals 70 = .ok (.iload 5, 2) := by decide +kernel
theorem dX12_drawMeals_72 : decode cX12_drawMeals 72 = .ok (.invokevirtual 247, 3) := by decide +kernel
theorem dX12_drawMeals_75 : decode cX12_drawMeals 75 = .ok (.ifCond .le 44, 3) := by decide +kernel
theorem dX12_drawMeals_78 : decode cX12_drawMeals 78 = .ok (.aload_n 0, 1) := by decide +kernel
theorem dX12_drawMeals_79 : decode cX12_drawMeals 79 = .ok (.iload 5, 2) := by decide +kernel
theorem dX12_drawMeals_81 : decode cX12_drawMeals 81 = .ok (.invokevirtual 275, 3) := by decide +kernel
theorem dX12_drawMeals_84 : decode cX12_drawMeals 84 = .ok (.goto 35, 3) := by decide +kernel
theorem dX12_drawMeals_87 : decode cX12_drawMeals 87 = .ok (.iload 6, 2) := by decide +kernel
theorem dX12_drawMeals_89 : decode cX12_drawMeals 89 = .ok (.iconst 1, 1) := by decide +kernel
theorem dX12_drawMeals_90 : decode cX12_drawMeals 90 = .ok (.if_icmp .le 12, 3) := by decide +kernel
theorem dX12_drawMeals_93 : decode cX12_drawMeals 93 = .ok (.aload_n 0, 1) := by decide +kernel
theorem dX12_drawMeals_94 : decode cX12_drawMeals 94 = .ok (.iload 5, 2) := by decide +kernel
theorem dX12_drawMeals_96 : decode cX12_drawMeals 96 = .ok (.invokevirtual 301, 3) := by decide +kernel
theorem dX12_drawMeals_99 : decode cX12_drawMeals 99 = .ok (.goto 20, 3) := by decide +kernel
theorem dX12_drawMeals_102 : decode cX12_drawMeals 102 = .ok (.aload_n 0, 1) := by decide +kernel
theorem dX12_drawMeals_103 : decode cX12_drawMeals 103 = .ok (.iconst 4, 1) := by decide +kernel
theorem dX12_drawMeals_104 : decode cX12_drawMeals 104 = .ok (.invokevirtual 355, 3) := by decide +kernel
theorem dX12_drawMeals_107 : decode cX12_drawMeals 107 = .ok (.ifCond .ne 12, 3) := by decide +kernel
theorem dX12_drawMeals_110 : decode cX12_drawMeals 110 = .ok (.aload_n 0, 1) := by decide +kernel
theorem dX12_drawMeals_111 : decode cX12_drawMeals 111 = .ok (.iconst 5, 1) := by decide +kernel
theorem dX12_drawMeals_112 : decode cX12_drawMeals 112 = .ok (.iload 5, 2) := by decide +kernel
theorem dX12_drawMeals_114 : decode cX12_drawMeals 114 = .ok (.iconst 0, 1) := by decide +kernel
theorem dX12_drawMeals_115 : decode cX12_drawMeals 115 = .ok (.iconst 0, 1) := by decide +kernel
theorem dX12_drawMeals_116 : decode cX12_drawMeals 116 = .ok (.invokevirtual 285, 3) := by decide +kernel
theorem dX12_drawMeals_119 : decode cX12_drawMeals 119 = .ok (.iinc 5 1, 3) := by decide +kernel
theorem dX12_drawMeals_122 : decode cX12_drawMeals 122 = .ok (.goto (-89), 3) := by decide +kernel
theorem dX12_drawMeals_125 : decode cX12_drawMeals 125 = .ok (.aload_n 0, 1) := by decide +kernel
theorem dX12_drawMeals_126 : decode cX12_drawMeals 126 = .ok (.invokevirtual 292, 3) := by decide +kernel
theorem dX12_drawMeals_129 : decode cX12_drawMeals 129 = .ok (.iinc 4 1, 3) := by decide +kernel
theorem dX12_drawMeals_132 : decode cX12_drawMeals 132 = .ok (.goto (-108), 3) := by decide +kernel
theorem dX12_drawMeals_135 : decode cX12_drawMeals 135 = .ok (.iload_n 3, 1) := by decide +kernel
theorem dX12_drawMeals_136 : decode cX12_drawMeals 136 = .ok (.ireturn, 1) := by decide +kernel
theorem dX12_drawn_0 : decode cX12_drawn 0 = .ok (.aload_n 0, 1) := by decide +kernel
theorem dX12_drawn_1 : decode cX12_drawn 1 = .ok (.iconst 0, 1) := by decide +kernel
theorem dX12_drawn_2 : decode cX12_drawn 2 = .ok (.putfield 82, 3) := by decide +kernel
theorem dX12_drawn_5 : decode cX12_drawn 5 = .ok (.iload_n 1, 1) := by decide +kernel
theorem dX12_drawn_6 : decode cX12_drawn 6 = .ok (.iconst 1, 1) := by decide +kernel
theorem dX12_drawn_7 : decode cX12_drawn 7 = .ok (.bipush 60, 2) := by decide +kernel
theorem dX12_drawn_9 : decode cX12_drawn 9 = .ok (.invokestatic 149, 3) := by decide +kernel
theorem dX12_drawn_12 : decode cX12_drawn 12 = .ok (.ifCond .eq 12, 3) := by decide +kernel
theorem dX12_drawn_15 : decode cX12_drawn 15 = .ok (.aload_n 0, 1) := by decide +kernel
theorem dX12_drawn_16 : decode cX12_drawn 16 = .ok (.getfield 13, 3) := by decide +kernel
theorem dX12_drawn_19 : decode cX12_drawn 19 = .ok (.iconst 0, 1) := by decide +kernel
theorem dX12_drawn_20 : decode cX12_drawn 20 = .ok (.iaload, 1) := by decide +kernel
theorem dX12_drawn_21 : decode cX12_drawn 21 = .ok (.ifCond .ne 5, 3) := by decide +kernel
theorem dX12_drawn_24 : decode cX12_drawn 24 = .ok (.iconst (-1), 1) := by decide +kernel
theorem dX12_drawn_25 : decode cX12_drawn 25 = .ok (.ireturn, 1) := by decide +kernel
theorem dX12_drawn_26 : decode cX12_drawn 26 = .ok (.aload_n 0, 1) := by decide +kernel
theorem dX12_drawn_27 : decode cX12_drawn 27 = .ok (.getfield 13, 3) := by decide +kernel
theorem dX12_drawn_30 : decode cX12_drawn 30 = .ok (.bipush 72, 2) := by decide +kernel
theorem dX12_drawn_32 : decode cX12_drawn 32 = .ok (.iaload, 1) := by decide +kernel
theorem dX12_drawn_33 : decode cX12_drawn 33 = .ok (.sipush 200, 3) := by decide +kernel
theorem dX12_drawn_36 : decode cX12_drawn 36 = .ok (.if_icmp .ne 5, 3) := by decide +kernel
theorem dX12_drawn_39 : decode cX12_drawn 39 = .ok (.iconst 0, 1) := by decide +kernel
theorem dX12_drawn_40 : decode cX12_drawn 40 = .ok (.ireturn, 1) := by decide +kernel
theorem dX12_drawn_41 : decode cX12_drawn 41 = .ok (.aload_n 0, 1) := by decide +kernel
theorem dX12_drawn_42 : decode cX12_drawn 42 = .ok (.invokevirtual 282, 3) := by decide +kernel
theorem dX12_drawn_45 : decode cX12_drawn 45 = .ok (.aload_n 0, 1) := by decide +kernel
theorem dX12_drawn_46 : decode cX12_drawn 46 = .ok (.iload_n 1, 1) := by decide +kernel
theorem dX12_drawn_47 : decode cX12_drawn 47 = .ok (.iload_n 2, 1) := by decide +kernel
theorem dX12_drawn_48 : decode cX12_drawn 48 = .ok (.invokevirtual 358, 3) := by decide +kernel
theorem dX12_drawn_51 : decode cX12_drawn 51 = .ok (.ireturn, 1) := by decide +kernel
theorem dX12_meals_0 : decode cX12_meals 0 = .ok (.aload_n 0, 1) := by decide +kernel
theorem dX12_meals_1 : decode cX12_meals 1 = .ok (.iconst 0, 1) := by decide +kernel
theorem dX12_meals_2 : decode cX12_meals 2 = .ok (.putfield 82, 3) := by decide +kernel
theorem dX12_meals_5 : decode cX12_meals 5 = .ok (.iload_n 1, 1) := by decide +kernel
theorem dX12_meals_6 : decode cX12_meals 6 = .ok (.iconst 1, 1) := by decide +kernel
theorem dX12_meals_7 : decode cX12_meals 7 = .ok (.bipush 60, 2) := by decide +kernel
theorem dX12_meals_9 : decode cX12_meals 9 = .ok (.invokestatic 149, 3) := by decide +kernel
theorem dX12_meals_12 : decode cX12_meals 12 = .ok (.ifCond .ne 5, 3) := by decide +kernel
theorem dX12_meals_15 : decode cX12_meals 15 = .ok (.iconst (-1), 1) := by decide +kernel
theorem dX12_meals_16 : decode cX12_meals 16 = .ok (.ireturn, 1) := by decide +kernel
theorem dX12_meals_17 : decode cX12_meals 17 = .ok (.aload_n 0, 1) := by decide +kernel
theorem dX12_meals_18 : decode cX12_meals 18 = .ok (.getfield 13, 3) := by decide +kernel
theorem dX12_meals_21 : decode cX12_meals 21 = .ok (.bipush 72, 2) := by decide +kernel
theorem dX12_meals_23 : decode cX12_meals 23 = .ok (.iaload, 1) := by decide +kernel
theorem dX12_meals_24 : decode cX12_meals 24 = .ok (.sipush 200, 3) := by decide +kernel
theorem dX12_meals_27 : decode cX12_meals 27 = .ok (.if_icmp .ne 5, 3) := by decide +kernel
theorem dX12_meals_30 : decode cX12_meals 30 = .ok (.iconst 0, 1) := by decide +kernel
theorem dX12_meals_31 : decode cX12_meals 31 = .ok (.ireturn, 1) := by decide +kernel
theorem dX12_meals_32 : decode cX12_meals 32 = .ok (.aload_n 0, 1) := by decide +kernel
theorem dX12_meals_33 : decode cX12_meals 33 = .ok (.invokevirtual 282, 3) := by decide +kernel
theorem dX12_meals_36 : decode cX12_meals 36 = .ok (.aload_n 0, 1) := by decide +kernel
theorem dX12_meals_37 : decode cX12_meals 37 = .ok (.iload_n 1, 1) := by decide +kernel
theorem dX12_meals_38 : decode cX12_meals 38 = .ok (.invokevirtual 295, 3) := by decide +kernel
theorem dX12_meals_41 : decode cX12_meals 41 = .ok (.ireturn, 1) := by decide +kernel
theorem dX12_oneMeal_0 : decode cX12_oneMeal 0 = .ok (.iconst 0, 1) := by decide +kernel
theorem dX12_oneMeal_1 : decode cX12_oneMeal 1 = .ok (.istore_n 1, 1) := by decide +kernel
theorem dX12_oneMeal_2 : decode cX12_oneMeal 2 = .ok (.iload_n 1, 1) := by decide +kernel
theorem dX12_oneMeal_3 : decode cX12_oneMeal 3 = .ok (.aload_n 0, 1) := by decide +kernel
theorem dX12_oneMeal_4 : decode cX12_oneMeal 4 = .ok (.getfield 13, 3) := by decide +kernel
theorem dX12_oneMeal_7 : decode cX12_oneMeal 7 = .ok (.iconst 0, 1) := by decide +kernel
theorem dX12_oneMeal_8 : decode cX12_oneMeal 8 = .ok (.iaload, 1) := by decide +kernel
theorem dX12_oneMeal_9 : decode cX12_oneMeal 9 = .ok (.if_icmp .ge 106, 3) := by decide +kernel
theorem dX12_oneMeal_12 : decode cX12_oneMeal 12 = .ok (.aload_n 0, 1) := by decide +kernel
theorem dX12_oneMeal_13 : decode cX12_oneMeal 13 = .ok (.iload_n 1, 1) := by decide +kernel
theorem dX12_oneMeal_14 : decode cX12_oneMeal 14 = .ok (.invokevirtual 244, 3) := by decide +kernel
theorem dX12_oneMeal_17 : decode cX12_oneMeal 17 = .ok (.ifCond .ne 20, 3) := by decide +kernel
theorem dX12_oneMeal_20 : decode cX12_oneMeal 20 = .ok (.aload_n 0, 1) := by decide +kernel
theorem dX12_oneMeal_21 : decode cX12_oneMeal 21 = .ok (.getfield 13, 3) := by decide +kernel
theorem dX12_oneMeal_24 : decode cX12_oneMeal 24 = .ok (.bipush 98, 2) := by decide +kernel
theorem dX12_oneMeal_26 : decode cX12_oneMeal 26 = .ok (.iload_n 1, 1) := by decide +kernel
theorem dX12_oneMeal_27 : decode cX12_oneMeal 27 = .ok (.iadd, 1) := by decide +kernel
theorem dX12_oneMeal_28 : decode cX12_oneMeal 28 = .ok (.dup2, 1) := by decide +kernel
theorem dX12_oneMeal_29 : decode cX12_oneMeal 29 = .ok (.iaload, 1) := by decide +kernel
theorem dX12_oneMeal_30 : decode cX12_oneMeal 30 = .ok (.aload_n 0, 1) := by decide +kernel
theorem dX12_oneMeal_31 : decode cX12_oneMeal 31 = .ok (.iload_n 1, 1) := by decide +kernel
theorem dX12_oneMeal_32 : decode cX12_oneMeal 32 = .ok (.invokevirtual 268, 3) := by decide +kernel
theorem dX12_oneMeal_35 : decode cX12_oneMeal 35 = .ok (.iadd, 1) := by decide +kernel
theorem dX12_oneMeal_36 : decode cX12_oneMeal 36 = .ok (.iastore, 1) := by decide +kernel
theorem dX12_oneMeal_37 : decode cX12_oneMeal 37 = .ok (.iconst 0, 1) := by decide +kernel
theorem dX12_oneMeal_38 : decode cX12_oneMeal 38 = .ok (.istore_n 2, 1) := by decide +kernel
theorem dX12_oneMeal_39 : decode cX12_oneMeal 39 = .ok (.iload_n 2, 1) := by decide +kernel
theorem dX12_oneMeal_40 : decode cX12_oneMeal 40 = .ok (.bipush 6, 2) := by decide +kernel
theorem dX12_oneMeal_42 : decode cX12_oneMeal 42 = .ok (.if_icmp .ge 57, 3) := by decide +kernel
theorem dX12_oneMeal_45 : decode cX12_oneMeal 45 = .ok (.aload_n 0, 1) := by decide +kernel
theorem dX12_oneMeal_46 : decode cX12_oneMeal 46 = .ok (.getfield 13, 3) := by decide +kernel
theorem dX12_oneMeal_49 : decode cX12_oneMeal 49 = .ok (.bipush 24, 2) := by decide +kernel
theorem dX12_oneMeal_51 : decode cX12_oneMeal 51 = .ok (.iload_n 2, 1) := by decide +kernel
theorem dX12_oneMeal_52 : decode cX12_oneMeal 52 = .ok (.iadd, 1) := by decide +kernel
theorem dX12_oneMeal_53 : decode cX12_oneMeal 53 = .ok (.iaload, 1) := by decide +kernel
theorem dX12_oneMeal_54 : decode cX12_oneMeal 54 = .ok (.aload_n 0, 1) := by decide +kernel
theorem dX12_oneMeal_55 : decode cX12_oneMeal 55 = .ok (.iload_n 1, 1) := by decide +kernel
theorem dX12_oneMeal_56 : decode cX12_oneMeal 56 = .ok (.iload_n 2, 1) := by decide +kernel
theorem dX12_oneMeal_57 : decode cX12_oneMeal 57 = .ok (.invokevirtual 234, 3) := by decide +kernel
theorem dX12_oneMeal_60 : decode cX12_oneMeal 60 = .ok (.invokestatic 265, 3) := by decide +kernel
theorem dX12_oneMeal_63 : decode cX12_oneMeal 63 = .ok (.istore_n 3, 1) := by decide +kernel
theorem dX12_oneMeal_64 : decode cX12_oneMeal 64 = .ok (.aload_n 0, 1) := by decide +kernel
theorem dX12_oneMeal_65 : decode cX12_oneMeal 65 = .ok (.getfield 13, 3) := by decide +kernel
theorem dX12_oneMeal_68 : decode cX12_oneMeal 68 = .ok (.bipush 105, 2) := by decide +kernel
theorem dX12_oneMeal_70 : decode cX12_oneMeal 70 = .ok (.bipush 6, 2) := by decide +kernel
theorem dX12_oneMeal_72 : decode cX12_oneMeal 72 = .ok (.iload_n 1, 1) := by decide +kernel
theorem dX12_oneMeal_73 : decode cX12_oneMeal 73 = .ok (.imul, 1) := by decide +kernel
theorem dX12_oneMeal_74 : decode cX12_oneMeal 74 = .ok (.iadd, 1) := by decide +kernel
theorem dX12_oneMeal_75 : decode cX12_oneMeal 75 = .ok (.iload_n 2, 1) := by decide +kernel
theorem dX12_oneMeal_76 : decode cX12_oneMeal 76 = .ok (.iadd, 1) := by decide +kernel
theorem dX12_oneMeal_77 : decode cX12_oneMeal 77 = .ok (.dup2, 1) := by decide +kernel
theorem dX12_oneMeal_78 : decode cX12_oneMeal 78 = .ok (.iaload, 1) := by decide +kernel
theorem dX12_oneMeal_79 : decode cX12_oneMeal 79 = .ok (.iload_n 3, 1) := by decide +kernel
theorem dX12_oneMeal_80 : decode cX12_oneMeal 80 = .ok (.isub, 1) := by decide +kernel
theorem dX12_oneMeal_81 : decode cX12_oneMeal 81 = .ok (.iastore, 1) := by decide +kernel
theorem dX12_oneMeal_82 : decode cX12_oneMeal 82 = .ok (.aload_n 0, 1) := by decide +kernel
theorem dX12_oneMeal_83 : decode cX12_oneMeal 83 = .ok (.getfield 13, 3) := by decide +kernel
theorem dX12_oneMeal_86 : decode cX12_oneMeal 86 = .ok (.bipush 76, 2) := by decide +kernel
theorem dX12_oneMeal_88 : decode cX12_oneMeal 88 = .ok (.dup2, 1) := by decide +kernel
theorem dX12_oneMeal_89 : decode cX12_oneMeal 89 = .ok (.iaload, 1) := by decide +kernel
theorem dX12_oneMeal_90 : decode cX12_oneMeal 90 = .ok (.iload_n 3, 1) := by decide +kernel
theorem dX12_oneMeal_91 : decode cX12_oneMeal 91 = .ok (.iadd, 1) := by decide +kernel
theorem dX12_oneMeal_92 : decode cX12_oneMeal 92 = .ok (.iastore, 1) := by decide +kernel
theorem dX12_oneMeal_93 : decode cX12_oneMeal 93 = .ok (.iinc 2 1, 3) := by decide +kernel
theorem dX12_oneMeal_96 : decode cX12_oneMeal 96 = .ok (.goto (-57), 3) := by decide +kernel
theorem dX12_oneMeal_99 : decode cX12_oneMeal 99 = .ok (.aload_n 0, 1) := by decide +kernel
theorem dX12_oneMeal_100 : decode cX12_oneMeal 100 = .ok (.getfield 13, 3) := by decide +kernel
theorem dX12_oneMeal_103 : decode cX12_oneMeal 103 = .ok (.bipush 91, 2) := by decide +kernel
theorem dX12_oneMeal_105 : decode cX12_oneMeal 105 = .ok (.iload_n 1, 1) := by decide +kernel
theorem dX12_oneMeal_106 : decode cX12_oneMeal 106 = .ok (.iadd, 1) := by decide +kernel
theorem dX12_oneMeal_107 : decode cX12_oneMeal 107 = .ok (.iconst 0, 1) := by decide +kernel
theorem dX12_oneMeal_108 : decode cX12_oneMeal 108 = .ok (.iastore, 1) := by decide +kernel
theorem dX12_oneMeal_109 : decode cX12_oneMeal 109 = .ok (.iinc 1 1, 3) := by decide +kernel
theorem dX12_oneMeal_112 : decode cX12_oneMeal 112 = .ok (.goto (-110), 3) := by decide +kernel
theorem dX12_oneMeal_115 : decode cX12_oneMeal 115 = .ok (.aload_n 0, 1) := by decide +kernel
theorem dX12_oneMeal_116 : decode cX12_oneMeal 116 = .ok (.getfield 13, 3) := by decide +kernel
theorem dX12_oneMeal_119 : decode cX12_oneMeal 119 = .ok (.bipush 72, 2) := by decide +kernel
theorem dX12_oneMeal_121 : decode cX12_oneMeal 121 = .ok (.dup2, 1) := by decide +kernel
theorem dX12_oneMeal_122 : decode cX12_oneMeal 122 = .ok (.iaload, 1) := by decide +kernel
theorem dX12_oneMeal_123 : decode cX12_oneMeal 123 = .ok (.iconst 1, 1) := by decide +kernel
theorem dX12_oneMeal_124 : decode cX12_oneMeal 124 = .ok (.iadd, 1) := by decide +kernel
theorem dX12_oneMeal_125 : decode cX12_oneMeal 125 = .ok (.iastore, 1) := by decide +kernel
theorem dX12_oneMeal_126 : decode cX12_oneMeal 126 = .ok (.return_, 1) := by decide +kernel
theorem dX12_passMeals_0 : decode cX12_passMeals 0 = .ok (.iload_n 1, 1) := by decide +kernel
theorem dX12_passMeals_1 : decode cX12_passMeals 1 = .ok (.sipush 200, 3) := by decide +kernel
theorem dX12_passMeals_4 : decode cX12_passMeals 4 = .ok (.aload_n 0, 1) := by decide +kernel
theorem dX12_passMeals_5 : decode cX12_passMeals 5 = .ok (.getfield 13, 3) := by decide +kernel
theorem dX12_passMeals_8 : decode cX12_passMeals 8 = .ok (.bipush 72, 2) := by decide +kernel
theorem dX12_passMeals_10 : decode cX12_passMeals 10 = .ok (.iaload, 1) := by decide +kernel
theorem dX12_passMeals_11 : decode cX12_passMeals 11 = .ok (.isub, 1) := by decide +kernel
theorem dX12_passMeals_12 : decode cX12_passMeals 12 = .ok (.invokestatic 265, 3) := by decide +kernel
theorem dX12_passMeals_15 : decode cX12_passMeals 15 = .ok (.istore_n 2, 1) := by decide +kernel
theorem dX12_passMeals_16 : decode cX12_passMeals 16 = .ok (.iconst 0, 1) := by decide +kernel
theorem dX12_passMeals_17 : decode cX12_passMeals 17 = .ok (.istore_n 3, 1) := by decide +kernel
theorem dX12_passMeals_18 : decode cX12_passMeals 18 = .ok (.iload_n 3, 1) := by decide +kernel
theorem dX12_passMeals_19 : decode cX12_passMeals 19 = .ok (.iload_n 2, 1) := by decide +kernel
theorem dX12_passMeals_20 : decode cX12_passMeals 20 = .ok (.if_icmp .ge 13, 3) := by decide +kernel
theorem dX12_passMeals_23 : decode cX12_passMeals 23 = .ok (.aload_n 0, 1) := by decide +kernel
theorem dX12_passMeals_24 : decode cX12_passMeals 24 = .ok (.invokevirtual 292, 3) := by decide +kernel
theorem dX12_passMeals_27 : decode cX12_passMeals 27 = .ok (.iinc 3 1, 3) := by decide +kernel
theorem dX12_passMeals_30 : decode cX12_passMeals 30 = .ok (.goto (-12), 3) := by decide +kernel
theorem dX12_passMeals_33 : decode cX12_passMeals 33 = .ok (.iload_n 2, 1) := by decide +kernel
theorem dX12_passMeals_34 : decode cX12_passMeals 34 = .ok (.ireturn, 1) := by decide +kernel
theorem dX12_refuse__0 : decode cX12_refuse_ 0 = .ok (.aload_n 0, 1) := by decide +kernel
theorem dX12_refuse__1 : decode cX12_refuse_ 1 = .ok (.iconst 0, 1) := by decide +kernel
theorem dX12_refuse__2 : decode cX12_refuse_ 2 = .ok (.putfield 82, 3) := by decide +kernel
theorem dX12_refuse__5 : decode cX12_refuse_ 5 = .ok (.aload_n 0, 1) := by decide +kernel
theorem dX12_refuse__6 : decode cX12_refuse_ 6 = .ok (.iload_n 1, 1) := by decide +kernel
theorem dX12_refuse__7 : decode cX12_refuse_ 7 = .ok (.invokevirtual 238, 3) := by decide +kernel
theorem dX12_refuse__10 : decode cX12_refuse_ 10 = .ok (.ifCond .eq 14, 3) := by decide +kernel
theorem dX12_refuse__13 : decode cX12_refuse_ 13 = .ok (.aload_n 0, 1) := by decide +kernel
theorem dX12_refuse__14 : decode cX12_refuse_ 14 = .ok (.iconst 3, 1) := by decide +kernel
theorem dX12_refuse__15 : decode cX12_refuse_ 15 = .ok (.iload_n 1, 1) := by decide +kernel
theorem dX12_refuse__16 : decode cX12_refuse_ 16 = .ok (.iconst 0, 1) := by decide +kernel
theorem dX12_refuse__17 : decode cX12_refuse_ 17 = .ok (.iconst 0, 1) := by decide +kernel
theorem dX12_refuse__18 : decode cX12_refuse_ 18 = .ok (.invokevirtual 289, 3) := by decide +kernel
theorem dX12_refuse__21 : decode cX12_refuse_ 21 = .ok (.goto 4, 3) := by decide +kernel
theorem dX12_refuse__24 : decode cX12_refuse_ 24 = .ok (.iconst (-1), 1) := by decide +kernel
theorem dX12_refuse__25 : decode cX12_refuse_ 25 = .ok (.ireturn, 1) := by decide +kernel
theorem dX12_restore_0 : decode cX12_restore 0 = .ok (.aload_n 0, 1) := by decide +kernel
theorem dX12_restore_1 : decode cX12_restore 1 = .ok (.iconst 0, 1) := by decide +kernel
theorem dX12_restore_2 : decode cX12_restore 2 = .ok (.putfield 82, 3) := by decide +kernel
theorem dX12_restore_5 : decode cX12_restore 5 = .ok (.iload_n 1, 1) := by decide +kernel
theorem dX12_restore_6 : decode cX12_restore 6 = .ok (.iconst 0, 1) := by decide +kernel
theorem dX12_restore_7 : decode cX12_restore 7 = .ok (.iconst 1, 1) := by decide +kernel
theorem dX12_restore_8 : decode cX12_restore 8 = .ok (.invokestatic 149, 3) := by decide +kernel
theorem dX12_restore_11 : decode cX12_restore 11 = .ok (.ifCond .eq 12, 3) := by decide +kernel
theorem dX12_restore_14 : decode cX12_restore 14 = .ok (.aload_n 0, 1) := by decide +kernel
theorem dX12_restore_15 : decode cX12_restore 15 = .ok (.getfield 38, 3) := by decide +kernel
theorem dX12_restore_18 : decode cX12_restore 18 = .ok (.iload_n 1, 1) := by decide +kernel
theorem dX12_restore_19 : decode cX12_restore 19 = .ok (.baload, 1) := by decide +kernel
theorem dX12_restore_20 : decode cX12_restore 20 = .ok (.ifCond .ne 5, 3) := by decide +kernel
theorem dX12_restore_23 : decode cX12_restore 23 = .ok (.iconst 0, 1) := by decide +kernel
theorem dX12_restore_24 : decode cX12_restore 24 = .ok (.ireturn, 1) := by decide +kernel
theorem dX12_restore_25 : decode cX12_restore 25 = .ok (.iconst 0, 1) := by decide +kernel
theorem dX12_restore_26 : decode cX12_restore 26 = .ok (.istore_n 2, 1) := by decide +kernel
theorem dX12_restore_27 : decode cX12_restore 27 = .ok (.iload_n 2, 1) := by decide +kernel
theorem dX12_restore_28 : decode cX12_restore 28 = .ok (.sipush 389, 3) := by decide +kernel
theorem dX12_restore_31 : decode cX12_restore 31 = .ok (.if_icmp .ge 27, 3) := by decide +kernel
theorem dX12_restore_34 : decode cX12_restore 34 = .ok (.aload_n 0, 1) := by decide +kernel
theorem dX12_restore_35 : decode cX12_restore 35 = .ok (.getfield 13, 3) := by decide +kernel
theorem dX12_restore_38 : decode cX12_restore 38 = .ok (.iload_n 2, 1) := by decide +kernel
theorem dX12_restore_39 : decode cX12_restore 39 = .ok (.aload_n 0, 1) := by decide +kernel
theorem dX12_restore_40 : decode cX12_restore 40 = .ok (.getfield 19, 3) := by decide +kernel
theorem dX12_restore_43 : decode cX12_restore 43 = .ok (.sipush 389, 3) := by decide +kernel
theorem dX12_restore_46 : decode cX12_restore 46 = .ok (.iload_n 1, 1) := by decide +kernel
theorem dX12_restore_47 : decode cX12_restore 47 = .ok (.imul, 1) := by decide +kernel
theorem dX12_restore_48 : decode cX12_restore 48 = .ok (.iload_n 2, 1) := by decide +kernel
theorem dX12_restore_49 : decode cX12_restore 49 = .ok (.iadd, 1) := by decide +kernel
theorem dX12_restore_50 : decode cX12_restore 50 = .ok (.iaload, 1) := by decide +kernel
theorem dX12_restore_51 : decode cX12_restore 51 = .ok (.iastore, 1) := by decide +kernel
theorem dX12_restore_52 : decode cX12_restore 52 = .ok (.iinc 2 1, 3) := by decide +kernel
theorem dX12_restore_55 : decode cX12_restore 55 = .ok (.goto (-28), 3) := by decide +kernel
theorem dX12_restore_58 : decode cX12_restore 58 = .ok (.iconst 0, 1) := by decide +kernel
theorem dX12_restore_59 : decode cX12_restore 59 = .ok (.istore_n 2, 1) := by decide +kernel
theorem dX12_restore_60 : decode cX12_restore 60 = .ok (.iload_n 2, 1) := by decide +kernel
theorem dX12_restore_61 : decode cX12_restore 61 = .ok (.bipush 13, 2) := by decide +kernel
theorem dX12_restore_63 : decode cX12_restore 63 = .ok (.if_icmp .ge 26, 3) := by decide +kernel
theorem dX12_restore_66 : decode cX12_restore 66 = .ok (.aload_n 0, 1) := by decide +kernel
theorem dX12_restore_67 : decode cX12_restore 67 = .ok (.getfield 28, 3) := by decide +kernel
theorem dX12_restore_70 : decode cX12_restore 70 = .ok (.iload_n 2, 1) := by decide +kernel
theorem dX12_restore_71 : decode cX12_restore 71 = .ok (.aload_n 0, 1) := by decide +kernel
theorem dX12_restore_72 : decode cX12_restore 72 = .ok (.getfield 35, 3) := by decide +kernel
theorem dX12_restore_75 : decode cX12_restore 75 = .ok (.bipush 13, 2) := by decide +kernel
theorem dX12_restore_77 : decode cX12_restore 77 = .ok (.iload_n 1, 1) := by decide +kernel
theorem dX12_restore_78 : decode cX12_restore 78 = .ok (.imul, 1) := by decide +kernel
theorem dX12_restore_79 : decode cX12_restore 79 = .ok (.iload_n 2, 1) := by decide +kernel
theorem dX12_restore_80 : decode cX12_restore 80 = .ok (.iadd, 1) := by decide +kernel
theorem dX12_restore_81 : decode cX12_restore 81 = .ok (.laload, 1) := by decide +kernel
theorem dX12_restore_82 : decode cX12_restore 82 = .ok (.lastore, 1) := by decide +kernel
theorem dX12_restore_83 : decode cX12_restore 83 = .ok (.iinc 2 1, 3) := by decide +kernel
theorem dX12_restore_86 : decode cX12_restore 86 = .ok (.goto (-26), 3) := by decide +kernel
theorem dX12_restore_89 : decode cX12_restore 89 = .ok (.aload_n 0, 1) := by decide +kernel
theorem dX12_restore_90 : decode cX12_restore 90 = .ok (.iconst 0, 1) := by decide +kernel
theorem dX12_restore_91 : decode cX12_restore 91 = .ok (.putfield 228, 3) := by decide +kernel
theorem dX12_restore_94 : decode cX12_restore 94 = .ok (.iconst 1, 1) := by decide +kernel
theorem dX12_restore_95 : decode cX12_restore 95 = .ok (.ireturn, 1) := by decide +kernel
theorem dX12_rise_0 : decode cX12_rise 0 = .ok (.aload_n 0, 1) := by decide +kernel
theorem dX12_rise_1 : decode cX12_rise 1 = .ok (.iconst 0, 1) := by decide +kernel
theorem dX12_rise_2 : decode cX12_rise 2 = .ok (.putfield 82, 3) := by decide +kernel
theorem dX12_rise_5 : decode cX12_rise 5 = .ok (.aload_n 0, 1) := by decide +kernel
theorem dX12_rise_6 : decode cX12_rise 6 = .ok (.iload_n 1, 1) := by decide +kernel
theorem dX12_rise_7 : decode cX12_rise 7 = .ok (.invokevirtual 238, 3) := by decide +kernel
theorem dX12_rise_10 : decode cX12_rise 10 = .ok (.ifCond .eq 14, 3) := by decide +kernel
theorem dX12_rise_13 : decode cX12_rise 13 = .ok (.aload_n 0, 1) := by decide +kernel
theorem dX12_rise_14 : decode cX12_rise 14 = .ok (.iconst 2, 1) := by decide +kernel
theorem dX12_rise_15 : decode cX12_rise 15 = .ok (.iload_n 1, 1) := by decide +kernel
theorem dX12_rise_16 : decode cX12_rise 16 = .ok (.iconst 0, 1) := by decide +kernel
theorem dX12_rise_17 : decode cX12_rise 17 = .ok (.iconst 0, 1) := by decide +kernel
theorem dX12_rise_18 : decode cX12_rise 18 = .ok (.invokevirtual 289, 3) := by decide +kernel
theorem dX12_rise_21 : decode cX12_rise 21 = .ok (.goto 4, 3) := by decide +kernel
theorem dX12_rise_24 : decode cX12_rise 24 = .ok (.iconst (-1), 1) := by decide +kernel
theorem dX12_rise_25 : decode cX12_rise 25 = .ok (.ireturn, 1) := by decide +kernel
theorem dX12_serve_0 : decode cX12_serve 0 = .ok (.aload_n 0, 1) := by decide +kernel
theorem dX12_serve_1 : decode cX12_serve 1 = .ok (.iconst 0, 1) := by decide +kernel
theorem dX12_serve_2 : decode cX12_serve 2 = .ok (.putfield 82, 3) := by decide +kernel
theorem dX12_serve_5 : decode cX12_serve 5 = .ok (.aload_n 0, 1) := by decide +kernel
theorem dX12_serve_6 : decode cX12_serve 6 = .ok (.iload_n 1, 1) := by decide +kernel
theorem dX12_serve_7 : decode cX12_serve 7 = .ok (.invokevirtual 238, 3) := by decide +kernel
theorem dX12_serve_10 : decode cX12_serve 10 = .ok (.ifCond .eq 32, 3) := by decide +kernel
theorem dX12_serve_13 : decode cX12_serve 13 = .ok (.aload_n 0, 1) := by decide +kernel
theorem dX12_serve_14 : decode cX12_serve 14 = .ok (.iload_n 2, 1) := by decide +kernel
theorem dX12_serve_15 : decode cX12_serve 15 = .ok (.invokevirtual 250, 3) := by decide +kernel
theorem dX12_serve_18 : decode cX12_serve 18 = .ok (.ifCond .eq 24, 3) := by decide +kernel
theorem dX12_serve_21 : decode cX12_serve 21 = .ok (.iload_n 3, 1) := by decide +kernel
theorem dX12_serve_22 : decode cX12_serve 22 = .ok (.iconst 1, 1) := by decide +kernel
theorem dX12_serve_23 : decode cX12_serve 23 = .ok (.bipush 40, 2) := by decide +kernel
theorem dX12_serve_25 : decode cX12_serve 25 = .ok (.invokestatic 149, 3) := by decide +kernel
theorem dX12_serve_28 : decode cX12_serve 28 = .ok (.ifCond .eq 14, 3) := by decide +kernel
theorem dX12_serve_31 : decode cX12_serve 31 = .ok (.aload_n 0, 1) := by decide +kernel
theorem dX12_serve_32 : decode cX12_serve 32 = .ok (.iconst 1, 1) := by decide +kernel
theorem dX12_serve_33 : decode cX12_serve 33 = .ok (.iload_n 1, 1) := by decide +kernel
theorem dX12_serve_34 : decode cX12_serve 34 = .ok (.iload_n 2, 1) := by decide +kernel
theorem dX12_serve_35 : decode cX12_serve 35 = .ok (.iload_n 3, 1) := by decide +kernel
theorem dX12_serve_36 : decode cX12_serve 36 = .ok (.invokevirtual 289, 3) := by decide +kernel
theorem dX12_serve_39 : decode cX12_serve 39 = .ok (.goto 4, 3) := by decide +kernel
theorem dX12_serve_42 : decode cX12_serve 42 = .ok (.iconst (-1), 1) := by decide +kernel
theorem dX12_serve_43 : decode cX12_serve 43 = .ok (.ireturn, 1) := by decide +kernel
theorem dX12_startSo_0 : decode cX12_startSo 0 = .ok (.bipush 72, 2) := by decide +kernel
theorem dX12_startSo_2 : decode cX12_startSo 2 = .ok (.istore_n 1, 1) := by decide +kernel
theorem dX12_startSo_3 : decode cX12_startSo 3 = .ok (.iload_n 1, 1) := by decide +kernel
theorem dX12_startSo_4 : decode cX12_startSo 4 = .ok (.sipush 389, 3) := by decide +kernel
theorem dX12_startSo_7 : decode cX12_startSo 7 = .ok (.if_icmp .ge 16, 3) := by decide +kernel
theorem dX12_startSo_10 : decode cX12_startSo 10 = .ok (.aload_n 0, 1) := by decide +kernel
theorem dX12_startSo_11 : decode cX12_startSo 11 = .ok (.getfield 13, 3) := by decide +kernel
theorem dX12_startSo_14 : decode cX12_startSo 14 = .ok (.iload_n 1, 1) := by decide +kernel
theorem dX12_startSo_15 : decode cX12_startSo 15 = .ok (.iconst 0, 1) := by decide +kernel
theorem dX12_startSo_16 : decode cX12_startSo 16 = .ok (.iastore, 1) := by decide +kernel
theorem dX12_startSo_17 : decode cX12_startSo 17 = .ok (.iinc 1 1, 3) := by decide +kernel
theorem dX12_startSo_20 : decode cX12_startSo 20 = .ok (.goto (-17), 3) := by decide +kernel
theorem dX12_startSo_23 : decode cX12_startSo 23 = .ok (.iconst 0, 1) := by decide +kernel
theorem dX12_startSo_24 : decode cX12_startSo 24 = .ok (.istore_n 1, 1) := by decide +kernel
theorem dX12_startSo_25 : decode cX12_startSo 25 = .ok (.iload_n 1, 1) := by decide +kernel
theorem dX12_startSo_26 : decode cX12_startSo 26 = .ok (.bipush 6, 2) := by decide +kernel
theorem dX12_startSo_28 : decode cX12_startSo 28 = .ok (.if_icmp .ge 27, 3) := by decide +kernel
theorem dX12_startSo_31 : decode cX12_startSo 31 = .ok (.aload_n 0, 1) := by decide +kernel
theorem dX12_startSo_32 : decode cX12_startSo 32 = .ok (.getfield 13, 3) := by decide +kernel
theorem dX12_startSo_35 : decode cX12_startSo 35 = .ok (.bipush 78, 2) := by decide +kernel
theorem dX12_startSo_37 : decode cX12_startSo 37 = .ok (.iload_n 1, 1) := by decide +kernel
theorem dX12_startSo_38 : decode cX12_startSo 38 = .ok (.iadd, 1) := by decide +kernel
theorem dX12_startSo_39 : decode cX12_startSo 39 = .ok (.aload_n 0, 1) := by decide +kernel
theorem dX12_startSo_40 : decode cX12_startSo 40 = .ok (.getfield 13, 3) := by decide +kernel
theorem dX12_startSo_43 : decode cX12_startSo 43 = .ok (.bipush 18, 2) := by decide +kernel
theorem dX12_startSo_45 : decode cX12_startSo 45 = .ok (.iload_n 1, 1) := by decide +kernel
theorem dX12_startSo_46 : decode cX12_startSo 46 = .ok (.iadd, 1) := by decide +kernel
theorem dX12_startSo_47 : decode cX12_startSo 47 = .ok (.iaload, 1) := by decide +kernel
theorem dX12_startSo_48 : decode cX12_startSo 48 = .ok (.iastore, 1) := by decide +kernel
theorem dX12_startSo_49 : decode cX12_startSo 49 = .ok (.iinc 1 1, 3) := by decide +kernel
theorem dX12_startSo_52 : decode cX12_startSo 52 = .ok (.goto (-27), 3) := by decide +kernel
theorem dX12_startSo_55 : decode cX12_startSo 55 = .ok (.iconst 0, 1) := by decide +kernel
theorem dX12_startSo_56 : decode cX12_startSo 56 = .ok (.istore_n 1, 1) := by decide +kernel
theorem dX12_startSo_57 : decode cX12_startSo 57 = .ok (.iload_n 1, 1) := by decide +kernel
theorem dX12_startSo_58 : decode cX12_startSo 58 = .ok (.bipush 42, 2) := by decide +kernel
theorem dX12_startSo_60 : decode cX12_startSo 60 = .ok (.if_icmp .ge 27, 3) := by decide +kernel
theorem dX12_startSo_63 : decode cX12_startSo 63 = .ok (.aload_n 0, 1) := by decide +kernel
theorem dX12_startSo_64 : decode cX12_startSo 64 = .ok (.getfield 13, 3) := by decide +kernel
theorem dX12_startSo_67 : decode cX12_startSo 67 = .ok (.bipush 105, 2) := by decide +kernel
theorem dX12_startSo_69 : decode cX12_startSo 69 = .ok (.iload_n 1, 1) := by decide +kernel
theorem dX12_startSo_70 : decode cX12_startSo 70 = .ok (.iadd, 1) := by decide +kernel
theorem dX12_startSo_71 : decode cX12_startSo 71 = .ok (.aload_n 0, 1) := by decide +kernel
theorem dX12_startSo_72 : decode cX12_startSo 72 = .ok (.getfield 13, 3) := by decide +kernel
theorem dX12_startSo_75 : decode cX12_startSo 75 = .ok (.bipush 30, 2) := by decide +kernel
theorem dX12_startSo_77 : decode cX12_startSo 77 = .ok (.iload_n 1, 1) := by decide +kernel
theorem dX12_startSo_78 : decode cX12_startSo 78 = .ok (.iadd, 1) := by decide +kernel
theorem dX12_startSo_79 : decode cX12_startSo 79 = .ok (.iaload, 1) := by decide +kernel
theorem dX12_startSo_80 : decode cX12_startSo 80 = .ok (.iastore, 1) := by decide +kernel
theorem dX12_startSo_81 : decode cX12_startSo 81 = .ok (.iinc 1 1, 3) := by decide +kernel
theorem dX12_startSo_84 : decode cX12_startSo 84 = .ok (.goto (-27), 3) := by decide +kernel
theorem dX12_startSo_87 : decode cX12_startSo 87 = .ok (.return_, 1) := by decide +kernel
set_option maxRecDepth 100000 in
set_option maxHeartbeats 8000000 in
theorem c_X12_serve {l : Launch} {D : va_G} {cy : Nat → ClassId} {L : List Nat} {κ ln : Nat → Nat} {R : Nat → Nat → Option Nat} {I : Nat → Nat → Int32} {J : Nat → Nat → Int64} {ow : Nat → Nat × Nat} (W9 : ∀ a ∈ L, Shp L κ ln R ow a) {x : Nat} (hLx : x ∈ L) (hkx : κ x = 12) (a0 : Int32) (a1 : Int32) (a2 : Int32) (hU : Iw L κ R ow I) : CtI l yX12_serve cX12_serve 4 (some .int) { frames := 6, cells := 0, slots := 0, locals := 145 } D cy L κ ln R I J [.ref x, .int a0, .int a1, .int a2] (fun r I2 J2 => Iw L κ R ow I2 ∧ Fq L κ ow [1200, 1223, 83400, 83700] I I2 ∧ Fq L κ ow [] J J2 ∧ Rg (-1) 3 r) := by
  refine CtI.of (by decide +kernel) (Nat.le_of_ble_eq_true rfl) ?_
  intro p e s m below meth c B K
  have C := B.1
  have hF : Fq L κ ow [1200, 1223, 83400, 83700] I I := fq_rf
  have hG : Fq L κ ow [] J J := fq_rf
  refine g_lo (is := [0, 1, 2, 3]) (lo2 := [(0, .ref x), (1, .int a0), (2, .int a1), (3, .int a2)]) rfl ?_
  refine g_aload_n C 0 dX12_serve_0 rfl rfl ?_
  refine g_iconst C (v := 0) dX12_serve_1 (by decide) ?_
  refine h_putI C K hLx hkx f_12_82 p_12_0 dX12_serve_2 (fun I_1 hI_1 => ?_)
  have hU_2 := iw_put W9 hU hI_1 (ro_o hkx (by decide)) (lo := (-2147483648)) (hi := 2147483647) (rfl) (rg_all _) rfl
  have hF_3 := fq_puto hF hI_1 hkx (by decide) (by decide)
  refine g_aload_n C 0 dX12_serve_5 rfl rfl ?_
  refine g_iload_n C 1 dX12_serve_6 rfl rfl ?_
  refine g_callVI C K (c_X12_isPerson W9 hLx hkx a0  hU_2) hLx hkx (by decide) rfl v_12_238 rfl ⟨rfl, rfl⟩ ⟨Nat.le_of_ble_eq_true rfl, Nat.le_of_ble_eq_true rfl⟩ (Nat.le_of_ble_eq_true rfl) ⟨Nat.le_of_ble_eq_true rfl, Nat.le_of_ble_eq_true rfl⟩ dX12_serve_7 rfl (st := []) (fun x_4 I_5 J_6 h_7 => ?_)
  obtain ⟨rfl, rfl, rx_4, ex_4⟩ := h_7
  refine g_if_eq C (tgt := 42) dX12_serve_10 (by decide) (fun h_8 => ?_) (fun h_8 => ?_)
  · skip
    have r_9 := (⟨(rx_4).1, (eq_rg (h_8) rc_0).2⟩ : Rg 0 0 x_4)
    refine g_iconst C (v := (-1)) dX12_serve_42 (by decide) ?_
    exact g_zret (ty := .int) (r := (-1)) B K rfl (rfl) ⟨hU_2, hF_3, hG, rg_w rc_m1 (by decide) (by decide)⟩ dX12_serve_43
  · skip
    have n_10 : ¬ x_4 = 0 := h_8
    have r_11 := ne_lo (lo := 1) n_10 rx_4 rc_0 rfl (by decide)
    have r_12 := rg_i (rg_all a0) ((ex_4) n_10) (lo := 0) (hi := 6) (by decide) (by decide)
    refine g_aload_n C 0 dX12_serve_13 rfl rfl ?_
    refine g_iload_n C 2 dX12_serve_14 rfl rfl ?_
    refine g_callVI C K (c_X12_isDish W9 hLx hkx a1  hU_2) hLx hkx (by decide) rfl v_12_250 rfl ⟨rfl, rfl⟩ ⟨Nat.le_of_ble_eq_true rfl, Nat.le_of_ble_eq_true rfl⟩ (Nat.le_of_ble_eq_true rfl) ⟨Nat.le_of_ble_eq_true rfl, Nat.le_of_ble_eq_true rfl⟩ dX12_serve_15 rfl (st := []) (fun x_13 I_14 J_15 h_16 => ?_)
    obtain ⟨rfl, rfl, rx_13, ex_13⟩ := h_16
    refine g_if_eq C (tgt := 42) dX12_serve_18 (by decide) (fun h_17 => ?_) (fun h_17 => ?_)
    · skip
      have r_18 := (⟨(rx_13).1, (eq_rg (h_17) rc_0).2⟩ : Rg 0 0 x_13)
      refine g_iconst C (v := (-1)) dX12_serve_42 (by decide) ?_
      exact g_zret (ty := .int) (r := (-1)) B K rfl (rfl) ⟨hU_2, hF_3, hG, rg_w rc_m1 (by decide) (by decide)⟩ dX12_serve_43
    · skip
      have n_19 : ¬ x_13 = 0 := h_17
      have r_20 := ne_lo (lo := 1) n_19 rx_13 rc_0 rfl (by decide)
      have r_21 := rg_i (rg_all a1) ((ex_13) n_19) (lo := 0) (hi := 5) (by decide) (by decide)
      refine g_iload_n C 3 dX12_serve_21 rfl rfl ?_
      refine g_iconst C (v := 1) dX12_serve_22 (by decide) ?_
      refine g_bipush C (v := 40) dX12_serve_23 (by decide) ?_
      refine g_callSI C K (c_X12_isIn W9 a2 1 40 (rg_w rc_1 (by decide) (by decide)) (rg_w rc_40 (by decide) (by decide)) hU_2) s_12_149 rfl ⟨rfl, rfl⟩ ⟨Nat.le_of_ble_eq_true rfl, Nat.le_of_ble_eq_true rfl⟩ (Nat.le_of_ble_eq_true rfl) ⟨Nat.le_of_ble_eq_true rfl, Nat.le_of_ble_eq_true rfl⟩ dX12_serve_25 rfl (st := []) (fun x_22 I_23 J_24 h_25 => ?_)
      obtain ⟨rfl, rfl, rx_22, ex_22⟩ := h_25
      refine g_if_eq C (tgt := 42) dX12_serve_28 (by decide) (fun h_26 => ?_) (fun h_26 => ?_)
      · skip
        have r_27 := (⟨(rx_22).1, (eq_rg (h_26) rc_0).2⟩ : Rg 0 0 x_22)
        refine g_iconst C (v := (-1)) dX12_serve_42 (by decide) ?_
        exact g_zret (ty := .int) (r := (-1)) B K rfl (rfl) ⟨hU_2, hF_3, hG, rg_w rc_m1 (by decide) (by decide)⟩ dX12_serve_43
      · skip
        have n_28 : ¬ x_22 = 0 := h_26
        have r_29 := ne_lo (lo := 1) n_28 rx_22 rc_0 rfl (by decide)
        have r_30 := le_r (((ex_22.1) n_28)) rc_1 (rg_all a2)
        have r_31 := le_l (((ex_22.2) n_28)) r_30 rc_40
        refine g_aload_n C 0 dX12_serve_31 rfl rfl ?_
        refine g_iconst C (v := 1) dX12_serve_32 (by decide) ?_
        refine g_iload_n C 1 dX12_serve_33 rfl rfl ?_
        refine g_iload_n C 2 dX12_serve_34 rfl rfl ?_
        refine g_iload_n C 3 dX12_serve_35 rfl rfl ?_
        refine g_callVI C K (c_X12_act W9 hLx hkx 1 a0 a1 a2 (rg_w rc_1 (by decide) (by decide)) (r_12) (r_21) (rg_w r_31 (by decide) (by decide)) hU_2) hLx hkx (by decide) rfl v_12_289 rfl ⟨rfl, rfl⟩ ⟨Nat.le_of_ble_eq_true rfl, Nat.le_of_ble_eq_true rfl⟩ (Nat.le_of_ble_eq_true rfl) ⟨Nat.le_of_ble_eq_true rfl, Nat.le_of_ble_eq_true rfl⟩ dX12_serve_36 rfl (st := []) (fun x_32 I_33 J_34 h_35 => ?_)
        obtain ⟨hUI_33, hFI_33, hGJ_34, rx_32⟩ := h_35
        have hF_36 := fq_tr hF_3 hFI_33 (by decide)
        have hG_37 := fq_tr hG hGJ_34 (by decide)
        refine g_goto C (tgt := 43) dX12_serve_39 (by decide) ?_
        exact g_zret (ty := .int) (r := x_32) B K rfl (rfl) ⟨hUI_33, hF_36, hG_37, rg_w rx_32 (by decide) (by decide)⟩ dX12_serve_43
set_option maxRecDepth 100000 in
set_option maxHeartbeats 8000000 in
theorem c_X12_rise {l : Launch} {D : va_G} {cy : Nat → ClassId} {L : List Nat} {κ ln : Nat → Nat} {R : Nat → Nat → Option Nat} {I : Nat → Nat → Int32} {J : Nat → Nat → Int64} {ow : Nat → Nat × Nat} (W9 : ∀ a ∈ L, Shp L κ ln R ow a) {x : Nat} (hLx : x ∈ L) (hkx : κ x = 12) (a0 : Int32) (hU : Iw L κ R ow I) : CtI l yX12_rise cX12_rise 2 (some .int) { frames := 6, cells := 0, slots := 0, locals := 145 } D cy L κ ln R I J [.ref x, .int a0] (fun r I2 J2 => Iw L κ R ow I2 ∧ Fq L κ ow [1200, 1223, 83400, 83700] I I2 ∧ Fq L κ ow [] J J2 ∧ Rg (-1) 3 r) := by
  refine CtI.of (by decide +kernel) (Nat.le_of_ble_eq_true rfl) ?_
  intro p e s m below meth c B K
  have C := B.1
  have hF : Fq L κ ow [1200, 1223, 83400, 83700] I I := fq_rf
  have hG : Fq L κ ow [] J J := fq_rf
  refine g_lo (is := [0, 1]) (lo2 := [(0, .ref x), (1, .int a0)]) rfl ?_
  refine g_aload_n C 0 dX12_rise_0 rfl rfl ?_
  refine g_iconst C (v := 0) dX12_rise_1 (by decide) ?_
  refine h_putI C K hLx hkx f_12_82 p_12_0 dX12_rise_2 (fun I_1 hI_1 => ?_)
  have hU_2 := iw_put W9 hU hI_1 (ro_o hkx (by decide)) (lo := (-2147483648)) (hi := 2147483647) (rfl) (rg_all _) rfl
  have hF_3 := fq_puto hF hI_1 hkx (by decide) (by decide)
  refine g_aload_n C 0 dX12_rise_5 rfl rfl ?_
  refine g_iload_n C 1 dX12_rise_6 rfl rfl ?_
  refine g_callVI C K (c_X12_isPerson W9 hLx hkx a0  hU_2) hLx hkx (by decide) rfl v_12_238 rfl ⟨rfl, rfl⟩ ⟨Nat.le_of_ble_eq_true rfl, Nat.le_of_ble_eq_true rfl⟩ (Nat.le_of_ble_eq_true rfl) ⟨Nat.le_of_ble_eq_true rfl, Nat.le_of_ble_eq_true rfl⟩ dX12_rise_7 rfl (st := []) (fun x_4 I_5 J_6 h_7 => ?_)
  obtain ⟨rfl, rfl, rx_4, ex_4⟩ := h_7
  refine g_if_eq C (tgt := 24) dX12_rise_10 (by decide) (fun h_8 => ?_) (fun h_8 => ?_)
  · skip
    have r_9 := (⟨(rx_4).1, (eq_rg (h_8) rc_0).2⟩ : Rg 0 0 x_4)
    refine g_iconst C (v := (-1)) dX12_rise_24 (by decide) ?_
    exact g_zret (ty := .int) (r := (-1)) B K rfl (rfl) ⟨hU_2, hF_3, hG, rg_w rc_m1 (by decide) (by decide)⟩ dX12_rise_25
  · skip
    have n_10 : ¬ x_4 = 0 := h_8
    have r_11 := ne_lo (lo := 1) n_10 rx_4 rc_0 rfl (by decide)
    have r_12 := rg_i (rg_all a0) ((ex_4) n_10) (lo := 0) (hi := 6) (by decide) (by decide)
    refine g_aload_n C 0 dX12_rise_13 rfl rfl ?_
    refine g_iconst C (v := 2) dX12_rise_14 (by decide) ?_
    refine g_iload_n C 1 dX12_rise_15 rfl rfl ?_
    refine g_iconst C (v := 0) dX12_rise_16 (by decide) ?_
    refine g_iconst C (v := 0) dX12_rise_17 (by decide) ?_
    refine g_callVI C K (c_X12_act W9 hLx hkx 2 a0 0 0 (rg_w rc_2 (by decide) (by decide)) (r_12) (rg_w rc_0 (by decide) (by decide)) (rg_w rc_0 (by decide) (by decide)) hU_2) hLx hkx (by decide) rfl v_12_289 rfl ⟨rfl, rfl⟩ ⟨Nat.le_of_ble_eq_true rfl, Nat.le_of_ble_eq_true rfl⟩ (Nat.le_of_ble_eq_true rfl) ⟨Nat.le_of_ble_eq_true rfl, Nat.le_of_ble_eq_true rfl⟩ dX12_rise_18 rfl (st := []) (fun x_13 I_14 J_15 h_16 => ?_)
    obtain ⟨hUI_14, hFI_14, hGJ_15, rx_13⟩ := h_16
    have hF_17 := fq_tr hF_3 hFI_14 (by decide)
    have hG_18 := fq_tr hG hGJ_15 (by decide)
    refine g_goto C (tgt := 25) dX12_rise_21 (by decide) ?_
    exact g_zret (ty := .int) (r := x_13) B K rfl (rfl) ⟨hUI_14, hF_17, hG_18, rg_w rx_13 (by decide) (by decide)⟩ dX12_rise_25
set_option maxRecDepth 100000 in
set_option maxHeartbeats 8000000 in
theorem c_X12_refuse_ {l : Launch} {D : va_G} {cy : Nat → ClassId} {L : List Nat} {κ ln : Nat → Nat} {R : Nat → Nat → Option Nat} {I : Nat → Nat → Int32} {J : Nat → Nat → Int64} {ow : Nat → Nat × Nat} (W9 : ∀ a ∈ L, Shp L κ ln R ow a) {x : Nat} (hLx : x ∈ L) (hkx : κ x = 12) (a0 : Int32) (hU : Iw L κ R ow I) : CtI l yX12_refuse_ cX12_refuse_ 2 (some .int) { frames := 6, cells := 0, slots := 0, locals := 145 } D cy L κ ln R I J [.ref x, .int a0] (fun r I2 J2 => Iw L κ R ow I2 ∧ Fq L κ ow [1200, 1223, 83400, 83700] I I2 ∧ Fq L κ ow [] J J2 ∧ Rg (-1) 3 r) := by
  refine CtI.of (by decide +kernel) (Nat.le_of_ble_eq_true rfl) ?_
  intro p e s m below meth c B K
  have C := B.1
  have hF : Fq L κ ow [1200, 1223, 83400, 83700] I I := fq_rf
  have hG : Fq L κ ow [] J J := fq_rf
  refine g_lo (is := [0, 1]) (lo2 := [(0, .ref x), (1, .int a0)]) rfl ?_
  refine g_aload_n C 0 dX12_refuse__0 rfl rfl ?_
  refine g_iconst C (v := 0) dX12_refuse__1 (by decide) ?_
  refine h_putI C K hLx hkx f_12_82 p_12_0 dX12_refuse__2 (fun I_1 hI_1 => ?_)
  have hU_2 := iw_put W9 hU hI_1 (ro_o hkx (by decide)) (lo := (-2147483648)) (hi := 2147483647) (rfl) (rg_all _) rfl
  have hF_3 := fq_puto hF hI_1 hkx (by decide) (by decide)
  refine g_aload_n C 0 dX12_refuse__5 rfl rfl ?_
  refine g_iload_n C 1 dX12_refuse__6 rfl rfl ?_
  refine g_callVI C K (c_X12_isPerson W9 hLx hkx a0  hU_2) hLx hkx (by decide) rfl v_12_238 rfl ⟨rfl, rfl⟩ ⟨Nat.le_of_ble_eq_true rfl, Nat.le_of_ble_eq_true rfl⟩ (Nat.le_of_ble_eq_true rfl) ⟨Nat.le_of_ble_eq_true rfl, Nat.le_of_ble_eq_true rfl⟩ dX12_refuse__7 rfl (st := []) (fun x_4 I_5 J_6 h_7 => ?_)
  obtain ⟨rfl, rfl, rx_4, ex_4⟩ := h_7
  refine g_if_eq C (tgt := 24) dX12_refuse__10 (by decide) (fun h_8 => ?_) (fun h_8 => ?_)
  · skip
    have r_9 := (⟨(rx_4).1, (eq_rg (h_8) rc_0).2⟩ : Rg 0 0 x_4)
    refine g_iconst C (v := (-1)) dX12_refuse__24 (by decide) ?_
    exact g_zret (ty := .int) (r := (-1)) B K rfl (rfl) ⟨hU_2, hF_3, hG, rg_w rc_m1 (by decide) (by decide)⟩ dX12_refuse__25
  · skip
    have n_10 : ¬ x_4 = 0 := h_8
    have r_11 := ne_lo (lo := 1) n_10 rx_4 rc_0 rfl (by decide)
    have r_12 := rg_i (rg_all a0) ((ex_4) n_10) (lo := 0) (hi := 6) (by decide) (by decide)
    refine g_aload_n C 0 dX12_refuse__13 rfl rfl ?_
    refine g_iconst C (v := 3) dX12_refuse__14 (by decide) ?_
    refine g_iload_n C 1 dX12_refuse__15 rfl rfl ?_
    refine g_iconst C (v := 0) dX12_refuse__16 (by decide) ?_
    refine g_iconst C (v := 0) dX12_refuse__17 (by decide) ?_
    refine g_callVI C K (c_X12_act W9 hLx hkx 3 a0 0 0 (rg_w rc_3 (by decide) (by decide)) (r_12) (rg_w rc_0 (by decide) (by decide)) (rg_w rc_0 (by decide) (by decide)) hU_2) hLx hkx (by decide) rfl v_12_289 rfl ⟨rfl, rfl⟩ ⟨Nat.le_of_ble_eq_true rfl, Nat.le_of_ble_eq_true rfl⟩ (Nat.le_of_ble_eq_true rfl) ⟨Nat.le_of_ble_eq_true rfl, Nat.le_of_ble_eq_true rfl⟩ dX12_refuse__18 rfl (st := []) (fun x_13 I_14 J_15 h_16 => ?_)
    obtain ⟨hUI_14, hFI_14, hGJ_15, rx_13⟩ := h_16
    have hF_17 := fq_tr hF_3 hFI_14 (by decide)
    have hG_18 := fq_tr hG hGJ_15 (by decide)
    refine g_goto C (tgt := 25) dX12_refuse__21 (by decide) ?_
    exact g_zret (ty := .int) (r := x_13) B K rfl (rfl) ⟨hUI_14, hF_17, hG_18, rg_w rx_13 (by decide) (by decide)⟩ dX12_refuse__25
set_option maxRecDepth 100000 in
set_option maxHeartbeats 8000000 in
theorem c_X12_accept {l : Launch} {D : va_G} {cy : Nat → ClassId} {L : List Nat} {κ ln : Nat → Nat} {R : Nat → Nat → Option Nat} {I : Nat → Nat → Int32} {J : Nat → Nat → Int64} {ow : Nat → Nat × Nat} (W9 : ∀ a ∈ L, Shp L κ ln R ow a) {x : Nat} (hLx : x ∈ L) (hkx : κ x = 12) (a0 : Int32) (hU : Iw L κ R ow I) : CtI l yX12_accept cX12_accept 2 (some .int) { frames := 6, cells := 0, slots := 0, locals := 145 } D cy L κ ln R I J [.ref x, .int a0] (fun r I2 J2 => Iw L κ R ow I2 ∧ Fq L κ ow [1200, 1223, 83400, 83700] I I2 ∧ Fq L κ ow [] J J2 ∧ Rg (-1) 3 r) := by
  refine CtI.of (by decide +kernel) (Nat.le_of_ble_eq_true rfl) ?_
  intro p e s m below meth c B K
  have C := B.1
  have hF : Fq L κ ow [1200, 1223, 83400, 83700] I I := fq_rf
  have hG : Fq L κ ow [] J J := fq_rf
  refine g_lo (is := [0, 1]) (lo2 := [(0, .ref x), (1, .int a0)]) rfl ?_
  refine g_aload_n C 0 dX12_accept_0 rfl rfl ?_
  refine g_iconst C (v := 0) dX12_accept_1 (by decide) ?_
  refine h_putI C K hLx hkx f_12_82 p_12_0 dX12_accept_2 (fun I_1 hI_1 => ?_)
  have hU_2 := iw_put W9 hU hI_1 (ro_o hkx (by decide)) (lo := (-2147483648)) (hi := 2147483647) (rfl) (rg_all _) rfl
  have hF_3 := fq_puto hF hI_1 hkx (by decide) (by decide)
  refine g_aload_n C 0 dX12_accept_5 rfl rfl ?_
  refine g_iload_n C 1 dX12_accept_6 rfl rfl ?_
  refine g_callVI C K (c_X12_isPerson W9 hLx hkx a0  hU_2) hLx hkx (by decide) rfl v_12_238 rfl ⟨rfl, rfl⟩ ⟨Nat.le_of_ble_eq_true rfl, Nat.le_of_ble_eq_true rfl⟩ (Nat.le_of_ble_eq_true rfl) ⟨Nat.le_of_ble_eq_true rfl, Nat.le_of_ble_eq_true rfl⟩ dX12_accept_7 rfl (st := []) (fun x_4 I_5 J_6 h_7 => ?_)
  obtain ⟨rfl, rfl, rx_4, ex_4⟩ := h_7
  refine g_if_eq C (tgt := 24) dX12_accept_10 (by decide) (fun h_8 => ?_) (fun h_8 => ?_)
  · skip
    have r_9 := (⟨(rx_4).1, (eq_rg (h_8) rc_0).2⟩ : Rg 0 0 x_4)
    refine g_iconst C (v := (-1)) dX12_accept_24 (by decide) ?_
    exact g_zret (ty := .int) (r := (-1)) B K rfl (rfl) ⟨hU_2, hF_3, hG, rg_w rc_m1 (by decide) (by decide)⟩ dX12_accept_25
  · skip
    have n_10 : ¬ x_4 = 0 := h_8
    have r_11 := ne_lo (lo := 1) n_10 rx_4 rc_0 rfl (by decide)
    have r_12 := rg_i (rg_all a0) ((ex_4) n_10) (lo := 0) (hi := 6) (by decide) (by decide)
    refine g_aload_n C 0 dX12_accept_13 rfl rfl ?_
    refine g_iconst C (v := 4) dX12_accept_14 (by decide) ?_
    refine g_iload_n C 1 dX12_accept_15 rfl rfl ?_
    refine g_iconst C (v := 0) dX12_accept_16 (by decide) ?_
    refine g_iconst C (v := 0) dX12_accept_17 (by decide) ?_
    refine g_callVI C K (c_X12_act W9 hLx hkx 4 a0 0 0 (rg_w rc_4 (by decide) (by decide)) (r_12) (rg_w rc_0 (by decide) (by decide)) (rg_w rc_0 (by decide) (by decide)) hU_2) hLx hkx (by decide) rfl v_12_289 rfl ⟨rfl, rfl⟩ ⟨Nat.le_of_ble_eq_true rfl, Nat.le_of_ble_eq_true rfl⟩ (Nat.le_of_ble_eq_true rfl) ⟨Nat.le_of_ble_eq_true rfl, Nat.le_of_ble_eq_true rfl⟩ dX12_accept_18 rfl (st := []) (fun x_13 I_14 J_15 h_16 => ?_)
    obtain ⟨hUI_14, hFI_14, hGJ_15, rx_13⟩ := h_16
    have hF_17 := fq_tr hF_3 hFI_14 (by decide)
    have hG_18 := fq_tr hG hGJ_15 (by decide)
    refine g_goto C (tgt := 25) dX12_accept_21 (by decide) ?_
    exact g_zret (ty := .int) (r := x_13) B K rfl (rfl) ⟨hUI_14, hF_17, hG_18, rg_w rx_13 (by decide) (by decide)⟩ dX12_accept_25
set_option maxRecDepth 100000 in
set_option maxHeartbeats 8000000 in
theorem c_X12_die {l : Launch} {D : va_G} {cy : Nat → ClassId} {L : List Nat} {κ ln : Nat → Nat} {R : Nat → Nat → Option Nat} {I : Nat → Nat → Int32} {J : Nat → Nat → Int64} {ow : Nat → Nat × Nat} (W9 : ∀ a ∈ L, Shp L κ ln R ow a) {x : Nat} (hLx : x ∈ L) (hkx : κ x = 12) (a0 : Int32) (hU : Iw L κ R ow I) : CtI l yX12_die cX12_die 2 (some .int) { frames := 6, cells := 0, slots := 0, locals := 145 } D cy L κ ln R I J [.ref x, .int a0] (fun r I2 J2 => Iw L κ R ow I2 ∧ Fq L κ ow [1200, 1223, 83400, 83700] I I2 ∧ Fq L κ ow [] J J2 ∧ Rg (-1) 3 r) := by
  refine CtI.of (by decide +kernel) (Nat.le_of_ble_eq_true rfl) ?_
  intro p e s m below meth c B K
  have C := B.1
  have hF : Fq L κ ow [1200, 1223, 83400, 83700] I I := fq_rf
  have hG : Fq L κ ow [] J J := fq_rf
  refine g_lo (is := [0, 1]) (lo2 := [(0, .ref x), (1, .int a0)]) rfl ?_
  refine g_aload_n C 0 dX12_die_0 rfl rfl ?_
  refine g_iconst C (v := 0) dX12_die_1 (by decide) ?_
  refine h_putI C K hLx hkx f_12_82 p_12_0 dX12_die_2 (fun I_1 hI_1 => ?_)
  have hU_2 := iw_put W9 hU hI_1 (ro_o hkx (by decide)) (lo := (-2147483648)) (hi := 2147483647) (rfl) (rg_all _) rfl
  have hF_3 := fq_puto hF hI_1 hkx (by decide) (by decide)
  refine g_aload_n C 0 dX12_die_5 rfl rfl ?_
  refine g_iload_n C 1 dX12_die_6 rfl rfl ?_
  refine g_callVI C K (c_X12_isPerson W9 hLx hkx a0  hU_2) hLx hkx (by decide) rfl v_12_238 rfl ⟨rfl, rfl⟩ ⟨Nat.le_of_ble_eq_true rfl, Nat.le_of_ble_eq_true rfl⟩ (Nat.le_of_ble_eq_true rfl) ⟨Nat.le_of_ble_eq_true rfl, Nat.le_of_ble_eq_true rfl⟩ dX12_die_7 rfl (st := []) (fun x_4 I_5 J_6 h_7 => ?_)
  obtain ⟨rfl, rfl, rx_4, ex_4⟩ := h_7
  refine g_if_eq C (tgt := 24) dX12_die_10 (by decide) (fun h_8 => ?_) (fun h_8 => ?_)
  · skip
    have r_9 := (⟨(rx_4).1, (eq_rg (h_8) rc_0).2⟩ : Rg 0 0 x_4)
    refine g_iconst C (v := (-1)) dX12_die_24 (by decide) ?_
    exact g_zret (ty := .int) (r := (-1)) B K rfl (rfl) ⟨hU_2, hF_3, hG, rg_w rc_m1 (by decide) (by decide)⟩ dX12_die_25
  · skip
    have n_10 : ¬ x_4 = 0 := h_8
    have r_11 := ne_lo (lo := 1) n_10 rx_4 rc_0 rfl (by decide)
    have r_12 := rg_i (rg_all a0) ((ex_4) n_10) (lo := 0) (hi := 6) (by decide) (by decide)
    refine g_aload_n C 0 dX12_die_13 rfl rfl ?_
    refine g_iconst C (v := 5) dX12_die_14 (by decide) ?_
    refine g_iload_n C 1 dX12_die_15 rfl rfl ?_
    refine g_iconst C (v := 0) dX12_die_16 (by decide) ?_
    refine g_iconst C (v := 0) dX12_die_17 (by decide) ?_
    refine g_callVI C K (c_X12_act W9 hLx hkx 5 a0 0 0 (rg_w rc_5 (by decide) (by decide)) (r_12) (rg_w rc_0 (by decide) (by decide)) (rg_w rc_0 (by decide) (by decide)) hU_2) hLx hkx (by decide) rfl v_12_289 rfl ⟨rfl, rfl⟩ ⟨Nat.le_of_ble_eq_true rfl, Nat.le_of_ble_eq_true rfl⟩ (Nat.le_of_ble_eq_true rfl) ⟨Nat.le_of_ble_eq_true rfl, Nat.le_of_ble_eq_true rfl⟩ dX12_die_18 rfl (st := []) (fun x_13 I_14 J_15 h_16 => ?_)
    obtain ⟨hUI_14, hFI_14, hGJ_15, rx_13⟩ := h_16
    have hF_17 := fq_tr hF_3 hFI_14 (by decide)
    have hG_18 := fq_tr hG hGJ_15 (by decide)
    refine g_goto C (tgt := 25) dX12_die_21 (by decide) ?_
    exact g_zret (ty := .int) (r := x_13) B K rfl (rfl) ⟨hUI_14, hF_17, hG_18, rg_w rx_13 (by decide) (by decide)⟩ dX12_die_25
set_option maxRecDepth 100000 in
set_option maxHeartbeats 8000000 in
theorem c_X12_oneMeal {l : Launch} {D : va_G} {cy : Nat → ClassId} {L : List Nat} {κ ln : Nat → Nat} {R : Nat → Nat → Option Nat} {I : Nat → Nat → Int32} {J : Nat → Nat → Int64} {ow : Nat → Nat × Nat} (W9 : ∀ a ∈ L, Shp L κ ln R ow a) {x : Nat} (hLx : x ∈ L) (hkx : κ x = 12) (hU : Iw L κ R ow I) : CtV l yX12_oneMeal cX12_oneMeal 4 none { frames := 2, cells := 0, slots := 0, locals := 42 } D cy L κ ln R I J [.ref x] (fun I2 J2 => Iw L κ R ow I2 ∧ Fq L κ ow [83400] I I2 ∧ Fq L κ ow [] J J2 ∧ (Hd_ R x I I2)) := by
  refine CtV.of (by decide +kernel) (Nat.le_of_ble_eq_true rfl) ?_
  intro p e s m below meth c B K
  have C := B.1
  have hF : Fq L κ ow [83400] I I := fq_rf
  have hG : Fq L κ ow [] J J := fq_rf
  obtain ⟨b_1, hb_1, hb_1L, hb_1k, hb_1n, hb_1o⟩ := shp_a (W9 x hLx) hkx 14 14 389 rfl (by decide)
  refine g_lo (is := [0]) (lo2 := [(0, .ref x)]) rfl ?_
  have l_2 : ∀ (n_2 : Nat) (I_2 : Nat → Nat → Int32) (J_3 : Nat → Nat → Int64) (hU_4 : Iw L κ R ow I_2) (hF_5 : Fq L κ ow [83400] I I_2) (hG_6 : Fq L κ ow [] J J_3) (v_7 : Int32) (rv_7 : Rg 0 7 v_7) (hd_8 : Hd_ R x I I_2) (hm_9 : 7 < (v_7 : Int32).toInt + (n_2 : Int)), WG p l e { frames := 2, cells := 0, slots := 0, locals := 42 } s m ([.ref x] : List Value).toArray below meth c 4 0 0 (MQ below (Qv_ D cy L κ ln R (fun I2 J2 => Iw L κ R ow I2 ∧ Fq L κ ow [83400] I I2 ∧ Fq L κ ow [] J J2 ∧ (Hd_ R x I I2))) ([.ref x] : List Value).toArray s 0 0 (Al_ L)) D cy (Al_ L) s.heap L κ ln R I_2 J_3 2 [(0, .ref x), (1, .int v_7)] [] := by
    intro n_2
    induction n_2 with
    | zero =>
      intro I_2 J_3 hU_4 hF_5 hG_6 v_7 rv_7 hd_8 hm_9
      exact ms_0 rv_7 hm_9
    | succ n_2 ih_2 =>
      intro I_2 J_3 hU_4 hF_5 hG_6 v_7 rv_7 hd_8 hm_9
      have l_39 : ∀ (n_39 : Nat) (I_10 : Nat → Nat → Int32) (J_11 : Nat → Nat → Int64) (hU_12 : Iw L κ R ow I_10) (hF_13 : Fq L κ ow [83400] I I_10) (hG_14 : Fq L κ ow [] J J_11) (v_15 : Int32) (rv_15 : Rg 0 6 v_15) (v_16 : Int32) (rv_16 : Rg 0 6 v_16) (hm_17 : 7 < (v_15 : Int32).toInt + ((n_2 + 1 : Nat) : Int)) (hd_18 : Hd_ R x I I_10) (hm_19 : 6 < (v_16 : Int32).toInt + (n_39 : Int)), WG p l e { frames := 2, cells := 0, slots := 0, locals := 42 } s m ([.ref x] : List Value).toArray below meth c 4 0 0 (MQ below (Qv_ D cy L κ ln R (fun I2 J2 => Iw L κ R ow I2 ∧ Fq L κ ow [83400] I I2 ∧ Fq L κ ow [] J J2 ∧ (Hd_ R x I I2))) ([.ref x] : List Value).toArray s 0 0 (Al_ L)) D cy (Al_ L) s.heap L κ ln R I_10 J_11 39 [(0, .ref x), (1, .int v_15), (2, .int v_16)] [] := by
        intro n_39
        induction n_39 with
        | zero =>
          intro I_10 J_11 hU_12 hF_13 hG_14 v_15 rv_15 v_16 rv_16 hm_17 hd_18 hm_19
          exact ms_0 rv_16 hm_19
        | succ n_39 ih_39 =>
          intro I_10 J_11 hU_12 hF_13 hG_14 v_15 rv_15 v_16 rv_16 hm_17 hd_18 hm_19
          refine g_iload_n C 2 dX12_oneMeal_39 rfl rfl ?_
          refine g_bipush C (v := 6) dX12_oneMeal_40 (by decide) ?_
          refine g_icmp_ge C (tgt := 99) dX12_oneMeal_42 (by decide) (fun h_20 => ?_) (fun h_20 => ?_)
          · skip
            have r_21 := le_r (h_20) rc_6 rv_16
            refine g_aload_n C 0 dX12_oneMeal_99 rfl rfl ?_
            refine g_getR C K hLx hkx f_12_13 hb_1 dX12_oneMeal_100 ?_
            refine g_bipush C (v := 91) dX12_oneMeal_103 (by decide) ?_
            refine g_iload_n C 1 dX12_oneMeal_105 rfl rfl ?_
            obtain ⟨x_22, hx_22, rx_22, tx_22⟩ := ex_add 91 97 rc_91 rv_15 (by decide) (by decide) (by decide) (by decide)
            refine g_iadd C (v := x_22) dX12_oneMeal_106 hx_22 ?_
            refine g_iconst C (v := 0) dX12_oneMeal_107 (by decide) ?_
            refine h_iast C K hb_1L hb_1k (x_22.toNatClampNeg) (rfl) (ix_0 rx_22 (by decide)) (ix_lt rx_22 (by decide) hb_1n (by decide)) dX12_oneMeal_108 (fun I_23 hI_23 => ?_)
            have hU_24 := iw_just W9 hU_12 (uw_put hU_12.1 hI_23 (ro_a hb_1k (by decide) hb_1o hkx rfl) (lo := 0) (hi := 20) (bn_834.trans (zq_91 (ix_k (lo := 91) (hi := 97) rx_22 (by decide) (by decide) (by decide)))) (rg_w rc_0 (by decide) (by decide))) hLx hkx hb_1 hI_23 (ix_lt (n := 7) (N := 7) rv_15 (by decide) rfl (by decide)) (show x_22.toNatClampNeg = 91 + v_15.toNatClampNeg from by rw [nx_a tx_22 rc_91 rv_15 (by decide)]; rfl) (by rw [show (0 : Int32).toInt = 0 from by decide]; have q := hU_12.1 _ hb_1L (4 + v_15.toNatClampNeg); rw [(ro_a hb_1k (by decide) hb_1o hkx rfl), show bN 834 (4 + v_15.toNatClampNeg) = (0, 20) from bn_834.trans (zq_4 (by have := (ix_lt (n := 7) (N := 7) rv_15 (by decide) rfl (by decide)); omega))] at q; exact q.1)
            have hF_25 := fq_puta hF_13 hI_23 (ro_a hb_1k (by decide) hb_1o hkx rfl) (by decide) (by decide)
            obtain ⟨x_26, hx_26, rx_26, tx_26⟩ := ex_add (y := 1) 1 7 rv_15 rc_1 (by decide) (by decide) (by decide) (by decide)
            refine g_iinc C dX12_oneMeal_109 (k := 1) (v := x_26) rfl hx_26 (by decide) (lo2 := [(1, .int x_26), (0, .ref x), (2, .int v_16)]) rfl ?_
            refine g_goto C (tgt := 2) dX12_oneMeal_112 (by decide) ?_
            refine g_lo (is := [1, 0]) (lo2 := [(0, .ref x), (1, .int x_26)]) rfl ?_
            exact ih_2 I_23 J_11 hU_24 hF_25 hG_14 x_26 (rg_w rx_26 (by decide) (by decide)) (hd_u (r := 0) W9 hLx hkx hd_18 hI_23 (Or.inr (Or.inr (ix_ge rx_22 (by decide))))) (ms_1 hm_17 (ti_k tx_26 rc_1) (by decide))
          · skip
            have r_27 := lt_l (hi := 5) (nle h_20) rv_16 rc_6 (by decide)
            refine g_aload_n C 0 dX12_oneMeal_45 rfl rfl ?_
            refine g_getR C K hLx hkx f_12_13 hb_1 dX12_oneMeal_46 ?_
            refine g_bipush C (v := 24) dX12_oneMeal_49 (by decide) ?_
            refine g_iload_n C 2 dX12_oneMeal_51 rfl rfl ?_
            obtain ⟨x_28, hx_28, rx_28, tx_28⟩ := ex_add 24 29 rc_24 r_27 (by decide) (by decide) (by decide) (by decide)
            refine g_iadd C (v := x_28) dX12_oneMeal_52 hx_28 ?_
            obtain ⟨x_29, hx_29, rx_29⟩ := ex_getw (I := I_10) (a := b_1) (j := x_28.toNatClampNeg) (lo := 0) (hi := 9) hU_12.1 hb_1L (ro_a hb_1k (by decide) hb_1o hkx rfl) (bn_834.trans (zq_24 (ix_k (lo := 24) (hi := 29) rx_28 (by decide) (by decide) (by decide))))
            refine h_iald C K hb_1L hb_1k (v := x_29) (x_28.toNatClampNeg) (rfl) (ix_0 rx_28 (by decide)) (ix_lt rx_28 (by decide) hb_1n (by decide)) hx_29 dX12_oneMeal_53 ?_
            refine g_aload_n C 0 dX12_oneMeal_54 rfl rfl ?_
            refine g_iload_n C 1 dX12_oneMeal_55 rfl rfl ?_
            refine g_iload_n C 2 dX12_oneMeal_56 rfl rfl ?_
            refine g_callVI C K (c_X12_onPlate W9 hLx hkx v_15 v_16 (rv_15) (r_27) hU_12) hLx hkx (by decide) rfl v_12_234 rfl ⟨rfl, rfl⟩ ⟨Nat.le_of_ble_eq_true rfl, Nat.le_of_ble_eq_true rfl⟩ (Nat.le_of_ble_eq_true rfl) ⟨Nat.le_of_ble_eq_true rfl, Nat.le_of_ble_eq_true rfl⟩ dX12_oneMeal_57 rfl (st := [.int x_29]) (fun x_30 I_31 J_32 h_33 => ?_)
            obtain ⟨rfl, rfl, rx_30, ex_30⟩ := h_33
            refine g_callSI C K (c_X12_least W9 x_29 x_30  hU_12) s_12_265 rfl ⟨rfl, rfl⟩ ⟨Nat.le_of_ble_eq_true rfl, Nat.le_of_ble_eq_true rfl⟩ (Nat.le_of_ble_eq_true rfl) ⟨Nat.le_of_ble_eq_true rfl, Nat.le_of_ble_eq_true rfl⟩ dX12_oneMeal_60 rfl (st := []) (fun x_34 I_35 J_36 h_37 => ?_)
            obtain ⟨rfl, rfl, rx_34, ex_34⟩ := h_37
            have r_38 := ls_rg ex_34 rx_29 rx_30 (lo := 0) (hi := 9) (by decide) (by decide)
            refine g_istore_n C dX12_oneMeal_63 rfl (by decide) (lo2 := [(3, .int x_34), (0, .ref x), (1, .int v_15), (2, .int v_16)]) rfl ?_
            refine g_aload_n C 1 dX12_oneMeal_64 rfl rfl ?_
            refine g_getR C K hLx hkx f_12_13 hb_1 dX12_oneMeal_65 ?_
            refine g_bipush C (v := 105) dX12_oneMeal_68 (by decide) ?_
            refine g_bipush C (v := 6) dX12_oneMeal_70 (by decide) ?_
            refine g_iload_n C 2 dX12_oneMeal_72 rfl rfl ?_
            obtain ⟨x_39, hx_39, rx_39, tx_39⟩ := ex_mulT 0 36 rc_6 rv_15 (by decide) (by decide) (by decide) (by decide) (by decide)
            refine g_imul C (v := x_39) dX12_oneMeal_73 hx_39 ?_
            obtain ⟨x_40, hx_40, rx_40, tx_40⟩ := ex_add 105 141 rc_105 rx_39 (by decide) (by decide) (by decide) (by decide)
            refine g_iadd C (v := x_40) dX12_oneMeal_74 hx_40 ?_
            refine g_iload_n C 3 dX12_oneMeal_75 rfl rfl ?_
            obtain ⟨x_41, hx_41, rx_41, tx_41⟩ := ex_add 105 146 rx_40 r_27 (by decide) (by decide) (by decide) (by decide)
            refine g_iadd C (v := x_41) dX12_oneMeal_76 hx_41 ?_
            refine g_dup2 C dX12_oneMeal_77 rfl rfl ?_
            obtain ⟨x_42, hx_42, rx_42⟩ := ex_getw (I := I_10) (a := b_1) (j := x_41.toNatClampNeg) (lo := 0) (hi := 379) hU_12.1 hb_1L (ro_a hb_1k (by decide) hb_1o hkx rfl) (bn_834.trans (zq_105 (ix_k (lo := 105) (hi := 146) rx_41 (by decide) (by decide) (by decide))))
            refine h_iald C K hb_1L hb_1k (v := x_42) (x_41.toNatClampNeg) (rfl) (ix_0 rx_41 (by decide)) (ix_lt rx_41 (by decide) hb_1n (by decide)) hx_42 dX12_oneMeal_78 ?_
            refine g_iload_n C 0 dX12_oneMeal_79 rfl rfl ?_
            obtain ⟨x_43, hx_43, rx_43, tx_43⟩ := ex_suble 379 rx_42 r_38 ((show x_34 ≤ x_42 from by rw [← hx_42, (show x_41.toNatClampNeg = 105 + 6 * v_15.toNatClampNeg + v_16.toNatClampNeg from by rw [nx_a tx_41 rx_40 r_27 (by decide), nx_a tx_40 rc_105 rx_39 (by decide), nx_m (k := 6) tx_39 rv_15 (by decide)]; rfl), ← ex_30 _ hb_1]; exact ex_34.2.1)) (by decide) (by decide)
            refine g_isub C (v := x_43) dX12_oneMeal_80 hx_43 ?_
            refine h_iast C K hb_1L hb_1k (x_41.toNatClampNeg) (rfl) (ix_0 rx_41 (by decide)) (ix_lt rx_41 (by decide) hb_1n (by decide)) dX12_oneMeal_81 (fun I_44 hI_44 => ?_)
            have hU_45 := iw_less W9 hU_12 (uw_put hU_12.1 hI_44 (ro_a hb_1k (by decide) hb_1o hkx rfl) (lo := 0) (hi := 379) (bn_834.trans (zq_105 (ix_k (lo := 105) (hi := 146) rx_41 (by decide) (by decide) (by decide)))) (rx_43)) hLx hkx hb_1 hI_44 (ix_lt (n := 6) (N := 6) r_27 (by decide) rfl (by decide)) (Or.inr ⟨v_15.toNatClampNeg, (ix_lt (n := 7) (N := 7) rv_15 (by decide) rfl (by decide)), rfl⟩ : cl_ v_16.toNatClampNeg (33 + 6 * v_15.toNatClampNeg + v_16.toNatClampNeg)) (show x_41.toNatClampNeg = 72 + (33 + 6 * v_15.toNatClampNeg + v_16.toNatClampNeg) from by rw [nx_a tx_41 rx_40 r_27 (by decide), nx_a tx_40 rc_105 rx_39 (by decide), nx_m (k := 6) tx_39 rv_15 (by decide)]; show 105 + 6 * _ + _ = _; omega) (by rw [hx_42, tx_43]; have := (r_38).1; omega)
            have hF_46 := fq_puta hF_13 hI_44 (ro_a hb_1k (by decide) hb_1o hkx rfl) (by decide) (by decide)
            refine g_aload_n C 1 dX12_oneMeal_82 rfl rfl ?_
            refine g_getR C K hLx hkx f_12_13 hb_1 dX12_oneMeal_83 ?_
            refine g_bipush C (v := 76) dX12_oneMeal_86 (by decide) ?_
            refine g_dup2 C dX12_oneMeal_88 rfl rfl ?_
            obtain ⟨x_47, hx_47, rx_47⟩ := ex_any (z0 := I_44 b_1 (76))
            refine h_iald C K hb_1L hb_1k (v := x_47) (76) (by decide) (by decide) (by rw [hb_1n]; decide) hx_47 dX12_oneMeal_89 ?_
            refine g_iload_n C 0 dX12_oneMeal_90 rfl rfl ?_
            obtain ⟨x_48, hx_48, rx_48⟩ := ex_any (z0 := x_47 + x_34)
            refine g_iadd C (v := x_48) dX12_oneMeal_91 hx_48 ?_
            refine h_iast C K hb_1L hb_1k (76) (by decide) (by decide) (by rw [hb_1n]; decide) dX12_oneMeal_92 (fun I_49 hI_49 => ?_)
            have hU_50 := iw_free W9 hU_45 (uw_put hU_45.1 hI_49 (ro_a hb_1k (by decide) hb_1o hkx rfl) (lo := (-2147483648)) (hi := 2147483647) (by decide) (rx_48)) hLx hkx hb_1 hI_49 (by omega)
            have hF_51 := fq_puta hF_46 hI_49 (ro_a hb_1k (by decide) hb_1o hkx rfl) (by decide) (by decide)
            obtain ⟨x_52, hx_52, rx_52, tx_52⟩ := ex_add (y := 1) 1 6 r_27 rc_1 (by decide) (by decide) (by decide) (by decide)
            refine g_iinc C dX12_oneMeal_93 (k := 3) (v := x_52) rfl hx_52 (by decide) (lo2 := [(2, .int x_52), (3, .int x_34), (0, .ref x), (1, .int v_15)]) rfl ?_
            refine g_goto C (tgt := 39) dX12_oneMeal_96 (by decide) ?_
            refine g_lo (is := [2, 3, 0]) (lo2 := [(0, .ref x), (1, .int v_15), (2, .int x_52)]) rfl ?_
            exact ih_39 I_49 J_11 hU_50 hF_51 hG_14 v_15 (rv_15) x_52 (rg_w rx_52 (by decide) (by decide)) hm_17 (hd_u (r := 0) W9 hLx hkx (hd_u (r := 0) W9 hLx hkx hd_18 hI_44 (Or.inr (Or.inr (ix_ge rx_41 (by decide))))) hI_49 (Or.inr (Or.inr (by decide)))) (ms_1 hm_19 (ti_k tx_52 rc_1) (by decide))
      have j_37 : ∀ (I_53 : Nat → Nat → Int32) (J_54 : Nat → Nat → Int64) (hU_55 : Iw L κ R ow I_53) (hF_56 : Fq L κ ow [83400] I I_53) (hG_57 : Fq L κ ow [] J J_54) (v_58 : Int32) (rv_58 : Rg 0 6 v_58) (hm_59 : 7 < (v_58 : Int32).toInt + ((n_2 + 1 : Nat) : Int)) (hd_60 : Hd_ R x I I_53), WG p l e { frames := 2, cells := 0, slots := 0, locals := 42 } s m ([.ref x] : List Value).toArray below meth c 4 0 0 (MQ below (Qv_ D cy L κ ln R (fun I2 J2 => Iw L κ R ow I2 ∧ Fq L κ ow [83400] I I2 ∧ Fq L κ ow [] J J2 ∧ (Hd_ R x I I2))) ([.ref x] : List Value).toArray s 0 0 (Al_ L)) D cy (Al_ L) s.heap L κ ln R I_53 J_54 37 [(0, .ref x), (1, .int v_58)] [] := by
        intro I_53 J_54 hU_55 hF_56 hG_57 v_58 rv_58 hm_59 hd_60
        refine g_iconst C (v := 0) dX12_oneMeal_37 (by decide) ?_
        refine g_istore_n C dX12_oneMeal_38 rfl (by decide) (lo2 := [(2, .int 0), (0, .ref x), (1, .int v_58)]) rfl ?_
        refine g_lo (is := [1, 2, 0]) (lo2 := [(0, .ref x), (1, .int v_58), (2, .int 0)]) rfl ?_
        exact l_39 7 I_53 J_54 hU_55 hF_56 hG_57 v_58 (rv_58) 0 (rg_w rc_0 (by decide) (by decide)) hm_59 hd_60 (ms_s (a := 0) (b := 6) (N := 7) (rg_w rc_0 (by decide) (by decide)) (by decide))
      refine g_iload_n C 1 dX12_oneMeal_2 rfl rfl ?_
      refine g_aload_n C 0 dX12_oneMeal_3 rfl rfl ?_
      refine g_getR C K hLx hkx f_12_13 hb_1 dX12_oneMeal_4 ?_
      refine g_iconst C (v := 0) dX12_oneMeal_7 (by decide) ?_
      obtain ⟨x_61, hx_61, rx_61⟩ := ex_getw (I := I_2) (a := b_1) (j := 0) (lo := 0) (hi := 7) hU_4.1 hb_1L (ro_a hb_1k (by decide) hb_1o hkx rfl) (by decide)
      refine h_iald C K hb_1L hb_1k (v := x_61) (0) (by decide) (by decide) (by rw [hb_1n]; decide) hx_61 dX12_oneMeal_8 ?_
      refine g_icmp_ge C (tgt := 115) dX12_oneMeal_9 (by decide) (fun h_62 => ?_) (fun h_62 => ?_)
      · skip
        refine g_aload_n C 0 dX12_oneMeal_115 rfl rfl ?_
        refine g_getR C K hLx hkx f_12_13 hb_1 dX12_oneMeal_116 ?_
        refine g_bipush C (v := 72) dX12_oneMeal_119 (by decide) ?_
        refine g_dup2 C dX12_oneMeal_121 rfl rfl ?_
        obtain ⟨x_63, hx_63, rx_63⟩ := ex_any (z0 := I_2 b_1 (72))
        refine h_iald C K hb_1L hb_1k (v := x_63) (72) (by decide) (by decide) (by rw [hb_1n]; decide) hx_63 dX12_oneMeal_122 ?_
        refine g_iconst C (v := 1) dX12_oneMeal_123 (by decide) ?_
        obtain ⟨x_64, hx_64, rx_64⟩ := ex_any (z0 := x_63 + 1)
        refine g_iadd C (v := x_64) dX12_oneMeal_124 hx_64 ?_
        refine h_iast C K hb_1L hb_1k (72) (by decide) (by decide) (by rw [hb_1n]; decide) dX12_oneMeal_125 (fun I_65 hI_65 => ?_)
        have hU_66 := iw_free W9 hU_4 (uw_put hU_4.1 hI_65 (ro_a hb_1k (by decide) hb_1o hkx rfl) (lo := (-2147483648)) (hi := 2147483647) (by decide) (rx_64)) hLx hkx hb_1 hI_65 (by omega)
        have hF_67 := fq_puta hF_5 hI_65 (ro_a hb_1k (by decide) hb_1o hkx rfl) (by decide) (by decide)
        exact g_vret B K rfl ⟨hU_66, hF_67, hG_6, (hd_u (r := 0) W9 hLx hkx hd_8 hI_65 (Or.inr (Or.inr (by decide))))⟩ dX12_oneMeal_126
      · skip
        have r_68 := lt_l (hi := 6) (nle h_62) rv_7 rx_61 (by decide)
        have r_69 := lt_r (lo := 1) (nle h_62) rv_7 rx_61 (by decide)
        refine g_aload_n C 0 dX12_oneMeal_12 rfl rfl ?_
        refine g_iload_n C 1 dX12_oneMeal_13 rfl rfl ?_
        refine g_callVI C K (c_X12_isDead W9 hLx hkx v_7 (r_68) hU_4) hLx hkx (by decide) rfl v_12_244 rfl ⟨rfl, rfl⟩ ⟨Nat.le_of_ble_eq_true rfl, Nat.le_of_ble_eq_true rfl⟩ (Nat.le_of_ble_eq_true rfl) ⟨Nat.le_of_ble_eq_true rfl, Nat.le_of_ble_eq_true rfl⟩ dX12_oneMeal_14 rfl (st := []) (fun x_70 I_71 J_72 h_73 => ?_)
        obtain ⟨rfl, rfl, rx_70⟩ := h_73
        refine g_if_ne C (tgt := 37) dX12_oneMeal_17 (by decide) (fun h_74 => ?_) (fun h_74 => ?_)
        · skip
          have n_75 : ¬ x_70 = 0 := h_74
          have r_76 := ne_lo (lo := 1) n_75 rx_70 rc_0 rfl (by decide)
          refine g_lo (is := [0, 1]) (lo2 := [(0, .ref x), (1, .int v_7)]) rfl ?_
          exact j_37 I_2 J_3 hU_4 hF_5 hG_6 v_7 (r_68) hm_9 hd_8
        · skip
          have r_77 := (⟨(rx_70).1, (eq_rg (h_74) rc_0).2⟩ : Rg 0 0 x_70)
          refine g_aload_n C 0 dX12_oneMeal_20 rfl rfl ?_
          refine g_getR C K hLx hkx f_12_13 hb_1 dX12_oneMeal_21 ?_
          refine g_bipush C (v := 98) dX12_oneMeal_24 (by decide) ?_
          refine g_iload_n C 1 dX12_oneMeal_26 rfl rfl ?_
          obtain ⟨x_78, hx_78, rx_78, tx_78⟩ := ex_add 98 104 rc_98 r_68 (by decide) (by decide) (by decide) (by decide)
          refine g_iadd C (v := x_78) dX12_oneMeal_27 hx_78 ?_
          refine g_dup2 C dX12_oneMeal_28 rfl rfl ?_
          obtain ⟨x_79, hx_79, rx_79⟩ := ex_any (z0 := I_2 b_1 (x_78.toNatClampNeg))
          refine h_iald C K hb_1L hb_1k (v := x_79) (x_78.toNatClampNeg) (rfl) (ix_0 rx_78 (by decide)) (ix_lt rx_78 (by decide) hb_1n (by decide)) hx_79 dX12_oneMeal_29 ?_
          refine g_aload_n C 0 dX12_oneMeal_30 rfl rfl ?_
          refine g_iload_n C 1 dX12_oneMeal_31 rfl rfl ?_
          refine g_callVI C K (c_X12_wantsYet W9 hLx hkx v_7 (r_68) hU_4) hLx hkx (by decide) rfl v_12_268 rfl ⟨rfl, rfl⟩ ⟨Nat.le_of_ble_eq_true rfl, Nat.le_of_ble_eq_true rfl⟩ (Nat.le_of_ble_eq_true rfl) ⟨Nat.le_of_ble_eq_true rfl, Nat.le_of_ble_eq_true rfl⟩ dX12_oneMeal_32 rfl (st := [.int x_79, .int x_78, .ref b_1]) (fun x_80 I_81 J_82 h_83 => ?_)
          obtain ⟨rfl, rfl, rx_80, ex_80⟩ := h_83
          obtain ⟨x_84, hx_84, rx_84⟩ := ex_any (z0 := x_79 + x_80)
          refine g_iadd C (v := x_84) dX12_oneMeal_35 hx_84 ?_
          refine h_iast C K hb_1L hb_1k (x_78.toNatClampNeg) (rfl) (ix_0 rx_78 (by decide)) (ix_lt rx_78 (by decide) hb_1n (by decide)) dX12_oneMeal_36 (fun I_85 hI_85 => ?_)
          have hU_86 := iw_free W9 hU_4 (uw_put hU_4.1 hI_85 (ro_a hb_1k (by decide) hb_1o hkx rfl) (lo := (-2147483648)) (hi := 2147483647) (bn_834.trans (zq_98 (ix_k (lo := 98) (hi := 104) rx_78 (by decide) (by decide) (by decide)))) (rx_84)) hLx hkx hb_1 hI_85 (by have := ix_k (lo := 98) (hi := 104) rx_78 (by decide) (by decide) (by decide); omega)
          have hF_87 := fq_puta hF_5 hI_85 (ro_a hb_1k (by decide) hb_1o hkx rfl) (by decide) (by decide)
          refine g_lo (is := [0, 1]) (lo2 := [(0, .ref x), (1, .int v_7)]) rfl ?_
          exact j_37 I_85 J_3 hU_86 hF_87 hG_6 v_7 (r_68) hm_9 (hd_u (r := 0) W9 hLx hkx hd_8 hI_85 (Or.inr (Or.inr (ix_ge rx_78 (by decide)))))
  refine g_iconst C (v := 0) dX12_oneMeal_0 (by decide) ?_
  refine g_istore_n C dX12_oneMeal_1 rfl (by decide) (lo2 := [(1, .int 0), (0, .ref x)]) rfl ?_
  refine g_lo (is := [1, 0]) (lo2 := [(0, .ref x), (1, .int 0)]) rfl ?_
  exact l_2 8 I J hU hF hG 0 (rg_w rc_0 (by decide) (by decide)) hd_rf (ms_s (a := 0) (b := 7) (N := 8) (rg_w rc_0 (by decide) (by decide)) (by decide))
set_option maxRecDepth 100000 in
set_option maxHeartbeats 8000000 in
theorem c_X12_passMeals {l : Launch} {D : va_G} {cy : Nat → ClassId} {L : List Nat} {κ ln : Nat → Nat} {R : Nat → Nat → Option Nat} {I : Nat → Nat → Int32} {J : Nat → Nat → Int64} {ow : Nat → Nat × Nat} (W9 : ∀ a ∈ L, Shp L κ ln R ow a) {x : Nat} (hLx : x ∈ L) (hkx : κ x = 12) (a0 : Int32) (ra0 : Rg 1 60 a0) (hU : Iw L κ R ow I) : CtI l yX12_passMeals cX12_passMeals 4 (some .int) { frames := 3, cells := 0, slots := 0, locals := 65 } D cy L κ ln R I J [.ref x, .int a0] (fun r I2 J2 => Iw L κ R ow I2 ∧ Fq L κ ow [83400] I I2 ∧ Fq L κ ow [] J J2 ∧ Rg (-2147483648) 60 r ∧ (Hd_ R x I I2)) := by
  refine CtI.of (by decide +kernel) (Nat.le_of_ble_eq_true rfl) ?_
  intro p e s m below meth c B K
  have C := B.1
  have hF : Fq L κ ow [83400] I I := fq_rf
  have hG : Fq L κ ow [] J J := fq_rf
  obtain ⟨b_1, hb_1, hb_1L, hb_1k, hb_1n, hb_1o⟩ := shp_a (W9 x hLx) hkx 14 14 389 rfl (by decide)
  refine g_lo (is := [0, 1]) (lo2 := [(0, .ref x), (1, .int a0)]) rfl ?_
  have l_18 : ∀ (n_18 : Nat) (I_2 : Nat → Nat → Int32) (J_3 : Nat → Nat → Int64) (hU_4 : Iw L κ R ow I_2) (hF_5 : Fq L κ ow [83400] I I_2) (hG_6 : Fq L κ ow [] J J_3) (v_7 : Int32) (rv_7 : Rg 1 60 v_7) (v_8 : Int32) (rv_8 : Rg (-2147483648) 60 v_8) (v_9 : Int32) (rv_9 : Rg 0 60 v_9) (hd_10 : Hd_ R x I I_2) (hm_11 : 60 < (v_9 : Int32).toInt + (n_18 : Int)), WG p l e { frames := 3, cells := 0, slots := 0, locals := 65 } s m ([.ref x, .int a0] : List Value).toArray below meth c 4 0 0 (MQ below (Qi_ D cy L κ ln R (fun r I2 J2 => Iw L κ R ow I2 ∧ Fq L κ ow [83400] I I2 ∧ Fq L κ ow [] J J2 ∧ Rg (-2147483648) 60 r ∧ (Hd_ R x I I2))) ([.ref x, .int a0] : List Value).toArray s 0 0 (Al_ L)) D cy (Al_ L) s.heap L κ ln R I_2 J_3 18 [(0, .ref x), (1, .int v_7), (2, .int v_8), (3, .int v_9)] [] := by
    intro n_18
    induction n_18 with
    | zero =>
      intro I_2 J_3 hU_4 hF_5 hG_6 v_7 rv_7 v_8 rv_8 v_9 rv_9 hd_10 hm_11
      exact ms_0 rv_9 hm_11
    | succ n_18 ih_18 =>
      intro I_2 J_3 hU_4 hF_5 hG_6 v_7 rv_7 v_8 rv_8 v_9 rv_9 hd_10 hm_11
      refine g_iload_n C 3 dX12_passMeals_18 rfl rfl ?_
      refine g_iload_n C 2 dX12_passMeals_19 rfl rfl ?_
      refine g_icmp_ge C (tgt := 33) dX12_passMeals_20 (by decide) (fun h_12 => ?_) (fun h_12 => ?_)
      · skip
        refine g_iload_n C 2 dX12_passMeals_33 rfl rfl ?_
        exact g_zret (ty := .int) (r := v_8) B K rfl (rfl) ⟨hU_4, hF_5, hG_6, rv_8, hd_10⟩ dX12_passMeals_34
      · skip
        have r_13 := lt_l (hi := 59) (nle h_12) rv_9 rv_8 (by decide)
        have r_14 := lt_r (lo := 1) (nle h_12) rv_9 rv_8 (by decide)
        refine g_aload_n C 0 dX12_passMeals_23 rfl rfl ?_
        refine g_callVV C K (c_X12_oneMeal W9 hLx hkx   hU_4) hLx hkx (by decide) rfl v_12_292 rfl ⟨rfl, rfl⟩ ⟨Nat.le_of_ble_eq_true rfl, Nat.le_of_ble_eq_true rfl⟩ (Nat.le_of_ble_eq_true rfl) ⟨Nat.le_of_ble_eq_true rfl, Nat.le_of_ble_eq_true rfl⟩ dX12_passMeals_24 rfl (st := []) (fun I_16 J_17 h_18 => ?_)
        obtain ⟨hUI_16, hFI_16, hGJ_17, ex_15⟩ := h_18
        have hF_19 := fq_tr hF_5 hFI_16 (by decide)
        have hG_20 := fq_tr hG_6 hGJ_17 (by decide)
        obtain ⟨x_21, hx_21, rx_21, tx_21⟩ := ex_add (y := 1) 1 60 r_13 rc_1 (by decide) (by decide) (by decide) (by decide)
        refine g_iinc C dX12_passMeals_27 (k := 3) (v := x_21) rfl hx_21 (by decide) (lo2 := [(3, .int x_21), (0, .ref x), (1, .int v_7), (2, .int v_8)]) rfl ?_
        refine g_goto C (tgt := 18) dX12_passMeals_30 (by decide) ?_
        refine g_lo (is := [1, 2, 3, 0]) (lo2 := [(0, .ref x), (1, .int v_7), (2, .int v_8), (3, .int x_21)]) rfl ?_
        exact ih_18 I_16 J_17 hUI_16 hF_19 hG_20 v_7 (rv_7) v_8 (rg_w r_14 (by decide) (by decide)) x_21 (rg_w rx_21 (by decide) (by decide)) (hd_t hd_10 ex_15) (ms_1 hm_11 (ti_k tx_21 rc_1) (by decide))
  refine g_iload_n C 1 dX12_passMeals_0 rfl rfl ?_
  refine g_sipush C (v := 200) dX12_passMeals_1 (by decide) ?_
  refine g_aload_n C 0 dX12_passMeals_4 rfl rfl ?_
  refine g_getR C K hLx hkx f_12_13 hb_1 dX12_passMeals_5 ?_
  refine g_bipush C (v := 72) dX12_passMeals_8 (by decide) ?_
  obtain ⟨x_22, hx_22, rx_22⟩ := ex_any (z0 := I b_1 (72))
  refine h_iald C K hb_1L hb_1k (v := x_22) (72) (by decide) (by decide) (by rw [hb_1n]; decide) hx_22 dX12_passMeals_10 ?_
  obtain ⟨x_23, hx_23, rx_23⟩ := ex_any (z0 := 200 - x_22)
  refine g_isub C (v := x_23) dX12_passMeals_11 hx_23 ?_
  refine g_callSI C K (c_X12_least W9 a0 x_23  hU) s_12_265 rfl ⟨rfl, rfl⟩ ⟨Nat.le_of_ble_eq_true rfl, Nat.le_of_ble_eq_true rfl⟩ (Nat.le_of_ble_eq_true rfl) ⟨Nat.le_of_ble_eq_true rfl, Nat.le_of_ble_eq_true rfl⟩ dX12_passMeals_12 rfl (st := []) (fun x_24 I_25 J_26 h_27 => ?_)
  obtain ⟨rfl, rfl, rx_24, ex_24⟩ := h_27
  have r_28 := ls_rg ex_24 ra0 rx_23 (lo := (-2147483648)) (hi := 60) (by decide) (by decide)
  refine g_istore_n C dX12_passMeals_15 rfl (by decide) (lo2 := [(2, .int x_24), (0, .ref x), (1, .int a0)]) rfl ?_
  refine g_iconst C (v := 0) dX12_passMeals_16 (by decide) ?_
  refine g_istore_n C dX12_passMeals_17 rfl (by decide) (lo2 := [(3, .int 0), (2, .int x_24), (0, .ref x), (1, .int a0)]) rfl ?_
  refine g_lo (is := [2, 3, 1, 0]) (lo2 := [(0, .ref x), (1, .int a0), (2, .int x_24), (3, .int 0)]) rfl ?_
  exact l_18 61 I J hU hF hG a0 (ra0) x_24 (r_28) 0 (rg_w rc_0 (by decide) (by decide)) hd_rf (ms_s (a := 0) (b := 60) (N := 61) (rg_w rc_0 (by decide) (by decide)) (by decide))
set_option maxRecDepth 100000 in
set_option maxHeartbeats 8000000 in
theorem c_X12_meals {l : Launch} {D : va_G} {cy : Nat → ClassId} {L : List Nat} {κ ln : Nat → Nat} {R : Nat → Nat → Option Nat} {I : Nat → Nat → Int32} {J : Nat → Nat → Int64} {ow : Nat → Nat × Nat} (W9 : ∀ a ∈ L, Shp L κ ln R ow a) {x : Nat} (hLx : x ∈ L) (hkx : κ x = 12) (a0 : Int32) (hU : Iw L κ R ow I) : CtI l yX12_meals cX12_meals 2 (some .int) { frames := 4, cells := 0, slots := 0, locals := 88 } D cy L κ ln R I J [.ref x, .int a0] (fun r I2 J2 => Iw L κ R ow I2 ∧ Fq L κ ow [1200, 1223, 83400, 83700] I I2 ∧ Fq L κ ow [] J J2 ∧ Rg (-2147483648) 60 r) := by
  refine CtI.of (by decide +kernel) (Nat.le_of_ble_eq_true rfl) ?_
  intro p e s m below meth c B K
  have C := B.1
  have hF : Fq L κ ow [1200, 1223, 83400, 83700] I I := fq_rf
  have hG : Fq L κ ow [] J J := fq_rf
  obtain ⟨b_1, hb_1, hb_1L, hb_1k, hb_1n, hb_1o⟩ := shp_a (W9 x hLx) hkx 14 14 389 rfl (by decide)
  refine g_lo (is := [0, 1]) (lo2 := [(0, .ref x), (1, .int a0)]) rfl ?_
  refine g_aload_n C 0 dX12_meals_0 rfl rfl ?_
  refine g_iconst C (v := 0) dX12_meals_1 (by decide) ?_
  refine h_putI C K hLx hkx f_12_82 p_12_0 dX12_meals_2 (fun I_2 hI_2 => ?_)
  have hU_3 := iw_put W9 hU hI_2 (ro_o hkx (by decide)) (lo := (-2147483648)) (hi := 2147483647) (rfl) (rg_all _) rfl
  have hF_4 := fq_puto hF hI_2 hkx (by decide) (by decide)
  refine g_iload_n C 1 dX12_meals_5 rfl rfl ?_
  refine g_iconst C (v := 1) dX12_meals_6 (by decide) ?_
  refine g_bipush C (v := 60) dX12_meals_7 (by decide) ?_
  refine g_callSI C K (c_X12_isIn W9 a0 1 60 (rg_w rc_1 (by decide) (by decide)) (rg_w rc_60 (by decide) (by decide)) hU_3) s_12_149 rfl ⟨rfl, rfl⟩ ⟨Nat.le_of_ble_eq_true rfl, Nat.le_of_ble_eq_true rfl⟩ (Nat.le_of_ble_eq_true rfl) ⟨Nat.le_of_ble_eq_true rfl, Nat.le_of_ble_eq_true rfl⟩ dX12_meals_9 rfl (st := []) (fun x_5 I_6 J_7 h_8 => ?_)
  obtain ⟨rfl, rfl, rx_5, ex_5⟩ := h_8
  refine g_if_ne C (tgt := 17) dX12_meals_12 (by decide) (fun h_9 => ?_) (fun h_9 => ?_)
  · skip
    have n_10 : ¬ x_5 = 0 := h_9
    have r_11 := ne_lo (lo := 1) n_10 rx_5 rc_0 rfl (by decide)
    have r_12 := le_r (((ex_5.1) n_10)) rc_1 (rg_all a0)
    have r_13 := le_l (((ex_5.2) n_10)) r_12 rc_60
    refine g_aload_n C 0 dX12_meals_17 rfl rfl ?_
    refine g_getR C K hLx hkx f_12_13 hb_1 dX12_meals_18 ?_
    refine g_bipush C (v := 72) dX12_meals_21 (by decide) ?_
    obtain ⟨x_14, hx_14, rx_14⟩ := ex_any (z0 := I_2 b_1 (72))
    refine h_iald C K hb_1L hb_1k (v := x_14) (72) (by decide) (by decide) (by rw [hb_1n]; decide) hx_14 dX12_meals_23 ?_
    refine g_sipush C (v := 200) dX12_meals_24 (by decide) ?_
    refine g_icmp_ne C (tgt := 32) dX12_meals_27 (by decide) (fun h_15 => ?_) (fun h_15 => ?_)
    · skip
      have n_16 : ¬ x_14 = 200 := h_15
      refine g_aload_n C 0 dX12_meals_32 rfl rfl ?_
      refine g_callVV C K (c_X12_snap W9 hLx hkx   hU_3) hLx hkx (by decide) rfl v_12_282 rfl ⟨rfl, rfl⟩ ⟨Nat.le_of_ble_eq_true rfl, Nat.le_of_ble_eq_true rfl⟩ (Nat.le_of_ble_eq_true rfl) ⟨Nat.le_of_ble_eq_true rfl, Nat.le_of_ble_eq_true rfl⟩ dX12_meals_33 rfl (st := []) (fun I_18 J_19 h_20 => ?_)
      obtain ⟨hUI_18, hFI_18, hGJ_19, ex_17⟩ := h_20
      have hF_21 := fq_tr hF_4 hFI_18 (by decide)
      have hG_22 := fq_tr hG hGJ_19 (by decide)
      refine g_aload_n C 0 dX12_meals_36 rfl rfl ?_
      refine g_iload_n C 1 dX12_meals_37 rfl rfl ?_
      refine g_callVI C K (c_X12_passMeals W9 hLx hkx a0 (r_13) hUI_18) hLx hkx (by decide) rfl v_12_295 rfl ⟨rfl, rfl⟩ ⟨Nat.le_of_ble_eq_true rfl, Nat.le_of_ble_eq_true rfl⟩ (Nat.le_of_ble_eq_true rfl) ⟨Nat.le_of_ble_eq_true rfl, Nat.le_of_ble_eq_true rfl⟩ dX12_meals_38 rfl (st := []) (fun x_23 I_24 J_25 h_26 => ?_)
      obtain ⟨hUI_24, hFI_24, hGJ_25, rx_23, ex_23⟩ := h_26
      have hF_27 := fq_tr hF_21 hFI_24 (by decide)
      have hG_28 := fq_tr hG_22 hGJ_25 (by decide)
      exact g_zret (ty := .int) (r := x_23) B K rfl (rfl) ⟨hUI_24, hF_27, hG_28, rx_23⟩ dX12_meals_41
    · skip
      have r_29 := (⟨(eq_rg (h_15) rc_200).1, (eq_rg (h_15) rc_200).2⟩ : Rg 200 200 x_14)
      refine g_iconst C (v := 0) dX12_meals_30 (by decide) ?_
      exact g_zret (ty := .int) (r := 0) B K rfl (rfl) ⟨hU_3, hF_4, hG, rg_w rc_0 (by decide) (by decide)⟩ dX12_meals_31
  · skip
    have r_30 := (⟨(rx_5).1, (eq_rg (h_9) rc_0).2⟩ : Rg 0 0 x_5)
    refine g_iconst C (v := (-1)) dX12_meals_15 (by decide) ?_
    exact g_zret (ty := .int) (r := (-1)) B K rfl (rfl) ⟨hU_3, hF_4, hG, rg_w rc_m1 (by decide) (by decide)⟩ dX12_meals_16
set_option maxRecDepth 100000 in
set_option maxHeartbeats 8000000 in
theorem c_X12_draw {l : Launch} {D : va_G} {cy : Nat → ClassId} {L : List Nat} {κ ln : Nat → Nat} {R : Nat → Nat → Option Nat} {I : Nat → Nat → Int32} {J : Nat → Nat → Int64} {ow : Nat → Nat × Nat} (W9 : ∀ a ∈ L, Shp L κ ln R ow a) {x : Nat} (hLx : x ∈ L) (hkx : κ x = 12) (a0 : Int32) (ra0 : Rg 4 6 a0) (hU : Iw L κ R ow I) : CtI l yX12_draw cX12_draw 2 (some .int) { frames := 0, cells := 0, slots := 0, locals := 0 } D cy L κ ln R I J [.ref x, .int a0] (fun r I2 J2 => Iw L κ R ow I2 ∧ Fq L κ ow [1241] I I2 ∧ Fq L κ ow [] J J2 ∧ Rg 0 5 r) := by
  refine CtI.of (by decide +kernel) (Nat.le_of_ble_eq_true rfl) ?_
  intro p e s m below meth c B K
  have C := B.1
  have hF : Fq L κ ow [1241] I I := fq_rf
  have hG : Fq L κ ow [] J J := fq_rf
  refine g_lo (is := [0, 1]) (lo2 := [(0, .ref x), (1, .int a0)]) rfl ?_
  refine g_aload_n C 0 dX12_draw_0 rfl rfl ?_
  refine g_aload_n C 0 dX12_draw_1 rfl rfl ?_
  obtain ⟨x_1, hx_1, rx_1⟩ := ex_getw (I := I) (a := x) (j := 41) (lo := (-2147483648)) (hi := 2147483647) hU.1 hLx (ro_o hkx (by decide)) rfl
  refine g_getI C K hLx hkx f_12_351 (v := x_1) hx_1 dX12_draw_2 ?_
  refine g_ldcw C k_SecondHelpingsModel_354 dX12_draw_5 ?_
  obtain ⟨x_2, hx_2, rx_2⟩ := ex_any (z0 := x_1 * 1103515245)
  refine g_imul C (v := x_2) dX12_draw_8 hx_2 ?_
  refine g_sipush C (v := 12345) dX12_draw_9 (by decide) ?_
  obtain ⟨x_3, hx_3, rx_3⟩ := ex_any (z0 := x_2 + 12345)
  refine g_iadd C (v := x_3) dX12_draw_12 hx_3 ?_
  refine h_putI C K hLx hkx f_12_351 p_12_41 dX12_draw_13 (fun I_4 hI_4 => ?_)
  have hU_5 := iw_put W9 hU hI_4 (ro_o hkx (by decide)) (lo := (-2147483648)) (hi := 2147483647) (rfl) (rx_3) rfl
  have hF_6 := fq_puto hF hI_4 hkx (by decide) (by decide)
  refine g_aload_n C 0 dX12_draw_16 rfl rfl ?_
  refine g_getI C K hLx hkx f_12_351 (v := x_3) (kp_s hI_4) dX12_draw_17 ?_
  refine g_bipush C (v := 8) dX12_draw_20 (by decide) ?_
  obtain ⟨x_7, hx_7, rx_7⟩ := ex_ushr8 (x := x_3)
  refine g_iushr C (v := x_7) dX12_draw_22 hx_7 ?_
  refine g_iload_n C 1 dX12_draw_23 rfl rfl ?_
  obtain ⟨x_8, hx_8, rx_8⟩ := ex_rem (b := 16777215) (d := 6) 5 (rx_7) (rg_w ra0 (by decide) (by decide)) (by decide)
  refine g_irem C (v := x_8) dX12_draw_24 (rg_ne0 ra0 (by decide)) hx_8 ?_
  exact g_zret (ty := .int) (r := x_8) B K rfl (rfl) ⟨hU_5, hF_6, hG, rx_8⟩ dX12_draw_25
set_option maxRecDepth 100000 in
set_option maxHeartbeats 8000000 in
theorem c_X12_drawMeals {l : Launch} {D : va_G} {cy : Nat → ClassId} {L : List Nat} {κ ln : Nat → Nat} {R : Nat → Nat → Option Nat} {I : Nat → Nat → Int32} {J : Nat → Nat → Int64} {ow : Nat → Nat × Nat} (W9 : ∀ a ∈ L, Shp L κ ln R ow a) {x : Nat} (hLx : x ∈ L) (hkx : κ x = 12) (a0 : Int32) (a1 : Int32) (ra0 : Rg 1 60 a0) (hU : Iw L κ R ow I) : CtI l yX12_drawMeals cX12_drawMeals 7 (some .int) { frames := 5, cells := 0, slots := 0, locals := 120 } D cy L κ ln R I J [.ref x, .int a0, .int a1] (fun r I2 J2 => Iw L κ R ow I2 ∧ Fq L κ ow [1241, 83400] I I2 ∧ Fq L κ ow [] J J2 ∧ Rg (-2147483648) 60 r ∧ (Hd_ R x I I2)) := by
  refine CtI.of (by decide +kernel) (Nat.le_of_ble_eq_true rfl) ?_
  intro p e s m below meth c B K
  have C := B.1
  have hF : Fq L κ ow [1241, 83400] I I := fq_rf
  have hG : Fq L κ ow [] J J := fq_rf
  obtain ⟨b_1, hb_1, hb_1L, hb_1k, hb_1n, hb_1o⟩ := shp_a (W9 x hLx) hkx 14 14 389 rfl (by decide)
  refine g_lo (is := [0, 1, 2]) (lo2 := [(0, .ref x), (1, .int a0), (2, .int a1)]) rfl ?_
  have l_24 : ∀ (n_24 : Nat) (I_2 : Nat → Nat → Int32) (J_3 : Nat → Nat → Int64) (hU_4 : Iw L κ R ow I_2) (hF_5 : Fq L κ ow [1241, 83400] I I_2) (hG_6 : Fq L κ ow [] J J_3) (v_7 : Int32) (rv_7 : Rg 1 60 v_7) (v_8 : Int32) (v_9 : Int32) (rv_9 : Rg (-2147483648) 60 v_9) (v_10 : Int32) (rv_10 : Rg 0 60 v_10) (hd_11 : Hd_ R x I I_2) (hm_12 : 60 < (v_10 : Int32).toInt + (n_24 : Int)), WG p l e { frames := 5, cells := 0, slots := 0, locals := 120 } s m ([.ref x, .int a0, .int a1] : List Value).toArray below meth c 7 0 0 (MQ below (Qi_ D cy L κ ln R (fun r I2 J2 => Iw L κ R ow I2 ∧ Fq L κ ow [1241, 83400] I I2 ∧ Fq L κ ow [] J J2 ∧ Rg (-2147483648) 60 r ∧ (Hd_ R x I I2))) ([.ref x, .int a0, .int a1] : List Value).toArray s 0 0 (Al_ L)) D cy (Al_ L) s.heap L κ ln R I_2 J_3 24 [(0, .ref x), (1, .int v_7), (2, .int v_8), (3, .int v_9), (4, .int v_10)] [] := by
    intro n_24
    induction n_24 with
    | zero =>
      intro I_2 J_3 hU_4 hF_5 hG_6 v_7 rv_7 v_8 v_9 rv_9 v_10 rv_10 hd_11 hm_12
      exact ms_0 rv_10 hm_12
    | succ n_24 ih_24 =>
      intro I_2 J_3 hU_4 hF_5 hG_6 v_7 rv_7 v_8 v_9 rv_9 v_10 rv_10 hd_11 hm_12
      have l_33 : ∀ (n_33 : Nat) (I_13 : Nat → Nat → Int32) (J_14 : Nat → Nat → Int64) (hU_15 : Iw L κ R ow I_13) (hF_16 : Fq L κ ow [1241, 83400] I I_13) (hG_17 : Fq L κ ow [] J J_14) (v_18 : Int32) (rv_18 : Rg 1 60 v_18) (v_19 : Int32) (v_20 : Int32) (rv_20 : Rg 1 60 v_20) (v_21 : Int32) (rv_21 : Rg 0 59 v_21) (v_22 : Int32) (rv_22 : Rg 0 7 v_22) (hm_23 : 60 < (v_21 : Int32).toInt + ((n_24 + 1 : Nat) : Int)) (hd_24 : Hd_ R x I I_13) (hm_25 : 7 < (v_22 : Int32).toInt + (n_33 : Int)), WG p l e { frames := 5, cells := 0, slots := 0, locals := 120 } s m ([.ref x, .int a0, .int a1] : List Value).toArray below meth c 7 0 0 (MQ below (Qi_ D cy L κ ln R (fun r I2 J2 => Iw L κ R ow I2 ∧ Fq L κ ow [1241, 83400] I I2 ∧ Fq L κ ow [] J J2 ∧ Rg (-2147483648) 60 r ∧ (Hd_ R x I I2))) ([.ref x, .int a0, .int a1] : List Value).toArray s 0 0 (Al_ L)) D cy (Al_ L) s.heap L κ ln R I_13 J_14 33 [(0, .ref x), (1, .int v_18), (2, .int v_19), (3, .int v_20), (4, .int v_21), (5, .int v_22)] [] := by
        intro n_33
        induction n_33 with
        | zero =>
          intro I_13 J_14 hU_15 hF_16 hG_17 v_18 rv_18 v_19 v_20 rv_20 v_21 rv_21 v_22 rv_22 hm_23 hd_24 hm_25
          exact ms_0 rv_22 hm_25
        | succ n_33 ih_33 =>
          intro I_13 J_14 hU_15 hF_16 hG_17 v_18 rv_18 v_19 v_20 rv_20 v_21 rv_21 v_22 rv_22 hm_23 hd_24 hm_25
          have j_119 : ∀ (I_26 : Nat → Nat → Int32) (J_27 : Nat → Nat → Int64) (hU_28 : Iw L κ R ow I_26) (hF_29 : Fq L κ ow [1241, 83400] I I_26) (hG_30 : Fq L κ ow [] J J_27) (v_31 : Int32) (rv_31 : Rg 1 60 v_31) (v_32 : Int32) (v_33 : Int32) (rv_33 : Rg 1 60 v_33) (v_34 : Int32) (rv_34 : Rg 0 59 v_34) (v_35 : Int32) (rv_35 : Rg 0 6 v_35) (hm_36 : 60 < (v_34 : Int32).toInt + ((n_24 + 1 : Nat) : Int)) (hm_37 : 7 < (v_35 : Int32).toInt + ((n_33 + 1 : Nat) : Int)) (hd_38 : Hd_ R x I I_26), WG p l e { frames := 5, cells := 0, slots := 0, locals := 120 } s m ([.ref x, .int a0, .int a1] : List Value).toArray below meth c 7 0 0 (MQ below (Qi_ D cy L κ ln R (fun r I2 J2 => Iw L κ R ow I2 ∧ Fq L κ ow [1241, 83400] I I2 ∧ Fq L κ ow [] J J2 ∧ Rg (-2147483648) 60 r ∧ (Hd_ R x I I2))) ([.ref x, .int a0, .int a1] : List Value).toArray s 0 0 (Al_ L)) D cy (Al_ L) s.heap L κ ln R I_26 J_27 119 [(0, .ref x), (1, .int v_31), (2, .int v_32), (3, .int v_33), (4, .int v_34), (5, .int v_35)] [] := by
            intro I_26 J_27 hU_28 hF_29 hG_30 v_31 rv_31 v_32 v_33 rv_33 v_34 rv_34 v_35 rv_35 hm_36 hm_37 hd_38
            obtain ⟨x_39, hx_39, rx_39, tx_39⟩ := ex_add (y := 1) 1 7 rv_35 rc_1 (by decide) (by decide) (by decide) (by decide)
            refine g_iinc C dX12_drawMeals_119 (k := 5) (v := x_39) rfl hx_39 (by decide) (lo2 := [(5, .int x_39), (0, .ref x), (1, .int v_31), (2, .int v_32), (3, .int v_33), (4, .int v_34)]) rfl ?_
            refine g_goto C (tgt := 33) dX12_drawMeals_122 (by decide) ?_
            refine g_lo (is := [1, 2, 3, 4, 5, 0]) (lo2 := [(0, .ref x), (1, .int v_31), (2, .int v_32), (3, .int v_33), (4, .int v_34), (5, .int x_39)]) rfl ?_
            exact ih_33 I_26 J_27 hU_28 hF_29 hG_30 v_31 (rv_31) v_32 v_33 (rv_33) v_34 (rv_34) x_39 (rg_w rx_39 (by decide) (by decide)) hm_36 hd_38 (ms_1 hm_37 (ti_k tx_39 rc_1) (by decide))
          refine g_iload C 5 dX12_drawMeals_33 rfl ?_
          refine g_aload_n C 0 dX12_drawMeals_35 rfl rfl ?_
          refine g_getR C K hLx hkx f_12_13 hb_1 dX12_drawMeals_36 ?_
          refine g_iconst C (v := 0) dX12_drawMeals_39 (by decide) ?_
          obtain ⟨x_40, hx_40, rx_40⟩ := ex_getw (I := I_13) (a := b_1) (j := 0) (lo := 0) (hi := 7) hU_15.1 hb_1L (ro_a hb_1k (by decide) hb_1o hkx rfl) (by decide)
          refine h_iald C K hb_1L hb_1k (v := x_40) (0) (by decide) (by decide) (by rw [hb_1n]; decide) hx_40 dX12_drawMeals_40 ?_
          refine g_icmp_ge C (tgt := 125) dX12_drawMeals_41 (by decide) (fun h_41 => ?_) (fun h_41 => ?_)
          · skip
            refine g_aload_n C 0 dX12_drawMeals_125 rfl rfl ?_
            refine g_callVV C K (c_X12_oneMeal W9 hLx hkx   hU_15) hLx hkx (by decide) rfl v_12_292 rfl ⟨rfl, rfl⟩ ⟨Nat.le_of_ble_eq_true rfl, Nat.le_of_ble_eq_true rfl⟩ (Nat.le_of_ble_eq_true rfl) ⟨Nat.le_of_ble_eq_true rfl, Nat.le_of_ble_eq_true rfl⟩ dX12_drawMeals_126 rfl (st := []) (fun I_43 J_44 h_45 => ?_)
            obtain ⟨hUI_43, hFI_43, hGJ_44, ex_42⟩ := h_45
            have hF_46 := fq_tr hF_16 hFI_43 (by decide)
            have hG_47 := fq_tr hG_17 hGJ_44 (by decide)
            obtain ⟨x_48, hx_48, rx_48, tx_48⟩ := ex_add (y := 1) 1 60 rv_21 rc_1 (by decide) (by decide) (by decide) (by decide)
            refine g_iinc C dX12_drawMeals_129 (k := 4) (v := x_48) rfl hx_48 (by decide) (lo2 := [(4, .int x_48), (0, .ref x), (1, .int v_18), (2, .int v_19), (3, .int v_20), (5, .int v_22)]) rfl ?_
            refine g_goto C (tgt := 24) dX12_drawMeals_132 (by decide) ?_
            refine g_lo (is := [1, 2, 3, 4, 0]) (lo2 := [(0, .ref x), (1, .int v_18), (2, .int v_19), (3, .int v_20), (4, .int x_48)]) rfl ?_
            exact ih_24 I_43 J_44 hUI_43 hF_46 hG_47 v_18 (rv_18) v_19 v_20 (rg_w rv_20 (by decide) (by decide)) x_48 (rg_w rx_48 (by decide) (by decide)) (hd_t hd_24 ex_42) (ms_1 hm_23 (ti_k tx_48 rc_1) (by decide))
          · skip
            have r_49 := lt_l (hi := 6) (nle h_41) rv_22 rx_40 (by decide)
            have r_50 := lt_r (lo := 1) (nle h_41) rv_22 rx_40 (by decide)
            refine g_aload_n C 0 dX12_drawMeals_44 rfl rfl ?_
            refine g_iload C 5 dX12_drawMeals_45 rfl ?_
            refine g_callVI C K (c_X12_isDead W9 hLx hkx v_22 (r_49) hU_15) hLx hkx (by decide) rfl v_12_244 rfl ⟨rfl, rfl⟩ ⟨Nat.le_of_ble_eq_true rfl, Nat.le_of_ble_eq_true rfl⟩ (Nat.le_of_ble_eq_true rfl) ⟨Nat.le_of_ble_eq_true rfl, Nat.le_of_ble_eq_true rfl⟩ dX12_drawMeals_47 rfl (st := []) (fun x_51 I_52 J_53 h_54 => ?_)
            obtain ⟨rfl, rfl, rx_51⟩ := h_54
            refine g_if_eq C (tgt := 56) dX12_drawMeals_50 (by decide) (fun h_55 => ?_) (fun h_55 => ?_)
            · skip
              have r_56 := (⟨(rx_51).1, (eq_rg (h_55) rc_0).2⟩ : Rg 0 0 x_51)
              refine g_aload_n C 0 dX12_drawMeals_56 rfl rfl ?_
              refine g_bipush C (v := 6) dX12_drawMeals_57 (by decide) ?_
              refine g_callVI C K (c_X12_draw W9 hLx hkx 6 (rg_w rc_6 (by decide) (by decide)) hU_15) hLx hkx (by decide) rfl v_12_355 rfl ⟨rfl, rfl⟩ ⟨Nat.le_of_ble_eq_true rfl, Nat.le_of_ble_eq_true rfl⟩ (Nat.le_of_ble_eq_true rfl) ⟨Nat.le_of_ble_eq_true rfl, Nat.le_of_ble_eq_true rfl⟩ dX12_drawMeals_59 rfl (st := []) (fun x_57 I_58 J_59 h_60 => ?_)
              obtain ⟨hUI_58, hFI_58, hGJ_59, rx_57⟩ := h_60
              have hF_61 := fq_tr hF_16 hFI_58 (by decide)
              have hG_62 := fq_tr hG_17 hGJ_59 (by decide)
              refine g_istore C dX12_drawMeals_62 (by decide) (lo2 := [(6, .int x_57), (0, .ref x), (1, .int v_18), (2, .int v_19), (3, .int v_20), (4, .int v_21), (5, .int v_22)]) rfl ?_
              refine g_iload C 0 dX12_drawMeals_64 rfl ?_
              refine g_if_ne C (tgt := 87) dX12_drawMeals_66 (by decide) (fun h_63 => ?_) (fun h_63 => ?_)
              · skip
                have n_64 : ¬ x_57 = 0 := h_63
                have r_65 := ne_lo (lo := 1) n_64 rx_57 rc_0 rfl (by decide)
                refine g_iload C 0 dX12_drawMeals_87 rfl ?_
                refine g_iconst C (v := 1) dX12_drawMeals_89 (by decide) ?_
                refine g_icmp_le C (tgt := 102) dX12_drawMeals_90 (by decide) (fun h_66 => ?_) (fun h_66 => ?_)
                · skip
                  have r_67 := le_l (h_66) r_65 rc_1
                  refine g_aload_n C 1 dX12_drawMeals_102 rfl rfl ?_
                  refine g_iconst C (v := 4) dX12_drawMeals_103 (by decide) ?_
                  refine g_callVI C K (c_X12_draw W9 hLx hkx 4 (rg_w rc_4 (by decide) (by decide)) hUI_58) hLx hkx (by decide) rfl v_12_355 rfl ⟨rfl, rfl⟩ ⟨Nat.le_of_ble_eq_true rfl, Nat.le_of_ble_eq_true rfl⟩ (Nat.le_of_ble_eq_true rfl) ⟨Nat.le_of_ble_eq_true rfl, Nat.le_of_ble_eq_true rfl⟩ dX12_drawMeals_104 rfl (st := []) (fun x_68 I_69 J_70 h_71 => ?_)
                  obtain ⟨hUI_69, hFI_69, hGJ_70, rx_68⟩ := h_71
                  have hF_72 := fq_tr hF_61 hFI_69 (by decide)
                  have hG_73 := fq_tr hG_62 hGJ_70 (by decide)
                  refine g_if_ne C (tgt := 119) dX12_drawMeals_107 (by decide) (fun h_74 => ?_) (fun h_74 => ?_)
                  · skip
                    have n_75 : ¬ x_68 = 0 := h_74
                    have r_76 := ne_lo (lo := 1) n_75 rx_68 rc_0 rfl (by decide)
                    refine g_lo (is := [1, 2, 3, 4, 5, 6]) (lo2 := [(0, .ref x), (1, .int v_18), (2, .int v_19), (3, .int v_20), (4, .int v_21), (5, .int v_22)]) rfl ?_
                    exact j_119 I_69 J_70 hUI_69 hF_72 hG_73 v_18 (rv_18) v_19 v_20 (rv_20) v_21 (rv_21) v_22 (r_49) hm_23 hm_25 (hd_fq W9 hLx hkx (hd_fq W9 hLx hkx hd_24 hFI_58 (by decide)) hFI_69 (by decide))
                  · skip
                    have r_77 := (⟨(rx_68).1, (eq_rg (h_74) rc_0).2⟩ : Rg 0 0 x_68)
                    refine g_aload_n C 1 dX12_drawMeals_110 rfl rfl ?_
                    refine g_iconst C (v := 5) dX12_drawMeals_111 (by decide) ?_
                    refine g_iload C 6 dX12_drawMeals_112 rfl ?_
                    refine g_iconst C (v := 0) dX12_drawMeals_114 (by decide) ?_
                    refine g_iconst C (v := 0) dX12_drawMeals_115 (by decide) ?_
                    refine g_callVV C K (c_X12_live W9 hLx hkx 5 v_22 0 0 (rg_w rc_5 (by decide) (by decide)) (r_49) (rg_w rc_0 (by decide) (by decide)) (rg_w rc_0 (by decide) (by decide)) hUI_69  (fun a ha => ⟨fun q => absurd q (by decide), fun q => absurd q (by decide)⟩)) hLx hkx (by decide) rfl v_12_285 rfl ⟨rfl, rfl⟩ ⟨Nat.le_of_ble_eq_true rfl, Nat.le_of_ble_eq_true rfl⟩ (Nat.le_of_ble_eq_true rfl) ⟨Nat.le_of_ble_eq_true rfl, Nat.le_of_ble_eq_true rfl⟩ dX12_drawMeals_116 rfl (st := []) (fun I_79 J_80 h_81 => ?_)
                    obtain ⟨hUI_79, hFI_79, hGJ_80, ex_78⟩ := h_81
                    have hF_82 := fq_tr hF_72 hFI_79 (by decide)
                    have hG_83 := fq_tr hG_73 hGJ_80 (by decide)
                    refine g_lo (is := [1, 2, 3, 4, 5, 6]) (lo2 := [(0, .ref x), (1, .int v_18), (2, .int v_19), (3, .int v_20), (4, .int v_21), (5, .int v_22)]) rfl ?_
                    exact j_119 I_79 J_80 hUI_79 hF_82 hG_83 v_18 (rv_18) v_19 v_20 (rv_20) v_21 (rv_21) v_22 (r_49) hm_23 hm_25 (hd_t (hd_fq W9 hLx hkx (hd_fq W9 hLx hkx hd_24 hFI_58 (by decide)) hFI_69 (by decide)) ex_78)
                · skip
                  have r_84 := lt_r (lo := 2) (nle h_66) rc_1 r_65 (by decide)
                  refine g_aload_n C 1 dX12_drawMeals_93 rfl rfl ?_
                  refine g_iload C 6 dX12_drawMeals_94 rfl ?_
                  refine g_callVV C K (c_X12_eatsAll W9 hLx hkx v_22 (r_49) hUI_58) hLx hkx (by decide) rfl v_12_301 rfl ⟨rfl, rfl⟩ ⟨Nat.le_of_ble_eq_true rfl, Nat.le_of_ble_eq_true rfl⟩ (Nat.le_of_ble_eq_true rfl) ⟨Nat.le_of_ble_eq_true rfl, Nat.le_of_ble_eq_true rfl⟩ dX12_drawMeals_96 rfl (st := []) (fun I_86 J_87 h_88 => ?_)
                  obtain ⟨hUI_86, hFI_86, hGJ_87, ex_85⟩ := h_88
                  have hF_89 := fq_tr hF_61 hFI_86 (by decide)
                  have hG_90 := fq_tr hG_62 hGJ_87 (by decide)
                  refine g_goto C (tgt := 119) dX12_drawMeals_99 (by decide) ?_
                  refine g_lo (is := [1, 2, 3, 4, 5, 6]) (lo2 := [(0, .ref x), (1, .int v_18), (2, .int v_19), (3, .int v_20), (4, .int v_21), (5, .int v_22)]) rfl ?_
                  exact j_119 I_86 J_87 hUI_86 hF_89 hG_90 v_18 (rv_18) v_19 v_20 (rv_20) v_21 (rv_21) v_22 (r_49) hm_23 hm_25 (hd_t (hd_fq W9 hLx hkx hd_24 hFI_58 (by decide)) ex_85)
              · skip
                have r_91 := (⟨(rx_57).1, (eq_rg (h_63) rc_0).2⟩ : Rg 0 0 x_57)
                refine g_aload_n C 1 dX12_drawMeals_69 rfl rfl ?_
                refine g_iload C 6 dX12_drawMeals_70 rfl ?_
                refine g_callVI C K (c_X12_plateOf W9 hLx hkx v_22 (r_49) hUI_58) hLx hkx (by decide) rfl v_12_247 rfl ⟨rfl, rfl⟩ ⟨Nat.le_of_ble_eq_true rfl, Nat.le_of_ble_eq_true rfl⟩ (Nat.le_of_ble_eq_true rfl) ⟨Nat.le_of_ble_eq_true rfl, Nat.le_of_ble_eq_true rfl⟩ dX12_drawMeals_72 rfl (st := []) (fun x_92 I_93 J_94 h_95 => ?_)
                obtain ⟨rfl, rfl, rx_92⟩ := h_95
                refine g_if_le C (tgt := 119) dX12_drawMeals_75 (by decide) (fun h_96 => ?_) (fun h_96 => ?_)
                · skip
                  have r_97 := le_l (h_96) rx_92 rc_0
                  refine g_lo (is := [1, 2, 3, 4, 5, 6]) (lo2 := [(0, .ref x), (1, .int v_18), (2, .int v_19), (3, .int v_20), (4, .int v_21), (5, .int v_22)]) rfl ?_
                  exact j_119 I_58 J_59 hUI_58 hF_61 hG_62 v_18 (rv_18) v_19 v_20 (rv_20) v_21 (rv_21) v_22 (r_49) hm_23 hm_25 (hd_fq W9 hLx hkx hd_24 hFI_58 (by decide))
                · skip
                  have r_98 := lt_r (lo := 1) (nle h_96) rc_0 rx_92 (by decide)
                  refine g_aload_n C 1 dX12_drawMeals_78 rfl rfl ?_
                  refine g_iload C 6 dX12_drawMeals_79 rfl ?_
                  refine g_callVV C K (c_X12_pass W9 hLx hkx v_22 (r_49) hUI_58) hLx hkx (by decide) rfl v_12_275 rfl ⟨rfl, rfl⟩ ⟨Nat.le_of_ble_eq_true rfl, Nat.le_of_ble_eq_true rfl⟩ (Nat.le_of_ble_eq_true rfl) ⟨Nat.le_of_ble_eq_true rfl, Nat.le_of_ble_eq_true rfl⟩ dX12_drawMeals_81 rfl (st := []) (fun I_100 J_101 h_102 => ?_)
                  obtain ⟨hUI_100, hFI_100, hGJ_101, ex_99⟩ := h_102
                  have hF_103 := fq_tr hF_61 hFI_100 (by decide)
                  have hG_104 := fq_tr hG_62 hGJ_101 (by decide)
                  refine g_goto C (tgt := 119) dX12_drawMeals_84 (by decide) ?_
                  refine g_lo (is := [1, 2, 3, 4, 5, 6]) (lo2 := [(0, .ref x), (1, .int v_18), (2, .int v_19), (3, .int v_20), (4, .int v_21), (5, .int v_22)]) rfl ?_
                  exact j_119 I_100 J_101 hUI_100 hF_103 hG_104 v_18 (rv_18) v_19 v_20 (rv_20) v_21 (rv_21) v_22 (r_49) hm_23 hm_25 (hd_t (hd_fq W9 hLx hkx hd_24 hFI_58 (by decide)) ex_99)
            · skip
              have n_105 : ¬ x_51 = 0 := h_55
              have r_106 := ne_lo (lo := 1) n_105 rx_51 rc_0 rfl (by decide)
              refine g_goto C (tgt := 119) dX12_drawMeals_53 (by decide) ?_
              refine g_lo (is := [0, 1, 2, 3, 4, 5]) (lo2 := [(0, .ref x), (1, .int v_18), (2, .int v_19), (3, .int v_20), (4, .int v_21), (5, .int v_22)]) rfl ?_
              exact j_119 I_13 J_14 hU_15 hF_16 hG_17 v_18 (rv_18) v_19 v_20 (rv_20) v_21 (rv_21) v_22 (r_49) hm_23 hm_25 hd_24
      refine g_iload C 4 dX12_drawMeals_24 rfl ?_
      refine g_iload_n C 3 dX12_drawMeals_26 rfl rfl ?_
      refine g_icmp_ge C (tgt := 135) dX12_drawMeals_27 (by decide) (fun h_107 => ?_) (fun h_107 => ?_)
      · skip
        refine g_iload_n C 3 dX12_drawMeals_135 rfl rfl ?_
        exact g_zret (ty := .int) (r := v_9) B K rfl (rfl) ⟨hU_4, hF_5, hG_6, rv_9, hd_11⟩ dX12_drawMeals_136
      · skip
        have r_108 := lt_l (hi := 59) (nle h_107) rv_10 rv_9 (by decide)
        have r_109 := lt_r (lo := 1) (nle h_107) rv_10 rv_9 (by decide)
        refine g_iconst C (v := 0) dX12_drawMeals_30 (by decide) ?_
        refine g_istore C dX12_drawMeals_31 (by decide) (lo2 := [(5, .int 0), (0, .ref x), (1, .int v_7), (2, .int v_8), (3, .int v_9), (4, .int v_10)]) rfl ?_
        refine g_lo (is := [1, 2, 3, 4, 5, 0]) (lo2 := [(0, .ref x), (1, .int v_7), (2, .int v_8), (3, .int v_9), (4, .int v_10), (5, .int 0)]) rfl ?_
        exact l_33 8 I_2 J_3 hU_4 hF_5 hG_6 v_7 (rv_7) v_8 v_9 (r_109) v_10 (r_108) 0 (rg_w rc_0 (by decide) (by decide)) hm_12 hd_11 (ms_s (a := 0) (b := 7) (N := 8) (rg_w rc_0 (by decide) (by decide)) (by decide))
  refine g_aload_n C 0 dX12_drawMeals_0 rfl rfl ?_
  refine g_iload_n C 2 dX12_drawMeals_1 rfl rfl ?_
  refine h_putI C K hLx hkx f_12_351 p_12_41 dX12_drawMeals_2 (fun I_110 hI_110 => ?_)
  have hU_111 := iw_put W9 hU hI_110 (ro_o hkx (by decide)) (lo := (-2147483648)) (hi := 2147483647) (rfl) ((rg_all a1)) rfl
  have hF_112 := fq_puto hF hI_110 hkx (by decide) (by decide)
  refine g_iload_n C 1 dX12_drawMeals_5 rfl rfl ?_
  refine g_sipush C (v := 200) dX12_drawMeals_6 (by decide) ?_
  refine g_aload_n C 0 dX12_drawMeals_9 rfl rfl ?_
  refine g_getR C K hLx hkx f_12_13 hb_1 dX12_drawMeals_10 ?_
  refine g_bipush C (v := 72) dX12_drawMeals_13 (by decide) ?_
  obtain ⟨x_113, hx_113, rx_113⟩ := ex_any (z0 := I_110 b_1 (72))
  refine h_iald C K hb_1L hb_1k (v := x_113) (72) (by decide) (by decide) (by rw [hb_1n]; decide) hx_113 dX12_drawMeals_15 ?_
  obtain ⟨x_114, hx_114, rx_114⟩ := ex_any (z0 := 200 - x_113)
  refine g_isub C (v := x_114) dX12_drawMeals_16 hx_114 ?_
  refine g_callSI C K (c_X12_least W9 a0 x_114  hU_111) s_12_265 rfl ⟨rfl, rfl⟩ ⟨Nat.le_of_ble_eq_true rfl, Nat.le_of_ble_eq_true rfl⟩ (Nat.le_of_ble_eq_true rfl) ⟨Nat.le_of_ble_eq_true rfl, Nat.le_of_ble_eq_true rfl⟩ dX12_drawMeals_17 rfl (st := []) (fun x_115 I_116 J_117 h_118 => ?_)
  obtain ⟨rfl, rfl, rx_115, ex_115⟩ := h_118
  have r_119 := ls_rg ex_115 ra0 rx_114 (lo := (-2147483648)) (hi := 60) (by decide) (by decide)
  refine g_istore_n C dX12_drawMeals_20 rfl (by decide) (lo2 := [(3, .int x_115), (0, .ref x), (1, .int a0), (2, .int a1)]) rfl ?_
  refine g_iconst C (v := 0) dX12_drawMeals_21 (by decide) ?_
  refine g_istore C dX12_drawMeals_22 (by decide) (lo2 := [(4, .int 0), (3, .int x_115), (0, .ref x), (1, .int a0), (2, .int a1)]) rfl ?_
  refine g_lo (is := [2, 3, 4, 1, 0]) (lo2 := [(0, .ref x), (1, .int a0), (2, .int a1), (3, .int x_115), (4, .int 0)]) rfl ?_
  exact l_24 61 I_110 J hU_111 hF_112 hG a0 (ra0) a1 x_115 (r_119) 0 (rg_w rc_0 (by decide) (by decide)) (hd_u (r := 0) W9 hLx hkx hd_rf hI_110 (Or.inl (ro_o hkx (by decide)))) (ms_s (a := 0) (b := 60) (N := 61) (rg_w rc_0 (by decide) (by decide)) (by decide))
set_option maxRecDepth 100000 in
set_option maxHeartbeats 8000000 in
theorem c_X12_drawn {l : Launch} {D : va_G} {cy : Nat → ClassId} {L : List Nat} {κ ln : Nat → Nat} {R : Nat → Nat → Option Nat} {I : Nat → Nat → Int32} {J : Nat → Nat → Int64} {ow : Nat → Nat × Nat} (W9 : ∀ a ∈ L, Shp L κ ln R ow a) {x : Nat} (hLx : x ∈ L) (hkx : κ x = 12) (a0 : Int32) (a1 : Int32) (hU : Iw L κ R ow I) : CtI l yX12_drawn cX12_drawn 3 (some .int) { frames := 6, cells := 0, slots := 0, locals := 146 } D cy L κ ln R I J [.ref x, .int a0, .int a1] (fun r I2 J2 => Iw L κ R ow I2 ∧ Fq L κ ow [1200, 1223, 1241, 83400, 83700] I I2 ∧ Fq L κ ow [] J J2 ∧ Rg (-2147483648) 60 r) := by
  refine CtI.of (by decide +kernel) (Nat.le_of_ble_eq_true rfl) ?_
  intro p e s m below meth c B K
  have C := B.1
  have hF : Fq L κ ow [1200, 1223, 1241, 83400, 83700] I I := fq_rf
  have hG : Fq L κ ow [] J J := fq_rf
  obtain ⟨b_1, hb_1, hb_1L, hb_1k, hb_1n, hb_1o⟩ := shp_a (W9 x hLx) hkx 14 14 389 rfl (by decide)
  refine g_lo (is := [0, 1, 2]) (lo2 := [(0, .ref x), (1, .int a0), (2, .int a1)]) rfl ?_
  refine g_aload_n C 0 dX12_drawn_0 rfl rfl ?_
  refine g_iconst C (v := 0) dX12_drawn_1 (by decide) ?_
  refine h_putI C K hLx hkx f_12_82 p_12_0 dX12_drawn_2 (fun I_2 hI_2 => ?_)
  have hU_3 := iw_put W9 hU hI_2 (ro_o hkx (by decide)) (lo := (-2147483648)) (hi := 2147483647) (rfl) (rg_all _) rfl
  have hF_4 := fq_puto hF hI_2 hkx (by decide) (by decide)
  refine g_iload_n C 1 dX12_drawn_5 rfl rfl ?_
  refine g_iconst C (v := 1) dX12_drawn_6 (by decide) ?_
  refine g_bipush C (v := 60) dX12_drawn_7 (by decide) ?_
  refine g_callSI C K (c_X12_isIn W9 a0 1 60 (rg_w rc_1 (by decide) (by decide)) (rg_w rc_60 (by decide) (by decide)) hU_3) s_12_149 rfl ⟨rfl, rfl⟩ ⟨Nat.le_of_ble_eq_true rfl, Nat.le_of_ble_eq_true rfl⟩ (Nat.le_of_ble_eq_true rfl) ⟨Nat.le_of_ble_eq_true rfl, Nat.le_of_ble_eq_true rfl⟩ dX12_drawn_9 rfl (st := []) (fun x_5 I_6 J_7 h_8 => ?_)
  obtain ⟨rfl, rfl, rx_5, ex_5⟩ := h_8
  refine g_if_eq C (tgt := 24) dX12_drawn_12 (by decide) (fun h_9 => ?_) (fun h_9 => ?_)
  · skip
    have r_10 := (⟨(rx_5).1, (eq_rg (h_9) rc_0).2⟩ : Rg 0 0 x_5)
    refine g_iconst C (v := (-1)) dX12_drawn_24 (by decide) ?_
    exact g_zret (ty := .int) (r := (-1)) B K rfl (rfl) ⟨hU_3, hF_4, hG, rg_w rc_m1 (by decide) (by decide)⟩ dX12_drawn_25
  · skip
    have n_11 : ¬ x_5 = 0 := h_9
    have r_12 := ne_lo (lo := 1) n_11 rx_5 rc_0 rfl (by decide)
    have r_13 := le_r (((ex_5.1) n_11)) rc_1 (rg_all a0)
    have r_14 := le_l (((ex_5.2) n_11)) r_13 rc_60
    refine g_aload_n C 0 dX12_drawn_15 rfl rfl ?_
    refine g_getR C K hLx hkx f_12_13 hb_1 dX12_drawn_16 ?_
    refine g_iconst C (v := 0) dX12_drawn_19 (by decide) ?_
    obtain ⟨x_15, hx_15, rx_15⟩ := ex_getw (I := I_2) (a := b_1) (j := 0) (lo := 0) (hi := 7) hU_3.1 hb_1L (ro_a hb_1k (by decide) hb_1o hkx rfl) (by decide)
    refine h_iald C K hb_1L hb_1k (v := x_15) (0) (by decide) (by decide) (by rw [hb_1n]; decide) hx_15 dX12_drawn_20 ?_
    refine g_if_ne C (tgt := 26) dX12_drawn_21 (by decide) (fun h_16 => ?_) (fun h_16 => ?_)
    · skip
      have n_17 : ¬ x_15 = 0 := h_16
      have r_18 := ne_lo (lo := 1) n_17 rx_15 rc_0 rfl (by decide)
      refine g_aload_n C 0 dX12_drawn_26 rfl rfl ?_
      refine g_getR C K hLx hkx f_12_13 hb_1 dX12_drawn_27 ?_
      refine g_bipush C (v := 72) dX12_drawn_30 (by decide) ?_
      obtain ⟨x_19, hx_19, rx_19⟩ := ex_any (z0 := I_2 b_1 (72))
      refine h_iald C K hb_1L hb_1k (v := x_19) (72) (by decide) (by decide) (by rw [hb_1n]; decide) hx_19 dX12_drawn_32 ?_
      refine g_sipush C (v := 200) dX12_drawn_33 (by decide) ?_
      refine g_icmp_ne C (tgt := 41) dX12_drawn_36 (by decide) (fun h_20 => ?_) (fun h_20 => ?_)
      · skip
        have n_21 : ¬ x_19 = 200 := h_20
        refine g_aload_n C 0 dX12_drawn_41 rfl rfl ?_
        refine g_callVV C K (c_X12_snap W9 hLx hkx   hU_3) hLx hkx (by decide) rfl v_12_282 rfl ⟨rfl, rfl⟩ ⟨Nat.le_of_ble_eq_true rfl, Nat.le_of_ble_eq_true rfl⟩ (Nat.le_of_ble_eq_true rfl) ⟨Nat.le_of_ble_eq_true rfl, Nat.le_of_ble_eq_true rfl⟩ dX12_drawn_42 rfl (st := []) (fun I_23 J_24 h_25 => ?_)
        obtain ⟨hUI_23, hFI_23, hGJ_24, ex_22⟩ := h_25
        have hF_26 := fq_tr hF_4 hFI_23 (by decide)
        have hG_27 := fq_tr hG hGJ_24 (by decide)
        refine g_aload_n C 0 dX12_drawn_45 rfl rfl ?_
        refine g_iload_n C 1 dX12_drawn_46 rfl rfl ?_
        refine g_iload_n C 2 dX12_drawn_47 rfl rfl ?_
        refine g_callVI C K (c_X12_drawMeals W9 hLx hkx a0 a1 (r_14) hUI_23) hLx hkx (by decide) rfl v_12_358 rfl ⟨rfl, rfl⟩ ⟨Nat.le_of_ble_eq_true rfl, Nat.le_of_ble_eq_true rfl⟩ (Nat.le_of_ble_eq_true rfl) ⟨Nat.le_of_ble_eq_true rfl, Nat.le_of_ble_eq_true rfl⟩ dX12_drawn_48 rfl (st := []) (fun x_28 I_29 J_30 h_31 => ?_)
        obtain ⟨hUI_29, hFI_29, hGJ_30, rx_28, ex_28⟩ := h_31
        have hF_32 := fq_tr hF_26 hFI_29 (by decide)
        have hG_33 := fq_tr hG_27 hGJ_30 (by decide)
        exact g_zret (ty := .int) (r := x_28) B K rfl (rfl) ⟨hUI_29, hF_32, hG_33, rx_28⟩ dX12_drawn_51
      · skip
        have r_34 := (⟨(eq_rg (h_20) rc_200).1, (eq_rg (h_20) rc_200).2⟩ : Rg 200 200 x_19)
        refine g_iconst C (v := 0) dX12_drawn_39 (by decide) ?_
        exact g_zret (ty := .int) (r := 0) B K rfl (rfl) ⟨hU_3, hF_4, hG, rg_w rc_0 (by decide) (by decide)⟩ dX12_drawn_40
    · skip
      have r_35 := (⟨(rx_15).1, (eq_rg (h_16) rc_0).2⟩ : Rg 0 0 x_15)
      refine g_iconst C (v := (-1)) dX12_drawn_24 (by decide) ?_
      exact g_zret (ty := .int) (r := (-1)) B K rfl (rfl) ⟨hU_3, hF_4, hG, rg_w rc_m1 (by decide) (by decide)⟩ dX12_drawn_25
set_option maxRecDepth 100000 in
set_option maxHeartbeats 8000000 in
theorem c_X12_restore {l : Launch} {D : va_G} {cy : Nat → ClassId} {L : List Nat} {κ ln : Nat → Nat} {R : Nat → Nat → Option Nat} {I : Nat → Nat → Int32} {J : Nat → Nat → Int64} {ow : Nat → Nat × Nat} (W9 : ∀ a ∈ L, Shp L κ ln R ow a) {x : Nat} (hLx : x ∈ L) (hkx : κ x = 12) (a0 : Int32) (hU : Iw L κ R ow I) : CtI l yX12_restore cX12_restore 3 (some .boolean) { frames := 1, cells := 0, slots := 0, locals := 22 } D cy L κ ln R I J [.ref x, .int a0] (fun r I2 J2 => Iw L κ R ow I2 ∧ Fq L κ ow [1200, 1223, 83400] I I2 ∧ Fq L κ ow [83900] J J2 ∧ Rg 0 1 r) := by
  refine CtI.of (by decide +kernel) (Nat.le_of_ble_eq_true rfl) ?_
  intro p e s m below meth c B K
  have C := B.1
  have hF : Fq L κ ow [1200, 1223, 83400] I I := fq_rf
  have hG : Fq L κ ow [83900] J J := fq_rf
  obtain ⟨b_1, hb_1, hb_1L, hb_1k, hb_1n, hb_1o⟩ := shp_a (W9 x hLx) hkx 14 14 389 rfl (by decide)
  obtain ⟨b_2, hb_2, hb_2L, hb_2k, hb_2n, hb_2o⟩ := shp_a (W9 x hLx) hkx 19 15 13 rfl (by decide)
  obtain ⟨b_3, hb_3, hb_3L, hb_3k, hb_3n, hb_3o⟩ := shp_a (W9 x hLx) hkx 22 16 2 rfl (by decide)
  obtain ⟨b_4, hb_4, hb_4L, hb_4k, hb_4n, hb_4o⟩ := shp_a (W9 x hLx) hkx 21 15 26 rfl (by decide)
  obtain ⟨b_5, hb_5, hb_5L, hb_5k, hb_5n, hb_5o⟩ := shp_a (W9 x hLx) hkx 16 14 778 rfl (by decide)
  refine g_lo (is := [0, 1]) (lo2 := [(0, .ref x), (1, .int a0)]) rfl ?_
  have l_60 : ∀ (n_60 : Nat) (I_6 : Nat → Nat → Int32) (J_7 : Nat → Nat → Int64) (hU_8 : Iw0 L κ R ow I_6) (hF_9 : Fq L κ ow [1200, 1223, 83400] I I_6) (hG_10 : Fq L κ ow [83900] J J_7) (v_11 : Int32) (rv_11 : Rg 0 1 v_11) (v_12 : Int32) (rv_12 : Rg 0 13 v_12) (q_13 : I_6 x 0 = 0) (hm_14 : 13 < (v_12 : Int32).toInt + (n_60 : Int)), WG p l e { frames := 1, cells := 0, slots := 0, locals := 22 } s m ([.ref x, .int a0] : List Value).toArray below meth c 3 0 0 (MQ below (Qi_ D cy L κ ln R (fun r I2 J2 => Iw L κ R ow I2 ∧ Fq L κ ow [1200, 1223, 83400] I I2 ∧ Fq L κ ow [83900] J J2 ∧ Rg 0 1 r)) ([.ref x, .int a0] : List Value).toArray s 0 0 (Al_ L)) D cy (Al_ L) s.heap L κ ln R I_6 J_7 60 [(0, .ref x), (1, .int v_11), (2, .int v_12)] [] := by
    intro n_60
    induction n_60 with
    | zero =>
      intro I_6 J_7 hU_8 hF_9 hG_10 v_11 rv_11 v_12 rv_12 q_13 hm_14
      exact ms_0 rv_12 hm_14
    | succ n_60 ih_60 =>
      intro I_6 J_7 hU_8 hF_9 hG_10 v_11 rv_11 v_12 rv_12 q_13 hm_14
      refine g_iload_n C 2 dX12_restore_60 rfl rfl ?_
      refine g_bipush C (v := 13) dX12_restore_61 (by decide) ?_
      refine g_icmp_ge C (tgt := 89) dX12_restore_63 (by decide) (fun h_15 => ?_) (fun h_15 => ?_)
      · skip
        have r_16 := le_r (h_15) rc_13 rv_12
        refine g_aload_n C 0 dX12_restore_89 rfl rfl ?_
        refine g_iconst C (v := 0) dX12_restore_90 (by decide) ?_
        refine h_putI C K hLx hkx f_12_228 p_12_23 dX12_restore_91 (fun I_17 hI_17 => ?_)
        have hU_18 := iw_z W9 hU_8 (uw_put hU_8.1 hI_17 (ro_o hkx (by decide)) (lo := 0) (hi := 8) (rfl) (rg_w rc_0 (by decide) (by decide))) hLx hkx hI_17
        have hF_19 := fq_puto hF_9 hI_17 hkx (by decide) (by decide)
        refine g_iconst C (v := 1) dX12_restore_94 (by decide) ?_
        exact g_zret (ty := .boolean) (r := 1) B K rfl (rfl) ⟨hU_18, hF_19, hG_10, rg_w rc_1 (by decide) (by decide)⟩ dX12_restore_95
      · skip
        have r_20 := lt_l (hi := 12) (nle h_15) rv_12 rc_13 (by decide)
        refine g_aload_n C 0 dX12_restore_66 rfl rfl ?_
        refine g_getR C K hLx hkx f_12_28 hb_2 dX12_restore_67 ?_
        refine g_iload_n C 2 dX12_restore_70 rfl rfl ?_
        refine g_aload_n C 0 dX12_restore_71 rfl rfl ?_
        refine g_getR C K hLx hkx f_12_35 hb_4 dX12_restore_72 ?_
        refine g_bipush C (v := 13) dX12_restore_75 (by decide) ?_
        refine g_iload_n C 1 dX12_restore_77 rfl rfl ?_
        obtain ⟨x_21, hx_21, rx_21, tx_21⟩ := ex_mulT 0 13 rc_13 rv_11 (by decide) (by decide) (by decide) (by decide) (by decide)
        refine g_imul C (v := x_21) dX12_restore_78 hx_21 ?_
        refine g_iload_n C 2 dX12_restore_79 rfl rfl ?_
        obtain ⟨x_22, hx_22, rx_22, tx_22⟩ := ex_add 0 25 rx_21 r_20 (by decide) (by decide) (by decide) (by decide)
        refine g_iadd C (v := x_22) dX12_restore_80 hx_22 ?_
        obtain ⟨y_23, hy_23⟩ : ∃ z, J_7 b_4 (x_22.toNatClampNeg) = z := ⟨_, rfl⟩
        refine h_lald C K hb_4L hb_4k (v := y_23) (x_22.toNatClampNeg) (rfl) (ix_0 rx_22 (by decide)) (ix_lt rx_22 (by decide) hb_4n (by decide)) hy_23 dX12_restore_81 ?_
        refine h_last C K hb_2L hb_2k (v_12.toNatClampNeg) (rfl) (ix_0 r_20 (by decide)) (ix_lt r_20 (by decide) hb_2n (by decide)) dX12_restore_82 (fun J_24 hJ_24 => ?_)
        have hG_25 := fq_puta hG_10 hJ_24 (ro_a hb_2k (by decide) hb_2o hkx rfl) (by decide) (by decide)
        obtain ⟨x_26, hx_26, rx_26, tx_26⟩ := ex_add (y := 1) 1 13 r_20 rc_1 (by decide) (by decide) (by decide) (by decide)
        refine g_iinc C dX12_restore_83 (k := 2) (v := x_26) rfl hx_26 (by decide) (lo2 := [(2, .int x_26), (0, .ref x), (1, .int v_11)]) rfl ?_
        refine g_goto C (tgt := 60) dX12_restore_86 (by decide) ?_
        refine g_lo (is := [1, 2, 0]) (lo2 := [(0, .ref x), (1, .int v_11), (2, .int x_26)]) rfl ?_
        exact ih_60 I_6 J_24 hU_8 hF_9 hG_25 v_11 (rv_11) x_26 (rg_w rx_26 (by decide) (by decide)) q_13 (ms_1 hm_14 (ti_k tx_26 rc_1) (by decide))
  refine g_aload_n C 0 dX12_restore_0 rfl rfl ?_
  refine g_iconst C (v := 0) dX12_restore_1 (by decide) ?_
  refine h_putI C K hLx hkx f_12_82 p_12_0 dX12_restore_2 (fun I_27 hI_27 => ?_)
  have hU_28 := iw_put W9 hU hI_27 (ro_o hkx (by decide)) (lo := (-2147483648)) (hi := 2147483647) (rfl) (rg_all _) rfl
  have hF_29 := fq_puto hF hI_27 hkx (by decide) (by decide)
  refine g_iload_n C 1 dX12_restore_5 rfl rfl ?_
  refine g_iconst C (v := 0) dX12_restore_6 (by decide) ?_
  refine g_iconst C (v := 1) dX12_restore_7 (by decide) ?_
  refine g_callSI C K (c_X12_isIn W9 a0 0 1 (rg_w rc_0 (by decide) (by decide)) (rg_w rc_1 (by decide) (by decide)) hU_28) s_12_149 rfl ⟨rfl, rfl⟩ ⟨Nat.le_of_ble_eq_true rfl, Nat.le_of_ble_eq_true rfl⟩ (Nat.le_of_ble_eq_true rfl) ⟨Nat.le_of_ble_eq_true rfl, Nat.le_of_ble_eq_true rfl⟩ dX12_restore_8 rfl (st := []) (fun x_30 I_31 J_32 h_33 => ?_)
  obtain ⟨rfl, rfl, rx_30, ex_30⟩ := h_33
  refine g_if_eq C (tgt := 23) dX12_restore_11 (by decide) (fun h_34 => ?_) (fun h_34 => ?_)
  · skip
    have r_35 := (⟨(rx_30).1, (eq_rg (h_34) rc_0).2⟩ : Rg 0 0 x_30)
    refine g_iconst C (v := 0) dX12_restore_23 (by decide) ?_
    exact g_zret (ty := .boolean) (r := 0) B K rfl (rfl) ⟨hU_28, hF_29, hG, rg_w rc_0 (by decide) (by decide)⟩ dX12_restore_24
  · skip
    have n_36 : ¬ x_30 = 0 := h_34
    have r_37 := ne_lo (lo := 1) n_36 rx_30 rc_0 rfl (by decide)
    have r_38 := le_r (((ex_30.1) n_36)) rc_0 (rg_all a0)
    have r_39 := le_l (((ex_30.2) n_36)) r_38 rc_1
    refine g_aload_n C 0 dX12_restore_14 rfl rfl ?_
    refine g_getR C K hLx hkx f_12_38 hb_3 dX12_restore_15 ?_
    refine g_iload_n C 1 dX12_restore_18 rfl rfl ?_
    obtain ⟨x_40, hx_40, rx_40⟩ := ex_getw (I := I_27) (a := b_3) (j := a0.toNatClampNeg) (lo := 0) (hi := 1) hU_28.1 hb_3L (ro_a hb_3k (by decide) hb_3o hkx rfl) (rfl)
    refine h_zald C K hb_3L hb_3k (v := x_40) (a0.toNatClampNeg) (rfl) (ix_0 r_39 (by decide)) (ix_lt r_39 (by decide) hb_3n (by decide)) hx_40 dX12_restore_19 ?_
    refine g_if_ne C (tgt := 25) dX12_restore_20 (by decide) (fun h_41 => ?_) (fun h_41 => ?_)
    · skip
      have n_42 : ¬ x_40 = 0 := h_41
      have r_43 := ne_lo (lo := 1) n_42 rx_40 rc_0 rfl (by decide)
      refine g_iconst C (v := 0) dX12_restore_25 (by decide) ?_
      refine g_istore_n C dX12_restore_26 rfl (by decide) (lo2 := [(2, .int 0), (0, .ref x), (1, .int a0)]) rfl ?_
      refine g_lo (is := [1, 2, 0]) (lo2 := [(0, .ref x), (1, .int a0), (2, .int 0)]) rfl ?_
      have ex_27 : ∀ (I_45 : Nat → Nat → Int32) (hI_45 : I_45 = cpn_ I_27 b_5 b_1 (389 * a0.toNatClampNeg) (0) 389) (v_44 : Int32) (rv_44 : Rg 389 389 v_44), WG p l e { frames := 1, cells := 0, slots := 0, locals := 22 } s m ([.ref x, .int a0] : List Value).toArray below meth c 3 0 0 (MQ below (Qi_ D cy L κ ln R (fun r I2 J2 => Iw L κ R ow I2 ∧ Fq L κ ow [1200, 1223, 83400] I I2 ∧ Fq L κ ow [83900] J J2 ∧ Rg 0 1 r)) ([.ref x, .int a0] : List Value).toArray s 0 0 (Al_ L)) D cy (Al_ L) s.heap L κ ln R I_45 J 58 [(0, .ref x), (1, .int a0), (2, .int v_44)] [] := by
        intro I_45 hI_45 v_44 rv_44
        have hF_46 := fq_cpn hF_29 hI_45 (ro_a hb_1k (by decide) hb_1o hkx rfl) (by decide) (by decide)
        have hU_47 := uw_cpn hU_28.1 hb_5L hI_45 (ro_a hb_1k (by decide) hb_1o hkx rfl) (ro_a hb_5k (by decide) hb_5o hkx rfl) (fun i hi => by rw [bn_834, bn_836, show (389 * a0.toNatClampNeg + i) % 389 = 0 + i by omega]; exact ⟨Int.le_refl _, Int.le_refl _⟩)
        have hU_48 := iw_rs (q0 := a0.toNatClampNeg) W9 hU_28 hU_47 hLx hkx hb_1 hb_5 (ix_lt (n := 2) (N := 2) r_39 (by decide) rfl (by decide)) hI_45
        refine g_iconst C (v := 0) dX12_restore_58 (by decide) ?_
        refine g_istore_n C dX12_restore_59 rfl (by decide) (lo2 := [(2, .int 0), (0, .ref x), (1, .int a0)]) rfl ?_
        refine g_lo (is := [1, 2, 0]) (lo2 := [(0, .ref x), (1, .int a0), (2, .int 0)]) rfl ?_
        exact l_60 14 I_45 J hU_48 hF_46 hG a0 (r_39) 0 (rg_w rc_0 (by decide) (by decide)) (kp_cn (κ := κ) hI_45 (by rw [hkx, hb_1k]; decide) (kp_s hI_27)) (ms_s (a := 0) (b := 13) (N := 14) (rg_w rc_0 (by decide) (by decide)) (by decide))
      have l_27 : ∀ (m_27 : Nat) (v_49 : Int32) (I_50 : Nat → Nat → Int32), v_49.toInt + (m_27 : Int) = 389 → 0 ≤ v_49.toInt → I_50 = cpn_ I_27 b_5 b_1 (389 * a0.toNatClampNeg) (0) v_49.toNatClampNeg → WG p l e { frames := 1, cells := 0, slots := 0, locals := 22 } s m ([.ref x, .int a0] : List Value).toArray below meth c 3 0 0 (MQ below (Qi_ D cy L κ ln R (fun r I2 J2 => Iw L κ R ow I2 ∧ Fq L κ ow [1200, 1223, 83400] I I2 ∧ Fq L κ ow [83900] J J2 ∧ Rg 0 1 r)) ([.ref x, .int a0] : List Value).toArray s 0 0 (Al_ L)) D cy (Al_ L) s.heap L κ ln R I_50 J 27 [(0, .ref x), (1, .int a0), (2, .int v_49)] [] := by
        intro m_27
        induction m_27 with
        | zero =>
          intro v_49 I_50 hk_27 h0_27 hI_50
          have rv_49 : Rg 389 389 v_49 := by unfold Rg; omega
          refine g_iload_n C 2 dX12_restore_27 rfl rfl ?_
          refine g_sipush C (v := 389) dX12_restore_28 (by decide) ?_
          refine g_icmp_ge C (tgt := 58) dX12_restore_31 (by decide) (fun h_51 => ?_) (fun h_51 => ?_)
          · skip
            refine g_lo (is := [0, 1, 2]) (lo2 := [(0, .ref x), (1, .int a0), (2, .int v_49)]) rfl ?_
            exact ex_27 I_50 (hI_50.trans (congrArg (fun q => cpn_ I_27 b_5 b_1 (389 * a0.toNatClampNeg) (0) q) (show v_49.toNatClampNeg = 389 from by have := ix_n rv_49 (by decide); have := rv_49.1; have := rv_49.2; omega))) v_49 rv_49
          · skip
            have r_52 := lt_l (hi := 388) (nle h_51) rv_49 rc_389 (by decide)
            exact rg_no r_52 (by decide)
        | succ m_27 ih_27 =>
          intro v_49 I_50 hk_27 h0_27 hI_50
          have rv_49 : Rg 0 388 v_49 := by unfold Rg; omega
          refine g_iload_n C 2 dX12_restore_27 rfl rfl ?_
          refine g_sipush C (v := 389) dX12_restore_28 (by decide) ?_
          refine g_icmp_ge C (tgt := 58) dX12_restore_31 (by decide) (fun h_53 => ?_) (fun h_53 => ?_)
          · skip
            have r_54 := le_r (h_53) rc_389 rv_49
            exact rg_no r_54 (by decide)
          · skip
            refine g_aload_n C 0 dX12_restore_34 rfl rfl ?_
            refine g_getR C K hLx hkx f_12_13 hb_1 dX12_restore_35 ?_
            refine g_iload_n C 2 dX12_restore_38 rfl rfl ?_
            refine g_aload_n C 0 dX12_restore_39 rfl rfl ?_
            refine g_getR C K hLx hkx f_12_19 hb_5 dX12_restore_40 ?_
            refine g_sipush C (v := 389) dX12_restore_43 (by decide) ?_
            refine g_iload_n C 1 dX12_restore_46 rfl rfl ?_
            obtain ⟨x_55, hx_55, rx_55, tx_55⟩ := ex_mulT 0 389 rc_389 r_39 (by decide) (by decide) (by decide) (by decide) (by decide)
            refine g_imul C (v := x_55) dX12_restore_47 hx_55 ?_
            refine g_iload_n C 2 dX12_restore_48 rfl rfl ?_
            obtain ⟨x_56, hx_56, rx_56, tx_56⟩ := ex_add 0 777 rx_55 rv_49 (by decide) (by decide) (by decide) (by decide)
            refine g_iadd C (v := x_56) dX12_restore_49 hx_56 ?_
            obtain ⟨x_57, hx_57, rx_57⟩ := ex_any (z0 := I_50 b_5 (x_56.toNatClampNeg))
            refine h_iald C K hb_5L hb_5k (v := x_57) (x_56.toNatClampNeg) (rfl) (ix_0 rx_56 (by decide)) (ix_lt rx_56 (by decide) hb_5n (by decide)) hx_57 dX12_restore_50 ?_
            refine h_iast C K hb_1L hb_1k (v_49.toNatClampNeg) (rfl) (ix_0 rv_49 (by decide)) (ix_lt rv_49 (by decide) hb_1n (by decide)) dX12_restore_51 (fun I_58 hI_58 => ?_)
            obtain ⟨x_59, hx_59, rx_59, tx_59⟩ := ex_add (y := 1) 1 389 rv_49 rc_1 (by decide) (by decide) (by decide) (by decide)
            refine g_iinc C dX12_restore_52 (k := 2) (v := x_59) rfl hx_59 (by decide) (lo2 := [(2, .int x_59), (0, .ref x), (1, .int a0)]) rfl ?_
            refine g_goto C (tgt := 27) dX12_restore_55 (by decide) ?_
            refine g_lo (is := [1, 2, 0]) (lo2 := [(0, .ref x), (1, .int a0), (2, .int x_59)]) rfl ?_
            have kk_27 : x_59.toNatClampNeg = v_49.toNatClampNeg + 1 := by have q1 := ix_n rv_49 (by decide); have q2 := (ti_k tx_59 rc_1); have q3 : x_59.toNatClampNeg = x_59.toInt.toNat := rfl; omega
            exact ih_27 x_59 I_58 (by have := (ti_k tx_59 rc_1); omega) (by have := (ti_k tx_59 rc_1); omega) (by rw [kk_27]; exact cpn_s hI_50 hx_57 hI_58 (show x_56.toNatClampNeg = (389 * a0.toNatClampNeg) + v_49.toNatClampNeg from by rw [nx_a tx_56 rx_55 rv_49 (by decide), nx_m (k := 389) tx_55 r_39 (by decide)] <;> omega) (show v_49.toNatClampNeg = (0) + v_49.toNatClampNeg from by omega) (Or.inl (ne_ro (ro_a hb_5k (by decide) hb_5o hkx rfl) (ro_a hb_1k (by decide) hb_1o hkx rfl) (by decide))))
      exact l_27 389 0 I_27 (by decide) (by decide) cpn_0
    · skip
      have r_60 := (⟨(rx_40).1, (eq_rg (h_41) rc_0).2⟩ : Rg 0 0 x_40)
      refine g_iconst C (v := 0) dX12_restore_23 (by decide) ?_
      exact g_zret (ty := .boolean) (r := 0) B K rfl (rfl) ⟨hU_28, hF_29, hG, rg_w rc_0 (by decide) (by decide)⟩ dX12_restore_24
set_option maxRecDepth 100000 in
set_option maxHeartbeats 8000000 in
theorem c_X12_begin {l : Launch} {D : va_G} {cy : Nat → ClassId} {L : List Nat} {κ ln : Nat → Nat} {R : Nat → Nat → Option Nat} {I : Nat → Nat → Int32} {J : Nat → Nat → Int64} {ow : Nat → Nat × Nat} (W9 : ∀ a ∈ L, Shp L κ ln R ow a) {x : Nat} (hLx : x ∈ L) (hkx : κ x = 12) (a0 : Int32) (ra0 : Rg 900 900 a0) (hU : Iw L κ R ow I) : CtV l yX12_begin cX12_begin 2 none { frames := 2, cells := 0, slots := 0, locals := 45 } D cy L κ ln R I J [.ref x, .int a0] (fun I2 J2 => Iw L κ R ow I2 ∧ Fq L κ ow [1200, 1202, 1203, 1204, 1205, 1206, 1207, 1208, 1209, 1210] I I2 ∧ Fq L κ ow [1212] J J2) := by
  refine CtV.of (by decide +kernel) (Nat.le_of_ble_eq_true rfl) ?_
  intro p e s m below meth c B K
  have C := B.1
  have hF : Fq L κ ow [1200, 1202, 1203, 1204, 1205, 1206, 1207, 1208, 1209, 1210] I I := fq_rf
  have hG : Fq L κ ow [1212] J J := fq_rf
  refine g_lo (is := [0, 1]) (lo2 := [(0, .ref x), (1, .int a0)]) rfl ?_
  refine g_aload_n C 0 dX12_begin_0 rfl rfl ?_
  refine g_iconst C (v := 0) dX12_begin_1 (by decide) ?_
  refine h_putI C K hLx hkx f_12_82 p_12_0 dX12_begin_2 (fun I_1 hI_1 => ?_)
  have hU_2 := iw_put W9 hU hI_1 (ro_o hkx (by decide)) (lo := (-2147483648)) (hi := 2147483647) (rfl) (rg_all _) rfl
  have hF_3 := fq_puto hF hI_1 hkx (by decide) (by decide)
  refine g_aload_n C 0 dX12_begin_5 rfl rfl ?_
  refine g_aload_n C 0 dX12_begin_6 rfl rfl ?_
  refine g_callVI C K (c_X12_take W9 hLx hkx   hU_2) hLx hkx (by decide) rfl v_12_162 rfl ⟨rfl, rfl⟩ ⟨Nat.le_of_ble_eq_true rfl, Nat.le_of_ble_eq_true rfl⟩ (Nat.le_of_ble_eq_true rfl) ⟨Nat.le_of_ble_eq_true rfl, Nat.le_of_ble_eq_true rfl⟩ dX12_begin_7 rfl (st := [.ref x]) (fun x_4 I_5 J_6 h_7 => ?_)
  obtain ⟨hUI_5, hFI_5, hGJ_6, rx_4⟩ := h_7
  have hF_8 := fq_tr hF_3 hFI_5 (by decide)
  have hG_9 := fq_tr hG hGJ_6 (by decide)
  refine h_putI C K hLx hkx f_12_92 p_12_3 dX12_begin_10 (fun I_10 hI_10 => ?_)
  have hU_11 := iw_put W9 hUI_5 hI_10 (ro_o hkx (by decide)) (lo := 0) (hi := 940) (rfl) (rx_4) rfl
  have hF_12 := fq_puto hF_8 hI_10 hkx (by decide) (by decide)
  refine g_aload_n C 0 dX12_begin_13 rfl rfl ?_
  refine g_iload_n C 1 dX12_begin_14 rfl rfl ?_
  refine h_putI C K hLx hkx f_12_101 p_12_4 dX12_begin_15 (fun I_13 hI_13 => ?_)
  have hU_14 := iw_put W9 hU_11 hI_13 (ro_o hkx (by decide)) (lo := 0) (hi := 900) (rfl) (rg_w ra0 (by decide) (by decide)) rfl
  have hF_15 := fq_puto hF_12 hI_13 hkx (by decide) (by decide)
  refine g_aload_n C 0 dX12_begin_18 rfl rfl ?_
  refine g_iconst C (v := 0) dX12_begin_19 (by decide) ?_
  refine h_putI C K hLx hkx f_12_140 p_12_10 dX12_begin_20 (fun I_16 hI_16 => ?_)
  have hU_17 := iw_put W9 hU_14 hI_16 (ro_o hkx (by decide)) (lo := (-2147483648)) (hi := 2147483647) (rfl) (rg_all _) rfl
  have hF_18 := fq_puto hF_15 hI_16 hkx (by decide) (by decide)
  refine g_aload_n C 0 dX12_begin_23 rfl rfl ?_
  refine g_iconst C (v := 0) dX12_begin_24 (by decide) ?_
  refine h_putI C K hLx hkx f_12_95 p_12_5 dX12_begin_25 (fun I_19 hI_19 => ?_)
  have hU_20 := iw_put W9 hU_17 hI_19 (ro_o hkx (by decide)) (lo := 0) (hi := 940) (rfl) (rg_w rc_0 (by decide) (by decide)) rfl
  have hF_21 := fq_puto hF_18 hI_19 hkx (by decide) (by decide)
  refine g_aload_n C 0 dX12_begin_28 rfl rfl ?_
  refine g_callVV C K (c_X12_go W9 hLx hkx   hU_20) hLx hkx (by decide) rfl v_12_156 rfl ⟨rfl, rfl⟩ ⟨Nat.le_of_ble_eq_true rfl, Nat.le_of_ble_eq_true rfl⟩ (Nat.le_of_ble_eq_true rfl) ⟨Nat.le_of_ble_eq_true rfl, Nat.le_of_ble_eq_true rfl⟩ dX12_begin_29 rfl (st := []) (fun I_23 J_24 h_25 => ?_)
  obtain ⟨hUI_23, hFI_23, hGJ_24, ex_22⟩ := h_25
  have hF_26 := fq_tr hF_21 hFI_23 (by decide)
  have hG_27 := fq_tr hG_9 hGJ_24 (by decide)
  exact g_vret B K rfl ⟨hUI_23, hF_26, hG_27⟩ dX12_begin_32
set_option maxRecDepth 100000 in
set_option maxHeartbeats 8000000 in
theorem c_X12_startSo {l : Launch} {D : va_G} {cy : Nat → ClassId} {L : List Nat} {κ ln : Nat → Nat} {R : Nat → Nat → Option Nat} {I : Nat → Nat → Int32} {J : Nat → Nat → Int64} {ow : Nat → Nat × Nat} (W9 : ∀ a ∈ L, Shp L κ ln R ow a) {x : Nat} (hLx : x ∈ L) (hkx : κ x = 12) (hU : Iw1 L κ R ow I) : CtV l yX12_startSo cX12_startSo 2 none { frames := 0, cells := 0, slots := 0, locals := 0 } D cy L κ ln R I J [.ref x] (fun I2 J2 => Iw0 L κ R ow I2 ∧ Fq L κ ow [83400] I I2 ∧ Fq L κ ow [] J J2) := by
  refine CtV.of (by decide +kernel) (Nat.le_of_ble_eq_true rfl) ?_
  intro p e s m below meth c B K
  have C := B.1
  have hF : Fq L κ ow [83400] I I := fq_rf
  have hG : Fq L κ ow [] J J := fq_rf
  obtain ⟨b_1, hb_1, hb_1L, hb_1k, hb_1n, hb_1o⟩ := shp_a (W9 x hLx) hkx 14 14 389 rfl (by decide)
  refine g_lo (is := [0]) (lo2 := [(0, .ref x)]) rfl ?_
  refine g_bipush C (v := 72) dX12_startSo_0 (by decide) ?_
  refine g_istore_n C dX12_startSo_2 rfl (by decide) (lo2 := [(1, .int 72), (0, .ref x)]) rfl ?_
  refine g_lo (is := [1, 0]) (lo2 := [(0, .ref x), (1, .int 72)]) rfl ?_
  have ex_3 : ∀ (I_3 : Nat → Nat → Int32) (hI_3 : I_3 = fil_ I b_1 (72) 317) (v_2 : Int32) (rv_2 : Rg 389 389 v_2), WG p l e { frames := 0, cells := 0, slots := 0, locals := 0 } s m ([.ref x] : List Value).toArray below meth c 2 0 0 (MQ below (Qv_ D cy L κ ln R (fun I2 J2 => Iw0 L κ R ow I2 ∧ Fq L κ ow [83400] I I2 ∧ Fq L κ ow [] J J2)) ([.ref x] : List Value).toArray s 0 0 (Al_ L)) D cy (Al_ L) s.heap L κ ln R I_3 J 23 [(0, .ref x), (1, .int v_2)] [] := by
    intro I_3 hI_3 v_2 rv_2
    have hF_4 := fq_fil hF hI_3 (ro_a hb_1k (by decide) hb_1o hkx rfl) (by decide) (by decide)
    have hU_5 := uw_fil hU.1 hI_3 (ro_a hb_1k (by decide) hb_1o hkx rfl)
    refine g_iconst C (v := 0) dX12_startSo_23 (by decide) ?_
    refine g_istore_n C dX12_startSo_24 rfl (by decide) (lo2 := [(1, .int 0), (0, .ref x)]) rfl ?_
    refine g_lo (is := [1, 0]) (lo2 := [(0, .ref x), (1, .int 0)]) rfl ?_
    have ex_25 : ∀ (I_7 : Nat → Nat → Int32) (hI_7 : I_7 = cpn_ I_3 b_1 b_1 (18) (78) 6) (v_6 : Int32) (rv_6 : Rg 6 6 v_6), WG p l e { frames := 0, cells := 0, slots := 0, locals := 0 } s m ([.ref x] : List Value).toArray below meth c 2 0 0 (MQ below (Qv_ D cy L κ ln R (fun I2 J2 => Iw0 L κ R ow I2 ∧ Fq L κ ow [83400] I I2 ∧ Fq L κ ow [] J J2)) ([.ref x] : List Value).toArray s 0 0 (Al_ L)) D cy (Al_ L) s.heap L κ ln R I_7 J 55 [(0, .ref x), (1, .int v_6)] [] := by
      intro I_7 hI_7 v_6 rv_6
      have hF_8 := fq_cpn hF_4 hI_7 (ro_a hb_1k (by decide) hb_1o hkx rfl) (by decide) (by decide)
      have hU_9 := uw_cpn hU_5 hb_1L hI_7 (ro_a hb_1k (by decide) hb_1o hkx rfl) (ro_a hb_1k (by decide) hb_1o hkx rfl) (fun i hi => by rw [bn_834, bn_834, zq_78 (by omega), zq_18 (by omega)]; decide)
      refine g_iconst C (v := 0) dX12_startSo_55 (by decide) ?_
      refine g_istore_n C dX12_startSo_56 rfl (by decide) (lo2 := [(1, .int 0), (0, .ref x)]) rfl ?_
      refine g_lo (is := [1, 0]) (lo2 := [(0, .ref x), (1, .int 0)]) rfl ?_
      have ex_57 : ∀ (I_11 : Nat → Nat → Int32) (hI_11 : I_11 = cpn_ I_7 b_1 b_1 (30) (105) 42) (v_10 : Int32) (rv_10 : Rg 42 42 v_10), WG p l e { frames := 0, cells := 0, slots := 0, locals := 0 } s m ([.ref x] : List Value).toArray below meth c 2 0 0 (MQ below (Qv_ D cy L κ ln R (fun I2 J2 => Iw0 L κ R ow I2 ∧ Fq L κ ow [83400] I I2 ∧ Fq L κ ow [] J J2)) ([.ref x] : List Value).toArray s 0 0 (Al_ L)) D cy (Al_ L) s.heap L κ ln R I_11 J 87 [(0, .ref x), (1, .int v_10)] [] := by
        intro I_11 hI_11 v_10 rv_10
        have hF_12 := fq_cpn hF_8 hI_11 (ro_a hb_1k (by decide) hb_1o hkx rfl) (by decide) (by decide)
        have hU_13 := uw_cpn hU_9 hb_1L hI_11 (ro_a hb_1k (by decide) hb_1o hkx rfl) (ro_a hb_1k (by decide) hb_1o hkx rfl) (fun i hi => by rw [bn_834, bn_834, zq_105 (by omega), zq_30 (by omega)]; decide)
        have hU_14 := iw_st W9 hU hU_13 hLx hkx hb_1 hI_3 hI_7 hI_11
        exact g_vret B K rfl ⟨hU_14, hF_12, hG⟩ dX12_startSo_87
      have l_57 : ∀ (m_57 : Nat) (v_15 : Int32) (I_16 : Nat → Nat → Int32), v_15.toInt + (m_57 : Int) = 42 → 0 ≤ v_15.toInt → I_16 = cpn_ I_7 b_1 b_1 (30) (105) v_15.toNatClampNeg → WG p l e { frames := 0, cells := 0, slots := 0, locals := 0 } s m ([.ref x] : List Value).toArray below meth c 2 0 0 (MQ below (Qv_ D cy L κ ln R (fun I2 J2 => Iw0 L κ R ow I2 ∧ Fq L κ ow [83400] I I2 ∧ Fq L κ ow [] J J2)) ([.ref x] : List Value).toArray s 0 0 (Al_ L)) D cy (Al_ L) s.heap L κ ln R I_16 J 57 [(0, .ref x), (1, .int v_15)] [] := by
        intro m_57
        induction m_57 with
        | zero =>
          intro v_15 I_16 hk_57 h0_57 hI_16
          have rv_15 : Rg 42 42 v_15 := by unfold Rg; omega
          refine g_iload_n C 1 dX12_startSo_57 rfl rfl ?_
          refine g_bipush C (v := 42) dX12_startSo_58 (by decide) ?_
          refine g_icmp_ge C (tgt := 87) dX12_startSo_60 (by decide) (fun h_17 => ?_) (fun h_17 => ?_)
          · skip
            refine g_lo (is := [0, 1]) (lo2 := [(0, .ref x), (1, .int v_15)]) rfl ?_
            exact ex_57 I_16 (hI_16.trans (congrArg (fun q => cpn_ I_7 b_1 b_1 (30) (105) q) (show v_15.toNatClampNeg = 42 from by have := ix_n rv_15 (by decide); have := rv_15.1; have := rv_15.2; omega))) v_15 rv_15
          · skip
            have r_18 := lt_l (hi := 41) (nle h_17) rv_15 rc_42 (by decide)
            exact rg_no r_18 (by decide)
        | succ m_57 ih_57 =>
          intro v_15 I_16 hk_57 h0_57 hI_16
          have rv_15 : Rg 0 41 v_15 := by unfold Rg; omega
          refine g_iload_n C 1 dX12_startSo_57 rfl rfl ?_
          refine g_bipush C (v := 42) dX12_startSo_58 (by decide) ?_
          refine g_icmp_ge C (tgt := 87) dX12_startSo_60 (by decide) (fun h_19 => ?_) (fun h_19 => ?_)
          · skip
            have r_20 := le_r (h_19) rc_42 rv_15
            exact rg_no r_20 (by decide)
          · skip
            refine g_aload_n C 0 dX12_startSo_63 rfl rfl ?_
            refine g_getR C K hLx hkx f_12_13 hb_1 dX12_startSo_64 ?_
            refine g_bipush C (v := 105) dX12_startSo_67 (by decide) ?_
            refine g_iload_n C 1 dX12_startSo_69 rfl rfl ?_
            obtain ⟨x_21, hx_21, rx_21, tx_21⟩ := ex_add 105 146 rc_105 rv_15 (by decide) (by decide) (by decide) (by decide)
            refine g_iadd C (v := x_21) dX12_startSo_70 hx_21 ?_
            refine g_aload_n C 0 dX12_startSo_71 rfl rfl ?_
            refine g_getR C K hLx hkx f_12_13 hb_1 dX12_startSo_72 ?_
            refine g_bipush C (v := 30) dX12_startSo_75 (by decide) ?_
            refine g_iload_n C 1 dX12_startSo_77 rfl rfl ?_
            obtain ⟨x_22, hx_22, rx_22, tx_22⟩ := ex_add 30 71 rc_30 rv_15 (by decide) (by decide) (by decide) (by decide)
            refine g_iadd C (v := x_22) dX12_startSo_78 hx_22 ?_
            obtain ⟨x_23, hx_23, rx_23⟩ := ex_any (z0 := I_16 b_1 (x_22.toNatClampNeg))
            refine h_iald C K hb_1L hb_1k (v := x_23) (x_22.toNatClampNeg) (rfl) (ix_0 rx_22 (by decide)) (ix_lt rx_22 (by decide) hb_1n (by decide)) hx_23 dX12_startSo_79 ?_
            refine h_iast C K hb_1L hb_1k (x_21.toNatClampNeg) (rfl) (ix_0 rx_21 (by decide)) (ix_lt rx_21 (by decide) hb_1n (by decide)) dX12_startSo_80 (fun I_24 hI_24 => ?_)
            obtain ⟨x_25, hx_25, rx_25, tx_25⟩ := ex_add (y := 1) 1 42 rv_15 rc_1 (by decide) (by decide) (by decide) (by decide)
            refine g_iinc C dX12_startSo_81 (k := 1) (v := x_25) rfl hx_25 (by decide) (lo2 := [(1, .int x_25), (0, .ref x)]) rfl ?_
            refine g_goto C (tgt := 57) dX12_startSo_84 (by decide) ?_
            refine g_lo (is := [1, 0]) (lo2 := [(0, .ref x), (1, .int x_25)]) rfl ?_
            have kk_57 : x_25.toNatClampNeg = v_15.toNatClampNeg + 1 := by have q1 := ix_n rv_15 (by decide); have q2 := (ti_k tx_25 rc_1); have q3 : x_25.toNatClampNeg = x_25.toInt.toNat := rfl; omega
            exact ih_57 x_25 I_24 (by have := (ti_k tx_25 rc_1); omega) (by have := (ti_k tx_25 rc_1); omega) (by rw [kk_57]; exact cpn_s hI_16 hx_23 hI_24 (show x_22.toNatClampNeg = (30) + v_15.toNatClampNeg from by rw [nx_a tx_22 rc_30 rv_15 (by decide)]; simp only [show (30 : Int32).toNatClampNeg = 30 from rfl] <;> omega) (show x_21.toNatClampNeg = (105) + v_15.toNatClampNeg from by rw [nx_a tx_21 rc_105 rv_15 (by decide)]; simp only [show (105 : Int32).toNatClampNeg = 105 from rfl] <;> omega) (Or.inr (Or.inr (by omega))))
      exact l_57 42 0 I_7 (by decide) (by decide) cpn_0
    have l_25 : ∀ (m_25 : Nat) (v_26 : Int32) (I_27 : Nat → Nat → Int32), v_26.toInt + (m_25 : Int) = 6 → 0 ≤ v_26.toInt → I_27 = cpn_ I_3 b_1 b_1 (18) (78) v_26.toNatClampNeg → WG p l e { frames := 0, cells := 0, slots := 0, locals := 0 } s m ([.ref x] : List Value).toArray below meth c 2 0 0 (MQ below (Qv_ D cy L κ ln R (fun I2 J2 => Iw0 L κ R ow I2 ∧ Fq L κ ow [83400] I I2 ∧ Fq L κ ow [] J J2)) ([.ref x] : List Value).toArray s 0 0 (Al_ L)) D cy (Al_ L) s.heap L κ ln R I_27 J 25 [(0, .ref x), (1, .int v_26)] [] := by
      intro m_25
      induction m_25 with
      | zero =>
        intro v_26 I_27 hk_25 h0_25 hI_27
        have rv_26 : Rg 6 6 v_26 := by unfold Rg; omega
        refine g_iload_n C 1 dX12_startSo_25 rfl rfl ?_
        refine g_bipush C (v := 6) dX12_startSo_26 (by decide) ?_
        refine g_icmp_ge C (tgt := 55) dX12_startSo_28 (by decide) (fun h_28 => ?_) (fun h_28 => ?_)
        · skip
          refine g_lo (is := [0, 1]) (lo2 := [(0, .ref x), (1, .int v_26)]) rfl ?_
          exact ex_25 I_27 (hI_27.trans (congrArg (fun q => cpn_ I_3 b_1 b_1 (18) (78) q) (show v_26.toNatClampNeg = 6 from by have := ix_n rv_26 (by decide); have := rv_26.1; have := rv_26.2; omega))) v_26 rv_26
        · skip
          have r_29 := lt_l (hi := 5) (nle h_28) rv_26 rc_6 (by decide)
          exact rg_no r_29 (by decide)
      | succ m_25 ih_25 =>
        intro v_26 I_27 hk_25 h0_25 hI_27
        have rv_26 : Rg 0 5 v_26 := by unfold Rg; omega
        refine g_iload_n C 1 dX12_startSo_25 rfl rfl ?_
        refine g_bipush C (v := 6) dX12_startSo_26 (by decide) ?_
        refine g_icmp_ge C (tgt := 55) dX12_startSo_28 (by decide) (fun h_30 => ?_) (fun h_30 => ?_)
        · skip
          have r_31 := le_r (h_30) rc_6 rv_26
          exact rg_no r_31 (by decide)
        · skip
          refine g_aload_n C 0 dX12_startSo_31 rfl rfl ?_
          refine g_getR C K hLx hkx f_12_13 hb_1 dX12_startSo_32 ?_
          refine g_bipush C (v := 78) dX12_startSo_35 (by decide) ?_
          refine g_iload_n C 1 dX12_startSo_37 rfl rfl ?_
          obtain ⟨x_32, hx_32, rx_32, tx_32⟩ := ex_add 78 83 rc_78 rv_26 (by decide) (by decide) (by decide) (by decide)
          refine g_iadd C (v := x_32) dX12_startSo_38 hx_32 ?_
          refine g_aload_n C 0 dX12_startSo_39 rfl rfl ?_
          refine g_getR C K hLx hkx f_12_13 hb_1 dX12_startSo_40 ?_
          refine g_bipush C (v := 18) dX12_startSo_43 (by decide) ?_
          refine g_iload_n C 1 dX12_startSo_45 rfl rfl ?_
          obtain ⟨x_33, hx_33, rx_33, tx_33⟩ := ex_add 18 23 rc_18 rv_26 (by decide) (by decide) (by decide) (by decide)
          refine g_iadd C (v := x_33) dX12_startSo_46 hx_33 ?_
          obtain ⟨x_34, hx_34, rx_34⟩ := ex_any (z0 := I_27 b_1 (x_33.toNatClampNeg))
          refine h_iald C K hb_1L hb_1k (v := x_34) (x_33.toNatClampNeg) (rfl) (ix_0 rx_33 (by decide)) (ix_lt rx_33 (by decide) hb_1n (by decide)) hx_34 dX12_startSo_47 ?_
          refine h_iast C K hb_1L hb_1k (x_32.toNatClampNeg) (rfl) (ix_0 rx_32 (by decide)) (ix_lt rx_32 (by decide) hb_1n (by decide)) dX12_startSo_48 (fun I_35 hI_35 => ?_)
          obtain ⟨x_36, hx_36, rx_36, tx_36⟩ := ex_add (y := 1) 1 6 rv_26 rc_1 (by decide) (by decide) (by decide) (by decide)
          refine g_iinc C dX12_startSo_49 (k := 1) (v := x_36) rfl hx_36 (by decide) (lo2 := [(1, .int x_36), (0, .ref x)]) rfl ?_
          refine g_goto C (tgt := 25) dX12_startSo_52 (by decide) ?_
          refine g_lo (is := [1, 0]) (lo2 := [(0, .ref x), (1, .int x_36)]) rfl ?_
          have kk_25 : x_36.toNatClampNeg = v_26.toNatClampNeg + 1 := by have q1 := ix_n rv_26 (by decide); have q2 := (ti_k tx_36 rc_1); have q3 : x_36.toNatClampNeg = x_36.toInt.toNat := rfl; omega
          exact ih_25 x_36 I_35 (by have := (ti_k tx_36 rc_1); omega) (by have := (ti_k tx_36 rc_1); omega) (by rw [kk_25]; exact cpn_s hI_27 hx_34 hI_35 (show x_33.toNatClampNeg = (18) + v_26.toNatClampNeg from by rw [nx_a tx_33 rc_18 rv_26 (by decide)]; simp only [show (18 : Int32).toNatClampNeg = 18 from rfl] <;> omega) (show x_32.toNatClampNeg = (78) + v_26.toNatClampNeg from by rw [nx_a tx_32 rc_78 rv_26 (by decide)]; simp only [show (78 : Int32).toNatClampNeg = 78 from rfl] <;> omega) (Or.inr (Or.inr (by omega))))
    exact l_25 6 0 I_3 (by decide) (by decide) cpn_0
  have l_3 : ∀ (m_3 : Nat) (v_37 : Int32) (I_38 : Nat → Nat → Int32), v_37.toInt + (m_3 : Int) = 389 → 72 ≤ v_37.toInt → I_38 = fil_ I b_1 (72) (v_37.toNatClampNeg - 72) → WG p l e { frames := 0, cells := 0, slots := 0, locals := 0 } s m ([.ref x] : List Value).toArray below meth c 2 0 0 (MQ below (Qv_ D cy L κ ln R (fun I2 J2 => Iw0 L κ R ow I2 ∧ Fq L κ ow [83400] I I2 ∧ Fq L κ ow [] J J2)) ([.ref x] : List Value).toArray s 0 0 (Al_ L)) D cy (Al_ L) s.heap L κ ln R I_38 J 3 [(0, .ref x), (1, .int v_37)] [] := by
    intro m_3
    induction m_3 with
    | zero =>
      intro v_37 I_38 hk_3 h0_3 hI_38
      have rv_37 : Rg 389 389 v_37 := by unfold Rg; omega
      refine g_iload_n C 1 dX12_startSo_3 rfl rfl ?_
      refine g_sipush C (v := 389) dX12_startSo_4 (by decide) ?_
      refine g_icmp_ge C (tgt := 23) dX12_startSo_7 (by decide) (fun h_39 => ?_) (fun h_39 => ?_)
      · skip
        refine g_lo (is := [0, 1]) (lo2 := [(0, .ref x), (1, .int v_37)]) rfl ?_
        exact ex_3 I_38 (hI_38.trans (congrArg (fun q => fil_ I b_1 (72) q) (show v_37.toNatClampNeg - 72 = 317 from by have := ix_n rv_37 (by decide); have := rv_37.1; have := rv_37.2; omega))) v_37 rv_37
      · skip
        have r_40 := lt_l (hi := 388) (nle h_39) rv_37 rc_389 (by decide)
        exact rg_no r_40 (by decide)
    | succ m_3 ih_3 =>
      intro v_37 I_38 hk_3 h0_3 hI_38
      have rv_37 : Rg 72 388 v_37 := by unfold Rg; omega
      refine g_iload_n C 1 dX12_startSo_3 rfl rfl ?_
      refine g_sipush C (v := 389) dX12_startSo_4 (by decide) ?_
      refine g_icmp_ge C (tgt := 23) dX12_startSo_7 (by decide) (fun h_41 => ?_) (fun h_41 => ?_)
      · skip
        have r_42 := le_r (h_41) rc_389 rv_37
        exact rg_no r_42 (by decide)
      · skip
        refine g_aload_n C 0 dX12_startSo_10 rfl rfl ?_
        refine g_getR C K hLx hkx f_12_13 hb_1 dX12_startSo_11 ?_
        refine g_iload_n C 1 dX12_startSo_14 rfl rfl ?_
        refine g_iconst C (v := 0) dX12_startSo_15 (by decide) ?_
        refine h_iast C K hb_1L hb_1k (v_37.toNatClampNeg) (rfl) (ix_0 rv_37 (by decide)) (ix_lt rv_37 (by decide) hb_1n (by decide)) dX12_startSo_16 (fun I_43 hI_43 => ?_)
        obtain ⟨x_44, hx_44, rx_44, tx_44⟩ := ex_add (y := 1) 73 389 rv_37 rc_1 (by decide) (by decide) (by decide) (by decide)
        refine g_iinc C dX12_startSo_17 (k := 1) (v := x_44) rfl hx_44 (by decide) (lo2 := [(1, .int x_44), (0, .ref x)]) rfl ?_
        refine g_goto C (tgt := 3) dX12_startSo_20 (by decide) ?_
        refine g_lo (is := [1, 0]) (lo2 := [(0, .ref x), (1, .int x_44)]) rfl ?_
        have kk_3 : x_44.toNatClampNeg - 72 = (v_37.toNatClampNeg - 72) + 1 := by have q1 := ix_n rv_37 (by decide); have q2 := (ti_k tx_44 rc_1); have q3 : x_44.toNatClampNeg = x_44.toInt.toNat := rfl; have := rv_37.1; omega
        exact ih_3 x_44 I_43 (by have := (ti_k tx_44 rc_1); omega) (by have := (ti_k tx_44 rc_1); omega) (by rw [kk_3]; exact fil_s hI_38 hI_43 (by have q1 := ix_n rv_37 (by decide); have := rv_37.1; omega))
  exact l_3 317 72 I (by decide) (by decide) fil_0
