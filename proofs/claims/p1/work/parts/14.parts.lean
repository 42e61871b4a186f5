theorem dX0_judgeBy_0 : decode cX0_judgeBy 0 = .ok (.aload_n 0, 1) := by decide +kernel
theorem dX0_judgeBy_1 : decode cX0_judgeBy 1 = .ok (.iconst 1, 1) := by decide +kernel
theorem dX0_judgeBy_2 : decode cX0_judgeBy 2 = .ok (.putfield 28, 3) := by decide +kernel
theorem dX0_judgeBy_5 : decode cX0_judgeBy 5 = .ok (.aload_n 0, 1) := by decide +kernel
theorem dX0_judgeBy_6 : decode cX0_judgeBy 6 = .ok (.iconst 0, 1) := by decide +kernel
theorem dX0_judgeBy_7 : decode cX0_judgeBy 7 = .ok (.putfield 32, 3) := by decide +kernel
theorem dX0_judgeBy_10 : decode cX0_judgeBy 10 = .ok (.aload_n 0, 1) := by decide +kernel
theorem dX0_judgeBy_11 : decode cX0_judgeBy 11 = .ok (.iconst 0, 1) := by decide +kernel
theorem dX0_judgeBy_12 : decode cX0_judgeBy 12 = .ok (.putfield 35, 3) := by decide +kernel
theorem dX0_judgeBy_15 : decode cX0_judgeBy 15 = .ok (.aload_n 0, 1) := by decide +kernel
theorem dX0_judgeBy_16 : decode cX0_judgeBy 16 = .ok (.getfield 35, 3) := by decide +kernel
theorem dX0_judgeBy_19 : decode cX0_judgeBy 19 = .ok (.aload_n 0, 1) := by decide +kernel
theorem dX0_judgeBy_20 : decode cX0_judgeBy 20 = .ok (.getfield 24, 3) := by decide +kernel
theorem dX0_judgeBy_23 : decode cX0_judgeBy 23 = .ok (.if_icmp .ge 43, 3) := by decide +kernel
theorem dX0_judgeBy_66 : decode cX0_judgeBy 66 = .ok (.aload_n 0, 1) := by decide +kernel
theorem dX0_judgeBy_67 : decode cX0_judgeBy 67 = .ok (.aload_n 1, 1) := by decide +kernel
theorem dX0_judgeBy_68 : decode cX0_judgeBy 68 = .ok (.getfield 98, 3) := by decide +kernel
theorem dX0_judgeBy_71 : decode cX0_judgeBy 71 = .ok (.putfield 38, 3) := by decide +kernel
theorem dX0_judgeBy_74 : decode cX0_judgeBy 74 = .ok (.aload_n 0, 1) := by decide +kernel
theorem dX0_judgeBy_75 : decode cX0_judgeBy 75 = .ok (.aload_n 1, 1) := by decide +kernel
theorem dX0_judgeBy_76 : decode cX0_judgeBy 76 = .ok (.getfield 103, 3) := by decide +kernel
theorem dX0_judgeBy_79 : decode cX0_judgeBy 79 = .ok (.putfield 41, 3) := by decide +kernel
theorem dX0_judgeBy_82 : decode cX0_judgeBy 82 = .ok (.return_, 1) := by decide +kernel
theorem dX0_readFrom_0 : decode cX0_readFrom 0 = .ok (.aload_n 1, 1) := by decide +kernel
theorem dX0_readFrom_1 : decode cX0_readFrom 1 = .ok (.sipush 400, 3) := by decide +kernel
theorem dX0_readFrom_4 : decode cX0_readFrom 4 = .ok (.invokevirtual 44, 3) := by decide +kernel
theorem dX0_readFrom_7 : decode cX0_readFrom 7 = .ok (.aload_n 0, 1) := by decide +kernel
theorem dX0_readFrom_8 : decode cX0_readFrom 8 = .ok (.iconst 0, 1) := by decide +kernel
theorem dX0_readFrom_9 : decode cX0_readFrom 9 = .ok (.putfield 24, 3) := by decide +kernel
theorem dX0_readFrom_12 : decode cX0_readFrom 12 = .ok (.aload_n 0, 1) := by decide +kernel
theorem dX0_readFrom_13 : decode cX0_readFrom 13 = .ok (.getfield 24, 3) := by decide +kernel
theorem dX0_readFrom_16 : decode cX0_readFrom 16 = .ok (.bipush 40, 2) := by decide +kernel
theorem dX0_readFrom_18 : decode cX0_readFrom 18 = .ok (.if_icmp .gt 34, 3) := by decide +kernel
theorem dX0_readFrom_21 : decode cX0_readFrom 21 = .ok (.aload_n 1, 1) := by decide +kernel
theorem dX0_readFrom_22 : decode cX0_readFrom 22 = .ok (.getfield 50, 3) := by decide +kernel
theorem dX0_readFrom_25 : decode cX0_readFrom 25 = .ok (.bipush 102, 2) := by decide +kernel
theorem dX0_readFrom_27 : decode cX0_readFrom 27 = .ok (.if_icmp .eq 25, 3) := by decide +kernel
theorem dX0_readFrom_52 : decode cX0_readFrom 52 = .ok (.return_, 1) := by decide +kernel
theorem dX1_allEaten_0 : decode cX1_allEaten 0 = .ok (.iconst 0, 1) := by decide +kernel
theorem dX1_allEaten_1 : decode cX1_allEaten 1 = .ok (.istore_n 1, 1) := by decide +kernel
theorem dX1_allEaten_2 : decode cX1_allEaten 2 = .ok (.iconst 0, 1) := by decide +kernel
theorem dX1_allEaten_3 : decode cX1_allEaten 3 = .ok (.istore_n 2, 1) := by decide +kernel
theorem dX1_allEaten_4 : decode cX1_allEaten 4 = .ok (.iload_n 2, 1) := by decide +kernel
theorem dX1_allEaten_5 : decode cX1_allEaten 5 = .ok (.aload_n 0, 1) := by decide +kernel
theorem dX1_allEaten_6 : decode cX1_allEaten 6 = .ok (.getfield 52, 3) := by decide +kernel
theorem dX1_allEaten_9 : decode cX1_allEaten 9 = .ok (.getfield 68, 3) := by decide +kernel
theorem dX1_allEaten_12 : decode cX1_allEaten 12 = .ok (.if_icmp .ge 18, 3) := by decide +kernel
theorem dX1_allEaten_30 : decode cX1_allEaten 30 = .ok (.iload_n 1, 1) := by decide +kernel
theorem dX1_allEaten_31 : decode cX1_allEaten 31 = .ok (.ireturn, 1) := by decide +kernel
theorem dX1_allHunger_0 : decode cX1_allHunger 0 = .ok (.iconst 0, 1) := by decide +kernel
theorem dX1_allHunger_1 : decode cX1_allHunger 1 = .ok (.istore_n 1, 1) := by decide +kernel
theorem dX1_allHunger_2 : decode cX1_allHunger 2 = .ok (.iconst 0, 1) := by decide +kernel
theorem dX1_allHunger_3 : decode cX1_allHunger 3 = .ok (.istore_n 2, 1) := by decide +kernel
theorem dX1_allHunger_4 : decode cX1_allHunger 4 = .ok (.iload_n 2, 1) := by decide +kernel
theorem dX1_allHunger_5 : decode cX1_allHunger 5 = .ok (.aload_n 0, 1) := by decide +kernel
theorem dX1_allHunger_6 : decode cX1_allHunger 6 = .ok (.getfield 52, 3) := by decide +kernel
theorem dX1_allHunger_9 : decode cX1_allHunger 9 = .ok (.getfield 68, 3) := by decide +kernel
theorem dX1_allHunger_12 : decode cX1_allHunger 12 = .ok (.if_icmp .ge 18, 3) := by decide +kernel
theorem dX1_allHunger_30 : decode cX1_allHunger 30 = .ok (.iload_n 1, 1) := by decide +kernel
theorem dX1_allHunger_31 : decode cX1_allHunger 31 = .ok (.ireturn, 1) := by decide +kernel
theorem dX1_endMeal_0 : decode cX1_endMeal 0 = .ok (.iconst 0, 1) := by decide +kernel
theorem dX1_endMeal_1 : decode cX1_endMeal 1 = .ok (.istore_n 1, 1) := by decide +kernel
theorem dX1_endMeal_2 : decode cX1_endMeal 2 = .ok (.iload_n 1, 1) := by decide +kernel
theorem dX1_endMeal_3 : decode cX1_endMeal 3 = .ok (.aload_n 0, 1) := by decide +kernel
theorem dX1_endMeal_4 : decode cX1_endMeal 4 = .ok (.getfield 52, 3) := by decide +kernel
theorem dX1_endMeal_7 : decode cX1_endMeal 7 = .ok (.getfield 68, 3) := by decide +kernel
theorem dX1_endMeal_10 : decode cX1_endMeal 10 = .ok (.if_icmp .ge 94, 3) := by decide +kernel
theorem dX1_endMeal_104 : decode cX1_endMeal 104 = .ok (.aload_n 0, 1) := by decide +kernel
theorem dX1_endMeal_105 : decode cX1_endMeal 105 = .ok (.dup, 1) := by decide +kernel
theorem dX1_endMeal_106 : decode cX1_endMeal 106 = .ok (.getfield 37, 3) := by decide +kernel
theorem dX1_endMeal_109 : decode cX1_endMeal 109 = .ok (.iconst 1, 1) := by decide +kernel
theorem dX1_endMeal_110 : decode cX1_endMeal 110 = .ok (.iadd, 1) := by decide +kernel
theorem dX1_endMeal_111 : decode cX1_endMeal 111 = .ok (.putfield 37, 3) := by decide +kernel
theorem dX1_endMeal_114 : decode cX1_endMeal 114 = .ok (.return_, 1) := by decide +kernel
theorem dX1_letMealsGo_0 : decode cX1_letMealsGo 0 = .ok (.iconst 0, 1) := by decide +kernel
theorem dX1_letMealsGo_1 : decode cX1_letMealsGo 1 = .ok (.istore_n 2, 1) := by decide +kernel
theorem dX1_letMealsGo_2 : decode cX1_letMealsGo 2 = .ok (.iload_n 2, 1) := by decide +kernel
theorem dX1_letMealsGo_3 : decode cX1_letMealsGo 3 = .ok (.iload_n 1, 1) := by decide +kernel
theorem dX1_letMealsGo_4 : decode cX1_letMealsGo 4 = .ok (.if_icmp .ge 23, 3) := by decide +kernel
theorem dX1_letMealsGo_7 : decode cX1_letMealsGo 7 = .ok (.aload_n 0, 1) := by decide +kernel
theorem dX1_letMealsGo_8 : decode cX1_letMealsGo 8 = .ok (.getfield 37, 3) := by decide +kernel
theorem dX1_letMealsGo_11 : decode cX1_letMealsGo 11 = .ok (.sipush 200, 3) := by decide +kernel
theorem dX1_letMealsGo_14 : decode cX1_letMealsGo 14 = .ok (.if_icmp .ge 13, 3) := by decide +kernel
theorem dX1_letMealsGo_17 : decode cX1_letMealsGo 17 = .ok (.aload_n 0, 1) := by decide +kernel
theorem dX1_letMealsGo_18 : decode cX1_letMealsGo 18 = .ok (.invokevirtual 126, 3) := by decide +kernel
theorem dX1_letMealsGo_21 : decode cX1_letMealsGo 21 = .ok (.iinc 2 1, 3) := by decide +kernel
theorem dX1_letMealsGo_24 : decode cX1_letMealsGo 24 = .ok (.goto (-22), 3) := by decide +kernel
theorem dX1_letMealsGo_27 : decode cX1_letMealsGo 27 = .ok (.iload_n 2, 1) := by decide +kernel
theorem dX1_letMealsGo_28 : decode cX1_letMealsGo 28 = .ok (.ireturn, 1) := by decide +kernel
theorem dX1_living_0 : decode cX1_living 0 = .ok (.aload_n 0, 1) := by decide +kernel
theorem dX1_living_1 : decode cX1_living 1 = .ok (.getfield 52, 3) := by decide +kernel
theorem dX1_living_4 : decode cX1_living 4 = .ok (.invokevirtual 62, 3) := by decide +kernel
theorem dX1_living_7 : decode cX1_living 7 = .ok (.aload_n 0, 1) := by decide +kernel
theorem dX1_living_8 : decode cX1_living 8 = .ok (.getfield 30, 3) := by decide +kernel
theorem dX1_living_11 : decode cX1_living 11 = .ok (.iconst (-1), 1) := by decide +kernel
theorem dX1_living_12 : decode cX1_living 12 = .ok (.ixor, 1) := by decide +kernel
theorem dX1_living_13 : decode cX1_living 13 = .ok (.iand, 1) := by decide +kernel
theorem dX1_living_14 : decode cX1_living 14 = .ok (.ireturn, 1) := by decide +kernel
theorem dX3_keep_0 : decode cX3_keep 0 = .ok (.aload_n 0, 1) := by decide +kernel
theorem dX3_keep_1 : decode cX3_keep 1 = .ok (.getfield 10, 3) := by decide +kernel
theorem dX3_keep_4 : decode cX3_keep 4 = .ok (.aload_n 1, 1) := by decide +kernel
theorem dX3_keep_5 : decode cX3_keep 5 = .ok (.invokevirtual 36, 3) := by decide +kernel
theorem dX3_keep_8 : decode cX3_keep 8 = .ok (.aload_n 0, 1) := by decide +kernel
theorem dX3_keep_9 : decode cX3_keep 9 = .ok (.getfield 21, 3) := by decide +kernel
theorem dX3_keep_12 : decode cX3_keep 12 = .ok (.aload_n 2, 1) := by decide +kernel
theorem dX3_keep_13 : decode cX3_keep 13 = .ok (.invokevirtual 39, 3) := by decide +kernel
theorem dX3_keep_16 : decode cX3_keep 16 = .ok (.aload_n 0, 1) := by decide +kernel
theorem dX3_keep_17 : decode cX3_keep 17 = .ok (.getfield 28, 3) := by decide +kernel
theorem dX3_keep_20 : decode cX3_keep 20 = .ok (.aload_n 3, 1) := by decide +kernel
theorem dX3_keep_21 : decode cX3_keep 21 = .ok (.invokevirtual 42, 3) := by decide +kernel
theorem dX3_keep_24 : decode cX3_keep 24 = .ok (.aload_n 0, 1) := by decide +kernel
theorem dX3_keep_25 : decode cX3_keep 25 = .ok (.iconst 1, 1) := by decide +kernel
theorem dX3_keep_26 : decode cX3_keep 26 = .ok (.putfield 32, 3) := by decide +kernel
theorem dX3_keep_29 : decode cX3_keep 29 = .ok (.return_, 1) := by decide +kernel
theorem dX4_findFrom_0 : decode cX4_findFrom 0 = .ok (.aload_n 0, 1) := by decide +kernel
theorem dX4_findFrom_1 : decode cX4_findFrom 1 = .ok (.aload_n 1, 1) := by decide +kernel
theorem dX4_findFrom_2 : decode cX4_findFrom 2 = .ok (.invokevirtual 34, 3) := by decide +kernel
theorem dX4_findFrom_5 : decode cX4_findFrom 5 = .ok (.invokestatic 38, 3) := by decide +kernel
theorem dX4_findFrom_8 : decode cX4_findFrom 8 = .ok (.putfield 24, 3) := by decide +kernel
theorem dX4_findFrom_11 : decode cX4_findFrom 11 = .ok (.aload_n 0, 1) := by decide +kernel
theorem dX4_findFrom_12 : decode cX4_findFrom 12 = .ok (.sipush 1000, 3) := by decide +kernel
theorem dX4_findFrom_15 : decode cX4_findFrom 15 = .ok (.putfield 28, 3) := by decide +kernel
theorem dX4_findFrom_18 : decode cX4_findFrom 18 = .ok (.aload_n 0, 1) := by decide +kernel
theorem dX4_findFrom_19 : decode cX4_findFrom 19 = .ok (.getfield 11, 3) := by decide +kernel
theorem dX4_findFrom_22 : decode cX4_findFrom 22 = .ok (.iconst 0, 1) := by decide +kernel
theorem dX4_findFrom_23 : decode cX4_findFrom 23 = .ok (.aaload, 1) := by decide +kernel
theorem dX4_findFrom_24 : decode cX4_findFrom 24 = .ok (.aload_n 1, 1) := by decide +kernel
theorem dX4_findFrom_25 : decode cX4_findFrom 25 = .ok (.invokevirtual 44, 3) := by decide +kernel
theorem dX4_findFrom_28 : decode cX4_findFrom 28 = .ok (.aload_n 0, 1) := by decide +kernel
theorem dX4_findFrom_29 : decode cX4_findFrom 29 = .ok (.iconst 0, 1) := by decide +kernel
theorem dX4_findFrom_30 : decode cX4_findFrom 30 = .ok (.aload_n 1, 1) := by decide +kernel
theorem dX4_findFrom_31 : decode cX4_findFrom 31 = .ok (.invokevirtual 34, 3) := by decide +kernel
theorem dX4_findFrom_34 : decode cX4_findFrom 34 = .ok (.iconst 0, 1) := by decide +kernel
theorem dX4_findFrom_35 : decode cX4_findFrom 35 = .ok (.invokevirtual 48, 3) := by decide +kernel
theorem dX4_findFrom_38 : decode cX4_findFrom 38 = .ok (.aload_n 0, 1) := by decide +kernel
theorem dX4_findFrom_39 : decode cX4_findFrom 39 = .ok (.getfield 28, 3) := by decide +kernel
theorem dX4_findFrom_42 : decode cX4_findFrom 42 = .ok (.ireturn, 1) := by decide +kernel
theorem dX4_goOn_0 : decode cX4_goOn 0 = .ok (.iload_n 2, 1) := by decide +kernel
theorem dX4_goOn_1 : decode cX4_goOn 1 = .ok (.ifCond .eq 9, 3) := by decide +kernel
theorem dX4_goOn_10 : decode cX4_goOn 10 = .ok (.aload_n 0, 1) := by decide +kernel
theorem dX4_goOn_11 : decode cX4_goOn 11 = .ok (.iload_n 3, 1) := by decide +kernel
theorem dX4_goOn_12 : decode cX4_goOn 12 = .ok (.putfield 28, 3) := by decide +kernel
theorem dX4_goOn_15 : decode cX4_goOn 15 = .ok (.aload_n 0, 1) := by decide +kernel
theorem dX4_goOn_16 : decode cX4_goOn 16 = .ok (.getfield 17, 3) := by decide +kernel
theorem dX4_goOn_19 : decode cX4_goOn 19 = .ok (.iconst 0, 1) := by decide +kernel
theorem dX4_goOn_20 : decode cX4_goOn 20 = .ok (.aload_n 0, 1) := by decide +kernel
theorem dX4_goOn_21 : decode cX4_goOn 21 = .ok (.getfield 21, 3) := by decide +kernel
theorem dX4_goOn_24 : decode cX4_goOn 24 = .ok (.iconst 0, 1) := by decide +kernel
theorem dX4_goOn_25 : decode cX4_goOn 25 = .ok (.bipush 7, 2) := by decide +kernel
theorem dX4_goOn_27 : decode cX4_goOn 27 = .ok (.invokestatic 52, 3) := by decide +kernel
theorem dX4_goOn_30 : decode cX4_goOn 30 = .ok (.return_, 1) := by decide +kernel
theorem dX5_forget_0 : decode cX5_forget 0 = .ok (.aload_n 0, 1) := by decide +kernel
theorem dX5_forget_1 : decode cX5_forget 1 = .ok (.iconst 0, 1) := by decide +kernel
theorem dX5_forget_2 : decode cX5_forget 2 = .ok (.putfield 17, 3) := by decide +kernel
theorem dX5_forget_5 : decode cX5_forget 5 = .ok (.return_, 1) := by decide +kernel
theorem dX5_keepNoted_0 : decode cX5_keepNoted 0 = .ok (.aload_n 0, 1) := by decide +kernel
theorem dX5_keepNoted_1 : decode cX5_keepNoted 1 = .ok (.aload_n 0, 1) := by decide +kernel
theorem dX5_keepNoted_2 : decode cX5_keepNoted 2 = .ok (.getfield 21, 3) := by decide +kernel
theorem dX5_keepNoted_5 : decode cX5_keepNoted 5 = .ok (.iconst 1, 1) := by decide +kernel
theorem dX5_keepNoted_6 : decode cX5_keepNoted 6 = .ok (.iadd, 1) := by decide +kernel
theorem dX5_keepNoted_7 : decode cX5_keepNoted 7 = .ok (.bipush 9, 2) := by decide +kernel
theorem dX5_keepNoted_9 : decode cX5_keepNoted 9 = .ok (.if_icmp .ge 12, 3) := by decide +kernel
theorem dX5_keepNoted_12 : decode cX5_keepNoted 12 = .ok (.aload_n 0, 1) := by decide +kernel
theorem dX5_keepNoted_13 : decode cX5_keepNoted 13 = .ok (.getfield 21, 3) := by decide +kernel
theorem dX5_keepNoted_16 : decode cX5_keepNoted 16 = .ok (.iconst 1, 1) := by decide +kernel
theorem dX5_keepNoted_17 : decode cX5_keepNoted 17 = .ok (.iadd, 1) := by decide +kernel
theorem dX5_keepNoted_18 : decode cX5_keepNoted 18 = .ok (.goto 4, 3) := by decide +kernel
theorem dX5_keepNoted_22 : decode cX5_keepNoted 22 = .ok (.putfield 21, 3) := by decide +kernel
theorem dX5_keepNoted_25 : decode cX5_keepNoted 25 = .ok (.aload_n 0, 1) := by decide +kernel
theorem dX5_keepNoted_26 : decode cX5_keepNoted 26 = .ok (.aload_n 0, 1) := by decide +kernel
theorem dX5_keepNoted_27 : decode cX5_keepNoted 27 = .ok (.getfield 17, 3) := by decide +kernel
theorem dX5_keepNoted_30 : decode cX5_keepNoted 30 = .ok (.iconst 1, 1) := by decide +kernel
theorem dX5_keepNoted_31 : decode cX5_keepNoted 31 = .ok (.iadd, 1) := by decide +kernel
theorem dX5_keepNoted_32 : decode cX5_keepNoted 32 = .ok (.bipush 8, 2) := by decide +kernel
theorem dX5_keepNoted_34 : decode cX5_keepNoted 34 = .ok (.invokestatic 31, 3) := by decide +kernel
theorem dX5_keepNoted_37 : decode cX5_keepNoted 37 = .ok (.putfield 17, 3) := by decide +kernel
theorem dX5_keepNoted_40 : decode cX5_keepNoted 40 = .ok (.return_, 1) := by decide +kernel
theorem dX5_note_0 : decode cX5_note 0 = .ok (.aload_n 0, 1) := by decide +kernel
theorem dX5_note_1 : decode cX5_note 1 = .ok (.getfield 13, 3) := by decide +kernel
theorem dX5_note_4 : decode cX5_note 4 = .ok (.aload_n 0, 1) := by decide +kernel
theorem dX5_note_5 : decode cX5_note 5 = .ok (.getfield 21, 3) := by decide +kernel
theorem dX5_note_8 : decode cX5_note 8 = .ok (.aaload, 1) := by decide +kernel
theorem dX5_note_9 : decode cX5_note 9 = .ok (.aload_n 1, 1) := by decide +kernel
theorem dX5_note_10 : decode cX5_note 10 = .ok (.invokevirtual 27, 3) := by decide +kernel
theorem dX5_note_13 : decode cX5_note 13 = .ok (.return_, 1) := by decide +kernel
theorem dX5_takeBack_0 : decode cX5_takeBack 0 = .ok (.aload_n 0, 1) := by decide +kernel
theorem dX5_takeBack_1 : decode cX5_takeBack 1 = .ok (.getfield 17, 3) := by decide +kernel
theorem dX5_takeBack_4 : decode cX5_takeBack 4 = .ok (.ifCond .ne 5, 3) := by decide +kernel
theorem dX5_takeBack_7 : decode cX5_takeBack 7 = .ok (.iconst (-1), 1) := by decide +kernel
theorem dX5_takeBack_8 : decode cX5_takeBack 8 = .ok (.ireturn, 1) := by decide +kernel
theorem dX6_parentsAmong_0 : decode cX6_parentsAmong 0 = .ok (.iconst 0, 1) := by decide +kernel
theorem dX6_parentsAmong_1 : decode cX6_parentsAmong 1 = .ok (.istore_n 3, 1) := by decide +kernel
theorem dX6_parentsAmong_2 : decode cX6_parentsAmong 2 = .ok (.iconst 0, 1) := by decide +kernel
theorem dX6_parentsAmong_3 : decode cX6_parentsAmong 3 = .ok (.istore 4, 2) := by decide +kernel
theorem dX6_parentsAmong_5 : decode cX6_parentsAmong 5 = .ok (.iload 4, 2) := by decide +kernel
theorem dX6_parentsAmong_7 : decode cX6_parentsAmong 7 = .ok (.aload_n 0, 1) := by decide +kernel
theorem dX6_parentsAmong_8 : decode cX6_parentsAmong 8 = .ok (.getfield 33, 3) := by decide +kernel
theorem dX6_parentsAmong_11 : decode cX6_parentsAmong 11 = .ok (.if_icmp .ge 32, 3) := by decide +kernel
theorem dX6_parentsAmong_43 : decode cX6_parentsAmong 43 = .ok (.iload_n 3, 1) := by decide +kernel
theorem dX6_parentsAmong_44 : decode cX6_parentsAmong 44 = .ok (.ireturn, 1) := by decide +kernel
theorem dX6_seat_0 : decode cX6_seat 0 = .ok (.aload_n 1, 1) := by decide +kernel
theorem dX6_seat_1 : decode cX6_seat 1 = .ok (.getfield 19, 3) := by decide +kernel
theorem dX6_seat_4 : decode cX6_seat 4 = .ok (.astore_n 2, 1) := by decide +kernel
theorem dX6_seat_5 : decode cX6_seat 5 = .ok (.aload_n 1, 1) := by decide +kernel
theorem dX6_seat_6 : decode cX6_seat 6 = .ok (.invokevirtual 25, 3) := by decide +kernel
theorem dX6_seat_9 : decode cX6_seat 9 = .ok (.istore_n 3, 1) := by decide +kernel
theorem dX6_seat_10 : decode cX6_seat 10 = .ok (.aload_n 2, 1) := by decide +kernel
theorem dX6_seat_11 : decode cX6_seat 11 = .ok (.iload_n 3, 1) := by decide +kernel
theorem dX6_seat_12 : decode cX6_seat 12 = .ok (.iload_n 3, 1) := by decide +kernel
theorem dX6_seat_13 : decode cX6_seat 13 = .ok (.invokestatic 29, 3) := by decide +kernel
theorem dX6_seat_16 : decode cX6_seat 16 = .ok (.istore 4, 2) := by decide +kernel
theorem dX6_seat_18 : decode cX6_seat 18 = .ok (.iconst 0, 1) := by decide +kernel
theorem dX6_seat_19 : decode cX6_seat 19 = .ok (.istore 5, 2) := by decide +kernel
theorem dX6_seat_21 : decode cX6_seat 21 = .ok (.iconst (-1), 1) := by decide +kernel
theorem dX6_seat_22 : decode cX6_seat 22 = .ok (.istore 6, 2) := by decide +kernel
theorem dX6_seat_24 : decode cX6_seat 24 = .ok (.aload_n 0, 1) := by decide +kernel
theorem dX6_seat_25 : decode cX6_seat 25 = .ok (.iconst 0, 1) := by decide +kernel
theorem dX6_seat_26 : decode cX6_seat 26 = .ok (.putfield 15, 3) := by decide +kernel
theorem dX6_seat_29 : decode cX6_seat 29 = .ok (.iconst 0, 1) := by decide +kernel
theorem dX6_seat_30 : decode cX6_seat 30 = .ok (.istore 7, 2) := by decide +kernel
theorem dX6_seat_32 : decode cX6_seat 32 = .ok (.iload 7, 2) := by decide +kernel
theorem dX6_seat_34 : decode cX6_seat 34 = .ok (.aload_n 2, 1) := by decide +kernel
theorem dX6_seat_35 : decode cX6_seat 35 = .ok (.getfield 33, 3) := by decide +kernel
theorem dX6_seat_38 : decode cX6_seat 38 = .ok (.if_icmp .ge 92, 3) := by decide +kernel
theorem dX6_seat_130 : decode cX6_seat 130 = .ok (.iload 5, 2) := by decide +kernel
theorem dX6_seat_132 : decode cX6_seat 132 = .ok (.ireturn, 1) := by decide +kernel
theorem dX7_become_0 : decode cX7_become 0 = .ok (.aload_n 1, 1) := by decide +kernel
theorem dX7_become_1 : decode cX7_become 1 = .ok (.getfield 11, 3) := by decide +kernel
theorem dX7_become_4 : decode cX7_become 4 = .ok (.iconst 0, 1) := by decide +kernel
theorem dX7_become_5 : decode cX7_become 5 = .ok (.aload_n 0, 1) := by decide +kernel
theorem dX7_become_6 : decode cX7_become 6 = .ok (.getfield 11, 3) := by decide +kernel
theorem dX7_become_9 : decode cX7_become 9 = .ok (.iconst 0, 1) := by decide +kernel
theorem dX7_become_10 : decode cX7_become 10 = .ok (.bipush 40, 2) := by decide +kernel
theorem dX7_become_12 : decode cX7_become 12 = .ok (.invokestatic 31, 3) := by decide +kernel
theorem dX7_become_15 : decode cX7_become 15 = .ok (.aload_n 1, 1) := by decide +kernel
theorem dX7_become_16 : decode cX7_become 16 = .ok (.getfield 15, 3) := by decide +kernel
theorem dX7_become_19 : decode cX7_become 19 = .ok (.iconst 0, 1) := by decide +kernel
theorem dX7_become_20 : decode cX7_become 20 = .ok (.aload_n 0, 1) := by decide +kernel
theorem dX7_become_21 : decode cX7_become 21 = .ok (.getfield 15, 3) := by decide +kernel
theorem dX7_become_24 : decode cX7_become 24 = .ok (.iconst 0, 1) := by decide +kernel
theorem dX7_become_25 : decode cX7_become 25 = .ok (.bipush 40, 2) := by decide +kernel
theorem dX7_become_27 : decode cX7_become 27 = .ok (.invokestatic 31, 3) := by decide +kernel
theorem dX7_become_30 : decode cX7_become 30 = .ok (.aload_n 1, 1) := by decide +kernel
theorem dX7_become_31 : decode cX7_become 31 = .ok (.getfield 18, 3) := by decide +kernel
theorem dX7_become_34 : decode cX7_become 34 = .ok (.iconst 0, 1) := by decide +kernel
theorem dX7_become_35 : decode cX7_become 35 = .ok (.aload_n 0, 1) := by decide +kernel
theorem dX7_become_36 : decode cX7_become 36 = .ok (.getfield 18, 3) := by decide +kernel
theorem dX7_become_39 : decode cX7_become 39 = .ok (.iconst 0, 1) := by decide +kernel
theorem dX7_become_40 : decode cX7_become 40 = .ok (.bipush 40, 2) := by decide +kernel
theorem dX7_become_42 : decode cX7_become 42 = .ok (.invokestatic 31, 3) := by decide +kernel
theorem dX7_become_45 : decode cX7_become 45 = .ok (.aload_n 0, 1) := by decide +kernel
theorem dX7_become_46 : decode cX7_become 46 = .ok (.aload_n 1, 1) := by decide +kernel
theorem dX7_become_47 : decode cX7_become 47 = .ok (.getfield 24, 3) := by decide +kernel
theorem dX7_become_50 : decode cX7_become 50 = .ok (.putfield 24, 3) := by decide +kernel
theorem dX7_become_53 : decode cX7_become 53 = .ok (.aload_n 0, 1) := by decide +kernel
theorem dX7_become_54 : decode cX7_become 54 = .ok (.aload_n 1, 1) := by decide +kernel
theorem dX7_become_55 : decode cX7_become 55 = .ok (.getfield 28, 3) := by decide +kernel
theorem dX7_become_58 : decode cX7_become 58 = .ok (.putfield 28, 3) := by decide +kernel
theorem dX7_become_61 : decode cX7_become 61 = .ok (.return_, 1) := by decide +kernel
theorem dX7_beginsOne_0 : decode cX7_beginsOne 0 = .ok (.iload_n 0, 1) := by decide +kernel
theorem dX7_beginsOne_1 : decode cX7_beginsOne 1 = .ok (.bipush 40, 2) := by decide +kernel
theorem dX7_beginsOne_3 : decode cX7_beginsOne 3 = .ok (.if_icmp .eq 20, 3) := by decide +kernel
theorem dX7_beginsOne_6 : decode cX7_beginsOne 6 = .ok (.iload_n 0, 1) := by decide +kernel
theorem dX7_beginsOne_7 : decode cX7_beginsOne 7 = .ok (.iconst 5, 1) := by decide +kernel
theorem dX7_beginsOne_8 : decode cX7_beginsOne 8 = .ok (.if_icmp .eq 15, 3) := by decide +kernel
theorem dX7_beginsOne_11 : decode cX7_beginsOne 11 = .ok (.iload_n 0, 1) := by decide +kernel
theorem dX7_beginsOne_12 : decode cX7_beginsOne 12 = .ok (.bipush 19, 2) := by decide +kernel
theorem dX7_beginsOne_14 : decode cX7_beginsOne 14 = .ok (.if_icmp .lt 13, 3) := by decide +kernel
theorem dX7_beginsOne_17 : decode cX7_beginsOne 17 = .ok (.iload_n 0, 1) := by decide +kernel
theorem dX7_beginsOne_18 : decode cX7_beginsOne 18 = .ok (.bipush 27, 2) := by decide +kernel
theorem dX7_beginsOne_20 : decode cX7_beginsOne 20 = .ok (.if_icmp .gt 7, 3) := by decide +kernel
theorem dX7_beginsOne_27 : decode cX7_beginsOne 27 = .ok (.iconst 0, 1) := by decide +kernel
theorem dX7_beginsOne_28 : decode cX7_beginsOne 28 = .ok (.ireturn, 1) := by decide +kernel
theorem dX7_forget_0 : decode cX7_forget 0 = .ok (.aload_n 0, 1) := by decide +kernel
theorem dX7_forget_1 : decode cX7_forget 1 = .ok (.iconst 0, 1) := by decide +kernel
theorem dX7_forget_2 : decode cX7_forget 2 = .ok (.putfield 24, 3) := by decide +kernel
theorem dX7_forget_5 : decode cX7_forget 5 = .ok (.aload_n 0, 1) := by decide +kernel
theorem dX7_forget_6 : decode cX7_forget 6 = .ok (.iconst 0, 1) := by decide +kernel
theorem dX7_forget_7 : decode cX7_forget 7 = .ok (.putfield 28, 3) := by decide +kernel
theorem dX7_forget_10 : decode cX7_forget 10 = .ok (.return_, 1) := by decide +kernel
theorem dX7_readAll_0 : decode cX7_readAll 0 = .ok (.aload_n 0, 1) := by decide +kernel
theorem dX7_readAll_1 : decode cX7_readAll 1 = .ok (.aload_n 1, 1) := by decide +kernel
theorem dX7_readAll_2 : decode cX7_readAll 2 = .ok (.aload_n 2, 1) := by decide +kernel
theorem dX7_readAll_3 : decode cX7_readAll 3 = .ok (.iload_n 3, 1) := by decide +kernel
theorem dX7_readAll_4 : decode cX7_readAll 4 = .ok (.invokevirtual 67, 3) := by decide +kernel
theorem dX7_readAll_7 : decode cX7_readAll 7 = .ok (.istore 4, 2) := by decide +kernel
theorem dX7_readAll_9 : decode cX7_readAll 9 = .ok (.iconst 0, 1) := by decide +kernel
theorem dX7_readAll_10 : decode cX7_readAll 10 = .ok (.istore 5, 2) := by decide +kernel
theorem dX7_readAll_12 : decode cX7_readAll 12 = .ok (.iload 5, 2) := by decide +kernel
theorem dX7_readAll_14 : decode cX7_readAll 14 = .ok (.bipush 20, 2) := by decide +kernel
theorem dX7_readAll_16 : decode cX7_readAll 16 = .ok (.if_icmp .ge 55, 3) := by decide +kernel
theorem dX7_readAll_19 : decode cX7_readAll 19 = .ok (.iload 4, 2) := by decide +kernel
theorem dX7_readAll_21 : decode cX7_readAll 21 = .ok (.ifCond .eq 50, 3) := by decide +kernel
theorem dX7_readAll_71 : decode cX7_readAll 71 = .ok (.iload 4, 2) := by decide +kernel
theorem dX7_readAll_73 : decode cX7_readAll 73 = .ok (.ireturn, 1) := by decide +kernel
theorem dX7_readCond_0 : decode cX7_readCond 0 = .ok (.aload_n 0, 1) := by decide +kernel
theorem dX7_readCond_1 : decode cX7_readCond 1 = .ok (.aload_n 1, 1) := by decide +kernel
theorem dX7_readCond_2 : decode cX7_readCond 2 = .ok (.aload_n 2, 1) := by decide +kernel
theorem dX7_readCond_3 : decode cX7_readCond 3 = .ok (.iload_n 3, 1) := by decide +kernel
theorem dX7_readCond_4 : decode cX7_readCond 4 = .ok (.invokevirtual 54, 3) := by decide +kernel
theorem dX7_readCond_7 : decode cX7_readCond 7 = .ok (.istore 4, 2) := by decide +kernel
theorem dX7_readCond_9 : decode cX7_readCond 9 = .ok (.iconst 0, 1) := by decide +kernel
theorem dX7_readCond_10 : decode cX7_readCond 10 = .ok (.istore 5, 2) := by decide +kernel
theorem dX7_readCond_12 : decode cX7_readCond 12 = .ok (.iload 5, 2) := by decide +kernel
theorem dX7_readCond_14 : decode cX7_readCond 14 = .ok (.bipush 20, 2) := by decide +kernel
theorem dX7_readCond_16 : decode cX7_readCond 16 = .ok (.if_icmp .ge 55, 3) := by decide +kernel
theorem dX7_readCond_19 : decode cX7_readCond 19 = .ok (.iload 4, 2) := by decide +kernel
theorem dX7_readCond_21 : decode cX7_readCond 21 = .ok (.ifCond .eq 50, 3) := by decide +kernel
theorem dX7_readCond_71 : decode cX7_readCond 71 = .ok (.iload 4, 2) := by decide +kernel
theorem dX7_readCond_73 : decode cX7_readCond 73 = .ok (.ireturn, 1) := by decide +kernel
theorem dX7_readFrom_0 : decode cX7_readFrom 0 = .ok (.aload_n 0, 1) := by decide +kernel
theorem dX7_readFrom_1 : decode cX7_readFrom 1 = .ok (.invokevirtual 37, 3) := by decide +kernel
theorem dX7_readFrom_4 : decode cX7_readFrom 4 = .ok (.aload_n 1, 1) := by decide +kernel
theorem dX7_readFrom_5 : decode cX7_readFrom 5 = .ok (.sipush 200, 3) := by decide +kernel
theorem dX7_readFrom_8 : decode cX7_readFrom 8 = .ok (.invokevirtual 40, 3) := by decide +kernel
theorem dX7_readFrom_11 : decode cX7_readFrom 11 = .ok (.aload_n 0, 1) := by decide +kernel
theorem dX7_readFrom_12 : decode cX7_readFrom 12 = .ok (.aload_n 1, 1) := by decide +kernel
theorem dX7_readFrom_13 : decode cX7_readFrom 13 = .ok (.aload_n 2, 1) := by decide +kernel
theorem dX7_readFrom_14 : decode cX7_readFrom 14 = .ok (.iconst 1, 1) := by decide +kernel
theorem dX7_readFrom_15 : decode cX7_readFrom 15 = .ok (.invokevirtual 46, 3) := by decide +kernel
theorem dX7_readFrom_18 : decode cX7_readFrom 18 = .ok (.ifCond .eq 16, 3) := by decide +kernel
theorem dX7_readFrom_34 : decode cX7_readFrom 34 = .ok (.iconst 0, 1) := by decide +kernel
theorem dX7_readFrom_35 : decode cX7_readFrom 35 = .ok (.ireturn, 1) := by decide +kernel
theorem dX7_readOne_0 : decode cX7_readOne 0 = .ok (.aload_n 1, 1) := by decide +kernel
theorem dX7_readOne_1 : decode cX7_readOne 1 = .ok (.getfield 57, 3) := by decide +kernel
theorem dX7_readOne_4 : decode cX7_readOne 4 = .ok (.istore 4, 2) := by decide +kernel
theorem dX7_readOne_6 : decode cX7_readOne 6 = .ok (.iload 4, 2) := by decide +kernel
theorem dX7_readOne_8 : decode cX7_readOne 8 = .ok (.invokestatic 70, 3) := by decide +kernel
theorem dX7_readOne_11 : decode cX7_readOne 11 = .ok (.ifCond .ne 9, 3) := by decide +kernel
theorem dX7_readOne_14 : decode cX7_readOne 14 = .ok (.aload_n 1, 1) := by decide +kernel
theorem dX7_readOne_15 : decode cX7_readOne 15 = .ok (.iconst 1, 1) := by decide +kernel
theorem dX7_readOne_16 : decode cX7_readOne 16 = .ok (.invokevirtual 73, 3) := by decide +kernel
theorem dX7_readOne_19 : decode cX7_readOne 19 = .ok (.ireturn, 1) := by decide +kernel
theorem dX9_readFrom_0 : decode cX9_readFrom 0 = .ok (.aload_n 0, 1) := by decide +kernel
theorem dX9_readFrom_1 : decode cX9_readFrom 1 = .ok (.getfield 12, 3) := by decide +kernel
theorem dX9_readFrom_4 : decode cX9_readFrom 4 = .ok (.invokevirtual 34, 3) := by decide +kernel
theorem dX9_readFrom_7 : decode cX9_readFrom 7 = .ok (.aload_n 0, 1) := by decide +kernel
theorem dX9_readFrom_8 : decode cX9_readFrom 8 = .ok (.getfield 23, 3) := by decide +kernel
theorem dX9_readFrom_11 : decode cX9_readFrom 11 = .ok (.invokevirtual 37, 3) := by decide +kernel
theorem dX9_readFrom_14 : decode cX9_readFrom 14 = .ok (.aload_n 0, 1) := by decide +kernel
theorem dX9_readFrom_15 : decode cX9_readFrom 15 = .ok (.iconst 0, 1) := by decide +kernel
theorem dX9_readFrom_16 : decode cX9_readFrom 16 = .ok (.putfield 27, 3) := by decide +kernel
theorem dX9_readFrom_19 : decode cX9_readFrom 19 = .ok (.aload_n 0, 1) := by decide +kernel
theorem dX9_readFrom_20 : decode cX9_readFrom 20 = .ok (.iconst 0, 1) := by decide +kernel
theorem dX9_readFrom_21 : decode cX9_readFrom 21 = .ok (.putfield 31, 3) := by decide +kernel
theorem dX9_readFrom_24 : decode cX9_readFrom 24 = .ok (.aload_n 1, 1) := by decide +kernel
theorem dX9_readFrom_25 : decode cX9_readFrom 25 = .ok (.sipush 900, 3) := by decide +kernel
theorem dX9_readFrom_28 : decode cX9_readFrom 28 = .ok (.invokevirtual 38, 3) := by decide +kernel
theorem dX9_readFrom_31 : decode cX9_readFrom 31 = .ok (.iconst 0, 1) := by decide +kernel
theorem dX9_readFrom_32 : decode cX9_readFrom 32 = .ok (.istore_n 2, 1) := by decide +kernel
theorem dX9_readFrom_33 : decode cX9_readFrom 33 = .ok (.iload_n 2, 1) := by decide +kernel
theorem dX9_readFrom_34 : decode cX9_readFrom 34 = .ok (.sipush 900, 3) := by decide +kernel
theorem dX9_readFrom_37 : decode cX9_readFrom 37 = .ok (.if_icmp .ge 26, 3) := by decide +kernel
theorem dX9_readFrom_40 : decode cX9_readFrom 40 = .ok (.aload_n 1, 1) := by decide +kernel
theorem dX9_readFrom_41 : decode cX9_readFrom 41 = .ok (.getfield 44, 3) := by decide +kernel
theorem dX9_readFrom_44 : decode cX9_readFrom 44 = .ok (.bipush 102, 2) := by decide +kernel
theorem dX9_readFrom_46 : decode cX9_readFrom 46 = .ok (.if_icmp .eq 17, 3) := by decide +kernel
theorem dX9_readFrom_63 : decode cX9_readFrom 63 = .ok (.iload_n 2, 1) := by decide +kernel
theorem dX9_readFrom_64 : decode cX9_readFrom 64 = .ok (.ireturn, 1) := by decide +kernel
set_option maxRecDepth 100000 in
set_option maxHeartbeats 4000000 in
theorem c_Course_living0 {l : Launch} {D : va_G} {cy : Nat → ClassId} {L : List Nat} {κ ln : Nat → Nat} {R : Nat → Nat → Option Nat} {I : Nat → Nat → Int32} {J : Nat → Nat → Int64} {ow : Nat → Nat × Nat} (W9 : ∀ a ∈ L, Shp L κ ln R ow a) {a : Nat} (hLa : a ∈ L) (hka : κ a = 1) (Z1 : Zk L κ 1 I) (Z8 : Zk L κ 8 I) : CtI l yX1_living cX1_living 1 (some .int) { frames := 1, cells := 0, slots := 0, locals := 100 } D cy L κ ln R I J [.ref a] (fun r I2 J2 => I = I2 ∧ J = J2 ∧ r = 0) := by
  refine CtI.of (by decide +kernel) (Nat.le_of_ble_eq_true rfl) ?_
  intro p e s m below meth c B K
  have C := B.1
  refine g_lo (is := [0]) (lo2 := [(0, .ref a)]) rfl ?_
  refine g_aload_n C 0 dX1_living_0 rfl rfl ?_
  obtain ⟨b_210, hb_210, hb_210L, hb_210k⟩ := shp_o (W9 a hLa) hka 0 8 rfl (by decide)
  refine g_getR C K hLa hka f_1_52 hb_210 dX1_living_1 ?_
  refine g_callVI C K (c_Table_everybody0 hb_210L hb_210k (Z8 b_210 hb_210L hb_210k 5)) hb_210L hb_210k (by decide) rfl v_1_62 rfl ⟨rfl, rfl⟩ ⟨Nat.le_of_ble_eq_true rfl, Nat.le_of_ble_eq_true rfl⟩ (Nat.le_of_ble_eq_true rfl) ⟨Nat.le_of_ble_eq_true rfl, Nat.le_of_ble_eq_true rfl⟩ dX1_living_4 rfl (st := []) (fun r_214 I_211 J_212 h_213 => ?_)
  obtain ⟨rfl, rfl, er_214⟩ := h_213
  have h0r_214 := er_214
  subst er_214
  refine g_aload_n C 0 dX1_living_7 rfl rfl ?_
  refine g_getI C K hLa hka f_1_30 (v := 0) (Z1 a hLa hka 7) dX1_living_8 ?_
  refine g_iconst C (v := (-1)) dX1_living_11 (by decide) ?_
  refine g_ixor C (v := (-1)) dX1_living_12 (by decide) ?_
  refine g_iand C (v := 0) dX1_living_13 (by decide) ?_
  exact g_zret (ty := .int) (r := 0) B K rfl rfl (⟨rfl, rfl, rfl⟩) dX1_living_14
set_option maxRecDepth 100000 in
set_option maxHeartbeats 4000000 in
theorem c_Course_allEaten0 {l : Launch} {D : va_G} {cy : Nat → ClassId} {L : List Nat} {κ ln : Nat → Nat} {R : Nat → Nat → Option Nat} {I : Nat → Nat → Int32} {J : Nat → Nat → Int64} {ow : Nat → Nat × Nat} (W9 : ∀ a ∈ L, Shp L κ ln R ow a) {a : Nat} (hLa : a ∈ L) (hka : κ a = 1) (Z8 : Zk L κ 8 I) : CtI l yX1_allEaten cX1_allEaten 3 (some .int) { frames := 0, cells := 0, slots := 0, locals := 0 } D cy L κ ln R I J [.ref a] (fun r I2 J2 => I = I2 ∧ J = J2 ∧ r = 0) := by
  refine CtI.of (by decide +kernel) (Nat.le_of_ble_eq_true rfl) ?_
  intro p e s m below meth c B K
  have C := B.1
  refine g_lo (is := [0]) (lo2 := [(0, .ref a)]) rfl ?_
  refine g_iconst C (v := 0) dX1_allEaten_0 (by decide) ?_
  refine g_istore_n C dX1_allEaten_1 rfl (by decide) (lo2 := [(1, .int 0), (0, .ref a)]) rfl ?_
  refine g_iconst C (v := 0) dX1_allEaten_2 (by decide) ?_
  refine g_istore_n C dX1_allEaten_3 rfl (by decide) (lo2 := [(2, .int 0), (1, .int 0), (0, .ref a)]) rfl ?_
  refine g_iload_n C 0 dX1_allEaten_4 rfl rfl ?_
  refine g_aload_n C 2 dX1_allEaten_5 rfl rfl ?_
  obtain ⟨b_215, hb_215, hb_215L, hb_215k⟩ := shp_o (W9 a hLa) hka 0 8 rfl (by decide)
  refine g_getR C K hLa hka f_1_52 hb_215 dX1_allEaten_6 ?_
  refine g_getI C K hb_215L hb_215k f_1_68 (v := 0) (Z8 b_215 hb_215L hb_215k 5) dX1_allEaten_9 ?_
  refine t_icmp_ge C (tgt := 30) (by decide) dX1_allEaten_12 (by decide) ?_
  refine g_iload_n C 1 dX1_allEaten_30 rfl rfl ?_
  exact g_zret (ty := .int) (r := 0) B K rfl rfl (⟨rfl, rfl, rfl⟩) dX1_allEaten_31
set_option maxRecDepth 100000 in
set_option maxHeartbeats 4000000 in
theorem c_Course_allHunger0 {l : Launch} {D : va_G} {cy : Nat → ClassId} {L : List Nat} {κ ln : Nat → Nat} {R : Nat → Nat → Option Nat} {I : Nat → Nat → Int32} {J : Nat → Nat → Int64} {ow : Nat → Nat × Nat} (W9 : ∀ a ∈ L, Shp L κ ln R ow a) {a : Nat} (hLa : a ∈ L) (hka : κ a = 1) (Z8 : Zk L κ 8 I) : CtI l yX1_allHunger cX1_allHunger 3 (some .int) { frames := 0, cells := 0, slots := 0, locals := 0 } D cy L κ ln R I J [.ref a] (fun r I2 J2 => I = I2 ∧ J = J2 ∧ r = 0) := by
  refine CtI.of (by decide +kernel) (Nat.le_of_ble_eq_true rfl) ?_
  intro p e s m below meth c B K
  have C := B.1
  refine g_lo (is := [0]) (lo2 := [(0, .ref a)]) rfl ?_
  refine g_iconst C (v := 0) dX1_allHunger_0 (by decide) ?_
  refine g_istore_n C dX1_allHunger_1 rfl (by decide) (lo2 := [(1, .int 0), (0, .ref a)]) rfl ?_
  refine g_iconst C (v := 0) dX1_allHunger_2 (by decide) ?_
  refine g_istore_n C dX1_allHunger_3 rfl (by decide) (lo2 := [(2, .int 0), (1, .int 0), (0, .ref a)]) rfl ?_
  refine g_iload_n C 0 dX1_allHunger_4 rfl rfl ?_
  refine g_aload_n C 2 dX1_allHunger_5 rfl rfl ?_
  obtain ⟨b_216, hb_216, hb_216L, hb_216k⟩ := shp_o (W9 a hLa) hka 0 8 rfl (by decide)
  refine g_getR C K hLa hka f_1_52 hb_216 dX1_allHunger_6 ?_
  refine g_getI C K hb_216L hb_216k f_1_68 (v := 0) (Z8 b_216 hb_216L hb_216k 5) dX1_allHunger_9 ?_
  refine t_icmp_ge C (tgt := 30) (by decide) dX1_allHunger_12 (by decide) ?_
  refine g_iload_n C 1 dX1_allHunger_30 rfl rfl ?_
  exact g_zret (ty := .int) (r := 0) B K rfl rfl (⟨rfl, rfl, rfl⟩) dX1_allHunger_31
set_option maxRecDepth 100000 in
set_option maxHeartbeats 4000000 in
theorem c_Course_endMeal0 {l : Launch} {D : va_G} {cy : Nat → ClassId} {L : List Nat} {κ ln : Nat → Nat} {R : Nat → Nat → Option Nat} {I : Nat → Nat → Int32} {J : Nat → Nat → Int64} {ow : Nat → Nat × Nat} (W9 : ∀ a ∈ L, Shp L κ ln R ow a) {a : Nat} (hLa : a ∈ L) (hka : κ a = 1) (Z8 : Zk L κ 8 I) (n : Nat) (h9 : I a 9 = nI n) : CtV l yX1_endMeal cX1_endMeal 4 none { frames := 0, cells := 0, slots := 0, locals := 0 } D cy L κ ln R I J [.ref a] (fun I2 J2 => J = J2 ∧ Fk κ [1] I I2 ∧ I2 a 9 = nI (n + 1)) := by
  refine CtV.of (by decide +kernel) (Nat.le_of_ble_eq_true rfl) ?_
  intro p e s m below meth c B K
  have C := B.1
  refine g_lo (is := [0]) (lo2 := [(0, .ref a)]) rfl ?_
  refine g_iconst C (v := 0) dX1_endMeal_0 (by decide) ?_
  refine g_istore_n C dX1_endMeal_1 rfl (by decide) (lo2 := [(1, .int 0), (0, .ref a)]) rfl ?_
  refine g_iload_n C 0 dX1_endMeal_2 rfl rfl ?_
  refine g_aload_n C 1 dX1_endMeal_3 rfl rfl ?_
  obtain ⟨b_217, hb_217, hb_217L, hb_217k⟩ := shp_o (W9 a hLa) hka 0 8 rfl (by decide)
  refine g_getR C K hLa hka f_1_52 hb_217 dX1_endMeal_4 ?_
  refine g_getI C K hb_217L hb_217k f_1_68 (v := 0) (Z8 b_217 hb_217L hb_217k 5) dX1_endMeal_7 ?_
  refine t_icmp_ge C (tgt := 104) (by decide) dX1_endMeal_10 (by decide) ?_
  refine g_aload_n C 1 dX1_endMeal_104 rfl rfl ?_
  refine g_dup C dX1_endMeal_105 rfl ?_
  refine g_getI C K hLa hka f_1_37 (v := nI n) (h9) dX1_endMeal_106 ?_
  refine g_iconst C (v := 1) dX1_endMeal_109 (by decide) ?_
  refine g_iadd C (v := nI (n + 1)) dX1_endMeal_110 (nI_add (n) 1) ?_
  refine h_putI C K hLa hka f_1_37 p_1_9 dX1_endMeal_111 (fun I_218 hI_218 => ?_)
  exact g_vret B K rfl (⟨rfl, (Fk.rf).u2 hI_218 hka (by decide), by rw [hI_218]; exact u2_s⟩) dX1_endMeal_114
set_option maxRecDepth 100000 in
set_option maxHeartbeats 4000000 in
theorem c_Course_letMealsGo0 {l : Launch} {D : va_G} {cy : Nat → ClassId} {L : List Nat} {κ ln : Nat → Nat} {R : Nat → Nat → Option Nat} {I : Nat → Nat → Int32} {J : Nat → Nat → Int64} {ow : Nat → Nat × Nat} (W9 : ∀ a ∈ L, Shp L κ ln R ow a) {a : Nat} (hLa : a ∈ L) (hka : κ a = 1) (Z8 : Zk L κ 8 I) (N : Nat) (h1 : N ≤ 60) (h9 : I a 9 = nI 0) : CtI l yX1_letMealsGo cX1_letMealsGo 3 (some .int) { frames := 1, cells := 0, slots := 0, locals := 100 } D cy L κ ln R I J [.ref a, .int (nI N)] (fun r I2 J2 => J = J2 ∧ Fk κ [1] I I2 ∧ r = nI N) := by
  refine CtI.of (by decide +kernel) (Nat.le_of_ble_eq_true rfl) ?_
  intro p e s m below meth c B K
  have C := B.1
  refine g_lo (is := [0, 1]) (lo2 := [(0, .ref a), (1, .int (nI N))]) rfl ?_
  refine g_iconst C (v := 0) dX1_letMealsGo_0 (by decide) ?_
  refine g_istore_n C dX1_letMealsGo_1 rfl (by decide) (lo2 := [(2, .int 0), (0, .ref a), (1, .int (nI N))]) rfl ?_
  have lp_225 : ∀ (n_222 i_221 : Nat) (I_219 : Nat → Nat → Int32) (J_220 : Nat → Nat → Int64), i_221 + n_222 = N → J = J_220 → Fk κ [1] I I_219 → I_219 a 9 = nI i_221 → WG p l e { frames := 1, cells := 0, slots := 0, locals := 100 } s m ([.ref a, .int (nI N)] : List Value).toArray below meth c 3 0 0 (MQ below (Qi_ D cy L κ ln R (fun r I2 J2 => J = J2 ∧ Fk κ [1] I I2 ∧ r = nI N)) ([.ref a, .int (nI N)] : List Value).toArray s 0 0 (Al_ L)) D cy (Al_ L) s.heap L κ ln R I_219 J_220 2 [(2, .int (nI i_221)), (0, .ref a), (1, .int (nI N))] [] := by
    intro n_222
    induction n_222 with
    | zero =>
      intro i_221 I_219 J_220 hi_224 e9 F_223 x_226
      subst e9
      refine g_iload_n C 0 dX1_letMealsGo_2 rfl rfl ?_
      refine g_iload_n C 2 dX1_letMealsGo_3 rfl rfl ?_
      refine t_icmp_ge C (tgt := 27) (lt_ge (n := i_221) (k := N) (by omega) (by omega)) dX1_letMealsGo_4 (by decide) ?_
      refine g_iload_n C 0 dX1_letMealsGo_27 rfl rfl ?_
      exact g_zret (ty := .int) (r := nI i_221) B K rfl rfl (⟨rfl, (Fk.rf).tr F_223 (by decide), by rw [show i_221 = N by omega]⟩) dX1_letMealsGo_28
    | succ n_222 ihn_222 =>
      intro i_221 I_219 J_220 hi_224 e9 F_223 x_226
      subst e9
      refine g_iload_n C 0 dX1_letMealsGo_2 rfl rfl ?_
      refine g_iload_n C 2 dX1_letMealsGo_3 rfl rfl ?_
      refine n_icmp_ge C (tgt := 27) (ln_ge (n := i_221) (k := N) (by omega) (by omega)) dX1_letMealsGo_4 (by decide) ?_
      refine g_aload_n C 1 dX1_letMealsGo_7 rfl rfl ?_
      refine g_getI C K hLa hka f_1_37 (v := nI i_221) (x_226) dX1_letMealsGo_8 ?_
      refine g_sipush C (v := 200) dX1_letMealsGo_11 (by decide) ?_
      refine n_icmp_ge C (tgt := 27) (ln_ge (n := i_221) (k := 200) (by omega) (by omega)) dX1_letMealsGo_14 (by decide) ?_
      refine g_aload_n C 1 dX1_letMealsGo_17 rfl rfl ?_
      refine g_callVV C K (c_Course_endMeal0 W9 hLa hka ((Z8).fk F_223 (by decide)) (i_221) (x_226)) hLa hka (by decide) rfl v_1_126 rfl ⟨rfl, rfl⟩ ⟨Nat.le_of_ble_eq_true rfl, Nat.le_of_ble_eq_true rfl⟩ (Nat.le_of_ble_eq_true rfl) ⟨Nat.le_of_ble_eq_true rfl, Nat.le_of_ble_eq_true rfl⟩ dX1_letMealsGo_18 rfl (st := []) (fun I_227 J_228 h_229 => ?_)
      obtain ⟨rfl, f_231, v_233⟩ := h_229
      refine g_iinc C dX1_letMealsGo_21 (k := 0) (v := nI (i_221 + 1)) rfl (nI_1 (i_221)) (by decide) (lo2 := [(2, .int (nI (i_221 + 1))), (0, .ref a), (1, .int (nI N))]) rfl ?_
      refine g_goto C (tgt := 2) dX1_letMealsGo_24 (by decide) ?_
      refine g_lo (is := [0, 1, 2]) (lo2 := [(2, .int (nI (i_221 + 1))), (0, .ref a), (1, .int (nI N))]) rfl ?_
      exact ihn_222 (i_221 + 1) I_227 J (by omega) rfl ((F_223).tr f_231 (by decide)) (v_233)
  exact lp_225 N 0 I J (by omega) rfl Fk.rf (h9)
set_option maxRecDepth 100000 in
set_option maxHeartbeats 4000000 in
theorem c_Past_note0 {l : Launch} {D : va_G} {cy : Nat → ClassId} {L : List Nat} {κ ln : Nat → Nat} {R : Nat → Nat → Option Nat} {I : Nat → Nat → Int32} {J : Nat → Nat → Int64} {ow : Nat → Nat × Nat} (W9 : ∀ a ∈ L, Shp L κ ln R ow a) {a : Nat} (hLa : a ∈ L) (hka : κ a = 5) {b : Nat} (hLb : b ∈ L) (hkb : κ b = 1) (Z1 : Zk L κ 1 I) (h2 : I a 2 = 0) : CtV l yX5_note cX5_note 2 none { frames := 2, cells := 0, slots := 0, locals := 130 } D cy L κ ln R I J [.ref a, .ref b] (fun I2 J2 => J = J2 ∧ Fk κ [1, 14] I I2 ∧ Zk L κ 1 I2) := by
  refine CtV.of (by decide +kernel) (Nat.le_of_ble_eq_true rfl) ?_
  intro p e s m below meth c B K
  have C := B.1
  refine g_lo (is := [0, 1]) (lo2 := [(0, .ref a), (1, .ref b)]) rfl ?_
  refine g_aload_n C 0 dX5_note_0 rfl rfl ?_
  obtain ⟨b_234, hb_234, hb_234L, hb_234k, hb_234n, hb_234o⟩ := shp_a (W9 a hLa) hka 0 17 9 rfl (by decide)
  refine g_getR C K hLa hka f_5_13 hb_234 dX5_note_1 ?_
  refine g_aload_n C 0 dX5_note_4 rfl rfl ?_
  refine g_getI C K hLa hka f_5_21 (v := 0) (h2) dX5_note_5 ?_
  obtain ⟨b_235, hb_235, hb_235L, hb_235k⟩ := (W9 b_234 hb_234L).2.1 hb_234k (0) (by rw [hb_234n]; decide)
  refine h_aaldC C K hb_234L hb_234k (0) (by decide) (by decide) (by rw [hb_234n]; decide) hb_235 dX5_note_8 ?_
  refine g_aload_n C 1 dX5_note_9 rfl rfl ?_
  refine g_callVV C K (c_Course_become W9 hb_235L hb_235k hLb hkb Z1) hb_235L hb_235k (by decide) rfl v_5_27 rfl ⟨rfl, rfl⟩ ⟨Nat.le_of_ble_eq_true rfl, Nat.le_of_ble_eq_true rfl⟩ (Nat.le_of_ble_eq_true rfl) ⟨Nat.le_of_ble_eq_true rfl, Nat.le_of_ble_eq_true rfl⟩ dX5_note_10 rfl (st := []) (fun I_236 J_237 h_238 => ?_)
  obtain ⟨rfl, f_240, z_242⟩ := h_238
  exact g_vret B K rfl (⟨rfl, (Fk.rf).tr f_240 (by decide), z_242⟩) dX5_note_13
set_option maxRecDepth 100000 in
set_option maxHeartbeats 4000000 in
theorem c_Past_keepNoted0 {l : Launch} {D : va_G} {cy : Nat → ClassId} {L : List Nat} {κ ln : Nat → Nat} {R : Nat → Nat → Option Nat} {I : Nat → Nat → Int32} {J : Nat → Nat → Int64} {a : Nat} (hLa : a ∈ L) (hka : κ a = 5) (h1 : I a 1 = 0) (h2 : I a 2 = 0) : CtV l yX5_keepNoted cX5_keepNoted 1 none { frames := 1, cells := 0, slots := 0, locals := 100 } D cy L κ ln R I J [.ref a] (fun I2 J2 => J = J2 ∧ Fk κ [5] I I2) := by
  refine CtV.of (by decide +kernel) (Nat.le_of_ble_eq_true rfl) ?_
  intro p e s m below meth c B K
  have C := B.1
  refine g_lo (is := [0]) (lo2 := [(0, .ref a)]) rfl ?_
  refine g_aload_n C 0 dX5_keepNoted_0 rfl rfl ?_
  refine g_aload_n C 0 dX5_keepNoted_1 rfl rfl ?_
  refine g_getI C K hLa hka f_5_21 (v := 0) (h2) dX5_keepNoted_2 ?_
  refine g_iconst C (v := 1) dX5_keepNoted_5 (by decide) ?_
  refine g_iadd C (v := 1) dX5_keepNoted_6 (by decide) ?_
  refine g_bipush C (v := 9) dX5_keepNoted_7 (by decide) ?_
  refine n_icmp_ge C (tgt := 21) (by decide) dX5_keepNoted_9 (by decide) ?_
  refine g_aload_n C 0 dX5_keepNoted_12 rfl rfl ?_
  refine g_getI C K hLa hka f_5_21 (v := 0) (h2) dX5_keepNoted_13 ?_
  refine g_iconst C (v := 1) dX5_keepNoted_16 (by decide) ?_
  refine g_iadd C (v := 1) dX5_keepNoted_17 (by decide) ?_
  refine g_goto C (tgt := 22) dX5_keepNoted_18 (by decide) ?_
  refine h_putI C K hLa hka f_5_21 p_5_2 dX5_keepNoted_22 (fun I_243 hI_243 => ?_)
  refine g_aload_n C 0 dX5_keepNoted_25 rfl rfl ?_
  refine g_aload_n C 0 dX5_keepNoted_26 rfl rfl ?_
  refine g_getI C K hLa hka f_5_17 (v := 0) (by rw [hI_243, u2_j (by decide)]; exact h1) dX5_keepNoted_27 ?_
  refine g_iconst C (v := 1) dX5_keepNoted_30 (by decide) ?_
  refine g_iadd C (v := 1) dX5_keepNoted_31 (by decide) ?_
  refine g_bipush C (v := 8) dX5_keepNoted_32 (by decide) ?_
  refine g_mmin C (v := 1) mw_5_31 w_min (Nat.le_of_ble_eq_true rfl) (Nat.le_of_ble_eq_true rfl) ⟨Nat.le_of_ble_eq_true rfl, Nat.le_of_ble_eq_true rfl⟩ (by decide) dX5_keepNoted_34 ?_
  refine h_putI C K hLa hka f_5_17 p_5_1 dX5_keepNoted_37 (fun I_244 hI_244 => ?_)
  exact g_vret B K rfl (⟨rfl, ((Fk.rf).u2 hI_243 hka (by decide)).u2 hI_244 hka (by decide)⟩) dX5_keepNoted_40
set_option maxRecDepth 100000 in
set_option maxHeartbeats 4000000 in
theorem c_Past_takeBack0 {l : Launch} {D : va_G} {cy : Nat → ClassId} {L : List Nat} {κ ln : Nat → Nat} {R : Nat → Nat → Option Nat} {I : Nat → Nat → Int32} {J : Nat → Nat → Int64} {a : Nat} (hLa : a ∈ L) (hka : κ a = 5) {b : Nat} (hLb : b ∈ L) (hkb : κ b = 1) (h1 : I a 1 = 0) : CtI l yX5_takeBack cX5_takeBack 2 (some .int) { frames := 0, cells := 0, slots := 0, locals := 0 } D cy L κ ln R I J [.ref a, .ref b] (fun r I2 J2 => I = I2 ∧ J = J2 ∧ r = -1) := by
  refine CtI.of (by decide +kernel) (Nat.le_of_ble_eq_true rfl) ?_
  intro p e s m below meth c B K
  have C := B.1
  refine g_lo (is := [0, 1]) (lo2 := [(0, .ref a), (1, .ref b)]) rfl ?_
  refine g_aload_n C 0 dX5_takeBack_0 rfl rfl ?_
  refine g_getI C K hLa hka f_5_17 (v := 0) (h1) dX5_takeBack_1 ?_
  refine n_if_ne C (tgt := 9) (by decide) dX5_takeBack_4 (by decide) ?_
  refine g_iconst C (v := (-1)) dX5_takeBack_7 (by decide) ?_
  exact g_zret (ty := .int) (r := (-1)) B K rfl rfl (⟨rfl, rfl, rfl⟩) dX5_takeBack_8
set_option maxRecDepth 100000 in
set_option maxHeartbeats 4000000 in
theorem c_Past_forget {l : Launch} {D : va_G} {cy : Nat → ClassId} {L : List Nat} {κ ln : Nat → Nat} {R : Nat → Nat → Option Nat} {I : Nat → Nat → Int32} {J : Nat → Nat → Int64} {a : Nat} (hLa : a ∈ L) (hka : κ a = 5) : CtV l yX5_forget cX5_forget 1 none { frames := 0, cells := 0, slots := 0, locals := 0 } D cy L κ ln R I J [.ref a] (fun I2 J2 => J = J2 ∧ Fk κ [5] I I2) := by
  refine CtV.of (by decide +kernel) (Nat.le_of_ble_eq_true rfl) ?_
  intro p e s m below meth c B K
  have C := B.1
  refine g_lo (is := [0]) (lo2 := [(0, .ref a)]) rfl ?_
  refine g_aload_n C 0 dX5_forget_0 rfl rfl ?_
  refine g_iconst C (v := 0) dX5_forget_1 (by decide) ?_
  refine h_putI C K hLa hka f_5_17 p_5_1 dX5_forget_2 (fun I_245 hI_245 => ?_)
  exact g_vret B K rfl (⟨rfl, (Fk.rf).u2 hI_245 hka (by decide)⟩) dX5_forget_5
set_option maxRecDepth 100000 in
set_option maxHeartbeats 4000000 in
theorem c_Sen_forget {l : Launch} {D : va_G} {cy : Nat → ClassId} {L : List Nat} {κ ln : Nat → Nat} {R : Nat → Nat → Option Nat} {I : Nat → Nat → Int32} {J : Nat → Nat → Int64} {a : Nat} (hLa : a ∈ L) (hka : κ a = 7) : CtV l yX7_forget cX7_forget 1 none { frames := 0, cells := 0, slots := 0, locals := 0 } D cy L κ ln R I J [.ref a] (fun I2 J2 => J = J2 ∧ Fk κ [7] I I2) := by
  refine CtV.of (by decide +kernel) (Nat.le_of_ble_eq_true rfl) ?_
  intro p e s m below meth c B K
  have C := B.1
  refine g_lo (is := [0]) (lo2 := [(0, .ref a)]) rfl ?_
  refine g_aload_n C 0 dX7_forget_0 rfl rfl ?_
  refine g_iconst C (v := 0) dX7_forget_1 (by decide) ?_
  refine h_putI C K hLa hka f_7_24 p_7_4 dX7_forget_2 (fun I_246 hI_246 => ?_)
  refine g_aload_n C 0 dX7_forget_5 rfl rfl ?_
  refine g_iconst C (v := 0) dX7_forget_6 (by decide) ?_
  refine h_putI C K hLa hka f_7_28 p_7_5 dX7_forget_7 (fun I_247 hI_247 => ?_)
  exact g_vret B K rfl (⟨rfl, ((Fk.rf).u2 hI_246 hka (by decide)).u2 hI_247 hka (by decide)⟩) dX7_forget_10
set_option maxRecDepth 100000 in
set_option maxHeartbeats 4000000 in
theorem c_Sen_become {l : Launch} {D : va_G} {cy : Nat → ClassId} {L : List Nat} {κ ln : Nat → Nat} {R : Nat → Nat → Option Nat} {I : Nat → Nat → Int32} {J : Nat → Nat → Int64} {ow : Nat → Nat × Nat} (W9 : ∀ a ∈ L, Shp L κ ln R ow a) {a : Nat} (hLa : a ∈ L) (hka : κ a = 7) {b : Nat} (hLb : b ∈ L) (hkb : κ b = 7) : CtV l yX7_become cX7_become 2 none { frames := 1, cells := 0, slots := 0, locals := 100 } D cy L κ ln R I J [.ref a, .ref b] (fun I2 J2 => J = J2 ∧ Fk κ [7, 14] I I2) := by
  refine CtV.of (by decide +kernel) (Nat.le_of_ble_eq_true rfl) ?_
  intro p e s m below meth c B K
  have C := B.1
  refine g_lo (is := [0, 1]) (lo2 := [(0, .ref a), (1, .ref b)]) rfl ?_
  refine g_aload_n C 1 dX7_become_0 rfl rfl ?_
  obtain ⟨b_248, hb_248, hb_248L, hb_248k, hb_248n, hb_248o⟩ := shp_a (W9 b hLb) hkb 0 14 40 rfl (by decide)
  refine g_getR C K hLb hkb f_7_11 hb_248 dX7_become_1 ?_
  refine g_iconst C (v := 0) dX7_become_4 (by decide) ?_
  refine g_aload_n C 0 dX7_become_5 rfl rfl ?_
  obtain ⟨b_249, hb_249, hb_249L, hb_249k, hb_249n, hb_249o⟩ := shp_a (W9 a hLa) hka 0 14 40 rfl (by decide)
  refine g_getR C K hLa hka f_7_11 hb_249 dX7_become_6 ?_
  refine g_iconst C (v := 0) dX7_become_9 (by decide) ?_
  refine g_bipush C (v := 40) dX7_become_10 (by decide) ?_
  refine h_copyI C K hb_249L hb_249k hb_248L hb_248k ac_7_31 40 (by decide) (by decide) (by rw [hb_248n]; decide) (by rw [hb_249n]; decide) w_cp (Nat.le_of_ble_eq_true rfl) (Nat.le_of_ble_eq_true rfl) dX7_become_12 (fun I_250 hI_250 => ?_)
  refine g_aload_n C 1 dX7_become_15 rfl rfl ?_
  obtain ⟨b_251, hb_251, hb_251L, hb_251k, hb_251n, hb_251o⟩ := shp_a (W9 b hLb) hkb 1 14 40 rfl (by decide)
  refine g_getR C K hLb hkb f_7_15 hb_251 dX7_become_16 ?_
  refine g_iconst C (v := 0) dX7_become_19 (by decide) ?_
  refine g_aload_n C 0 dX7_become_20 rfl rfl ?_
  obtain ⟨b_252, hb_252, hb_252L, hb_252k, hb_252n, hb_252o⟩ := shp_a (W9 a hLa) hka 1 14 40 rfl (by decide)
  refine g_getR C K hLa hka f_7_15 hb_252 dX7_become_21 ?_
  refine g_iconst C (v := 0) dX7_become_24 (by decide) ?_
  refine g_bipush C (v := 40) dX7_become_25 (by decide) ?_
  refine h_copyI C K hb_252L hb_252k hb_251L hb_251k ac_7_31 40 (by decide) (by decide) (by rw [hb_251n]; decide) (by rw [hb_252n]; decide) w_cp (Nat.le_of_ble_eq_true rfl) (Nat.le_of_ble_eq_true rfl) dX7_become_27 (fun I_253 hI_253 => ?_)
  refine g_aload_n C 1 dX7_become_30 rfl rfl ?_
  obtain ⟨b_254, hb_254, hb_254L, hb_254k, hb_254n, hb_254o⟩ := shp_a (W9 b hLb) hkb 2 14 40 rfl (by decide)
  refine g_getR C K hLb hkb f_7_18 hb_254 dX7_become_31 ?_
  refine g_iconst C (v := 0) dX7_become_34 (by decide) ?_
  refine g_aload_n C 0 dX7_become_35 rfl rfl ?_
  obtain ⟨b_255, hb_255, hb_255L, hb_255k, hb_255n, hb_255o⟩ := shp_a (W9 a hLa) hka 2 14 40 rfl (by decide)
  refine g_getR C K hLa hka f_7_18 hb_255 dX7_become_36 ?_
  refine g_iconst C (v := 0) dX7_become_39 (by decide) ?_
  refine g_bipush C (v := 40) dX7_become_40 (by decide) ?_
  refine h_copyI C K hb_255L hb_255k hb_254L hb_254k ac_7_31 40 (by decide) (by decide) (by rw [hb_254n]; decide) (by rw [hb_255n]; decide) w_cp (Nat.le_of_ble_eq_true rfl) (Nat.le_of_ble_eq_true rfl) dX7_become_42 (fun I_256 hI_256 => ?_)
  refine g_aload_n C 0 dX7_become_45 rfl rfl ?_
  refine g_aload_n C 1 dX7_become_46 rfl rfl ?_
  obtain ⟨x_257, hx_257⟩ : ∃ z, I_256 b 4 = z := ⟨_, rfl⟩
  refine g_getI C K hLb hkb f_7_24 hx_257 dX7_become_47 ?_
  refine h_putI C K hLa hka f_7_24 p_7_4 dX7_become_50 (fun I_258 hI_258 => ?_)
  refine g_aload_n C 0 dX7_become_53 rfl rfl ?_
  refine g_aload_n C 1 dX7_become_54 rfl rfl ?_
  obtain ⟨x_259, hx_259⟩ : ∃ z, I_258 b 5 = z := ⟨_, rfl⟩
  refine g_getI C K hLb hkb f_7_28 hx_259 dX7_become_55 ?_
  refine h_putI C K hLa hka f_7_28 p_7_5 dX7_become_58 (fun I_260 hI_260 => ?_)
  exact g_vret B K rfl (⟨rfl, (((((Fk.rf).k2 hI_250 hb_249k (by decide)).k2 hI_253 hb_252k (by decide)).k2 hI_256 hb_255k (by decide)).u2 hI_258 hka (by decide)).u2 hI_260 hka (by decide)⟩) dX7_become_61
set_option maxRecDepth 100000 in
set_option maxHeartbeats 4000000 in
theorem c_Sen_beginsOne0 {l : Launch} {D : va_G} {cy : Nat → ClassId} {L : List Nat} {κ ln : Nat → Nat} {R : Nat → Nat → Option Nat} {I : Nat → Nat → Int32} {J : Nat → Nat → Int64}  : CtI l yX7_beginsOne cX7_beginsOne 1 (some .boolean) { frames := 0, cells := 0, slots := 0, locals := 0 } D cy L κ ln R I J [.int 102] (fun r I2 J2 => I = I2 ∧ J = J2 ∧ r = 0) := by
  refine CtI.of (by decide +kernel) (Nat.le_of_ble_eq_true rfl) ?_
  intro p e s m below meth c B K
  have C := B.1
  refine g_lo (is := [0]) (lo2 := [(0, .int 102)]) rfl ?_
  refine g_iload_n C 0 dX7_beginsOne_0 rfl rfl ?_
  refine g_bipush C (v := 40) dX7_beginsOne_1 (by decide) ?_
  refine n_icmp_eq C (tgt := 23) (by decide) dX7_beginsOne_3 (by decide) ?_
  refine g_iload_n C 0 dX7_beginsOne_6 rfl rfl ?_
  refine g_iconst C (v := 5) dX7_beginsOne_7 (by decide) ?_
  refine n_icmp_eq C (tgt := 23) (by decide) dX7_beginsOne_8 (by decide) ?_
  refine g_iload_n C 0 dX7_beginsOne_11 rfl rfl ?_
  refine g_bipush C (v := 19) dX7_beginsOne_12 (by decide) ?_
  refine n_icmp_lt C (tgt := 27) (by decide) dX7_beginsOne_14 (by decide) ?_
  refine g_iload_n C 0 dX7_beginsOne_17 rfl rfl ?_
  refine g_bipush C (v := 27) dX7_beginsOne_18 (by decide) ?_
  refine t_icmp_gt C (tgt := 27) (by decide) dX7_beginsOne_20 (by decide) ?_
  refine g_iconst C (v := 0) dX7_beginsOne_27 (by decide) ?_
  exact g_zret (ty := .boolean) (r := 0) B K rfl (by decide) (⟨rfl, rfl, rfl⟩) dX7_beginsOne_28
set_option maxRecDepth 100000 in
set_option maxHeartbeats 4000000 in
theorem c_Sen_readOne0 {l : Launch} {D : va_G} {cy : Nat → ClassId} {L : List Nat} {κ ln : Nat → Nat} {R : Nat → Nat → Option Nat} {I : Nat → Nat → Int32} {J : Nat → Nat → Int64} {a : Nat} (hLa : a ∈ L) (hka : κ a = 7) {t : Nat} (hLt : t ∈ L) (hkt : κ t = 10) {b : Nat} (hLb : b ∈ L) (hkb : κ b = 8) (h8 : I t 8 = 102) (h9 : I t 9 = 0) (h11 : I t 11 = 0) : CtI l yX7_readOne cX7_readOne 5 (some .boolean) { frames := 1, cells := 0, slots := 0, locals := 100 } D cy L κ ln R I J [.ref a, .ref t, .ref b, .int 1] (fun r I2 J2 => J = J2 ∧ Fk κ [10] I I2 ∧ I2 t 11 = 1 ∧ I2 t 12 = 0 ∧ r = 0) := by
  refine CtI.of (by decide +kernel) (Nat.le_of_ble_eq_true rfl) ?_
  intro p e s m below meth c B K
  have C := B.1
  refine g_lo (is := [0, 1, 2, 3]) (lo2 := [(0, .ref a), (1, .ref t), (2, .ref b), (3, .int 1)]) rfl ?_
  refine g_aload_n C 1 dX7_readOne_0 rfl rfl ?_
  refine g_getI C K hLt hkt f_7_57 (v := 102) (h8) dX7_readOne_1 ?_
  refine g_istore C dX7_readOne_4 (by decide) (lo2 := [(4, .int 102), (0, .ref a), (1, .ref t), (2, .ref b), (3, .int 1)]) rfl ?_
  refine g_iload C 0 dX7_readOne_6 rfl ?_
  refine g_callSI C K (c_Sen_beginsOne0 ) s_7_70 rfl ⟨rfl, rfl⟩ ⟨Nat.le_of_ble_eq_true rfl, Nat.le_of_ble_eq_true rfl⟩ (Nat.le_of_ble_eq_true rfl) ⟨Nat.le_of_ble_eq_true rfl, Nat.le_of_ble_eq_true rfl⟩ dX7_readOne_8 rfl (st := []) (fun r_264 I_261 J_262 h_263 => ?_)
  obtain ⟨rfl, rfl, er_264⟩ := h_263
  have h0r_264 := er_264
  subst er_264
  refine n_if_ne C (tgt := 20) (by decide) dX7_readOne_11 (by decide) ?_
  refine g_aload_n C 2 dX7_readOne_14 rfl rfl ?_
  refine g_iconst C (v := 1) dX7_readOne_15 (by decide) ?_
  refine g_callVI C K (c_Tape_fail0 hLt hkt (h11) 1 0 (h9)) hLt hkt (by decide) rfl v_7_73 rfl ⟨rfl, rfl⟩ ⟨Nat.le_of_ble_eq_true rfl, Nat.le_of_ble_eq_true rfl⟩ (Nat.le_of_ble_eq_true rfl) ⟨Nat.le_of_ble_eq_true rfl, Nat.le_of_ble_eq_true rfl⟩ dX7_readOne_16 rfl (st := []) (fun r_268 I_265 J_266 h_267 => ?_)
  obtain ⟨rfl, f_269, v_271, v_272, rfl⟩ := h_267
  exact g_zret (ty := .boolean) (r := 0) B K rfl (by decide) (⟨rfl, (Fk.rf).tr f_269 (by decide), v_271, v_272, rfl⟩) dX7_readOne_19
set_option maxRecDepth 100000 in
set_option maxHeartbeats 4000000 in
theorem c_Sen_readAll0 {l : Launch} {D : va_G} {cy : Nat → ClassId} {L : List Nat} {κ ln : Nat → Nat} {R : Nat → Nat → Option Nat} {I : Nat → Nat → Int32} {J : Nat → Nat → Int64} {a : Nat} (hLa : a ∈ L) (hka : κ a = 7) {t : Nat} (hLt : t ∈ L) (hkt : κ t = 10) {b : Nat} (hLb : b ∈ L) (hkb : κ b = 8) (h8 : I t 8 = 102) (h9 : I t 9 = 0) (h11 : I t 11 = 0) : CtI l yX7_readAll cX7_readAll 6 (some .boolean) { frames := 2, cells := 0, slots := 0, locals := 150 } D cy L κ ln R I J [.ref a, .ref t, .ref b, .int 1] (fun r I2 J2 => J = J2 ∧ Fk κ [10] I I2 ∧ I2 t 11 = 1 ∧ I2 t 12 = 0 ∧ r = 0) := by
  refine CtI.of (by decide +kernel) (Nat.le_of_ble_eq_true rfl) ?_
  intro p e s m below meth c B K
  have C := B.1
  refine g_lo (is := [0, 1, 2, 3]) (lo2 := [(0, .ref a), (1, .ref t), (2, .ref b), (3, .int 1)]) rfl ?_
  refine g_aload_n C 0 dX7_readAll_0 rfl rfl ?_
  refine g_aload_n C 1 dX7_readAll_1 rfl rfl ?_
  refine g_aload_n C 2 dX7_readAll_2 rfl rfl ?_
  refine g_iload_n C 3 dX7_readAll_3 rfl rfl ?_
  refine g_callVI C K (c_Sen_readOne0 hLa hka hLt hkt hLb hkb (h8) (h9) (h11)) hLa hka (by decide) rfl v_7_67 rfl ⟨rfl, rfl⟩ ⟨Nat.le_of_ble_eq_true rfl, Nat.le_of_ble_eq_true rfl⟩ (Nat.le_of_ble_eq_true rfl) ⟨Nat.le_of_ble_eq_true rfl, Nat.le_of_ble_eq_true rfl⟩ dX7_readAll_4 rfl (st := []) (fun r_276 I_273 J_274 h_275 => ?_)
  obtain ⟨rfl, f_277, v_279, v_280, rfl⟩ := h_275
  refine g_istore C dX7_readAll_7 (by decide) (lo2 := [(4, .int 0), (0, .ref a), (1, .ref t), (2, .ref b), (3, .int 1)]) rfl ?_
  refine g_iconst C (v := 0) dX7_readAll_9 (by decide) ?_
  refine g_istore C dX7_readAll_10 (by decide) (lo2 := [(5, .int 0), (4, .int 0), (0, .ref a), (1, .ref t), (2, .ref b), (3, .int 1)]) rfl ?_
  refine g_iload C 0 dX7_readAll_12 rfl ?_
  refine g_bipush C (v := 20) dX7_readAll_14 (by decide) ?_
  refine n_icmp_ge C (tgt := 71) (by decide) dX7_readAll_16 (by decide) ?_
  refine g_iload C 1 dX7_readAll_19 rfl ?_
  refine t_if_eq C (tgt := 71) (by decide) dX7_readAll_21 (by decide) ?_
  refine g_iload C 1 dX7_readAll_71 rfl ?_
  exact g_zret (ty := .boolean) (r := 0) B K rfl (by decide) (⟨rfl, (Fk.rf).tr f_277 (by decide), v_279, v_280, rfl⟩) dX7_readAll_73
set_option maxRecDepth 100000 in
set_option maxHeartbeats 4000000 in
theorem c_Sen_readCond0 {l : Launch} {D : va_G} {cy : Nat → ClassId} {L : List Nat} {κ ln : Nat → Nat} {R : Nat → Nat → Option Nat} {I : Nat → Nat → Int32} {J : Nat → Nat → Int64} {a : Nat} (hLa : a ∈ L) (hka : κ a = 7) {t : Nat} (hLt : t ∈ L) (hkt : κ t = 10) {b : Nat} (hLb : b ∈ L) (hkb : κ b = 8) (h8 : I t 8 = 102) (h9 : I t 9 = 0) (h11 : I t 11 = 0) : CtI l yX7_readCond cX7_readCond 6 (some .boolean) { frames := 3, cells := 0, slots := 0, locals := 200 } D cy L κ ln R I J [.ref a, .ref t, .ref b, .int 1] (fun r I2 J2 => J = J2 ∧ Fk κ [10] I I2 ∧ I2 t 11 = 1 ∧ I2 t 12 = 0 ∧ r = 0) := by
  refine CtI.of (by decide +kernel) (Nat.le_of_ble_eq_true rfl) ?_
  intro p e s m below meth c B K
  have C := B.1
  refine g_lo (is := [0, 1, 2, 3]) (lo2 := [(0, .ref a), (1, .ref t), (2, .ref b), (3, .int 1)]) rfl ?_
  refine g_aload_n C 0 dX7_readCond_0 rfl rfl ?_
  refine g_aload_n C 1 dX7_readCond_1 rfl rfl ?_
  refine g_aload_n C 2 dX7_readCond_2 rfl rfl ?_
  refine g_iload_n C 3 dX7_readCond_3 rfl rfl ?_
  refine g_callVI C K (c_Sen_readAll0 hLa hka hLt hkt hLb hkb (h8) (h9) (h11)) hLa hka (by decide) rfl v_7_54 rfl ⟨rfl, rfl⟩ ⟨Nat.le_of_ble_eq_true rfl, Nat.le_of_ble_eq_true rfl⟩ (Nat.le_of_ble_eq_true rfl) ⟨Nat.le_of_ble_eq_true rfl, Nat.le_of_ble_eq_true rfl⟩ dX7_readCond_4 rfl (st := []) (fun r_284 I_281 J_282 h_283 => ?_)
  obtain ⟨rfl, f_285, v_287, v_288, rfl⟩ := h_283
  refine g_istore C dX7_readCond_7 (by decide) (lo2 := [(4, .int 0), (0, .ref a), (1, .ref t), (2, .ref b), (3, .int 1)]) rfl ?_
  refine g_iconst C (v := 0) dX7_readCond_9 (by decide) ?_
  refine g_istore C dX7_readCond_10 (by decide) (lo2 := [(5, .int 0), (4, .int 0), (0, .ref a), (1, .ref t), (2, .ref b), (3, .int 1)]) rfl ?_
  refine g_iload C 0 dX7_readCond_12 rfl ?_
  refine g_bipush C (v := 20) dX7_readCond_14 (by decide) ?_
  refine n_icmp_ge C (tgt := 71) (by decide) dX7_readCond_16 (by decide) ?_
  refine g_iload C 1 dX7_readCond_19 rfl ?_
  refine t_if_eq C (tgt := 71) (by decide) dX7_readCond_21 (by decide) ?_
  refine g_iload C 1 dX7_readCond_71 rfl ?_
  exact g_zret (ty := .boolean) (r := 0) B K rfl (by decide) (⟨rfl, (Fk.rf).tr f_285 (by decide), v_287, v_288, rfl⟩) dX7_readCond_73
set_option maxRecDepth 100000 in
set_option maxHeartbeats 4000000 in
theorem c_Sen_readFrom0 {l : Launch} {D : va_G} {cy : Nat → ClassId} {L : List Nat} {κ ln : Nat → Nat} {R : Nat → Nat → Option Nat} {I : Nat → Nat → Int32} {J : Nat → Nat → Int64} {ow : Nat → Nat × Nat} (W9 : ∀ a ∈ L, Shp L κ ln R ow a) {a : Nat} (hLa : a ∈ L) (hka : κ a = 7) {t : Nat} (hLt : t ∈ L) (hkt : κ t = 10) {b : Nat} (hLb : b ∈ L) (hkb : κ b = 8) (h5 : I t 5 = 0) : CtI l yX7_readFrom cX7_readFrom 3 (some .boolean) { frames := 4, cells := 0, slots := 0, locals := 260 } D cy L κ ln R I J [.ref a, .ref t, .ref b] (fun r I2 J2 => Fj κ [10, 15] J J2 ∧ Fk κ [7, 10, 14] I I2 ∧ I2 t 11 = 1 ∧ I2 t 12 = 0 ∧ r = 0) := by
  refine CtI.of (by decide +kernel) (Nat.le_of_ble_eq_true rfl) ?_
  intro p e s m below meth c B K
  have C := B.1
  refine g_lo (is := [0, 1, 2]) (lo2 := [(0, .ref a), (1, .ref t), (2, .ref b)]) rfl ?_
  refine g_aload_n C 0 dX7_readFrom_0 rfl rfl ?_
  refine g_callVV C K (c_Sen_forget hLa hka) hLa hka (by decide) rfl v_7_37 rfl ⟨rfl, rfl⟩ ⟨Nat.le_of_ble_eq_true rfl, Nat.le_of_ble_eq_true rfl⟩ (Nat.le_of_ble_eq_true rfl) ⟨Nat.le_of_ble_eq_true rfl, Nat.le_of_ble_eq_true rfl⟩ dX7_readFrom_1 rfl (st := []) (fun I_289 J_290 h_291 => ?_)
  obtain ⟨rfl, f_293⟩ := h_291
  refine g_aload_n C 1 dX7_readFrom_4 rfl rfl ?_
  refine g_sipush C (v := 200) dX7_readFrom_5 (by decide) ?_
  refine g_callVV C K (c_Tape_begin_200 W9 hLt hkt (by rw [f_293 t 5 (by rw [hkt]; decide)]; exact h5)) hLt hkt (by decide) rfl v_7_40 rfl ⟨rfl, rfl⟩ ⟨Nat.le_of_ble_eq_true rfl, Nat.le_of_ble_eq_true rfl⟩ (Nat.le_of_ble_eq_true rfl) ⟨Nat.le_of_ble_eq_true rfl, Nat.le_of_ble_eq_true rfl⟩ dX7_readFrom_8 rfl (st := []) (fun I_295 J_296 h_297 => ?_)
  obtain ⟨g_300, f_299, v_301, v_302, v_303, v_304, v_305⟩ := h_297
  refine g_aload_n C 0 dX7_readFrom_11 rfl rfl ?_
  refine g_aload_n C 1 dX7_readFrom_12 rfl rfl ?_
  refine g_aload_n C 2 dX7_readFrom_13 rfl rfl ?_
  refine g_iconst C (v := 1) dX7_readFrom_14 (by decide) ?_
  refine g_callVI C K (c_Sen_readCond0 hLa hka hLt hkt hLb hkb (v_302) (v_303) (v_304)) hLa hka (by decide) rfl v_7_46 rfl ⟨rfl, rfl⟩ ⟨Nat.le_of_ble_eq_true rfl, Nat.le_of_ble_eq_true rfl⟩ (Nat.le_of_ble_eq_true rfl) ⟨Nat.le_of_ble_eq_true rfl, Nat.le_of_ble_eq_true rfl⟩ dX7_readFrom_15 rfl (st := []) (fun r_309 I_306 J_307 h_308 => ?_)
  obtain ⟨rfl, f_310, v_312, v_313, rfl⟩ := h_308
  refine t_if_eq C (tgt := 34) (by decide) dX7_readFrom_18 (by decide) ?_
  refine g_iconst C (v := 0) dX7_readFrom_34 (by decide) ?_
  exact g_zret (ty := .boolean) (r := 0) B K rfl (by decide) (⟨(Fj.rf).tr g_300 (by decide), (((Fk.rf).tr f_293 (by decide)).tr f_299 (by decide)).tr f_310 (by decide), v_312, v_313, rfl⟩) dX7_readFrom_35
set_option maxRecDepth 100000 in
set_option maxHeartbeats 4000000 in
theorem c_Book_readFrom0 {l : Launch} {D : va_G} {cy : Nat → ClassId} {L : List Nat} {κ ln : Nat → Nat} {R : Nat → Nat → Option Nat} {I : Nat → Nat → Int32} {J : Nat → Nat → Int64} {ow : Nat → Nat × Nat} (W9 : ∀ a ∈ L, Shp L κ ln R ow a) {a : Nat} (hLa : a ∈ L) (hka : κ a = 0) {t : Nat} (hLt : t ∈ L) (hkt : κ t = 10) {b : Nat} (hLb : b ∈ L) (hkb : κ b = 8) (h5 : I t 5 = 0) : CtV l yX0_readFrom cX0_readFrom 3 none { frames := 2, cells := 0, slots := 0, locals := 150 } D cy L κ ln R I J [.ref a, .ref t, .ref b] (fun I2 J2 => Fj κ [10, 15] J J2 ∧ Fk κ [0, 10, 14] I I2 ∧ I2 a 4 = 0 ∧ I2 t 11 = 0) := by
  refine CtV.of (by decide +kernel) (Nat.le_of_ble_eq_true rfl) ?_
  intro p e s m below meth c B K
  have C := B.1
  refine g_lo (is := [0, 1, 2]) (lo2 := [(0, .ref a), (1, .ref t), (2, .ref b)]) rfl ?_
  refine g_aload_n C 1 dX0_readFrom_0 rfl rfl ?_
  refine g_sipush C (v := 400) dX0_readFrom_1 (by decide) ?_
  refine g_callVV C K (c_Tape_begin_400 W9 hLt hkt (h5)) hLt hkt (by decide) rfl v_0_44 rfl ⟨rfl, rfl⟩ ⟨Nat.le_of_ble_eq_true rfl, Nat.le_of_ble_eq_true rfl⟩ (Nat.le_of_ble_eq_true rfl) ⟨Nat.le_of_ble_eq_true rfl, Nat.le_of_ble_eq_true rfl⟩ dX0_readFrom_4 rfl (st := []) (fun I_314 J_315 h_316 => ?_)
  obtain ⟨g_319, f_318, v_320, v_321, v_322, v_323, v_324⟩ := h_316
  refine g_aload_n C 0 dX0_readFrom_7 rfl rfl ?_
  refine g_iconst C (v := 0) dX0_readFrom_8 (by decide) ?_
  refine h_putI C K hLa hka f_0_24 p_0_4 dX0_readFrom_9 (fun I_325 hI_325 => ?_)
  refine g_aload_n C 0 dX0_readFrom_12 rfl rfl ?_
  refine g_getI C K hLa hka f_0_24 (v := 0) (by rw [hI_325]; exact u2_s) dX0_readFrom_13 ?_
  refine g_bipush C (v := 40) dX0_readFrom_16 (by decide) ?_
  refine n_icmp_gt C (tgt := 52) (by decide) dX0_readFrom_18 (by decide) ?_
  refine g_aload_n C 1 dX0_readFrom_21 rfl rfl ?_
  refine g_getI C K hLt hkt f_0_50 (v := 102) (by rw [hI_325, u2_j (by decide)]; exact v_321) dX0_readFrom_22 ?_
  refine g_bipush C (v := 102) dX0_readFrom_25 (by decide) ?_
  refine t_icmp_eq C (tgt := 52) (by decide) dX0_readFrom_27 (by decide) ?_
  exact g_vret B K rfl (⟨(Fj.rf).tr g_319 (by decide), ((Fk.rf).tr f_318 (by decide)).u2 hI_325 hka (by decide), by rw [hI_325]; exact u2_s, by rw [hI_325, u2_j (by decide)]; exact v_323⟩) dX0_readFrom_52
set_option maxRecDepth 100000 in
set_option maxHeartbeats 4000000 in
theorem c_Book_judgeBy0 {l : Launch} {D : va_G} {cy : Nat → ClassId} {L : List Nat} {κ ln : Nat → Nat} {R : Nat → Nat → Option Nat} {I : Nat → Nat → Int32} {J : Nat → Nat → Int64} {a : Nat} (hLa : a ∈ L) (hka : κ a = 0) {b : Nat} (hLb : b ∈ L) (hkb : κ b = 1) (h4 : I a 4 = 0) : CtV l yX0_judgeBy cX0_judgeBy 2 none { frames := 0, cells := 0, slots := 0, locals := 0 } D cy L κ ln R I J [.ref a, .ref b] (fun I2 J2 => J = J2 ∧ Fk κ [0] I I2 ∧ I2 a 6 = 0 ∧ I2 a 7 = 0) := by
  refine CtV.of (by decide +kernel) (Nat.le_of_ble_eq_true rfl) ?_
  intro p e s m below meth c B K
  have C := B.1
  refine g_lo (is := [0, 1]) (lo2 := [(0, .ref a), (1, .ref b)]) rfl ?_
  refine g_aload_n C 0 dX0_judgeBy_0 rfl rfl ?_
  refine g_iconst C (v := 1) dX0_judgeBy_1 (by decide) ?_
  refine h_putZ C K hLa hka f_0_28 p_0_5 (Or.inr rfl) dX0_judgeBy_2 (fun I_326 hI_326 => ?_)
  refine g_aload_n C 0 dX0_judgeBy_5 rfl rfl ?_
  refine g_iconst C (v := 0) dX0_judgeBy_6 (by decide) ?_
  refine h_putI C K hLa hka f_0_32 p_0_6 dX0_judgeBy_7 (fun I_327 hI_327 => ?_)
  refine g_aload_n C 0 dX0_judgeBy_10 rfl rfl ?_
  refine g_iconst C (v := 0) dX0_judgeBy_11 (by decide) ?_
  refine h_putI C K hLa hka f_0_35 p_0_7 dX0_judgeBy_12 (fun I_328 hI_328 => ?_)
  refine g_aload_n C 0 dX0_judgeBy_15 rfl rfl ?_
  refine g_getI C K hLa hka f_0_35 (v := 0) (by rw [hI_328]; exact u2_s) dX0_judgeBy_16 ?_
  refine g_aload_n C 0 dX0_judgeBy_19 rfl rfl ?_
  refine g_getI C K hLa hka f_0_24 (v := 0) (by rw [hI_328, u2_j (by decide), hI_327, u2_j (by decide), hI_326, u2_j (by decide)]; exact h4) dX0_judgeBy_20 ?_
  refine t_icmp_ge C (tgt := 66) (by decide) dX0_judgeBy_23 (by decide) ?_
  refine g_aload_n C 0 dX0_judgeBy_66 rfl rfl ?_
  refine g_aload_n C 1 dX0_judgeBy_67 rfl rfl ?_
  obtain ⟨x_329, hx_329⟩ : ∃ z, I_328 b 9 = z := ⟨_, rfl⟩
  refine g_getI C K hLb hkb f_0_98 hx_329 dX0_judgeBy_68 ?_
  refine h_putI C K hLa hka f_0_38 p_0_8 dX0_judgeBy_71 (fun I_330 hI_330 => ?_)
  refine g_aload_n C 0 dX0_judgeBy_74 rfl rfl ?_
  refine g_aload_n C 1 dX0_judgeBy_75 rfl rfl ?_
  obtain ⟨x_331, hx_331⟩ : ∃ z, I_330 b 7 = z := ⟨_, rfl⟩
  refine g_getI C K hLb hkb f_0_103 hx_331 dX0_judgeBy_76 ?_
  refine h_putI C K hLa hka f_0_41 p_0_9 dX0_judgeBy_79 (fun I_332 hI_332 => ?_)
  exact g_vret B K rfl (⟨rfl, (((((Fk.rf).u2 hI_326 hka (by decide)).u2 hI_327 hka (by decide)).u2 hI_328 hka (by decide)).u2 hI_330 hka (by decide)).u2 hI_332 hka (by decide), by rw [hI_332, u2_j (by decide), hI_330, u2_j (by decide), hI_328, u2_j (by decide), hI_327]; exact u2_s, by rw [hI_332, u2_j (by decide), hI_330, u2_j (by decide), hI_328]; exact u2_s⟩) dX0_judgeBy_82
set_option maxRecDepth 100000 in
set_option maxHeartbeats 4000000 in
theorem c_TR_readFrom0 {l : Launch} {D : va_G} {cy : Nat → ClassId} {L : List Nat} {κ ln : Nat → Nat} {R : Nat → Nat → Option Nat} {I : Nat → Nat → Int32} {J : Nat → Nat → Int64} {ow : Nat → Nat × Nat} (W9 : ∀ a ∈ L, Shp L κ ln R ow a) {a : Nat} (hLa : a ∈ L) (hka : κ a = 9) {t : Nat} (hLt : t ∈ L) (hkt : κ t = 10) (Z1 : Zk L κ 1 I) (Z8 : Zk L κ 8 I) (h5 : I t 5 = 0) : CtI l yX9_readFrom cX9_readFrom 3 (some .int) { frames := 2, cells := 0, slots := 0, locals := 150 } D cy L κ ln R I J [.ref a, .ref t] (fun r I2 J2 => Fj κ [10, 15] J J2 ∧ Fk κ [1, 8, 9, 10, 14] I I2 ∧ Zk L κ 1 I2 ∧ Zk L κ 8 I2 ∧ I2 t 11 = 0 ∧ r = 0) := by
  refine CtI.of (by decide +kernel) (Nat.le_of_ble_eq_true rfl) ?_
  intro p e s m below meth c B K
  have C := B.1
  refine g_lo (is := [0, 1]) (lo2 := [(0, .ref a), (1, .ref t)]) rfl ?_
  refine g_aload_n C 0 dX9_readFrom_0 rfl rfl ?_
  obtain ⟨b_333, hb_333, hb_333L, hb_333k⟩ := shp_o (W9 a hLa) hka 0 8 rfl (by decide)
  refine g_getR C K hLa hka f_9_12 hb_333 dX9_readFrom_1 ?_
  refine g_callVV C K (c_Table_forget hb_333L hb_333k (Z8)) hb_333L hb_333k (by decide) rfl v_9_34 rfl ⟨rfl, rfl⟩ ⟨Nat.le_of_ble_eq_true rfl, Nat.le_of_ble_eq_true rfl⟩ (Nat.le_of_ble_eq_true rfl) ⟨Nat.le_of_ble_eq_true rfl, Nat.le_of_ble_eq_true rfl⟩ dX9_readFrom_4 rfl (st := []) (fun I_334 J_335 h_336 => ?_)
  obtain ⟨rfl, f_338, z_340⟩ := h_336
  refine g_aload_n C 0 dX9_readFrom_7 rfl rfl ?_
  obtain ⟨b_341, hb_341, hb_341L, hb_341k⟩ := shp_o (W9 a hLa) hka 1 1 rfl (by decide)
  refine g_getR C K hLa hka f_9_23 hb_341 dX9_readFrom_8 ?_
  refine g_callVV C K (c_Course_forget W9 hb_341L hb_341k ((Z1).fk f_338 (by decide))) hb_341L hb_341k (by decide) rfl v_9_37 rfl ⟨rfl, rfl⟩ ⟨Nat.le_of_ble_eq_true rfl, Nat.le_of_ble_eq_true rfl⟩ (Nat.le_of_ble_eq_true rfl) ⟨Nat.le_of_ble_eq_true rfl, Nat.le_of_ble_eq_true rfl⟩ dX9_readFrom_11 rfl (st := []) (fun I_342 J_343 h_344 => ?_)
  obtain ⟨rfl, f_346, z_348⟩ := h_344
  refine g_aload_n C 0 dX9_readFrom_14 rfl rfl ?_
  refine g_iconst C (v := 0) dX9_readFrom_15 (by decide) ?_
  refine h_putZ C K hLa hka f_9_27 p_9_2 (Or.inl rfl) dX9_readFrom_16 (fun I_349 hI_349 => ?_)
  refine g_aload_n C 0 dX9_readFrom_19 rfl rfl ?_
  refine g_iconst C (v := 0) dX9_readFrom_20 (by decide) ?_
  refine h_putZ C K hLa hka f_9_31 p_9_3 (Or.inl rfl) dX9_readFrom_21 (fun I_350 hI_350 => ?_)
  refine g_aload_n C 1 dX9_readFrom_24 rfl rfl ?_
  refine g_sipush C (v := 900) dX9_readFrom_25 (by decide) ?_
  refine g_callVV C K (c_Tape_begin_900 W9 hLt hkt (by rw [hI_350, u2_j (by decide), hI_349, u2_j (by decide), f_346 t 5 (by rw [hkt]; decide), f_338 t 5 (by rw [hkt]; decide)]; exact h5)) hLt hkt (by decide) rfl v_9_38 rfl ⟨rfl, rfl⟩ ⟨Nat.le_of_ble_eq_true rfl, Nat.le_of_ble_eq_true rfl⟩ (Nat.le_of_ble_eq_true rfl) ⟨Nat.le_of_ble_eq_true rfl, Nat.le_of_ble_eq_true rfl⟩ dX9_readFrom_28 rfl (st := []) (fun I_351 J_352 h_353 => ?_)
  obtain ⟨g_356, f_355, v_357, v_358, v_359, v_360, v_361⟩ := h_353
  refine g_iconst C (v := 0) dX9_readFrom_31 (by decide) ?_
  refine g_istore_n C dX9_readFrom_32 rfl (by decide) (lo2 := [(2, .int 0), (0, .ref a), (1, .ref t)]) rfl ?_
  refine g_iload_n C 0 dX9_readFrom_33 rfl rfl ?_
  refine g_sipush C (v := 900) dX9_readFrom_34 (by decide) ?_
  refine n_icmp_ge C (tgt := 63) (by decide) dX9_readFrom_37 (by decide) ?_
  refine g_aload_n C 2 dX9_readFrom_40 rfl rfl ?_
  refine g_getI C K hLt hkt f_9_44 (v := 102) (v_358) dX9_readFrom_41 ?_
  refine g_bipush C (v := 102) dX9_readFrom_44 (by decide) ?_
  refine t_icmp_eq C (tgt := 63) (by decide) dX9_readFrom_46 (by decide) ?_
  refine g_iload_n C 0 dX9_readFrom_63 rfl rfl ?_
  exact g_zret (ty := .int) (r := 0) B K rfl rfl (⟨(Fj.rf).tr g_356 (by decide), (((((Fk.rf).tr f_338 (by decide)).tr f_346 (by decide)).u2 hI_349 hka (by decide)).u2 hI_350 hka (by decide)).tr f_355 (by decide), (((z_348).u2 hI_349 rfl).u2 hI_350 rfl).fk f_355 (by decide), ((((z_340).fk f_346 (by decide)).u2 hI_349 rfl).u2 hI_350 rfl).fk f_355 (by decide), v_360, rfl⟩) dX9_readFrom_64
set_option maxRecDepth 100000 in
set_option maxHeartbeats 4000000 in
theorem c_Order_goOn0 {l : Launch} {D : va_G} {cy : Nat → ClassId} {L : List Nat} {κ ln : Nat → Nat} {R : Nat → Nat → Option Nat} {I : Nat → Nat → Int32} {J : Nat → Nat → Int64} {ow : Nat → Nat × Nat} (W9 : ∀ a ∈ L, Shp L κ ln R ow a) {a : Nat} (hLa : a ∈ L) (hka : κ a = 4) : CtV l yX4_goOn cX4_goOn 9 none { frames := 1, cells := 0, slots := 0, locals := 100 } D cy L κ ln R I J [.ref a, .int 0, .int 0, .int 0] (fun I2 J2 => J = J2 ∧ Fk κ [4, 14] I I2 ∧ I2 a 4 = 0) := by
  refine CtV.of (by decide +kernel) (Nat.le_of_ble_eq_true rfl) ?_
  intro p e s m below meth c B K
  have C := B.1
  refine g_lo (is := [0, 1, 2, 3]) (lo2 := [(0, .ref a), (1, .int 0), (2, .int 0), (3, .int 0)]) rfl ?_
  refine g_iload_n C 2 dX4_goOn_0 rfl rfl ?_
  refine t_if_eq C (tgt := 10) (by decide) dX4_goOn_1 (by decide) ?_
  refine g_aload_n C 0 dX4_goOn_10 rfl rfl ?_
  refine g_iload_n C 3 dX4_goOn_11 rfl rfl ?_
  refine h_putI C K hLa hka f_4_28 p_4_4 dX4_goOn_12 (fun I_362 hI_362 => ?_)
  refine g_aload_n C 0 dX4_goOn_15 rfl rfl ?_
  obtain ⟨b_363, hb_363, hb_363L, hb_363k, hb_363n, hb_363o⟩ := shp_a (W9 a hLa) hka 1 14 7 rfl (by decide)
  refine g_getR C K hLa hka f_4_17 hb_363 dX4_goOn_16 ?_
  refine g_iconst C (v := 0) dX4_goOn_19 (by decide) ?_
  refine g_aload_n C 0 dX4_goOn_20 rfl rfl ?_
  obtain ⟨b_364, hb_364, hb_364L, hb_364k, hb_364n, hb_364o⟩ := shp_a (W9 a hLa) hka 2 14 7 rfl (by decide)
  refine g_getR C K hLa hka f_4_21 hb_364 dX4_goOn_21 ?_
  refine g_iconst C (v := 0) dX4_goOn_24 (by decide) ?_
  refine g_bipush C (v := 7) dX4_goOn_25 (by decide) ?_
  refine h_copyI C K hb_364L hb_364k hb_363L hb_363k ac_4_52 7 (by decide) (by decide) (by rw [hb_363n]; decide) (by rw [hb_364n]; decide) w_cp (Nat.le_of_ble_eq_true rfl) (Nat.le_of_ble_eq_true rfl) dX4_goOn_27 (fun I_365 hI_365 => ?_)
  exact g_vret B K rfl (⟨rfl, ((Fk.rf).u2 hI_362 hka (by decide)).k2 hI_365 hb_364k (by decide), by rw [hI_365, k2_k (κ := κ) (by rw [hka, hb_364k]; decide), hI_362]; exact u2_s⟩) dX4_goOn_30
set_option maxRecDepth 100000 in
set_option maxHeartbeats 4000000 in
theorem c_Order_findFrom0 {l : Launch} {D : va_G} {cy : Nat → ClassId} {L : List Nat} {κ ln : Nat → Nat} {R : Nat → Nat → Option Nat} {I : Nat → Nat → Int32} {J : Nat → Nat → Int64} {ow : Nat → Nat × Nat} (W9 : ∀ a ∈ L, Shp L κ ln R ow a) {a : Nat} (hLa : a ∈ L) (hka : κ a = 4) {b : Nat} (hLb : b ∈ L) (hkb : κ b = 1) (Z1 : Zk L κ 1 I) (Z8 : Zk L κ 8 I) : CtI l yX4_findFrom cX4_findFrom 2 (some .int) { frames := 3, cells := 0, slots := 0, locals := 200 } D cy L κ ln R I J [.ref a, .ref b] (fun r I2 J2 => J = J2 ∧ Fk κ [1, 4, 14] I I2 ∧ r = 0) := by
  refine CtI.of (by decide +kernel) (Nat.le_of_ble_eq_true rfl) ?_
  intro p e s m below meth c B K
  have C := B.1
  refine g_lo (is := [0, 1]) (lo2 := [(0, .ref a), (1, .ref b)]) rfl ?_
  refine g_aload_n C 0 dX4_findFrom_0 rfl rfl ?_
  refine g_aload_n C 1 dX4_findFrom_1 rfl rfl ?_
  refine g_callVI C K (c_Course_living0 W9 hLb hkb (Z1) (Z8)) hLb hkb (by decide) rfl v_4_34 rfl ⟨rfl, rfl⟩ ⟨Nat.le_of_ble_eq_true rfl, Nat.le_of_ble_eq_true rfl⟩ (Nat.le_of_ble_eq_true rfl) ⟨Nat.le_of_ble_eq_true rfl, Nat.le_of_ble_eq_true rfl⟩ dX4_findFrom_2 rfl (st := [.ref a]) (fun r_369 I_366 J_367 h_368 => ?_)
  obtain ⟨rfl, rfl, er_369⟩ := h_368
  have h0r_369 := er_369
  subst er_369
  refine g_callSI C K (c_bitCount0 ) s_4_38 rfl ⟨rfl, rfl⟩ ⟨Nat.le_of_ble_eq_true rfl, Nat.le_of_ble_eq_true rfl⟩ (Nat.le_of_ble_eq_true rfl) ⟨Nat.le_of_ble_eq_true rfl, Nat.le_of_ble_eq_true rfl⟩ dX4_findFrom_5 rfl (st := [.ref a]) (fun r_373 I_370 J_371 h_372 => ?_)
  obtain ⟨rfl, rfl, er_373⟩ := h_372
  have h0r_373 := er_373
  subst er_373
  refine h_putI C K hLa hka f_4_24 p_4_3 dX4_findFrom_8 (fun I_374 hI_374 => ?_)
  refine g_aload_n C 0 dX4_findFrom_11 rfl rfl ?_
  refine g_sipush C (v := 1000) dX4_findFrom_12 (by decide) ?_
  refine h_putI C K hLa hka f_4_28 p_4_4 dX4_findFrom_15 (fun I_375 hI_375 => ?_)
  refine g_aload_n C 0 dX4_findFrom_18 rfl rfl ?_
  obtain ⟨b_376, hb_376, hb_376L, hb_376k, hb_376n, hb_376o⟩ := shp_a (W9 a hLa) hka 0 17 8 rfl (by decide)
  refine g_getR C K hLa hka f_4_11 hb_376 dX4_findFrom_19 ?_
  refine g_iconst C (v := 0) dX4_findFrom_22 (by decide) ?_
  obtain ⟨b_377, hb_377, hb_377L, hb_377k⟩ := (W9 b_376 hb_376L).2.1 hb_376k (0) (by rw [hb_376n]; decide)
  refine h_aaldC C K hb_376L hb_376k (0) (by decide) (by decide) (by rw [hb_376n]; decide) hb_377 dX4_findFrom_23 ?_
  refine g_aload_n C 1 dX4_findFrom_24 rfl rfl ?_
  refine g_callVV C K (c_Course_become W9 hb_377L hb_377k hLb hkb (((Z1).u2 hI_374 rfl).u2k hI_375 hka (by decide))) hb_377L hb_377k (by decide) rfl v_4_44 rfl ⟨rfl, rfl⟩ ⟨Nat.le_of_ble_eq_true rfl, Nat.le_of_ble_eq_true rfl⟩ (Nat.le_of_ble_eq_true rfl) ⟨Nat.le_of_ble_eq_true rfl, Nat.le_of_ble_eq_true rfl⟩ dX4_findFrom_25 rfl (st := []) (fun I_378 J_379 h_380 => ?_)
  obtain ⟨rfl, f_382, z_384⟩ := h_380
  refine g_aload_n C 0 dX4_findFrom_28 rfl rfl ?_
  refine g_iconst C (v := 0) dX4_findFrom_29 (by decide) ?_
  refine g_aload_n C 1 dX4_findFrom_30 rfl rfl ?_
  refine g_callVI C K (c_Course_living0 W9 hLb hkb (z_384) ((((Z8).u2 hI_374 rfl).u2k hI_375 hka (by decide)).fk f_382 (by decide))) hLb hkb (by decide) rfl v_4_34 rfl ⟨rfl, rfl⟩ ⟨Nat.le_of_ble_eq_true rfl, Nat.le_of_ble_eq_true rfl⟩ (Nat.le_of_ble_eq_true rfl) ⟨Nat.le_of_ble_eq_true rfl, Nat.le_of_ble_eq_true rfl⟩ dX4_findFrom_31 rfl (st := [.int 0, .ref a]) (fun r_388 I_385 J_386 h_387 => ?_)
  obtain ⟨rfl, rfl, er_388⟩ := h_387
  have h0r_388 := er_388
  subst er_388
  refine g_iconst C (v := 0) dX4_findFrom_34 (by decide) ?_
  refine g_callVV C K (c_Order_goOn0 W9 hLa hka) hLa hka (by decide) rfl v_4_48 rfl ⟨rfl, rfl⟩ ⟨Nat.le_of_ble_eq_true rfl, Nat.le_of_ble_eq_true rfl⟩ (Nat.le_of_ble_eq_true rfl) ⟨Nat.le_of_ble_eq_true rfl, Nat.le_of_ble_eq_true rfl⟩ dX4_findFrom_35 rfl (st := []) (fun I_389 J_390 h_391 => ?_)
  obtain ⟨rfl, f_393, v_395⟩ := h_391
  refine g_aload_n C 0 dX4_findFrom_38 rfl rfl ?_
  refine g_getI C K hLa hka f_4_28 (v := 0) (v_395) dX4_findFrom_39 ?_
  exact g_zret (ty := .int) (r := 0) B K rfl rfl (⟨rfl, ((((Fk.rf).u2 hI_374 hka (by decide)).u2 hI_375 hka (by decide)).tr f_382 (by decide)).tr f_393 (by decide), rfl⟩) dX4_findFrom_42
set_option maxRecDepth 100000 in
set_option maxHeartbeats 4000000 in
theorem c_Seat_parentsAmong0 {l : Launch} {D : va_G} {cy : Nat → ClassId} {L : List Nat} {κ ln : Nat → Nat} {R : Nat → Nat → Option Nat} {I : Nat → Nat → Int32} {J : Nat → Nat → Int64} {a : Nat} (hLa : a ∈ L) (hka : κ a = 8) (h5 : I a 5 = 0) : CtI l yX6_parentsAmong cX6_parentsAmong 5 (some .int) { frames := 0, cells := 0, slots := 0, locals := 0 } D cy L κ ln R I J [.ref a, .int 0, .int 0] (fun r I2 J2 => I = I2 ∧ J = J2 ∧ r = 0) := by
  refine CtI.of (by decide +kernel) (Nat.le_of_ble_eq_true rfl) ?_
  intro p e s m below meth c B K
  have C := B.1
  refine g_lo (is := [0, 1, 2]) (lo2 := [(0, .ref a), (1, .int 0), (2, .int 0)]) rfl ?_
  refine g_iconst C (v := 0) dX6_parentsAmong_0 (by decide) ?_
  refine g_istore_n C dX6_parentsAmong_1 rfl (by decide) (lo2 := [(3, .int 0), (0, .ref a), (1, .int 0), (2, .int 0)]) rfl ?_
  refine g_iconst C (v := 0) dX6_parentsAmong_2 (by decide) ?_
  refine g_istore C dX6_parentsAmong_3 (by decide) (lo2 := [(4, .int 0), (3, .int 0), (0, .ref a), (1, .int 0), (2, .int 0)]) rfl ?_
  refine g_iload C 0 dX6_parentsAmong_5 rfl ?_
  refine g_aload_n C 2 dX6_parentsAmong_7 rfl rfl ?_
  refine g_getI C K hLa hka f_6_33 (v := 0) (h5) dX6_parentsAmong_8 ?_
  refine t_icmp_ge C (tgt := 43) (by decide) dX6_parentsAmong_11 (by decide) ?_
  refine g_iload_n C 1 dX6_parentsAmong_43 rfl rfl ?_
  exact g_zret (ty := .int) (r := 0) B K rfl rfl (⟨rfl, rfl, rfl⟩) dX6_parentsAmong_44
set_option maxRecDepth 100000 in
set_option maxHeartbeats 4000000 in
theorem c_Seat_seat0 {l : Launch} {D : va_G} {cy : Nat → ClassId} {L : List Nat} {κ ln : Nat → Nat} {R : Nat → Nat → Option Nat} {I : Nat → Nat → Int32} {J : Nat → Nat → Int64} {ow : Nat → Nat × Nat} (W9 : ∀ a ∈ L, Shp L κ ln R ow a) {a : Nat} (hLa : a ∈ L) (hka : κ a = 6) {b : Nat} (hLb : b ∈ L) (hkb : κ b = 1) (Z1 : Zk L κ 1 I) (Z8 : Zk L κ 8 I) : CtI l yX6_seat cX6_seat 9 (some .int) { frames := 2, cells := 0, slots := 0, locals := 150 } D cy L κ ln R I J [.ref a, .ref b] (fun r I2 J2 => J = J2 ∧ Fk κ [6] I I2 ∧ r = 0) := by
  refine CtI.of (by decide +kernel) (Nat.le_of_ble_eq_true rfl) ?_
  intro p e s m below meth c B K
  have C := B.1
  refine g_lo (is := [0, 1]) (lo2 := [(0, .ref a), (1, .ref b)]) rfl ?_
  refine g_aload_n C 1 dX6_seat_0 rfl rfl ?_
  obtain ⟨b_396, hb_396, hb_396L, hb_396k⟩ := shp_o (W9 b hLb) hkb 0 8 rfl (by decide)
  refine g_getR C K hLb hkb f_6_19 hb_396 dX6_seat_1 ?_
  refine g_astore_n C dX6_seat_4 rfl (by decide) (lo2 := [(2, .ref b_396), (0, .ref a), (1, .ref b)]) rfl ?_
  refine g_aload_n C 2 dX6_seat_5 rfl rfl ?_
  refine g_callVI C K (c_Course_living0 W9 hLb hkb (Z1) (Z8)) hLb hkb (by decide) rfl v_6_25 rfl ⟨rfl, rfl⟩ ⟨Nat.le_of_ble_eq_true rfl, Nat.le_of_ble_eq_true rfl⟩ (Nat.le_of_ble_eq_true rfl) ⟨Nat.le_of_ble_eq_true rfl, Nat.le_of_ble_eq_true rfl⟩ dX6_seat_6 rfl (st := []) (fun r_400 I_397 J_398 h_399 => ?_)
  obtain ⟨rfl, rfl, er_400⟩ := h_399
  have h0r_400 := er_400
  subst er_400
  refine g_istore_n C dX6_seat_9 rfl (by decide) (lo2 := [(3, .int 0), (2, .ref b_396), (0, .ref a), (1, .ref b)]) rfl ?_
  refine g_aload_n C 1 dX6_seat_10 rfl rfl ?_
  refine g_iload_n C 0 dX6_seat_11 rfl rfl ?_
  refine g_iload_n C 0 dX6_seat_12 rfl rfl ?_
  refine g_callSI C K (c_Seat_parentsAmong0 hb_396L hb_396k (Z8 b_396 hb_396L hb_396k 5)) s_6_29 rfl ⟨rfl, rfl⟩ ⟨Nat.le_of_ble_eq_true rfl, Nat.le_of_ble_eq_true rfl⟩ (Nat.le_of_ble_eq_true rfl) ⟨Nat.le_of_ble_eq_true rfl, Nat.le_of_ble_eq_true rfl⟩ dX6_seat_13 rfl (st := []) (fun r_404 I_401 J_402 h_403 => ?_)
  obtain ⟨rfl, rfl, er_404⟩ := h_403
  have h0r_404 := er_404
  subst er_404
  refine g_istore C dX6_seat_16 (by decide) (lo2 := [(4, .int 0), (3, .int 0), (2, .ref b_396), (0, .ref a), (1, .ref b)]) rfl ?_
  refine g_iconst C (v := 0) dX6_seat_18 (by decide) ?_
  refine g_istore C dX6_seat_19 (by decide) (lo2 := [(5, .int 0), (4, .int 0), (3, .int 0), (2, .ref b_396), (0, .ref a), (1, .ref b)]) rfl ?_
  refine g_iconst C (v := (-1)) dX6_seat_21 (by decide) ?_
  refine g_istore C dX6_seat_22 (by decide) (lo2 := [(6, .int (-1)), (5, .int 0), (4, .int 0), (3, .int 0), (2, .ref b_396), (0, .ref a), (1, .ref b)]) rfl ?_
  refine g_aload_n C 5 dX6_seat_24 rfl rfl ?_
  refine g_iconst C (v := 0) dX6_seat_25 (by decide) ?_
  refine h_putI C K hLa hka f_6_15 p_6_1 dX6_seat_26 (fun I_405 hI_405 => ?_)
  refine g_iconst C (v := 0) dX6_seat_29 (by decide) ?_
  refine g_istore C dX6_seat_30 (by decide) (lo2 := [(7, .int 0), (6, .int (-1)), (5, .int 0), (4, .int 0), (3, .int 0), (2, .ref b_396), (0, .ref a), (1, .ref b)]) rfl ?_
  refine g_iload C 0 dX6_seat_32 rfl ?_
  refine g_aload_n C 5 dX6_seat_34 rfl rfl ?_
  refine g_getI C K hb_396L hb_396k f_6_33 (v := 0) (by rw [hI_405, u2_j (by decide)]; exact Z8 b_396 hb_396L hb_396k 5) dX6_seat_35 ?_
  refine t_icmp_ge C (tgt := 130) (by decide) dX6_seat_38 (by decide) ?_
  refine g_iload C 2 dX6_seat_130 rfl ?_
  exact g_zret (ty := .int) (r := 0) B K rfl rfl (⟨rfl, (Fk.rf).u2 hI_405 hka (by decide), rfl⟩) dX6_seat_132
set_option maxRecDepth 100000 in
set_option maxHeartbeats 4000000 in
theorem c_Image_keep0 {l : Launch} {D : va_G} {cy : Nat → ClassId} {L : List Nat} {κ ln : Nat → Nat} {R : Nat → Nat → Option Nat} {I : Nat → Nat → Int32} {J : Nat → Nat → Int64} {ow : Nat → Nat × Nat} (W9 : ∀ a ∈ L, Shp L κ ln R ow a) {a : Nat} (hLa : a ∈ L) (hka : κ a = 3) {b : Nat} (hLb : b ∈ L) (hkb : κ b = 8) {c9 : Nat} (hLc9 : c9 ∈ L) (hkc9 : κ c9 = 1) {d : Nat} (hLd : d ∈ L) (hkd : κ d = 7) (Z1 : Zk L κ 1 I) (Z8 : Zk L κ 8 I) : CtV l yX3_keep cX3_keep 4 none { frames := 2, cells := 0, slots := 0, locals := 150 } D cy L κ ln R I J [.ref a, .ref b, .ref c9, .ref d] (fun I2 J2 => Fj κ [15] J J2 ∧ Fk κ [1, 3, 7, 8, 14] I I2) := by
  refine CtV.of (by decide +kernel) (Nat.le_of_ble_eq_true rfl) ?_
  intro p e s m below meth c B K
  have C := B.1
  refine g_lo (is := [0, 1, 2, 3]) (lo2 := [(0, .ref a), (1, .ref b), (2, .ref c9), (3, .ref d)]) rfl ?_
  refine g_aload_n C 0 dX3_keep_0 rfl rfl ?_
  obtain ⟨b_406, hb_406, hb_406L, hb_406k⟩ := shp_o (W9 a hLa) hka 0 8 rfl (by decide)
  refine g_getR C K hLa hka f_3_10 hb_406 dX3_keep_1 ?_
  refine g_aload_n C 1 dX3_keep_4 rfl rfl ?_
  refine g_callVV C K (c_Table_become W9 hb_406L hb_406k hLb hkb (Z8)) hb_406L hb_406k (by decide) rfl v_3_36 rfl ⟨rfl, rfl⟩ ⟨Nat.le_of_ble_eq_true rfl, Nat.le_of_ble_eq_true rfl⟩ (Nat.le_of_ble_eq_true rfl) ⟨Nat.le_of_ble_eq_true rfl, Nat.le_of_ble_eq_true rfl⟩ dX3_keep_5 rfl (st := []) (fun I_407 J_408 h_409 => ?_)
  obtain ⟨g_412, f_411, z_413⟩ := h_409
  refine g_aload_n C 0 dX3_keep_8 rfl rfl ?_
  obtain ⟨b_414, hb_414, hb_414L, hb_414k⟩ := shp_o (W9 a hLa) hka 1 1 rfl (by decide)
  refine g_getR C K hLa hka f_3_21 hb_414 dX3_keep_9 ?_
  refine g_aload_n C 2 dX3_keep_12 rfl rfl ?_
  refine g_callVV C K (c_Course_become W9 hb_414L hb_414k hLc9 hkc9 ((Z1).fk f_411 (by decide))) hb_414L hb_414k (by decide) rfl v_3_39 rfl ⟨rfl, rfl⟩ ⟨Nat.le_of_ble_eq_true rfl, Nat.le_of_ble_eq_true rfl⟩ (Nat.le_of_ble_eq_true rfl) ⟨Nat.le_of_ble_eq_true rfl, Nat.le_of_ble_eq_true rfl⟩ dX3_keep_13 rfl (st := []) (fun I_415 J_416 h_417 => ?_)
  obtain ⟨rfl, f_419, z_421⟩ := h_417
  refine g_aload_n C 0 dX3_keep_16 rfl rfl ?_
  obtain ⟨b_422, hb_422, hb_422L, hb_422k⟩ := shp_o (W9 a hLa) hka 2 7 rfl (by decide)
  refine g_getR C K hLa hka f_3_28 hb_422 dX3_keep_17 ?_
  refine g_aload_n C 3 dX3_keep_20 rfl rfl ?_
  refine g_callVV C K (c_Sen_become W9 hb_422L hb_422k hLd hkd) hb_422L hb_422k (by decide) rfl v_3_42 rfl ⟨rfl, rfl⟩ ⟨Nat.le_of_ble_eq_true rfl, Nat.le_of_ble_eq_true rfl⟩ (Nat.le_of_ble_eq_true rfl) ⟨Nat.le_of_ble_eq_true rfl, Nat.le_of_ble_eq_true rfl⟩ dX3_keep_21 rfl (st := []) (fun I_423 J_424 h_425 => ?_)
  obtain ⟨rfl, f_427⟩ := h_425
  refine g_aload_n C 0 dX3_keep_24 rfl rfl ?_
  refine g_iconst C (v := 1) dX3_keep_25 (by decide) ?_
  refine h_putZ C K hLa hka f_3_32 p_3_3 (Or.inr rfl) dX3_keep_26 (fun I_429 hI_429 => ?_)
  exact g_vret B K rfl (⟨(Fj.rf).tr g_412 (by decide), ((((Fk.rf).tr f_411 (by decide)).tr f_419 (by decide)).tr f_427 (by decide)).u2 hI_429 hka (by decide)⟩) dX3_keep_29
