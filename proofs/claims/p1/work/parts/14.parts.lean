theorem dX0_judgeBy_0 : decode cX0_judgeBy 0 = .ok (.aload_n 0, 1) := by decide +kernel
theorem dX0_judgeBy_1 : decode cX0_judgeBy 1 = .ok (.iconst 1, 1) := by decide +kernel
theorem dX0_judgeBy_2 : decode cX0_judgeBy 2 = .ok (.putfield 28, 3) := by decide +kernel
theorem dX0_judgeBy_5 : decode cX0_judgeBy 5 = .ok (.aload_n 0, 1) := by decide +kernel
theorem dX0_judgeBy_6 : decode cX0_judgeBy 6 = .ok (.iconst 0, 1) := by decide +kernel
theorem dX0_judgeBy_7 : decode cX0_judgeBy 7 = .ok (.putfield 32, 3) := by decide +kernel
theorem dX0_judgeBy_10 : decode cX0_judgeBy 10 = .ok (.aload_n 0, 1) := by decide +kernel
theorem dX0_judgeBy_11 : decode cX0_judgeBy 11 = .ok (.iconst 0, 1) := by decide +kernel
theorem dX0_judgeBy_12 : decode cX0_judgeBy 12 = .ok (.putfield 35, 3) := by decide +kernel
theorem dX0_judgeBy_15 : decode cX0_judgeBy 15 = .ok (.aload_n 0, 1) := by decide +kernel
theorem dX0_judgeBy_16 : decode cX0_judgeBy 16 = .ok (.getfield 35, 3) := by decide +kernel
theorem dX0_judgeBy_19 : decode cX0_judgeBy 19 = .ok (.aload_n 0, 1) := by decide +kernel
theorem dX0_judgeBy_20 : decode cX0_judgeBy 20 = .ok (.getfield 24, 3) := by decide +kernel
theorem dX0_judgeBy_23 : decode cX0_judgeBy 23 = .ok (.if_icmp .ge 43, 3) := by decide +kernel
theorem dX0_judgeBy_66 : decode cX0_judgeBy 66 = .ok (.aload_n 0, 1) := by decide +kernel
theorem dX0_judgeBy_67 : decode cX0_judgeBy 67 = .ok (.aload_n 1, 1) := by decide +kernel
theorem dX0_judgeBy_68 : decode cX0_judgeBy 68 = .ok (.getfield 98, 3) := by decide +kernel
theorem dX0_judgeBy_71 : decode cX0_judgeBy 71 = .ok (.putfield 38, 3) := by decide +kernel
theorem dX0_judgeBy_74 : decode cX0_judgeBy 74 = .ok (.aload_n 0, 1) := by decide +kernel
theorem dX0_judgeBy_75 : decode cX0_judgeBy 75 = .ok (.aload_n 1, 1) := by decide +kernel
theorem dX0_judgeBy_76 : decode cX0_judgeBy 76 = .ok (.getfield 103, 3) := by decide +kernel
theorem dX0_judgeBy_79 : decode cX0_judgeBy 79 = .ok (.putfield 41, 3) := by decide +kernel
theorem dX0_judgeBy_82 : decode cX0_judgeBy 82 = .ok (.return_, 1) := by decide +kernel
theorem dX0_readFrom_0 : decode cX0_readFrom 0 = .ok (.aload_n 1, 1) := by decide +kernel
theorem dX0_readFrom_1 : decode cX0_readFrom 1 = .ok (.sipush 400, 3) := by decide +kernel
theorem dX0_readFrom_4 : decode cX0_readFrom 4 = .ok (.invokevirtual 44, 3) := by decide +kernel
theorem dX0_readFrom_7 : decode cX0_readFrom 7 = .ok (.aload_n 0, 1) := by decide +kernel
theorem dX0_readFrom_8 : decode cX0_readFrom 8 = .ok (.iconst 0, 1) := by decide +kernel
theorem dX0_readFrom_9 : decode cX0_readFrom 9 = .ok (.putfield 24, 3) := by decide +kernel
theorem dX0_readFrom_12 : decode cX0_readFrom 12 = .ok (.aload_n 0, 1) := by decide +kernel
theorem dX0_readFrom_13 : decode cX0_readFrom 13 = .ok (.getfield 24, 3) := by decide +kernel
theorem dX0_readFrom_16 : decode cX0_readFrom 16 = .ok (.bipush 40, 2) := by decide +kernel
theorem dX0_readFrom_18 : decode cX0_readFrom 18 = .ok (.if_icmp .gt 34, 3) := by decide +kernel
theorem dX0_readFrom_21 : decode cX0_readFrom 21 = .ok (.aload_n 1, 1) := by decide +kernel
theorem dX0_readFrom_22 : decode cX0_readFrom 22 = .ok (.getfield 50, 3) := by decide +kernel
theorem dX0_readFrom_25 : decode cX0_readFrom 25 = .ok (.bipush 102, 2) := by decide +kernel
theorem dX0_readFrom_27 : decode cX0_readFrom 27 = .ok (.if_icmp .eq 25, 3) := by decide +kernel
theorem dX0_readFrom_52 : decode cX0_readFrom 52 = .ok (.return_, 1) := by decide +kernel
theorem dX1_allEaten_0 : decode cX1_allEaten 0 = .ok (.iconst 0, 1) := by decide +kernel
theorem dX1_allEaten_1 : decode cX1_allEaten 1 = .ok (.istore_n 1, 1) := by decide +kernel
theorem dX1_allEaten_2 : decode cX1_allEaten 2 = .ok (.iconst 0, 1) := by decide +kernel
theorem dX1_allEaten_3 : decode cX1_allEaten 3 = .ok (.istore_n 2, 1) := by decide +kernel
theorem dX1_allEaten_4 : decode cX1_allEaten 4 = .ok (.iload_n 2, 1) := by decide +kernel
theorem dX1_allEaten_5 : decode cX1_allEaten 5 = .ok (.aload_n 0, 1) := by decide +kernel
theorem dX1_allEaten_6 : decode cX1_allEaten 6 = .ok (.getfield 52, 3) := by decide +kernel
theorem dX1_allEaten_9 : decode cX1_allEaten 9 = .ok (.getfield 68, 3) := by decide +kernel
theorem dX1_allEaten_12 : decode cX1_allEaten 12 = .ok (.if_icmp .ge 18, 3) := by decide +kernel
theorem dX1_allEaten_30 : decode cX1_allEaten 30 = .ok (.iload_n 1, 1) := by decide +kernel
theorem dX1_allEaten_31 : decode cX1_allEaten 31 = .ok (.ireturn, 1) := by decide +kernel
theorem dX1_allHunger_0 : decode cX1_allHunger 0 = .ok (.iconst 0, 1) := by decide +kernel
theorem dX1_allHunger_1 : decode cX1_allHunger 1 = .ok (.istore_n 1, 1) := by decide +kernel
theorem dX1_allHunger_2 : decode cX1_allHunger 2 = .ok (.iconst 0, 1) := by decide +kernel
theorem dX1_allHunger_3 : decode cX1_allHunger 3 = .ok (.istore_n 2, 1) := by decide +kernel
theorem dX1_allHunger_4 : decode cX1_allHunger 4 = .ok (.iload_n 2, 1) := by decide +kernel
theorem dX1_allHunger_5 : decode cX1_allHunger 5 = .ok (.aload_n 0, 1) := by decide +kernel
theorem dX1_allHunger_6 : decode cX1_allHunger 6 = .ok (.getfield 52, 3) := by decide +kernel
theorem dX1_allHunger_9 : decode cX1_allHunger 9 = .ok (.getfield 68, 3) := by decide +kernel
theorem dX1_allHunger_12 : decode cX1_allHunger 12 = .ok (.if_icmp .ge 18, 3) := by decide +kernel
theorem dX1_allHunger_30 : decode cX1_allHunger 30 = .ok (.iload_n 1, 1) := by decide +kernel
theorem dX1_allHunger_31 : decode cX1_allHunger 31 = .ok (.ireturn, 1) := by decide +kernel
theorem dX1_endMeal_0 : decode cX1_endMeal 0 = .ok (.iconst 0, 1) := by decide +kernel
theorem dX1_endMeal_1 : decode cX1_endMeal 1 = .ok (.istore_n 1, 1) := by decide +kernel
theorem dX1_endMeal_2 : decode cX1_endMeal 2 = .ok (.iload_n 1, 1) := by decide +kernel
theorem dX1_endMeal_3 : decode cX1_endMeal 3 = .ok (.aload_n 0, 1) := by decide +kernel
theorem dX1_endMeal_4 : decode cX1_endMeal 4 = .ok (.getfield 52, 3) := by decide +kernel
theorem dX1_endMeal_7 : decode cX1_endMeal 7 = .ok (.getfield 68, 3) := by decide +kernel
theorem dX1_endMeal_10 : decode cX1_endMeal 10 = .ok (.if_icmp .ge 94, 3) := by decide +kernel
theorem dX1_endMeal_104 : decode cX1_endMeal 104 = .ok (.aload_n 0, 1) := by decide +kernel
theorem dX1_endMeal_105 : decode cX1_endMeal 105 = .ok (.dup, 1) := by decide +kernel
theorem dX1_endMeal_106 : decode cX1_endMeal 106 = .ok (.getfield 37, 3) := by decide +kernel
theorem dX1_endMeal_109 : decode cX1_endMeal 109 = .ok (.iconst 1, 1) := by decide +kernel
theorem dX1_endMeal_110 : decode cX1_endMeal 110 = .ok (.iadd, 1) := by decide +kernel
theorem dX1_endMeal_111 : decode cX1_endMeal 111 = .ok (.putfield 37, 3) := by decide +kernel
theorem dX1_endMeal_114 : decode cX1_endMeal 114 = .ok (.return_, 1) := by decide +kernel
theorem dX1_letMealsGo_0 : decode cX1_letMealsGo 0 = .ok (.iconst 0, 1) := by decide +kernel
theorem dX1_letMealsGo_1 : decode cX1_letMealsGo 1 = .ok (.istore_n 2, 1) := by decide +kernel
theorem dX1_letMealsGo_2 : decode cX1_letMealsGo 2 = .ok (.iload_n 2, 1) := by decide +kernel
theorem dX1_letMealsGo_3 : decode cX1_letMealsGo 3 = .ok (.iload_n 1, 1) := by decide +kernel
theorem dX1_letMealsGo_4 : decode cX1_letMealsGo 4 = .ok (.if_icmp .ge 23, 3) := by decide +kernel
theorem dX1_letMealsGo_7 : decode cX1_letMealsGo 7 = .ok (.aload_n 0, 1) := by decide +kernel
theorem dX1_letMealsGo_8 : decode cX1_letMealsGo 8 = .ok (.getfield 37, 3) := by decide +kernel
theorem dX1_letMealsGo_11 : decode cX1_letMealsGo 11 = .ok (.sipush 200, 3) := by decide +kernel
theorem dX1_letMealsGo_14 : decode cX1_letMealsGo 14 = .ok (.if_icmp .ge 13, 3) := by decide +kernel
theorem dX1_letMealsGo_17 : decode cX1_letMealsGo 17 = .ok (.aload_n 0, 1) := by decide +kernel
theorem dX1_letMealsGo_18 : decode cX1_letMealsGo 18 = .ok (.invokevirtual 126, 3) := by decide +kernel
theorem dX1_letMealsGo_21 : decode cX1_letMealsGo 21 = .ok (.iinc 2 1, 3) := by decide +kernel
theorem dX1_letMealsGo_24 : decode cX1_letMealsGo 24 = .ok (.goto (-22), 3) := by decide +kernel
theorem dX1_letMealsGo_27 : decode cX1_letMealsGo 27 = .ok (.iload_n 2, 1) := by decide +kernel
theorem dX1_letMealsGo_28 : decode cX1_letMealsGo 28 = .ok (.ireturn, 1) := by decide +kernel
theorem dX1_living_0 : decode cX1_living 0 = .ok (.aload_n 0, 1) := by decide +kernel
theorem dX1_living_1 : decode cX1_living 1 = .ok (.getfield 52, 3) := by decide +kernel
theorem dX1_living_4 : decode cX1_living 4 = .ok (.invokevirtual 62, 3) := by decide +kernel
theorem dX1_living_7 : decode cX1_living 7 = .ok (.aload_n 0, 1) := by decide +kernel
theorem dX1_living_8 : decode cX1_living 8 = .ok (.getfield 30, 3) := by decide +kernel
theorem dX1_living_11 : decode cX1_living 11 = .ok (.iconst (-1), 1) := by decide +kernel
theorem dX1_living_12 : decode cX1_living 12 = .ok (.ixor, 1) := by decide +kernel
theorem dX1_living_13 : decode cX1_living 13 = .ok (.iand, 1) := by decide +kernel
theorem dX1_living_14 : decode cX1_living 14 = .ok (.ireturn, 1) := by decide +kernel
theorem dX3_keep_0 : decode cX3_keep 0 = .ok (.aload_n 0, 1) := by decide +kernel
theorem dX3_keep_1 : decode cX3_keep 1 = .ok (.getfield 10, 3) := by decide +kernel
theorem dX3_keep_4 : decode cX3_keep 4 = .ok (.aload_n 1, 1) := by decide +kernel
theorem dX3_keep_5 : decode cX3_keep 5 = .ok (.invokevirtual 36, 3) := by decide +kernel
theorem dX3_keep_8 : decode cX3_keep 8 = .ok (.aload_n 0, 1) := by decide +kernel
theorem dX3_keep_9 : decode cX3_keep 9 = .ok (.getfield 21, 3) := by decide +kernel
theorem dX3_keep_12 : decode cX3_keep 12 = .ok (.aload_n 2, 1) := by decide +kernel
theorem dX3_keep_13 : decode cX3_keep 13 = .ok (.invokevirtual 39, 3) := by decide +kernel
theorem dX3_keep_16 : decode cX3_keep 16 = .ok (.aload_n 0, 1) := by decide +kernel
theorem dX3_keep_17 : decode cX3_keep 17 = .ok (.getfield 28, 3) := by decide +kernel
theorem dX3_keep_20 : decode cX3_keep 20 = .ok (.aload_n 3, 1) := by decide +kernel
theorem dX3_keep_21 : decode cX3_keep 21 = .ok (.invokevirtual 42, 3) := by decide +kernel
theorem dX3_keep_24 : decode cX3_keep 24 = .ok (.aload_n 0, 1) := by decide +kernel
theorem dX3_keep_25 : decode cX3_keep 25 = .ok (.iconst 1, 1) := by decide +kernel
theorem dX3_keep_26 : decode cX3_keep 26 = .ok (.putfield 32, 3) := by decide +kernel
theorem dX3_keep_29 : decode cX3_keep 29 = .ok (.return_, 1) := by decide +kernel
theorem dX4_findFrom_0 : decode cX4_findFrom 0 = .ok (.aload_n 0, 1) := by decide +kernel
theorem dX4_findFrom_1 : decode cX4_findFrom 1 = .ok (.aload_n 1, 1) := by decide +kernel
theorem dX4_findFrom_2 : decode cX4_findFrom 2 = .ok (.invokevirtual 34, 3) := by decide +kernel
theorem dX4_findFrom_5 : decode cX4_findFrom 5 = .ok (.invokestatic 38, 3) := by decide +kernel
theorem dX4_findFrom_8 : decode cX4_findFrom 8 = .ok (.putfield 24, 3) := by decide +kernel
theorem dX4_findFrom_11 : decode cX4_findFrom 11 = .ok (.aload_n 0, 1) := by decide +kernel
theorem dX4_findFrom_12 : decode cX4_findFrom 12 = .ok (.sipush 1000, 3) := by decide +kernel
theorem dX4_findFrom_15 : decode cX4_findFrom 15 = .ok (.putfield 28, 3) := by decide +kernel
theorem dX4_findFrom_18 : decode cX4_findFrom 18 = .ok (.aload_n 0, 1) := by decide +kernel
theorem dX4_findFrom_19 : decode cX4_findFrom 19 = .ok (.getfield 11, 3) := by decide +kernel
theorem dX4_findFrom_22 : decode cX4_findFrom 22 = .ok (.iconst 0, 1) := by decide +kernel
theorem dX4_findFrom_23 : decode cX4_findFrom 23 = .ok (.aaload, 1) := by decide +kernel
theorem dX4_findFrom_24 : decode cX4_findFrom 24 = .ok (.aload_n 1, 1) := by decide +kernel
theorem dX4_findFrom_25 : decode cX4_findFrom 25 = .ok (.invokevirtual 44, 3) := by decide +kernel
theorem dX4_findFrom_28 : decode cX4_findFrom 28 = .ok (.aload_n 0, 1) := by decide +kernel
theorem dX4_findFrom_29 : decode cX4_findFrom 29 = .ok (.iconst 0, 1) := by decide +kernel
theorem dX4_findFrom_30 : decode cX4_findFrom 30 = .ok (.aload_n 1, 1) := by decide +kernel
theorem dX4_findFrom_31 : decode cX4_findFrom 31 = .ok (.invokevirtual 34, 3) := by decide +kernel
theorem dX4_findFrom_34 : decode cX4_findFrom 34 = .ok (.iconst 0, 1) := by decide +kernel
theorem dX4_findFrom_35 : decode cX4_findFrom 35 = .ok (.invokevirtual 48, 3) := by decide +kernel
theorem dX4_findFrom_38 : decode cX4_findFrom 38 = .ok (.aload_n 0, 1) := by decide +kernel
theorem dX4_findFrom_39 : decode cX4_findFrom 39 = .ok (.getfield 28, 3) := by decide +kernel
theorem dX4_findFrom_42 : decode cX4_findFrom 42 = .ok (.ireturn, 1) := by decide +kernel
theorem dX4_goOn_0 : decode cX4_goOn 0 = .ok (.iload_n 2, 1) := by decide +kernel
theorem dX4_goOn_1 : decode cX4_goOn 1 = .ok (.ifCond .eq 9, 3) := by decide +kernel
theorem dX4_goOn_10 : decode cX4_goOn 10 = .ok (.aload_n 0, 1) := by decide +kernel
theorem dX4_goOn_11 : decode cX4_goOn 11 = .ok (.iload_n 3, 1) := by decide +kernel
theorem dX4_goOn_12 : decode cX4_goOn 12 = .ok (.putfield 28, 3) := by decide +kernel
theorem dX4_goOn_15 : decode cX4_goOn 15 = .ok (.aload_n 0, 1) := by decide +kernel
theorem dX4_goOn_16 : decode cX4_goOn 16 = .ok (.getfield 17, 3) := by decide +kernel
theorem dX4_goOn_19 : decode cX4_goOn 19 = .ok (.iconst 0, 1) := by decide +kernel
theorem dX4_goOn_20 : decode cX4_goOn 20 = .ok (.aload_n 0, 1) := by decide +kernel
theorem dX4_goOn_21 : decode cX4_goOn 21 = .ok (.getfield 21, 3) := by decide +kernel
theorem dX4_goOn_24 : decode cX4_goOn 24 = .ok (.iconst 0, 1) := by decide +kernel
theorem dX4_goOn_25 : decode cX4_goOn 25 = .ok (.bipush 7, 2) := by decide +kernel
theorem dX4_goOn_27 : decode cX4_goOn 27 = .ok (.invokestatic 52, 3) := by decide +kernel
theorem dX4_goOn_30 : decode cX4_goOn 30 = .ok (.return_, 1) := by decide +kernel
theorem dX5_forget_0 : decode cX5_forget 0 = .ok (.aload_n 0, 1) := by decide +kernel
theorem dX5_forget_1 : decode cX5_forget 1 = .ok (.iconst 0, 1) := by decide +kernel
theorem dX5_forget_2 : decode cX5_forget 2 = .ok (.putfield 17, 3) := by decide +kernel
theorem dX5_forget_5 : decode cX5_forget 5 = .ok (.return_, 1) := by decide +kernel
theorem dX5_keepNoted_0 : decode cX5_keepNoted 0 = .ok (.aload_n 0, 1) := by decide +kernel
theorem dX5_keepNoted_1 : decode cX5_keepNoted 1 = .ok (.aload_n 0, 1) := by decide +kernel
theorem dX5_keepNoted_2 : decode cX5_keepNoted 2 = .ok (.getfield 21, 3) := by decide +kernel
theorem dX5_keepNoted_5 : decode cX5_keepNoted 5 = .ok (.iconst 1, 1) := by decide +kernel
theorem dX5_keepNoted_6 : decode cX5_keepNoted 6 = .ok (.iadd, 1) := by decide +kernel
theorem dX5_keepNoted_7 : decode cX5_keepNoted 7 = .ok (.bipush 9, 2) := by decide +kernel
theorem dX5_keepNoted_9 : decode cX5_keepNoted 9 = .ok (.if_icmp .ge 12, 3) := by decide +kernel
theorem dX5_keepNoted_12 : decode cX5_keepNoted 12 = .ok (.aload_n 0, 1) := by decide +kernel
theorem dX5_keepNoted_13 : decode cX5_keepNoted 13 = .ok (.getfield 21, 3) := by decide +kernel
theorem dX5_keepNoted_16 : decode cX5_keepNoted 16 = .ok (.iconst 1, 1) := by decide +kernel
theorem dX5_keepNoted_17 : decode cX5_keepNoted 17 = .ok (.iadd, 1) := by decide +kernel
theorem dX5_keepNoted_18 : decode cX5_keepNoted 18 = .ok (.goto 4, 3) := by decide +kernel
theorem dX5_keepNoted_22 : decode cX5_keepNoted 22 = .ok (.putfield 21, 3) := by decide +kernel
theorem dX5_keepNoted_25 : decode cX5_keepNoted 25 = .ok (.aload_n 0, 1) := by decide +kernel
theorem dX5_keepNoted_26 : decode cX5_keepNoted 26 = .ok (.aload_n 0, 1) := by decide +kernel
theorem dX5_keepNoted_27 : decode cX5_keepNoted 27 = .ok (.getfield 17, 3) := by decide +kernel
theorem dX5_keepNoted_30 : decode cX5_keepNoted 30 = .ok (.iconst 1, 1) := by decide +kernel
theorem dX5_keepNoted_31 : decode cX5_keepNoted 31 = .ok (.iadd, 1) := by decide +kernel
theorem dX5_keepNoted_32 : decode cX5_keepNoted 32 = .ok (.bipush 8, 2) := by decide +kernel
theorem dX5_keepNoted_34 : decode cX5_keepNoted 34 = .ok (.invokestatic 31, 3) := by decide +kernel
theorem dX5_keepNoted_37 : decode cX5_keepNoted 37 = .ok (.putfield 17, 3) := by decide +kernel
theorem dX5_keepNoted_40 : decode cX5_keepNoted 40 = .ok (.return_, 1) := by decide +kernel
theorem dX5_note_0 : decode cX5_note 0 = .ok (.aload_n 0, 1) := by decide +kernel
theorem dX5_note_1 : decode cX5_note 1 = .ok (.getfield 13, 3) := by decide +kernel
theorem dX5_note_4 : decode cX5_note 4 = .ok (.aload_n 0, 1) := by decide +kernel
theorem dX5_note_5 : decode cX5_note 5 = .ok (.getfield 21, 3) := by decide +kernel
theorem dX5_note_8 : decode cX5_note 8 = .ok (.aaload, 1) := by decide +kernel
theorem dX5_note_9 : decode cX5_note 9 = .ok (.aload_n 1, 1) := by decide +kernel
theorem dX5_note_10 : decode cX5_note 10 = .ok (.invokevirtual 27, 3) := by decide +kernel
theorem dX5_note_13 : decode cX5_note 13 = .ok (.return_, 1) := by decide +kernel
theorem dX5_takeBack_0 : decode cX5_takeBack 0 = .ok (.aload_n 0, 1) := by decide +kernel
theorem dX5_takeBack_1 : decode cX5_takeBack 1 = .ok (.getfield 17, 3) := by decide +kernel
theorem dX5_takeBack_4 : decode cX5_takeBack 4 = .ok (.ifCond .ne 5, 3) := by decide +kernel
theorem dX5_takeBack_7 : decode cX5_takeBack 7 = .ok (.iconst (-1), 1) := by decide +kernel
theorem dX5_takeBack_8 : decode cX5_takeBack 8 = .ok (.ireturn, 1) := by decide +kernel
theorem dX6_parentsAmong_0 : decode cX6_parentsAmong 0 = .ok (.iconst 0, 1) := by decide +kernel
theorem dX6_parentsAmong_1 : decode cX6_parentsAmong 1 = .ok (.istore_n 3, 1) := by decide +kernel
theorem dX6_parentsAmong_2 : decode cX6_parentsAmong 2 = .ok (.iconst 0, 1) := by decide +kernel
theorem dX6_parentsAmong_3 : decode cX6_parentsAmong 3 = .ok (.istore 4, 2) := by decide +kernel
theorem dX6_parentsAmong_5 : decode cX6_parentsAmong 5 = .ok (.iload 4, 2) := by decide +kernel
theorem dX6_parentsAmong_7 : decode cX6_parentsAmong 7 = .ok (.aload_n 0, 1) := by decide +kernel
theorem dX6_parentsAmong_8 : decode cX6_parentsAmong 8 = .ok (.getfield 33, 3) := by decide +kernel
theorem dX6_parentsAmong_11 : decode cX6_parentsAmong 11 = .ok (.if_icmp .ge 32, 3) := by decide +kernel
theorem dX6_parentsAmong_43 : decode cX6_parentsAmong 43 = .ok (.iload_n 3, 1) := by decide +kernel
theorem dX6_parentsAmong_44 : decode cX6_parentsAmong 44 = .ok (.ireturn, 1) := by decide +kernel
theorem dX6_seat_0 : decode cX6_seat 0 = .ok (.aload_n 1, 1) := by decide +kernel
theorem dX6_seat_1 : decode cX6_seat 1 = .ok (.getfield 19, 3) := by decide +kernel
theorem dX6_seat_4 : decode cX6_seat 4 = .ok (.astore_n 2, 1) := by decide +kernel
theorem dX6_seat_5 : decode cX6_seat 5 = .ok (.aload_n 1, 1) := by decide +kernel
theorem dX6_seat_6 : decode cX6_seat 6 = .ok (.invokevirtual 25, 3) := by decide +kernel
theorem dX6_seat_9 : decode cX6_seat 9 = .ok (.istore_n 3, 1) := by decide +kernel
theorem dX6_seat_10 : decode cX6_seat 10 = .ok (.aload_n 2, 1) := by decide +kernel
theorem dX6_seat_11 : decode cX6_seat 11 = .ok (.iload_n 3, 1) := by decide +kernel
theorem dX6_seat_12 : decode cX6_seat 12 = .ok (.iload_n 3, 1) := by decide +kernel
theorem dX6_seat_13 : decode cX6_seat 13 = .ok (.invokestatic 29, 3) := by decide +kernel
theorem dX6_seat_16 : decode cX6_seat 16 = .ok (.istore 4, 2) := by decide +kernel
theorem dX6_seat_18 : decode cX6_seat 18 = .ok (.iconst 0, 1) := by decide +kernel
theorem dX6_seat_19 : decode cX6_seat 19 = .ok (.istore 5, 2) := by decide +kernel
theorem dX6_seat_21 : decode cX6_seat 21 = .ok (.iconst (-1), 1) := by decide +kernel
theorem dX6_seat_22 : decode cX6_seat 22 = .ok (.istore 6, 2) := by decide +kernel
theorem dX6_seat_24 : decode cX6_seat 24 = .ok (.aload_n 0, 1) := by decide +kernel
theorem dX6_seat_25 : decode cX6_seat 25 = .ok (.iconst 0, 1) := by decide +kernel
theorem dX6_seat_26 : decode cX6_seat 26 = .ok (.putfield 15, 3) := by decide +kernel
theorem dX6_seat_29 : decode cX6_seat 29 = .ok (.iconst 0, 1) := by decide +kernel
theorem dX6_seat_30 : decode cX6_seat 30 = .ok (.istore 7, 2) := by decide +kernel
theorem dX6_seat_32 : decode cX6_seat 32 = .ok (.iload 7, 2) := by decide +kernel
theorem dX6_seat_34 : decode cX6_seat 34 = .ok (.aload_n 2, 1) := by decide +kernel
theorem dX6_seat_35 : decode cX6_seat 35 = .ok (.getfield 33, 3) := by decide +kernel
theorem dX6_seat_38 : decode cX6_seat 38 = .ok (.if_icmp .ge 92, 3) := by decide +kernel
theorem dX6_seat_130 : decode cX6_seat 130 = .ok (.iload 5, 2) := by decide +kernel
theorem dX6_seat_132 : decode cX6_seat 132 = .ok (.ireturn, 1) := by decide +kernel
theorem dX7_become_0 : decode cX7_become 0 = .ok (.aload_n 1, 1) := by decide +kernel
theorem dX7_become_1 : decode cX7_become 1 = .ok (.getfield 11, 3) := by decide +kernel
theorem dX7_become_4 : decode cX7_become 4 = .ok (.iconst 0, 1) := by decide +kernel
theorem dX7_become_5 : decode cX7_become 5 = .ok (.aload_n 0, 1) := by decide +kernel
theorem dX7_become_6 : decode cX7_become 6 = .ok (.getfield 11, 3) := by decide +kernel
theorem dX7_become_9 : decode cX7_become 9 = .ok (.iconst 0, 1) := by decide +kernel
theorem dX7_become_10 : decode cX7_become 10 = .ok (.bipush 40, 2) := by decide +kernel
theorem dX7_become_12 : decode cX7_become 12 = .ok (.invokestatic 31, 3) := by decide +kernel
theorem dX7_become_15 : decode cX7_become 15 = .ok (.aload_n 1, 1) := by decide +kernel
theorem dX7_become_16 : decode cX7_become 16 = .ok (.getfield 15, 3) := by decide +kernel
theorem dX7_become_19 : decode cX7_become 19 = .ok (.iconst 0, 1) := by decide +kernel
theorem dX7_become_20 : decode cX7_become 20 = .ok (.aload_n 0, 1) := by decide +kernel
theorem dX7_become_21 : decode cX7_become 21 = .ok (.getfield 15, 3) := by decide +kernel
theorem dX7_become_24 : decode cX7_become 24 = .ok (.iconst 0, 1) := by decide +kernel
theorem dX7_become_25 : decode cX7_become 25 = .ok (.bipush 40, 2) := by decide +kernel
theorem dX7_become_27 : decode cX7_become 27 = .ok (.invokestatic 31, 3) := by decide +kernel
theorem dX7_become_30 : decode cX7_become 30 = .ok (.aload_n 1, 1) := by decide +kernel
theorem dX7_become_31 : decode cX7_become 31 = .ok (.getfield 18, 3) := by decide +kernel
theorem dX7_become_34 : decode cX7_become 34 = .ok (.iconst 0, 1) := by decide +kernel
theorem dX7_become_35 : decode cX7_become 35 = .ok (.aload_n 0, 1) := by decide +kernel
theorem dX7_become_36 : decode cX7_become 36 = .ok (.getfield 18, 3) := by decide +kernel
theorem dX7_become_39 : decode cX7_become 39 = .ok (.iconst 0, 1) := by decide +kernel
theorem dX7_become_40 : decode cX7_become 40 = .ok (.bipush 40, 2) := by decide +kernel
theorem dX7_become_42 : decode cX7_become 42 = .ok (.invokestatic 31, 3) := by decide +kernel
theorem dX7_become_45 : decode cX7_become 45 = .ok (.aload_n 0, 1) := by decide +kernel
theorem dX7_become_46 : decode cX7_become 46 = .ok (.aload_n 1, 1) := by decide +kernel
theorem dX7_become_47 : decode cX7_become 47 = .ok (.getfield 24, 3) := by decide +kernel
theorem dX7_become_50 : decode cX7_become 50 = .ok (.putfield 24, 3) := by decide +kernel
theorem dX7_become_53 : decode cX7_become 53 = .ok (.aload_n 0, 1) := by decide +kernel
theorem dX7_become_54 : decode cX7_become 54 = .ok (.aload_n 1, 1) := by decide +kernel
theorem dX7_become_55 : decode cX7_become 55 = .ok (.getfield 28, 3) := by decide +kernel
theorem dX7_become_58 : decode cX7_become 58 = .ok (.putfield 28, 3) := by decide +kernel
theorem dX7_become_61 : decode cX7_become 61 = .ok (.return_, 1) := by decide +kernel
theorem dX7_beginsOne_0 : decode cX7_beginsOne 0 = .ok (.iload_n 0, 1) := by decide +kernel
theorem dX7_beginsOne_1 : decode cX7_beginsOne 1 = .ok (.bipush 40, 2) := by decide +kernel
theorem dX7_beginsOne_3 : decode cX7_beginsOne 3 = .ok (.if_icmp .eq 20, 3) := by decide +kernel
theorem dX7_beginsOne_6 : decode cX7_beginsOne 6 = .ok (.iload_n 0, 1) := by decide +kernel
theorem dX7_beginsOne_7 : decode cX7_beginsOne 7 = .ok (.iconst 5, 1) := by decide +kernel
theorem dX7_beginsOne_8 : decode cX7_beginsOne 8 = .ok (.if_icmp .eq 15, 3) := by decide +kernel
theorem dX7_beginsOne_11 : decode cX7_beginsOne 11 = .ok (.iload_n 0, 1) := by decide +kernel
theorem dX7_beginsOne_12 : decode cX7_beginsOne 12 = .ok (.bipush 19, 2) := by decide +kernel
theorem dX7_beginsOne_14 : decode cX7_beginsOne 14 = .ok (.if_icmp .lt 13, 3) := by decide +kernel
theorem dX7_beginsOne_17 : decode cX7_beginsOne 17 = .ok (.iload_n 0, 1) := by decide +kernel
theorem dX7_beginsOne_18 : decode cX7_beginsOne 18 = .ok (.bipush 27, 2) := by decide +kernel
theorem dX7_beginsOne_20 : decode cX7_beginsOne 20 = .ok (.if_icmp .gt 7, 3) := by decide +kernel
theorem dX7_beginsOne_27 : decode cX7_beginsOne 27 = .ok (.iconst 0, 1) := by decide +kernel
theorem dX7_beginsOne_28 : decode cX7_beginsOne 28 = .ok (.ireturn, 1) := by decide +kernel
theorem dX7_forget_0 : decode cX7_forget 0 = .ok (.aload_n 0, 1) := by decide +kernel
theorem dX7_forget_1 : decode cX7_forget 1 = .ok (.iconst 0, 1) := by decide +kernel
theorem dX7_forget_2 : decode cX7_forget 2 = .ok (.putfield 24, 3) := by decide +kernel
theorem dX7_forget_5 : decode cX7_forget 5 = .ok (.aload_n 0, 1) := by decide +kernel
theorem dX7_forget_6 : decode cX7_forget 6 = .ok (.iconst 0, 1) := by decide +kernel
theorem dX7_forget_7 : decode cX7_forget 7 = .ok (.putfield 28, 3) := by decide +kernel
theorem dX7_forget_10 : decode cX7_forget 10 = .ok (.return_, 1) := by decide +kernel
theorem dX7_readAll_0 : decode cX7_readAll 0 = .ok (.aload_n 0, 1) := by decide +kernel
theorem dX7_readAll_1 : decode cX7_readAll 1 = .ok (.aload_n 1, 1) := by decide +kernel
theorem dX7_readAll_2 : decode cX7_readAll 2 = .ok (.aload_n 2, 1) := by decide +kernel
theorem dX7_readAll_3 : decode cX7_readAll 3 = .ok (.iload_n 3, 1) := by decide +kernel
theorem dX7_readAll_4 : decode cX7_readAll 4 = .ok (.invokevirtual 67, 3) := by decide +kernel
theorem dX7_readAll_7 : decode cX7_readAll 7 = .ok (.istore 4, 2) := by decide +kernel
theorem dX7_readAll_9 : decode cX7_readAll 9 = .ok (.iconst 0, 1) := by decide +kernel
theorem dX7_readAll_10 : decode cX7_readAll 10 = .ok (.istore 5, 2) := by decide +kernel
theorem dX7_readAll_12 : decode cX7_readAll 12 = .ok (.iload 5, 2) := by decide +kernel
theorem dX7_readAll_14 : decode cX7_readAll 14 = .ok (.bipush 20, 2) := by decide +kernel
theorem dX7_readAll_16 : decode cX7_readAll 16 = .ok (.if_icmp .ge 55, 3) := by decide +kernel
theorem dX7_readAll_19 : decode cX7_readAll 19 = .ok (.iload 4, 2) := by decide +kernel
theorem dX7_readAll_21 : decode cX7_readAll 21 = .ok (.ifCond .eq 50, 3) := by decide +kernel
theorem dX7_readAll_71 : decode cX7_readAll 71 = .ok (.iload 4, 2) := by decide +kernel
theorem dX7_readAll_73 : decode cX7_readAll 73 = .ok (.ireturn, 1) := by decide +kernel
theorem dX7_readCond_0 : decode cX7_readCond 0 = .ok (.aload_n 0, 1) := by decide +kernel
theorem dX7_readCond_1 : decode cX7_readCond 1 = .ok (.aload_n 1, 1) := by decide +kernel
theorem dX7_readCond_2 : decode cX7_readCond 2 = .ok (.aload_n 2, 1) := by decide +kernel
theorem dX7_readCond_3 : decode cX7_readCond 3 = .ok (.iload_n 3, 1) := by decide +kernel
theorem dX7_readCond_4 : decode cX7_readCond 4 = .ok (.invokevirtual 54, 3) := by decide +kernel
theorem dX7_readCond_7 : decode cX7_readCond 7 = .ok (.istore 4, 2) := by decide +kernel
theorem dX7_readCond_9 : decode cX7_readCond 9 = .ok (.iconst 0, 1) := by decide +kernel
theorem dX7_readCond_10 : decode cX7_readCond 10 = .ok (.istore 5, 2) := by decide +kernel
theorem dX7_readCond_12 : decode cX7_readCond 12 = .ok (.iload 5, 2) := by decide +kernel
theorem dX7_readCond_14 : decode cX7_readCond 14 = .ok (.bipush 20, 2) := by decide +kernel
theorem dX7_readCond_16 : decode cX7_readCond 16 = .ok (.if_icmp .ge 55, 3) := by decide +kernel
theorem dX7_readCond_19 : decode cX7_readCond 19 = .ok (.iload 4, 2) := by decide +kernel
theorem dX7_readCond_21 : decode cX7_readCond 21 = .ok (.ifCond .eq 50, 3) := by decide +kernel
theorem dX7_readCond_71 : decode cX7_readCond 71 = .ok (.iload 4, 2) := by decide +kernel
theorem dX7_readCond_73 : decode cX7_readCond 73 = .ok (.ireturn, 1) := by decide +kernel
theorem dX7_readFrom_0 : decode cX7_readFrom 0 = .ok (.aload_n 0, 1) := by decide +kernel
theorem dX7_readFrom_1 : decode cX7_readFrom 1 = .ok (.invokevirtual 37, 3) := by decide +kernel
theorem dX7_readFrom_4 : decode cX7_readFrom 4 = .ok (.aload_n 1, 1) := by decide +kernel
theorem dX7_readFrom_5 : decode cX7_readFrom 5 = .ok (.sipush 200, 3) := by decide +kernel
theorem dX7_readFrom_8 : decode cX7_readFrom 8 = .ok (.invokevirtual 40, 3) := by decide +kernel
theorem dX7_readFrom_11 : decode cX7_readFrom 11 = .ok (.aload_n 0, 1) := by decide +kernel
theorem dX7_readFrom_12 : decode cX7_readFrom 12 = .ok (.aload_n 1, 1) := by decide +kernel
theorem dX7_readFrom_13 : decode cX7_readFrom 13 = .ok (.aload_n 2, 1) := by decide +kernel
theorem dX7_readFrom_14 : decode cX7_readFrom 14 = .ok (.iconst 1, 1) := by decide +kernel
theorem dX7_readFrom_15 : decode cX7_readFrom 15 = .ok (.invokevirtual 46, 3) := by decide +kernel
theorem dX7_readFrom_18 : decode cX7_readFrom 18 = .ok (.ifCond .eq 16, 3) := by decide +kernel
theorem dX7_readFrom_34 : decode cX7_readFrom 34 = .ok (.iconst 0, 1) := by decide +kernel
theorem dX7_readFrom_35 : decode cX7_readFrom 35 = .ok (.ireturn, 1) := by decide +kernel
theorem dX7_readOne_0 : decode cX7_readOne 0 = .ok (.aload_n 1, 1) := by decide +kernel
theorem dX7_readOne_1 : decode cX7_readOne 1 = .ok (.getfield 57, 3) := by decide +kernel
theorem dX7_readOne_4 : decode cX7_readOne 4 = .ok (.istore 4, 2) := by decide +kernel
theorem dX7_readOne_6 : decode cX7_readOne 6 = .ok (.iload 4, 2) := by decide +kernel
theorem dX7_readOne_8 : decode cX7_readOne 8 = .ok (.invokestatic 70, 3) := by decide +kernel
theorem dX7_readOne_11 : decode cX7_readOne 11 = .ok (.ifCond .ne 9, 3) := by decide +kernel
theorem dX7_readOne_14 : decode cX7_readOne 14 = .ok (.aload_n 1, 1) := by decide +kernel
theorem dX7_readOne_15 : decode cX7_readOne 15 = .ok (.iconst 1, 1) := by decide +kernel
theorem dX7_readOne_16 : decode cX7_readOne 16 = .ok (.invokevirtual 73, 3) := by decide +kernel
theorem dX7_readOne_19 : decode cX7_readOne 19 = .ok (.ireturn, 1) := by decide +kernel
theorem dX9_readFrom_0 : decode cX9_readFrom 0 = .ok (.aload_n 0, 1) := by decide +kernel
theorem dX9_readFrom_1 : decode cX9_readFrom 1 = .ok (.getfield 12, 3) := by decide +kernel
theorem dX9_readFrom_4 : decode cX9_readFrom 4 = .ok (.invokevirtual 34, 3) := by decide +kernel
theorem dX9_readFrom_7 : decode cX9_readFrom 7 = .ok (.aload_n 0, 1) := by decide +kernel
theorem dX9_readFrom_8 : decode cX9_readFrom 8 = .ok (.getfield 23, 3) := by decide +kernel
theorem dX9_readFrom_11 : decode cX9_readFrom 11 = .ok (.invokevirtual 37, 3) := by decide +kernel
theorem dX9_readFrom_14 : decode cX9_readFrom 14 = .ok (.aload_n 0, 1) := by decide +kernel
theorem dX9_readFrom_15 : decode cX9_readFrom 15 = .ok (.iconst 0, 1) := by decide +kernel
theorem dX9_readFrom_16 : decode cX9_readFrom 16 = .ok (.putfield 27, 3) := by decide +kernel
theorem dX9_readFrom_19 : decode cX9_readFrom 19 = .ok (.aload_n 0, 1) := by decide +kernel
theorem dX9_readFrom_20 : decode cX9_readFrom 20 = .ok (.iconst 0, 1) := by decide +kernel
theorem dX9_readFrom_21 : decode cX9_readFrom 21 = .ok (.putfield 31, 3) := by decide +kernel
theorem dX9_readFrom_24 : decode cX9_readFrom 24 = .ok (.aload_n 1, 1) := by decide +kernel
theorem dX9_readFrom_25 : decode cX9_readFrom 25 = .ok (.sipush 900, 3) := by decide +kernel
theorem dX9_readFrom_28 : decode cX9_readFrom 28 = .ok (.invokevirtual 38, 3) := by decide +kernel
theorem dX9_readFrom_31 : decode cX9_readFrom 31 = .ok (.iconst 0, 1) := by decide +kernel
theorem dX9_readFrom_32 : decode cX9_readFrom 32 = .ok (.istore_n 2, 1) := by decide +kernel
theorem dX9_readFrom_33 : decode cX9_readFrom 33 = .ok (.iload_n 2, 1) := by decide +kernel
theorem dX9_readFrom_34 : decode cX9_readFrom 34 = .ok (.sipush 900, 3) := by decide +kernel
theorem dX9_readFrom_37 : decode cX9_readFrom 37 = .ok (.if_icmp .ge 26, 3) := by decide +kernel
theorem dX9_readFrom_40 : decode cX9_readFrom 40 = .ok (.aload_n 1, 1) := by decide +kernel
theorem dX9_readFrom_41 : decode cX9_readFrom 41 = .ok (.getfield 44, 3) := by decide +kernel
theorem dX9_readFrom_44 : decode cX9_readFrom 44 = .ok (.bipush 102, 2) := by decide +kernel
theorem dX9_readFrom_46 : decode cX9_readFrom 46 = .ok (.if_icmp .eq 17, 3) := by decide +kernel
theorem dX9_readFrom_63 : decode cX9_readFrom 63 = .ok (.iload_n 2, 1) := by decide +kernel
theorem dX9_readFrom_64 : decode cX9_readFrom 64 = .ok (.ireturn, 1) := by decide +kernel
set_option maxRecDepth 100000 in
set_option maxHeartbeats 4000000 in
theorem c_Course_living0 {l : Launch} {D : va_G} {cy : Nat → ClassId} {L : List Nat} {κ ln : Nat → Nat} {R : Nat → Nat → Option Nat} {I : Nat → Nat → Int32} {J : Nat → Nat → Int64} {ow : Nat → Nat × Nat} (W9 : ∀ a ∈ L, Shp L κ ln R ow a) {a : Nat} (hLa : a ∈ L) (hka : κ a = 1) (Z1 : Zk L κ 1 I) (Z8 : Zk L κ 8 I) : CtI l yX1_living cX1_living 1 (some .int) { frames := 1, cells := 0, slots := 0, locals := 100 } D cy L κ ln R I J [.ref a] (fun r I2 J2 => I = I2 ∧ J = J2 ∧ r = 0) := by
  refine CtI.of (by decide +kernel) (Nat.le_of_ble_eq_true rfl) ?_
  intro p e s m below meth c B K
  have C := B.1
  refine g_lo (is := [0]) (lo2 := [(0, .ref a)]) rfl ?_
  refine g_aload_n C 0 dX1_living_0 rfl rfl ?_
  obtain ⟨b_213, hb_213, hb_213L, hb_213k⟩ := shp_o (W9 a hLa) hka 0 8 rfl (by decide)
  refine g_getR C K hLa hka f_1_52 hb_213 dX1_living_1 ?_
  refine g_callVI C K (c_Table_everybody0 hb_213L hb_213k (Z8 b_213 hb_213L hb_213k 5)) hb_213L hb_213k (by decide) rfl v_1_62 rfl ⟨rfl, rfl⟩ ⟨Nat.le_of_ble_eq_true rfl, Nat.le_of_ble_eq_true rfl⟩ (Nat.le_of_ble_eq_true rfl) ⟨Nat.le_of_ble_eq_true rfl, Nat.le_of_ble_eq_true rfl⟩ dX1_living_4 rfl (st := []) (fun r_217 I_214 J_215 h_216 => ?_)
  obtain ⟨rfl, rfl, er_217⟩ := h_216
  have h0r_217 := er_217
  subst er_217
  refine g_aload_n C 0 dX1_living_7 rfl rfl ?_
  refine g_getI C K hLa hka f_1_30 (v := 0) (Z1 a hLa hka 7) dX1_living_8 ?_
  refine g_iconst C (v := (-1)) dX1_living_11 (by decide) ?_
  refine g_ixor C (v := (-1)) dX1_living_12 (by decide) ?_
  refine g_iand C (v := 0) dX1_living_13 (by decide) ?_
  exact g_zret (ty := .int) (r := 0) B K rfl rfl (⟨rfl, rfl, rfl⟩) dX1_living_14
set_option maxRecDepth 100000 in
set_option maxHeartbeats 4000000 in
theorem c_Course_allEaten0 {l : Launch} {D : va_G} {cy : Nat → ClassId} {L : List Nat} {κ ln : Nat → Nat} {R : Nat → Nat → Option Nat} {I : Nat → Nat → Int32} {J : Nat → Nat → Int64} {ow : Nat → Nat × Nat} (W9 : ∀ a ∈ L, Shp L κ ln R ow a) {a : Nat} (hLa : a ∈ L) (hka : κ a = 1) (Z8 : Zk L κ 8 I) : CtI l yX1_allEaten cX1_allEaten 3 (some .int) { frames := 0, cells := 0, slots := 0, locals := 0 } D cy L κ ln R I J [.ref a] (fun r I2 J2 => I = I2 ∧ J = J2 ∧ r = 0) := by
  refine CtI.of (by decide +kernel) (Nat.le_of_ble_eq_true rfl) ?_
  intro p e s m below meth c B K
  have C := B.1
  refine g_lo (is := [0]) (lo2 := [(0, .ref a)]) rfl ?_
  refine g_iconst C (v := 0) dX1_allEaten_0 (by decide) ?_
  refine g_istore_n C dX1_allEaten_1 rfl (by decide) (lo2 := [(1, .int 0), (0, .ref a)]) rfl ?_
  refine g_iconst C (v := 0) dX1_allEaten_2 (by decide) ?_
  refine g_istore_n C dX1_allEaten_3 rfl (by decide) (lo2 := [(2, .int 0), (1, .int 0), (0, .ref a)]) rfl ?_
  refine g_iload_n C 0 dX1_allEaten_4 rfl rfl ?_
  refine g_aload_n C 2 dX1_allEaten_5 rfl rfl ?_
  obtain ⟨b_218, hb_218, hb_218L, hb_218k⟩ := shp_o (W9 a hLa) hka 0 8 rfl (by decide)
  refine g_getR C K hLa hka f_1_52 hb_218 dX1_allEaten_6 ?_
  refine g_getI C K hb_218L hb_218k f_1_68 (v := 0) (Z8 b_218 hb_218L hb_218k 5) dX1_allEaten_9 ?_
  refine t_icmp_ge C (tgt := 30) (by decide) dX1_allEaten_12 (by decide) ?_
  refine g_iload_n C 1 dX1_allEaten_30 rfl rfl ?_
  exact g_zret (ty := .int) (r := 0) B K rfl rfl (⟨rfl, rfl, rfl⟩) dX1_allEaten_31
set_option maxRecDepth 100000 in
set_option maxHeartbeats 4000000 in
theorem c_Course_allHunger0 {l : Launch} {D : va_G} {cy : Nat → ClassId} {L : List Nat} {κ ln : Nat → Nat} {R : Nat → Nat → Option Nat} {I : Nat → Nat → Int32} {J : Nat → Nat → Int64} {ow : Nat → Nat × Nat} (W9 : ∀ a ∈ L, Shp L κ ln R ow a) {a : Nat} (hLa : a ∈ L) (hka : κ a = 1) (Z8 : Zk L κ 8 I) : CtI l yX1_allHunger cX1_allHunger 3 (some .int) { frames := 0, cells := 0, slots := 0, locals := 0 } D cy L κ ln R I J [.ref a] (fun r I2 J2 => I = I2 ∧ J = J2 ∧ r = 0) := by
  refine CtI.of (by decide +kernel) (Nat.le_of_ble_eq_true rfl) ?_
  intro p e s m below meth c B K
  have C := B.1
  refine g_lo (is := [0]) (lo2 := [(0, .ref a)]) rfl ?_
  refine g_iconst C (v := 0) dX1_allHunger_0 (by decide) ?_
  refine g_istore_n C dX1_allHunger_1 rfl (by decide) (lo2 := [(1, .int 0), (0, .ref a)]) rfl ?_
  refine g_iconst C (v := 0) dX1_allHunger_2 (by decide) ?_
  refine g_istore_n C dX1_allHunger_3 rfl (by decide) (lo2 := [(2, .int 0), (1, .int 0), (0, .ref a)]) rfl ?_
  refine g_iload_n C 0 dX1_allHunger_4 rfl rfl ?_
  refine g_aload_n C 2 dX1_allHunger_5 rfl rfl ?_
  obtain ⟨b_219, hb_219, hb_219L, hb_219k⟩ := shp_o (W9 a hLa) hka 0 8 rfl (by decide)
  refine g_getR C K hLa hka f_1_52 hb_219 dX1_allHunger_6 ?_
  refine g_getI C K hb_219L hb_219k f_1_68 (v := 0) (Z8 b_219 hb_219L hb_219k 5) dX1_allHunger_9 ?_
  refine t_icmp_ge C (tgt := 30) (by decide) dX1_allHunger_12 (by decide) ?_
  refine g_iload_n C 1 dX1_allHunger_30 rfl rfl ?_
  exact g_zret (ty := .int) (r := 0) B K rfl rfl (⟨rfl, rfl, rfl⟩) dX1_allHunger_31
set_option maxRecDepth 100000 in
set_option maxHeartbeats 4000000 in
theorem c_Course_endMeal0 {l : Launch} {D : va_G} {cy : Nat → ClassId} {L : List Nat} {κ ln : Nat → Nat} {R : Nat → Nat → Option Nat} {I : Nat → Nat → Int32} {J : Nat → Nat → Int64} {ow : Nat → Nat × Nat} (W9 : ∀ a ∈ L, Shp L κ ln R ow a) {a : Nat} (hLa : a ∈ L) (hka : κ a = 1) (Z8 : Zk L κ 8 I) (n : Nat) (h9 : I a 9 = nI n) : CtV l yX1_endMeal cX1_endMeal 4 none { frames := 0, cells := 0, slots := 0, locals := 0 } D cy L κ ln R I J [.ref a] (fun I2 J2 => J = J2 ∧ Fk κ [1] I I2 ∧ I2 a 9 = nI (n + 1)) := by
  refine CtV.of (by decide +kernel) (Nat.le_of_ble_eq_true rfl) ?_
  intro p e s m below meth c B K
  have C := B.1
  refine g_lo (is := [0]) (lo2 := [(0, .ref a)]) rfl ?_
  refine g_iconst C (v := 0) dX1_endMeal_0 (by decide) ?_
  refine g_istore_n C dX1_endMeal_1 rfl (by decide) (lo2 := [(1, .int 0), (0, .ref a)]) rfl ?_
  refine g_iload_n C 0 dX1_endMeal_2 rfl rfl ?_
  refine g_aload_n C 1 dX1_endMeal_3 rfl rfl ?_
  obtain ⟨b_220, hb_220, hb_220L, hb_220k⟩ := shp_o (W9 a hLa) hka 0 8 rfl (by decide)
  refine g_getR C K hLa hka f_1_52 hb_220 dX1_endMeal_4 ?_
  refine g_getI C K hb_220L hb_220k f_1_68 (v := 0) (Z8 b_220 hb_220L hb_220k 5) dX1_endMeal_7 ?_
  refine t_icmp_ge C (tgt := 104) (by decide) dX1_endMeal_10 (by decide) ?_
  refine g_aload_n C 1 dX1_endMeal_104 rfl rfl ?_
  refine g_dup C dX1_endMeal_105 rfl ?_
  refine g_getI C K hLa hka f_1_37 (v := nI n) (h9) dX1_endMeal_106 ?_
  refine g_iconst C (v := 1) dX1_endMeal_109 (by decide) ?_
  refine g_iadd C (v := nI (n + 1)) dX1_endMeal_110 (nI_add (n) 1) ?_
  refine h_putI C K hLa hka f_1_37 p_1_9 dX1_endMeal_111 (fun I_221 hI_221 => ?_)
  exact g_vret B K rfl (⟨rfl, (Fk.rf).u2 hI_221 hka (by decide), by rw [hI_221]; exact u2_s⟩) dX1_endMeal_114
set_option maxRecDepth 100000 in
set_option maxHeartbeats 4000000 in
theorem c_Course_letMealsGo0 {l : Launch} {D : va_G} {cy : Nat → ClassId} {L : List Nat} {κ ln : Nat → Nat} {R : Nat → Nat → Option Nat} {I : Nat → Nat → Int32} {J : Nat → Nat → Int64} {ow : Nat → Nat × Nat} (W9 : ∀ a ∈ L, Shp L κ ln R ow a) {a : Nat} (hLa : a ∈ L) (hka : κ a = 1) (Z8 : Zk L κ 8 I) (N : Nat) (h1 : N ≤ 60) (h9 : I a 9 = nI 0) : CtI l yX1_letMealsGo cX1_letMealsGo 3 (some .int) { frames := 1, cells := 0, slots := 0, locals := 100 } D cy L κ ln R I J [.ref a, .int (nI N)] (fun r I2 J2 => J = J2 ∧ Fk κ [1] I I2 ∧ r = nI N) := by
  refine CtI.of (by decide +kernel) (Nat.le_of_ble_eq_true rfl) ?_
  intro p e s m below meth c B K
  have C := B.1
  refine g_lo (is := [0, 1]) (lo2 := [(0, .ref a), (1, .int (nI N))]) rfl ?_
  refine g_iconst C (v := 0) dX1_letMealsGo_0 (by decide) ?_
  refine g_istore_n C dX1_letMealsGo_1 rfl (by decide) (lo2 := [(2, .int 0), (0, .ref a), (1, .int (nI N))]) rfl ?_
  have lp_229 : ∀ (n_225 i_224 : Nat) (I_222 : Nat → Nat → Int32) (J_223 : Nat → Nat → Int64), i_224 + n_225 = N → J = J_223 → Fk κ [1] I I_222 → I_222 a 9 = nI i_224 → WG p l e { frames := 1, cells := 0, slots := 0, locals := 100 } s m ([.ref a, .int (nI N)] : List Value).toArray below meth c 3 0 0 (MQ below (Qi_ D cy L κ ln R (fun r I2 J2 => J = J2 ∧ Fk κ [1] I I2 ∧ r = nI N)) ([.ref a, .int (nI N)] : List Value).toArray s 0 0 (Al_ L)) D cy (Al_ L) s.heap L κ ln R I_222 J_223 2 [(2, .int (nI i_224)), (0, .ref a), (1, .int (nI N))] [] := by
    intro n_225
    induction n_225 with
    | zero =>
      intro i_224 I_222 J_223 hi_228 e9 F_226 x_230
      subst e9
      refine g_iload_n C 0 dX1_letMealsGo_2 rfl rfl ?_
      refine g_iload_n C 2 dX1_letMealsGo_3 rfl rfl ?_
      refine t_icmp_ge C (tgt := 27) (lt_ge (n := i_224) (k := N) (by omega) (by omega)) dX1_letMealsGo_4 (by decide) ?_
      refine g_iload_n C 0 dX1_letMealsGo_27 rfl rfl ?_
      exact g_zret (ty := .int) (r := nI i_224) B K rfl rfl (⟨rfl, (Fk.rf).tr F_226 (by decide), by rw [show i_224 = N by omega]⟩) dX1_letMealsGo_28
    | succ n_225 ihn_225 =>
      intro i_224 I_222 J_223 hi_228 e9 F_226 x_230
      subst e9
      refine g_iload_n C 0 dX1_letMealsGo_2 rfl rfl ?_
      refine g_iload_n C 2 dX1_letMealsGo_3 rfl rfl ?_
      refine n_icmp_ge C (tgt := 27) (ln_ge (n := i_224) (k := N) (by omega) (by omega)) dX1_letMealsGo_4 (by decide) ?_
      refine g_aload_n C 1 dX1_letMealsGo_7 rfl rfl ?_
      refine g_getI C K hLa hka f_1_37 (v := nI i_224) (x_230) dX1_letMealsGo_8 ?_
      refine g_sipush C (v := 200) dX1_letMealsGo_11 (by decide) ?_
      refine n_icmp_ge C (tgt := 27) (ln_ge (n := i_224) (k := 200) (by omega) (by omega)) dX1_letMealsGo_14 (by decide) ?_
      refine g_aload_n C 1 dX1_letMealsGo_17 rfl rfl ?_
      refine g_callVV C K (c_Course_endMeal0 W9 hLa hka ((Z8).fk F_226 (by decide)) (i_224) (x_230)) hLa hka (by decide) rfl v_1_126 rfl ⟨rfl, rfl⟩ ⟨Nat.le_of_ble_eq_true rfl, Nat.le_of_ble_eq_true rfl⟩ (Nat.le_of_ble_eq_true rfl) ⟨Nat.le_of_ble_eq_true rfl, Nat.le_of_ble_eq_true rfl⟩ dX1_letMealsGo_18 rfl (st := []) (fun I_231 J_232 h_233 => ?_)
      obtain ⟨rfl, f_235, v_237⟩ := h_233
      refine g_iinc C dX1_letMealsGo_21 (k := 0) (v := nI (i_224 + 1)) rfl (nI_1 (i_224)) (by decide) (lo2 := [(2, .int (nI (i_224 + 1))), (0, .ref a), (1, .int (nI N))]) rfl ?_
      refine g_goto C (tgt := 2) dX1_letMealsGo_24 (by decide) ?_
      refine g_lo (is := [0, 1, 2]) (lo2 := [(2, .int (nI (i_224 + 1))), (0, .ref a), (1, .int (nI N))]) rfl ?_
      exact ihn_225 (i_224 + 1) I_231 J (by omega) rfl ((F_226).tr f_235 (by decide)) (v_237)
  exact lp_229 (N - 0) 0 I J (by omega) rfl Fk.rf (h9)
set_option maxRecDepth 100000 in
set_option maxHeartbeats 4000000 in
theorem c_Past_note0 {l : Launch} {D : va_G} {cy : Nat → ClassId} {L : List Nat} {κ ln : Nat → Nat} {R : Nat → Nat → Option Nat} {I : Nat → Nat → Int32} {J : Nat → Nat → Int64} {ow : Nat → Nat × Nat} (W9 : ∀ a ∈ L, Shp L κ ln R ow a) {a : Nat} (hLa : a ∈ L) (hka : κ a = 5) {b : Nat} (hLb : b ∈ L) (hkb : κ b = 1) (Z1 : Zk L κ 1 I) (h2 : I a 2 = 0) : CtV l yX5_note cX5_note 2 none { frames := 2, cells := 0, slots := 0, locals := 130 } D cy L κ ln R I J [.ref a, .ref b] (fun I2 J2 => J = J2 ∧ Fk κ [1, 14] I I2 ∧ Zk L κ 1 I2) := by
  refine CtV.of (by decide +kernel) (Nat.le_of_ble_eq_true rfl) ?_
  intro p e s m below meth c B K
  have C := B.1
  refine g_lo (is := [0, 1]) (lo2 := [(0, .ref a), (1, .ref b)]) rfl ?_
  refine g_aload_n C 0 dX5_note_0 rfl rfl ?_
  obtain ⟨b_238, hb_238, hb_238L, hb_238k, hb_238n, hb_238o⟩ := shp_a (W9 a hLa) hka 0 17 9 rfl (by decide)
  refine g_getR C K hLa hka f_5_13 hb_238 dX5_note_1 ?_
  refine g_aload_n C 0 dX5_note_4 rfl rfl ?_
  refine g_getI C K hLa hka f_5_21 (v := 0) (h2) dX5_note_5 ?_
  obtain ⟨b_239, hb_239, hb_239L, hb_239k⟩ := (W9 b_238 hb_238L).2.1 hb_238k (0) (by rw [hb_238n]; decide)
  refine h_aaldC C K hb_238L hb_238k (0) (by decide) (by decide) (by rw [hb_238n]; decide) hb_239 dX5_note_8 ?_
  refine g_aload_n C 1 dX5_note_9 rfl rfl ?_
  refine g_callVV C K (c_Course_become W9 hb_239L hb_239k hLb hkb Z1) hb_239L hb_239k (by decide) rfl v_5_27 rfl ⟨rfl, rfl⟩ ⟨Nat.le_of_ble_eq_true rfl, Nat.le_of_ble_eq_true rfl⟩ (Nat.le_of_ble_eq_true rfl) ⟨Nat.le_of_ble_eq_true rfl, Nat.le_of_ble_eq_true rfl⟩ dX5_note_10 rfl (st := []) (fun I_240 J_241 h_242 => ?_)
  obtain ⟨rfl, f_244, z_246⟩ := h_242
  exact g_vret B K rfl (⟨rfl, (Fk.rf).tr f_244 (by decide), z_246⟩) dX5_note_13
set_option maxRecDepth 100000 in
set_option maxHeartbeats 4000000 in
theorem c_Past_keepNoted0 {l : Launch} {D : va_G} {cy : Nat → ClassId} {L : List Nat} {κ ln : Nat → Nat} {R : Nat → Nat → Option Nat} {I : Nat → Nat → Int32} {J : Nat → Nat → Int64} {a : Nat} (hLa : a ∈ L) (hka : κ a = 5) (h1 : I a 1 = 0) (h2 : I a 2 = 0) : CtV l yX5_keepNoted cX5_keepNoted 1 none { frames := 1, cells := 0, slots := 0, locals := 100 } D cy L κ ln R I J [.ref a] (fun I2 J2 => J = J2 ∧ Fk κ [5] I I2) := by
  refine CtV.of (by decide +kernel) (Nat.le_of_ble_eq_true rfl) ?_
  intro p e s m below meth c B K
  have C := B.1
  refine g_lo (is := [0]) (lo2 := [(0, .ref a)]) rfl ?_
  refine g_aload_n C 0 dX5_keepNoted_0 rfl rfl ?_
  refine g_aload_n C 0 dX5_keepNoted_1 rfl rfl ?_
  refine g_getI C K hLa hka f_5_21 (v := 0) (h2) dX5_keepNoted_2 ?_
  refine g_iconst C (v := 1) dX5_keepNoted_5 (by decide) ?_
  refine g_iadd C (v := 1) dX5_keepNoted_6 (by decide) ?_
  refine g_bipush C (v := 9) dX5_keepNoted_7 (by decide) ?_
  refine n_icmp_ge C (tgt := 21) (by decide) dX5_keepNoted_9 (by decide) ?_
  refine g_aload_n C 0 dX5_keepNoted_12 rfl rfl ?_
  refine g_getI C K hLa hka f_5_21 (v := 0) (h2) dX5_keepNoted_13 ?_
  refine g_iconst C (v := 1) dX5_keepNoted_16 (by decide) ?_
  refine g_iadd C (v := 1) dX5_keepNoted_17 (by decide) ?_
  refine g_goto C (tgt := 22) dX5_keepNoted_18 (by decide) ?_
  refine h_putI C K hLa hka f_5_21 p_5_2 dX5_keepNoted_22 (fun I_247 hI_247 => ?_)
  refine g_aload_n C 0 dX5_keepNoted_25 rfl rfl ?_
  refine g_aload_n C 0 dX5_keepNoted_26 rfl rfl ?_
  refine g_getI C K hLa hka f_5_17 (v := 0) (by rw [hI_247, u2_j (by decide)]; exact h1) dX5_keepNoted_27 ?_
  refine g_iconst C (v := 1) dX5_keepNoted_30 (by decide) ?_
  refine g_iadd C (v := 1) dX5_keepNoted_31 (by decide) ?_
  refine g_bipush C (v := 8) dX5_keepNoted_32 (by decide) ?_
  refine g_mmin C (v := 1) mw_5_31 w_min (Nat.le_of_ble_eq_true rfl) (Nat.le_of_ble_eq_true rfl) ⟨Nat.le_of_ble_eq_true rfl, Nat.le_of_ble_eq_true rfl⟩ (by decide) dX5_keepNoted_34 ?_
  refine h_putI C K hLa hka f_5_17 p_5_1 dX5_keepNoted_37 (fun I_248 hI_248 => ?_)
  exact g_vret B K rfl (⟨rfl, ((Fk.rf).u2 hI_247 hka (by decide)).u2 hI_248 hka (by decide)⟩) dX5_keepNoted_40
set_option maxRecDepth 100000 in
set_option maxHeartbeats 4000000 in
theorem c_Past_takeBack0 {l : Launch} {D : va_G} {cy : Nat → ClassId} {L : List Nat} {κ ln : Nat → Nat} {R : Nat → Nat → Option Nat} {I : Nat → Nat → Int32} {J : Nat → Nat → Int64} {a : Nat} (hLa : a ∈ L) (hka : κ a = 5) {b : Nat} (hLb : b ∈ L) (hkb : κ b = 1) (h1 : I a 1 = 0) : CtI l yX5_takeBack cX5_takeBack 2 (some .int) { frames := 0, cells := 0, slots := 0, locals := 0 } D cy L κ ln R I J [.ref a, .ref b] (fun r I2 J2 => I = I2 ∧ J = J2 ∧ r = -1) := by
  refine CtI.of (by decide +kernel) (Nat.le_of_ble_eq_true rfl) ?_
  intro p e s m below meth c B K
  have C := B.1
  refine g_lo (is := [0, 1]) (lo2 := [(0, .ref a), (1, .ref b)]) rfl ?_
  refine g_aload_n C 0 dX5_takeBack_0 rfl rfl ?_
  refine g_getI C K hLa hka f_5_17 (v := 0) (h1) dX5_takeBack_1 ?_
  refine n_if_ne C (tgt := 9) (by decide) dX5_takeBack_4 (by decide) ?_
  refine g_iconst C (v := (-1)) dX5_takeBack_7 (by decide) ?_
  exact g_zret (ty := .int) (r := (-1)) B K rfl rfl (⟨rfl, rfl, rfl⟩) dX5_takeBack_8
set_option maxRecDepth 100000 in
set_option maxHeartbeats 4000000 in
theorem c_Past_forget {l : Launch} {D : va_G} {cy : Nat → ClassId} {L : List Nat} {κ ln : Nat → Nat} {R : Nat → Nat → Option Nat} {I : Nat → Nat → Int32} {J : Nat → Nat → Int64} {a : Nat} (hLa : a ∈ L) (hka : κ a = 5) : CtV l yX5_forget cX5_forget 1 none { frames := 0, cells := 0, slots := 0, locals := 0 } D cy L κ ln R I J [.ref a] (fun I2 J2 => J = J2 ∧ Fk κ [5] I I2) := by
  refine CtV.of (by decide +kernel) (Nat.le_of_ble_eq_true rfl) ?_
  intro p e s m below meth c B K
  have C := B.1
  refine g_lo (is := [0]) (lo2 := [(0, .ref a)]) rfl ?_
  refine g_aload_n C 0 dX5_forget_0 rfl rfl ?_
  refine g_iconst C (v := 0) dX5_forget_1 (by decide) ?_
  refine h_putI C K hLa hka f_5_17 p_5_1 dX5_forget_2 (fun I_249 hI_249 => ?_)
  exact g_vret B K rfl (⟨rfl, (Fk.rf).u2 hI_249 hka (by decide)⟩) dX5_forget_5
set_option maxRecDepth 100000 in
set_option maxHeartbeats 4000000 in
theorem c_Sen_forget {l : Launch} {D : va_G} {cy : Nat → ClassId} {L : List Nat} {κ ln : Nat → Nat} {R : Nat → Nat → Option Nat} {I : Nat → Nat → Int32} {J : Nat → Nat → Int64} {a : Nat} (hLa : a ∈ L) (hka : κ a = 7) : CtV l yX7_forget cX7_forget 1 none { frames := 0, cells := 0, slots := 0, locals := 0 } D cy L κ ln R I J [.ref a] (fun I2 J2 => J = J2 ∧ Fk κ [7] I I2) := by
  refine CtV.of (by decide +kernel) (Nat.le_of_ble_eq_true rfl) ?_
  intro p e s m below meth c B K
  have C := B.1
  refine g_lo (is := [0]) (lo2 := [(0, .ref a)]) rfl ?_
  refine g_aload_n C 0 dX7_forget_0 rfl rfl ?_
  refine g_iconst C (v := 0) dX7_forget_1 (by decide) ?_
  refine h_putI C K hLa hka f_7_24 p_7_4 dX7_forget_2 (fun I_250 hI_250 => ?_)
  refine g_aload_n C 0 dX7_forget_5 rfl rfl ?_
  refine g_iconst C (v := 0) dX7_forget_6 (by decide) ?_
  refine h_putI C K hLa hka f_7_28 p_7_5 dX7_forget_7 (fun I_251 hI_251 => ?_)
  exact g_vret B K rfl (⟨rfl, ((Fk.rf).u2 hI_250 hka (by decide)).u2 hI_251 hka (by decide)⟩) dX7_forget_10
set_option maxRecDepth 100000 in
set_option maxHeartbeats 4000000 in
theorem c_Sen_become {l : Launch} {D : va_G} {cy : Nat → ClassId} {L : List Nat} {κ ln : Nat → Nat} {R : Nat → Nat → Option Nat} {I : Nat → Nat → Int32} {J : Nat → Nat → Int64} {ow : Nat → Nat × Nat} (W9 : ∀ a ∈ L, Shp L κ ln R ow a) {a : Nat} (hLa : a ∈ L) (hka : κ a = 7) {b : Nat} (hLb : b ∈ L) (hkb : κ b = 7) : CtV l yX7_become cX7_become 2 none { frames := 1, cells := 0, slots := 0, locals := 100 } D cy L κ ln R I J [.ref a, .ref b] (fun I2 J2 => J = J2 ∧ Fk κ [7, 14] I I2) := by
  refine CtV.of (by decide +kernel) (Nat.le_of_ble_eq_true rfl) ?_
  intro p e s m below meth c B K
  have C := B.1
  refine g_lo (is := [0, 1]) (lo2 := [(0, .ref a), (1, .ref b)]) rfl ?_
  refine g_aload_n C 1 dX7_become_0 rfl rfl ?_
  obtain ⟨b_252, hb_252, hb_252L, hb_252k, hb_252n, hb_252o⟩ := shp_a (W9 b hLb) hkb 0 14 40 rfl (by decide)
  refine g_getR C K hLb hkb f_7_11 hb_252 dX7_become_1 ?_
  refine g_iconst C (v := 0) dX7_become_4 (by decide) ?_
  refine g_aload_n C 0 dX7_become_5 rfl rfl ?_
  obtain ⟨b_253, hb_253, hb_253L, hb_253k, hb_253n, hb_253o⟩ := shp_a (W9 a hLa) hka 0 14 40 rfl (by decide)
  refine g_getR C K hLa hka f_7_11 hb_253 dX7_become_6 ?_
  refine g_iconst C (v := 0) dX7_become_9 (by decide) ?_
  refine g_bipush C (v := 40) dX7_become_10 (by decide) ?_
  refine h_copyI C K hb_253L hb_253k hb_252L hb_252k ac_7_31 40 (by decide) (by decide) (by rw [hb_252n]; decide) (by rw [hb_253n]; decide) w_cp (Nat.le_of_ble_eq_true rfl) (Nat.le_of_ble_eq_true rfl) dX7_become_12 (fun I_254 hI_254 => ?_)
  refine g_aload_n C 1 dX7_become_15 rfl rfl ?_
  obtain ⟨b_255, hb_255, hb_255L, hb_255k, hb_255n, hb_255o⟩ := shp_a (W9 b hLb) hkb 1 14 40 rfl (by decide)
  refine g_getR C K hLb hkb f_7_15 hb_255 dX7_become_16 ?_
  refine g_iconst C (v := 0) dX7_become_19 (by decide) ?_
  refine g_aload_n C 0 dX7_become_20 rfl rfl ?_
  obtain ⟨b_256, hb_256, hb_256L, hb_256k, hb_256n, hb_256o⟩ := shp_a (W9 a hLa) hka 1 14 40 rfl (by decide)
  refine g_getR C K hLa hka f_7_15 hb_256 dX7_become_21 ?_
  refine g_iconst C (v := 0) dX7_become_24 (by decide) ?_
  refine g_bipush C (v := 40) dX7_become_25 (by decide) ?_
  refine h_copyI C K hb_256L hb_256k hb_255L hb_255k ac_7_31 40 (by decide) (by decide) (by rw [hb_255n]; decide) (by rw [hb_256n]; decide) w_cp (Nat.le_of_ble_eq_true rfl) (Nat.le_of_ble_eq_true rfl) dX7_become_27 (fun I_257 hI_257 => ?_)
  refine g_aload_n C 1 dX7_become_30 rfl rfl ?_
  obtain ⟨b_258, hb_258, hb_258L, hb_258k, hb_258n, hb_258o⟩ := shp_a (W9 b hLb) hkb 2 14 40 rfl (by decide)
  refine g_getR C K hLb hkb f_7_18 hb_258 dX7_become_31 ?_
  refine g_iconst C (v := 0) dX7_become_34 (by decide) ?_
  refine g_aload_n C 0 dX7_become_35 rfl rfl ?_
  obtain ⟨b_259, hb_259, hb_259L, hb_259k, hb_259n, hb_259o⟩ := shp_a (W9 a hLa) hka 2 14 40 rfl (by decide)
  refine g_getR C K hLa hka f_7_18 hb_259 dX7_become_36 ?_
  refine g_iconst C (v := 0) dX7_become_39 (by decide) ?_
  refine g_bipush C (v := 40) dX7_become_40 (by decide) ?_
  refine h_copyI C K hb_259L hb_259k hb_258L hb_258k ac_7_31 40 (by decide) (by decide) (by rw [hb_258n]; decide) (by rw [hb_259n]; decide) w_cp (Nat.le_of_ble_eq_true rfl) (Nat.le_of_ble_eq_true rfl) dX7_become_42 (fun I_260 hI_260 => ?_)
  refine g_aload_n C 0 dX7_become_45 rfl rfl ?_
  refine g_aload_n C 1 dX7_become_46 rfl rfl ?_
  obtain ⟨x_261, hx_261⟩ : ∃ z, I_260 b 4 = z := ⟨_, rfl⟩
  refine g_getI C K hLb hkb f_7_24 hx_261 dX7_become_47 ?_
  refine h_putI C K hLa hka f_7_24 p_7_4 dX7_become_50 (fun I_262 hI_262 => ?_)
  refine g_aload_n C 0 dX7_become_53 rfl rfl ?_
  refine g_aload_n C 1 dX7_become_54 rfl rfl ?_
  obtain ⟨x_263, hx_263⟩ : ∃ z, I_262 b 5 = z := ⟨_, rfl⟩
  refine g_getI C K hLb hkb f_7_28 hx_263 dX7_become_55 ?_
  refine h_putI C K hLa hka f_7_28 p_7_5 dX7_become_58 (fun I_264 hI_264 => ?_)
  exact g_vret B K rfl (⟨rfl, (((((Fk.rf).k2 hI_254 hb_253k (by decide)).k2 hI_257 hb_256k (by decide)).k2 hI_260 hb_259k (by decide)).u2 hI_262 hka (by decide)).u2 hI_264 hka (by decide)⟩) dX7_become_61
set_option maxRecDepth 100000 in
set_option maxHeartbeats 4000000 in
theorem c_Sen_beginsOne0 {l : Launch} {D : va_G} {cy : Nat → ClassId} {L : List Nat} {κ ln : Nat → Nat} {R : Nat → Nat → Option Nat} {I : Nat → Nat → Int32} {J : Nat → Nat → Int64}  : CtI l yX7_beginsOne cX7_beginsOne 1 (some .boolean) { frames := 0, cells := 0, slots := 0, locals := 0 } D cy L κ ln R I J [.int 102] (fun r I2 J2 => I = I2 ∧ J = J2 ∧ r = 0) := by
  refine CtI.of (by decide +kernel) (Nat.le_of_ble_eq_true rfl) ?_
  intro p e s m below meth c B K
  have C := B.1
  refine g_lo (is := [0]) (lo2 := [(0, .int 102)]) rfl ?_
  refine g_iload_n C 0 dX7_beginsOne_0 rfl rfl ?_
  refine g_bipush C (v := 40) dX7_beginsOne_1 (by decide) ?_
  refine n_icmp_eq C (tgt := 23) (by decide) dX7_beginsOne_3 (by decide) ?_
  refine g_iload_n C 0 dX7_beginsOne_6 rfl rfl ?_
  refine g_iconst C (v := 5) dX7_beginsOne_7 (by decide) ?_
  refine n_icmp_eq C (tgt := 23) (by decide) dX7_beginsOne_8 (by decide) ?_
  refine g_iload_n C 0 dX7_beginsOne_11 rfl rfl ?_
  refine g_bipush C (v := 19) dX7_beginsOne_12 (by decide) ?_
  refine n_icmp_lt C (tgt := 27) (by decide) dX7_beginsOne_14 (by decide) ?_
  refine g_iload_n C 0 dX7_beginsOne_17 rfl rfl ?_
  refine g_bipush C (v := 27) dX7_beginsOne_18 (by decide) ?_
  refine t_icmp_gt C (tgt := 27) (by decide) dX7_beginsOne_20 (by decide) ?_
  refine g_iconst C (v := 0) dX7_beginsOne_27 (by decide) ?_
  exact g_zret (ty := .boolean) (r := 0) B K rfl (by decide) (⟨rfl, rfl, rfl⟩) dX7_beginsOne_28
set_option maxRecDepth 100000 in
set_option maxHeartbeats 4000000 in
theorem c_Sen_readOne0 {l : Launch} {D : va_G} {cy : Nat → ClassId} {L : List Nat} {κ ln : Nat → Nat} {R : Nat → Nat → Option Nat} {I : Nat → Nat → Int32} {J : Nat → Nat → Int64} {a : Nat} (hLa : a ∈ L) (hka : κ a = 7) {t : Nat} (hLt : t ∈ L) (hkt : κ t = 10) {b : Nat} (hLb : b ∈ L) (hkb : κ b = 8) (h8 : I t 8 = 102) (h9 : I t 9 = 0) (h11 : I t 11 = 0) : CtI l yX7_readOne cX7_readOne 5 (some .boolean) { frames := 1, cells := 0, slots := 0, locals := 100 } D cy L κ ln R I J [.ref a, .ref t, .ref b, .int 1] (fun r I2 J2 => J = J2 ∧ Fk κ [10] I I2 ∧ I2 t 11 = 1 ∧ I2 t 12 = 0 ∧ r = 0) := by
  refine CtI.of (by decide +kernel) (Nat.le_of_ble_eq_true rfl) ?_
  intro p e s m below meth c B K
  have C := B.1
  refine g_lo (is := [0, 1, 2, 3]) (lo2 := [(0, .ref a), (1, .ref t), (2, .ref b), (3, .int 1)]) rfl ?_
  refine g_aload_n C 1 dX7_readOne_0 rfl rfl ?_
  refine g_getI C K hLt hkt f_7_57 (v := 102) (h8) dX7_readOne_1 ?_
  refine g_istore C dX7_readOne_4 (by decide) (lo2 := [(4, .int 102), (0, .ref a), (1, .ref t), (2, .ref b), (3, .int 1)]) rfl ?_
  refine g_iload C 0 dX7_readOne_6 rfl ?_
  refine g_callSI C K (c_Sen_beginsOne0 ) s_7_70 rfl ⟨rfl, rfl⟩ ⟨Nat.le_of_ble_eq_true rfl, Nat.le_of_ble_eq_true rfl⟩ (Nat.le_of_ble_eq_true rfl) ⟨Nat.le_of_ble_eq_true rfl, Nat.le_of_ble_eq_true rfl⟩ dX7_readOne_8 rfl (st := []) (fun r_268 I_265 J_266 h_267 => ?_)
  obtain ⟨rfl, rfl, er_268⟩ := h_267
  have h0r_268 := er_268
  subst er_268
  refine n_if_ne C (tgt := 20) (by decide) dX7_readOne_11 (by decide) ?_
  refine g_aload_n C 2 dX7_readOne_14 rfl rfl ?_
  refine g_iconst C (v := 1) dX7_readOne_15 (by decide) ?_
  refine g_callVI C K (c_Tape_fail0 hLt hkt (h11) 1 0 (h9)) hLt hkt (by decide) rfl v_7_73 rfl ⟨rfl, rfl⟩ ⟨Nat.le_of_ble_eq_true rfl, Nat.le_of_ble_eq_true rfl⟩ (Nat.le_of_ble_eq_true rfl) ⟨Nat.le_of_ble_eq_true rfl, Nat.le_of_ble_eq_true rfl⟩ dX7_readOne_16 rfl (st := []) (fun r_272 I_269 J_270 h_271 => ?_)
  obtain ⟨rfl, f_273, v_275, v_276, rfl⟩ := h_271
  exact g_zret (ty := .boolean) (r := 0) B K rfl (by decide) (⟨rfl, (Fk.rf).tr f_273 (by decide), v_275, v_276, rfl⟩) dX7_readOne_19
set_option maxRecDepth 100000 in
set_option maxHeartbeats 4000000 in
theorem c_Sen_readAll0 {l : Launch} {D : va_G} {cy : Nat → ClassId} {L : List Nat} {κ ln : Nat → Nat} {R : Nat → Nat → Option Nat} {I : Nat → Nat → Int32} {J : Nat → Nat → Int64} {a : Nat} (hLa : a ∈ L) (hka : κ a = 7) {t : Nat} (hLt : t ∈ L) (hkt : κ t = 10) {b : Nat} (hLb : b ∈ L) (hkb : κ b = 8) (h8 : I t 8 = 102) (h9 : I t 9 = 0) (h11 : I t 11 = 0) : CtI l yX7_readAll cX7_readAll 6 (some .boolean) { frames := 2, cells := 0, slots := 0, locals := 150 } D cy L κ ln R I J [.ref a, .ref t, .ref b, .int 1] (fun r I2 J2 => J = J2 ∧ Fk κ [10] I I2 ∧ I2 t 11 = 1 ∧ I2 t 12 = 0 ∧ r = 0) := by
  refine CtI.of (by decide +kernel) (Nat.le_of_ble_eq_true rfl) ?_
  intro p e s m below meth c B K
  have C := B.1
  refine g_lo (is := [0, 1, 2, 3]) (lo2 := [(0, .ref a), (1, .ref t), (2, .ref b), (3, .int 1)]) rfl ?_
  refine g_aload_n C 0 dX7_readAll_0 rfl rfl ?_
  refine g_aload_n C 1 dX7_readAll_1 rfl rfl ?_
  refine g_aload_n C 2 dX7_readAll_2 rfl rfl ?_
  refine g_iload_n C 3 dX7_readAll_3 rfl rfl ?_
  refine g_callVI C K (c_Sen_readOne0 hLa hka hLt hkt hLb hkb (h8) (h9) (h11)) hLa hka (by decide) rfl v_7_67 rfl ⟨rfl, rfl⟩ ⟨Nat.le_of_ble_eq_true rfl, Nat.le_of_ble_eq_true rfl⟩ (Nat.le_of_ble_eq_true rfl) ⟨Nat.le_of_ble_eq_true rfl, Nat.le_of_ble_eq_true rfl⟩ dX7_readAll_4 rfl (st := []) (fun r_280 I_277 J_278 h_279 => ?_)
  obtain ⟨rfl, f_281, v_283, v_284, rfl⟩ := h_279
  refine g_istore C dX7_readAll_7 (by decide) (lo2 := [(4, .int 0), (0, .ref a), (1, .ref t), (2, .ref b), (3, .int 1)]) rfl ?_
  refine g_iconst C (v := 0) dX7_readAll_9 (by decide) ?_
  refine g_istore C dX7_readAll_10 (by decide) (lo2 := [(5, .int 0), (4, .int 0), (0, .ref a), (1, .ref t), (2, .ref b), (3, .int 1)]) rfl ?_
  refine g_iload C 0 dX7_readAll_12 rfl ?_
  refine g_bipush C (v := 20) dX7_readAll_14 (by decide) ?_
  refine n_icmp_ge C (tgt := 71) (by decide) dX7_readAll_16 (by decide) ?_
  refine g_iload C 1 dX7_readAll_19 rfl ?_
  refine t_if_eq C (tgt := 71) (by decide) dX7_readAll_21 (by decide) ?_
  refine g_iload C 1 dX7_readAll_71 rfl ?_
  exact g_zret (ty := .boolean) (r := 0) B K rfl (by decide) (⟨rfl, (Fk.rf).tr f_281 (by decide), v_283, v_284, rfl⟩) dX7_readAll_73
set_option maxRecDepth 100000 in
set_option maxHeartbeats 4000000 in
theorem c_Sen_readCond0 {l : Launch} {D : va_G} {cy : Nat → ClassId} {L : List Nat} {κ ln : Nat → Nat} {R : Nat → Nat → Option Nat} {I : Nat → Nat → Int32} {J : Nat → Nat → Int64} {a : Nat} (hLa : a ∈ L) (hka : κ a = 7) {t : Nat} (hLt : t ∈ L) (hkt : κ t = 10) {b : Nat} (hLb : b ∈ L) (hkb : κ b = 8) (h8 : I t 8 = 102) (h9 : I t 9 = 0) (h11 : I t 11 = 0) : CtI l yX7_readCond cX7_readCond 6 (some .boolean) { frames := 3, cells := 0, slots := 0, locals := 200 } D cy L κ ln R I J [.ref a, .ref t, .ref b, .int 1] (fun r I2 J2 => J = J2 ∧ Fk κ [10] I I2 ∧ I2 t 11 = 1 ∧ I2 t 12 = 0 ∧ r = 0) := by
  refine CtI.of (by decide +kernel) (Nat.le_of_ble_eq_true rfl) ?_
  intro p e s m below meth c B K
  have C := B.1
  refine g_lo (is := [0, 1, 2, 3]) (lo2 := [(0, .ref a), (1, .ref t), (2, .ref b), (3, .int 1)]) rfl ?_
  refine g_aload_n C 0 dX7_readCond_0 rfl rfl ?_
  refine g_aload_n C 1 dX7_readCond_1 rfl rfl ?_
  refine g_aload_n C 2 dX7_readCond_2 rfl rfl ?_
  refine g_iload_n C 3 dX7_readCond_3 rfl rfl ?_
  refine g_callVI C K (c_Sen_readAll0 hLa hka hLt hkt hLb hkb (h8) (h9) (h11)) hLa hka (by decide) rfl v_7_54 rfl ⟨rfl, rfl⟩ ⟨Nat.le_of_ble_eq_true rfl, Nat.le_of_ble_eq_true rfl⟩ (Nat.le_of_ble_eq_true rfl) ⟨Nat.le_of_ble_eq_true rfl, Nat.le_of_ble_eq_true rfl⟩ dX7_readCond_4 rfl (st := []) (fun r_288 I_285 J_286 h_287 => ?_)
  obtain ⟨rfl, f_289, v_291, v_292, rfl⟩ := h_287
  refine g_istore C dX7_readCond_7 (by decide) (lo2 := [(4, .int 0), (0, .ref a), (1, .ref t), (2, .ref b), (3, .int 1)]) rfl ?_
  refine g_iconst C (v := 0) dX7_readCond_9 (by decide) ?_
  refine g_istore C dX7_readCond_10 (by decide) (lo2 := [(5, .int 0), (4, .int 0), (0, .ref a), (1, .ref t), (2, .ref b), (3, .int 1)]) rfl ?_
  refine g_iload C 0 dX7_readCond_12 rfl ?_
  refine g_bipush C (v := 20) dX7_readCond_14 (by decide) ?_
  refine n_icmp_ge C (tgt := 71) (by decide) dX7_readCond_16 (by decide) ?_
  refine g_iload C 1 dX7_readCond_19 rfl ?_
  refine t_if_eq C (tgt := 71) (by decide) dX7_readCond_21 (by decide) ?_
  refine g_iload C 1 dX7_readCond_71 rfl ?_
  exact g_zret (ty := .boolean) (r := 0) B K rfl (by decide) (⟨rfl, (Fk.rf).tr f_289 (by decide), v_291, v_292, rfl⟩) dX7_readCond_73
set_option maxRecDepth 100000 in
set_option maxHeartbeats 4000000 in
theorem c_Sen_readFrom0 {l : Launch} {D : va_G} {cy : Nat → ClassId} {L : List Nat} {κ ln : Nat → Nat} {R : Nat → Nat → Option Nat} {I : Nat → Nat → Int32} {J : Nat → Nat → Int64} {ow : Nat → Nat × Nat} (W9 : ∀ a ∈ L, Shp L κ ln R ow a) {a : Nat} (hLa : a ∈ L) (hka : κ a = 7) {t : Nat} (hLt : t ∈ L) (hkt : κ t = 10) {b : Nat} (hLb : b ∈ L) (hkb : κ b = 8) (h5 : I t 5 = 0) : CtI l yX7_readFrom cX7_readFrom 3 (some .boolean) { frames := 4, cells := 0, slots := 0, locals := 260 } D cy L κ ln R I J [.ref a, .ref t, .ref b] (fun r I2 J2 => Fj κ [10, 15] J J2 ∧ Fk κ [7, 10, 14] I I2 ∧ I2 t 11 = 1 ∧ I2 t 12 = 0 ∧ r = 0) := by
  refine CtI.of (by decide +kernel) (Nat.le_of_ble_eq_true rfl) ?_
  intro p e s m below meth c B K
  have C := B.1
  refine g_lo (is := [0, 1, 2]) (lo2 := [(0, .ref a), (1, .ref t), (2, .ref b)]) rfl ?_
  refine g_aload_n C 0 dX7_readFrom_0 rfl rfl ?_
  refine g_callVV C K (c_Sen_forget hLa hka) hLa hka (by decide) rfl v_7_37 rfl ⟨rfl, rfl⟩ ⟨Nat.le_of_ble_eq_true rfl, Nat.le_of_ble_eq_true rfl⟩ (Nat.le_of_ble_eq_true rfl) ⟨Nat.le_of_ble_eq_true rfl, Nat.le_of_ble_eq_true rfl⟩ dX7_readFrom_1 rfl (st := []) (fun I_293 J_294 h_295 => ?_)
  obtain ⟨rfl, f_297⟩ := h_295
  refine g_aload_n C 1 dX7_readFrom_4 rfl rfl ?_
  refine g_sipush C (v := 200) dX7_readFrom_5 (by decide) ?_
  refine g_callVV C K (c_Tape_begin_200 W9 hLt hkt (by rw [f_297 t 5 (by rw [hkt]; decide)]; exact h5)) hLt hkt (by decide) rfl v_7_40 rfl ⟨rfl, rfl⟩ ⟨Nat.le_of_ble_eq_true rfl, Nat.le_of_ble_eq_true rfl⟩ (Nat.le_of_ble_eq_true rfl) ⟨Nat.le_of_ble_eq_true rfl, Nat.le_of_ble_eq_true rfl⟩ dX7_readFrom_8 rfl (st := []) (fun I_299 J_300 h_301 => ?_)
  obtain ⟨g_304, f_303, v_305, v_306, v_307, v_308, v_309⟩ := h_301
  refine g_aload_n C 0 dX7_readFrom_11 rfl rfl ?_
  refine g_aload_n C 1 dX7_readFrom_12 rfl rfl ?_
  refine g_aload_n C 2 dX7_readFrom_13 rfl rfl ?_
  refine g_iconst C (v := 1) dX7_readFrom_14 (by decide) ?_
  refine g_callVI C K (c_Sen_readCond0 hLa hka hLt hkt hLb hkb (v_306) (v_307) (v_308)) hLa hka (by decide) rfl v_7_46 rfl ⟨rfl, rfl⟩ ⟨Nat.le_of_ble_eq_true rfl, Nat.le_of_ble_eq_true rfl⟩ (Nat.le_of_ble_eq_true rfl) ⟨Nat.le_of_ble_eq_true rfl, Nat.le_of_ble_eq_true rfl⟩ dX7_readFrom_15 rfl (st := []) (fun r_313 I_310 J_311 h_312 => ?_)
  obtain ⟨rfl, f_314, v_316, v_317, rfl⟩ := h_312
  refine t_if_eq C (tgt := 34) (by decide) dX7_readFrom_18 (by decide) ?_
  refine g_iconst C (v := 0) dX7_readFrom_34 (by decide) ?_
  exact g_zret (ty := .boolean) (r := 0) B K rfl (by decide) (⟨(Fj.rf).tr g_304 (by decide), (((Fk.rf).tr f_297 (by decide)).tr f_303 (by decide)).tr f_314 (by decide), v_316, v_317, rfl⟩) dX7_readFrom_35
set_option maxRecDepth 100000 in
set_option maxHeartbeats 4000000 in
theorem c_Book_readFrom0 {l : Launch} {D : va_G} {cy : Nat → ClassId} {L : List Nat} {κ ln : Nat → Nat} {R : Nat → Nat → Option Nat} {I : Nat → Nat → Int32} {J : Nat → Nat → Int64} {ow : Nat → Nat × Nat} (W9 : ∀ a ∈ L, Shp L κ ln R ow a) {a : Nat} (hLa : a ∈ L) (hka : κ a = 0) {t : Nat} (hLt : t ∈ L) (hkt : κ t = 10) {b : Nat} (hLb : b ∈ L) (hkb : κ b = 8) (h5 : I t 5 = 0) : CtV l yX0_readFrom cX0_readFrom 3 none { frames := 2, cells := 0, slots := 0, locals := 150 } D cy L κ ln R I J [.ref a, .ref t, .ref b] (fun I2 J2 => Fj κ [10, 15] J J2 ∧ Fk κ [0, 10, 14] I I2 ∧ I2 a 4 = 0 ∧ I2 t 11 = 0) := by
  refine CtV.of (by decide +kernel) (Nat.le_of_ble_eq_true rfl) ?_
  intro p e s m below meth c B K
  have C := B.1
  refine g_lo (is := [0, 1, 2]) (lo2 := [(0, .ref a), (1, .ref t), (2, .ref b)]) rfl ?_
  refine g_aload_n C 1 dX0_readFrom_0 rfl rfl ?_
  refine g_sipush C (v := 400) dX0_readFrom_1 (by decide) ?_
  refine g_callVV C K (c_Tape_begin_400 W9 hLt hkt (h5)) hLt hkt (by decide) rfl v_0_44 rfl ⟨rfl, rfl⟩ ⟨Nat.le_of_ble_eq_true rfl, Nat.le_of_ble_eq_true rfl⟩ (Nat.le_of_ble_eq_true rfl) ⟨Nat.le_of_ble_eq_true rfl, Nat.le_of_ble_eq_true rfl⟩ dX0_readFrom_4 rfl (st := []) (fun I_318 J_319 h_320 => ?_)
  obtain ⟨g_323, f_322, v_324, v_325, v_326, v_327, v_328⟩ := h_320
  refine g_aload_n C 0 dX0_readFrom_7 rfl rfl ?_
  refine g_iconst C (v := 0) dX0_readFrom_8 (by decide) ?_
  refine h_putI C K hLa hka f_0_24 p_0_4 dX0_readFrom_9 (fun I_329 hI_329 => ?_)
  refine g_aload_n C 0 dX0_readFrom_12 rfl rfl ?_
  refine g_getI C K hLa hka f_0_24 (v := 0) (by rw [hI_329]; exact u2_s) dX0_readFrom_13 ?_
  refine g_bipush C (v := 40) dX0_readFrom_16 (by decide) ?_
  refine n_icmp_gt C (tgt := 52) (by decide) dX0_readFrom_18 (by decide) ?_
  refine g_aload_n C 1 dX0_readFrom_21 rfl rfl ?_
  refine g_getI C K hLt hkt f_0_50 (v := 102) (by rw [hI_329, u2_j (by decide)]; exact v_325) dX0_readFrom_22 ?_
  refine g_bipush C (v := 102) dX0_readFrom_25 (by decide) ?_
  refine t_icmp_eq C (tgt := 52) (by decide) dX0_readFrom_27 (by decide) ?_
  exact g_vret B K rfl (⟨(Fj.rf).tr g_323 (by decide), ((Fk.rf).tr f_322 (by decide)).u2 hI_329 hka (by decide), by rw [hI_329]; exact u2_s, by rw [hI_329, u2_j (by decide)]; exact v_327⟩) dX0_readFrom_52
set_option maxRecDepth 100000 in
set_option maxHeartbeats 4000000 in
theorem c_Book_judgeBy0 {l : Launch} {D : va_G} {cy : Nat → ClassId} {L : List Nat} {κ ln : Nat → Nat} {R : Nat → Nat → Option Nat} {I : Nat → Nat → Int32} {J : Nat → Nat → Int64} {a : Nat} (hLa : a ∈ L) (hka : κ a = 0) {b : Nat} (hLb : b ∈ L) (hkb : κ b = 1) (h4 : I a 4 = 0) : CtV l yX0_judgeBy cX0_judgeBy 2 none { frames := 0, cells := 0, slots := 0, locals := 0 } D cy L κ ln R I J [.ref a, .ref b] (fun I2 J2 => J = J2 ∧ Fk κ [0] I I2 ∧ I2 a 6 = 0 ∧ I2 a 7 = 0) := by
  refine CtV.of (by decide +kernel) (Nat.le_of_ble_eq_true rfl) ?_
  intro p e s m below meth c B K
  have C := B.1
  refine g_lo (is := [0, 1]) (lo2 := [(0, .ref a), (1, .ref b)]) rfl ?_
  refine g_aload_n C 0 dX0_judgeBy_0 rfl rfl ?_
  refine g_iconst C (v := 1) dX0_judgeBy_1 (by decide) ?_
  refine h_putZ C K hLa hka f_0_28 p_0_5 (Or.inr rfl) dX0_judgeBy_2 (fun I_330 hI_330 => ?_)
  refine g_aload_n C 0 dX0_judgeBy_5 rfl rfl ?_
  refine g_iconst C (v := 0) dX0_judgeBy_6 (by decide) ?_
  refine h_putI C K hLa hka f_0_32 p_0_6 dX0_judgeBy_7 (fun I_331 hI_331 => ?_)
  refine g_aload_n C 0 dX0_judgeBy_10 rfl rfl ?_
  refine g_iconst C (v := 0) dX0_judgeBy_11 (by decide) ?_
  refine h_putI C K hLa hka f_0_35 p_0_7 dX0_judgeBy_12 (fun I_332 hI_332 => ?_)
  refine g_aload_n C 0 dX0_judgeBy_15 rfl rfl ?_
  refine g_getI C K hLa hka f_0_35 (v := 0) (by rw [hI_332]; exact u2_s) dX0_judgeBy_16 ?_
  refine g_aload_n C 0 dX0_judgeBy_19 rfl rfl ?_
  refine g_getI C K hLa hka f_0_24 (v := 0) (by rw [hI_332, u2_j (by decide), hI_331, u2_j (by decide), hI_330, u2_j (by decide)]; exact h4) dX0_judgeBy_20 ?_
  refine t_icmp_ge C (tgt := 66) (by decide) dX0_judgeBy_23 (by decide) ?_
  refine g_aload_n C 0 dX0_judgeBy_66 rfl rfl ?_
  refine g_aload_n C 1 dX0_judgeBy_67 rfl rfl ?_
  obtain ⟨x_333, hx_333⟩ : ∃ z, I_332 b 9 = z := ⟨_, rfl⟩
  refine g_getI C K hLb hkb f_0_98 hx_333 dX0_judgeBy_68 ?_
  refine h_putI C K hLa hka f_0_38 p_0_8 dX0_judgeBy_71 (fun I_334 hI_334 => ?_)
  refine g_aload_n C 0 dX0_judgeBy_74 rfl rfl ?_
  refine g_aload_n C 1 dX0_judgeBy_75 rfl rfl ?_
  obtain ⟨x_335, hx_335⟩ : ∃ z, I_334 b 7 = z := ⟨_, rfl⟩
  refine g_getI C K hLb hkb f_0_103 hx_335 dX0_judgeBy_76 ?_
  refine h_putI C K hLa hka f_0_41 p_0_9 dX0_judgeBy_79 (fun I_336 hI_336 => ?_)
  exact g_vret B K rfl (⟨rfl, (((((Fk.rf).u2 hI_330 hka (by decide)).u2 hI_331 hka (by decide)).u2 hI_332 hka (by decide)).u2 hI_334 hka (by decide)).u2 hI_336 hka (by decide), by rw [hI_336, u2_j (by decide), hI_334, u2_j (by decide), hI_332, u2_j (by decide), hI_331]; exact u2_s, by rw [hI_336, u2_j (by decide), hI_334, u2_j (by decide), hI_332]; exact u2_s⟩) dX0_judgeBy_82
set_option maxRecDepth 100000 in
set_option maxHeartbeats 4000000 in
theorem c_TR_readFrom0 {l : Launch} {D : va_G} {cy : Nat → ClassId} {L : List Nat} {κ ln : Nat → Nat} {R : Nat → Nat → Option Nat} {I : Nat → Nat → Int32} {J : Nat → Nat → Int64} {ow : Nat → Nat × Nat} (W9 : ∀ a ∈ L, Shp L κ ln R ow a) {a : Nat} (hLa : a ∈ L) (hka : κ a = 9) {t : Nat} (hLt : t ∈ L) (hkt : κ t = 10) (Z1 : Zk L κ 1 I) (Z8 : Zk L κ 8 I) (h5 : I t 5 = 0) : CtI l yX9_readFrom cX9_readFrom 3 (some .int) { frames := 2, cells := 0, slots := 0, locals := 150 } D cy L κ ln R I J [.ref a, .ref t] (fun r I2 J2 => Fj κ [10, 15] J J2 ∧ Fk κ [1, 8, 9, 10, 14] I I2 ∧ Zk L κ 1 I2 ∧ Zk L κ 8 I2 ∧ I2 t 11 = 0 ∧ r = 0) := by
  refine CtI.of (by decide +kernel) (Nat.le_of_ble_eq_true rfl) ?_
  intro p e s m below meth c B K
  have C := B.1
  refine g_lo (is := [0, 1]) (lo2 := [(0, .ref a), (1, .ref t)]) rfl ?_
  refine g_aload_n C 0 dX9_readFrom_0 rfl rfl ?_
  obtain ⟨b_337, hb_337, hb_337L, hb_337k⟩ := shp_o (W9 a hLa) hka 0 8 rfl (by decide)
  refine g_getR C K hLa hka f_9_12 hb_337 dX9_readFrom_1 ?_
  refine g_callVV C K (c_Table_forget hb_337L hb_337k (Z8)) hb_337L hb_337k (by decide) rfl v_9_34 rfl ⟨rfl, rfl⟩ ⟨Nat.le_of_ble_eq_true rfl, Nat.le_of_ble_eq_true rfl⟩ (Nat.le_of_ble_eq_true rfl) ⟨Nat.le_of_ble_eq_true rfl, Nat.le_of_ble_eq_true rfl⟩ dX9_readFrom_4 rfl (st := []) (fun I_338 J_339 h_340 => ?_)
  obtain ⟨rfl, f_342, z_344⟩ := h_340
  refine g_aload_n C 0 dX9_readFrom_7 rfl rfl ?_
  obtain ⟨b_345, hb_345, hb_345L, hb_345k⟩ := shp_o (W9 a hLa) hka 1 1 rfl (by decide)
  refine g_getR C K hLa hka f_9_23 hb_345 dX9_readFrom_8 ?_
  refine g_callVV C K (c_Course_forget W9 hb_345L hb_345k ((Z1).fk f_342 (by decide))) hb_345L hb_345k (by decide) rfl v_9_37 rfl ⟨rfl, rfl⟩ ⟨Nat.le_of_ble_eq_true rfl, Nat.le_of_ble_eq_true rfl⟩ (Nat.le_of_ble_eq_true rfl) ⟨Nat.le_of_ble_eq_true rfl, Nat.le_of_ble_eq_true rfl⟩ dX9_readFrom_11 rfl (st := []) (fun I_346 J_347 h_348 => ?_)
  obtain ⟨rfl, f_350, z_352⟩ := h_348
  refine g_aload_n C 0 dX9_readFrom_14 rfl rfl ?_
  refine g_iconst C (v := 0) dX9_readFrom_15 (by decide) ?_
  refine h_putZ C K hLa hka f_9_27 p_9_2 (Or.inl rfl) dX9_readFrom_16 (fun I_353 hI_353 => ?_)
  refine g_aload_n C 0 dX9_readFrom_19 rfl rfl ?_
  refine g_iconst C (v := 0) dX9_readFrom_20 (by decide) ?_
  refine h_putZ C K hLa hka f_9_31 p_9_3 (Or.inl rfl) dX9_readFrom_21 (fun I_354 hI_354 => ?_)
  refine g_aload_n C 1 dX9_readFrom_24 rfl rfl ?_
  refine g_sipush C (v := 900) dX9_readFrom_25 (by decide) ?_
  refine g_callVV C K (c_Tape_begin_900 W9 hLt hkt (by rw [hI_354, u2_j (by decide), hI_353, u2_j (by decide), f_350 t 5 (by rw [hkt]; decide), f_342 t 5 (by rw [hkt]; decide)]; exact h5)) hLt hkt (by decide) rfl v_9_38 rfl ⟨rfl, rfl⟩ ⟨Nat.le_of_ble_eq_true rfl, Nat.le_of_ble_eq_true rfl⟩ (Nat.le_of_ble_eq_true rfl) ⟨Nat.le_of_ble_eq_true rfl, Nat.le_of_ble_eq_true rfl⟩ dX9_readFrom_28 rfl (st := []) (fun I_355 J_356 h_357 => ?_)
  obtain ⟨g_360, f_359, v_361, v_362, v_363, v_364, v_365⟩ := h_357
  refine g_iconst C (v := 0) dX9_readFrom_31 (by decide) ?_
  refine g_istore_n C dX9_readFrom_32 rfl (by decide) (lo2 := [(2, .int 0), (0, .ref a), (1, .ref t)]) rfl ?_
  refine g_iload_n C 0 dX9_readFrom_33 rfl rfl ?_
  refine g_sipush C (v := 900) dX9_readFrom_34 (by decide) ?_
  refine n_icmp_ge C (tgt := 63) (by decide) dX9_readFrom_37 (by decide) ?_
  refine g_aload_n C 2 dX9_readFrom_40 rfl rfl ?_
  refine g_getI C K hLt hkt f_9_44 (v := 102) (v_362) dX9_readFrom_41 ?_
  refine g_bipush C (v := 102) dX9_readFrom_44 (by decide) ?_
  refine t_icmp_eq C (tgt := 63) (by decide) dX9_readFrom_46 (by decide) ?_
  refine g_iload_n C 0 dX9_readFrom_63 rfl rfl ?_
  exact g_zret (ty := .int) (r := 0) B K rfl rfl (⟨(Fj.rf).tr g_360 (by decide), (((((Fk.rf).tr f_342 (by decide)).tr f_350 (by decide)).u2 hI_353 hka (by decide)).u2 hI_354 hka (by decide)).tr f_359 (by decide), (((z_352).u2 hI_353 rfl).u2 hI_354 rfl).fk f_359 (by decide), ((((z_344).fk f_350 (by decide)).u2 hI_353 rfl).u2 hI_354 rfl).fk f_359 (by decide), v_364, rfl⟩) dX9_readFrom_64
set_option maxRecDepth 100000 in
set_option maxHeartbeats 4000000 in
theorem c_Order_goOn0 {l : Launch} {D : va_G} {cy : Nat → ClassId} {L : List Nat} {κ ln : Nat → Nat} {R : Nat → Nat → Option Nat} {I : Nat → Nat → Int32} {J : Nat → Nat → Int64} {ow : Nat → Nat × Nat} (W9 : ∀ a ∈ L, Shp L κ ln R ow a) {a : Nat} (hLa : a ∈ L) (hka : κ a = 4) : CtV l yX4_goOn cX4_goOn 9 none { frames := 1, cells := 0, slots := 0, locals := 100 } D cy L κ ln R I J [.ref a, .int 0, .int 0, .int 0] (fun I2 J2 => J = J2 ∧ Fk κ [4, 14] I I2 ∧ I2 a 4 = 0) := by
  refine CtV.of (by decide +kernel) (Nat.le_of_ble_eq_true rfl) ?_
  intro p e s m below meth c B K
  have C := B.1
  refine g_lo (is := [0, 1, 2, 3]) (lo2 := [(0, .ref a), (1, .int 0), (2, .int 0), (3, .int 0)]) rfl ?_
  refine g_iload_n C 2 dX4_goOn_0 rfl rfl ?_
  refine t_if_eq C (tgt := 10) (by decide) dX4_goOn_1 (by decide) ?_
  refine g_aload_n C 0 dX4_goOn_10 rfl rfl ?_
  refine g_iload_n C 3 dX4_goOn_11 rfl rfl ?_
  refine h_putI C K hLa hka f_4_28 p_4_4 dX4_goOn_12 (fun I_366 hI_366 => ?_)
  refine g_aload_n C 0 dX4_goOn_15 rfl rfl ?_
  obtain ⟨b_367, hb_367, hb_367L, hb_367k, hb_367n, hb_367o⟩ := shp_a (W9 a hLa) hka 1 14 7 rfl (by decide)
  refine g_getR C K hLa hka f_4_17 hb_367 dX4_goOn_16 ?_
  refine g_iconst C (v := 0) dX4_goOn_19 (by decide) ?_
  refine g_aload_n C 0 dX4_goOn_20 rfl rfl ?_
  obtain ⟨b_368, hb_368, hb_368L, hb_368k, hb_368n, hb_368o⟩ := shp_a (W9 a hLa) hka 2 14 7 rfl (by decide)
  refine g_getR C K hLa hka f_4_21 hb_368 dX4_goOn_21 ?_
  refine g_iconst C (v := 0) dX4_goOn_24 (by decide) ?_
  refine g_bipush C (v := 7) dX4_goOn_25 (by decide) ?_
  refine h_copyI C K hb_368L hb_368k hb_367L hb_367k ac_4_52 7 (by decide) (by decide) (by rw [hb_367n]; decide) (by rw [hb_368n]; decide) w_cp (Nat.le_of_ble_eq_true rfl) (Nat.le_of_ble_eq_true rfl) dX4_goOn_27 (fun I_369 hI_369 => ?_)
  exact g_vret B K rfl (⟨rfl, ((Fk.rf).u2 hI_366 hka (by decide)).k2 hI_369 hb_368k (by decide), by rw [hI_369, k2_k (κ := κ) (by rw [hka, hb_368k]; decide), hI_366]; exact u2_s⟩) dX4_goOn_30
set_option maxRecDepth 100000 in
set_option maxHeartbeats 4000000 in
theorem c_Order_findFrom0 {l : Launch} {D : va_G} {cy : Nat → ClassId} {L : List Nat} {κ ln : Nat → Nat} {R : Nat → Nat → Option Nat} {I : Nat → Nat → Int32} {J : Nat → Nat → Int64} {ow : Nat → Nat × Nat} (W9 : ∀ a ∈ L, Shp L κ ln R ow a) {a : Nat} (hLa : a ∈ L) (hka : κ a = 4) {b : Nat} (hLb : b ∈ L) (hkb : κ b = 1) (Z1 : Zk L κ 1 I) (Z8 : Zk L κ 8 I) : CtI l yX4_findFrom cX4_findFrom 2 (some .int) { frames := 3, cells := 0, slots := 0, locals := 200 } D cy L κ ln R I J [.ref a, .ref b] (fun r I2 J2 => J = J2 ∧ Fk κ [1, 4, 14] I I2 ∧ r = 0) := by
  refine CtI.of (by decide +kernel) (Nat.le_of_ble_eq_true rfl) ?_
  intro p e s m below meth c B K
  have C := B.1
  refine g_lo (is := [0, 1]) (lo2 := [(0, .ref a), (1, .ref b)]) rfl ?_
  refine g_aload_n C 0 dX4_findFrom_0 rfl rfl ?_
  refine g_aload_n C 1 dX4_findFrom_1 rfl rfl ?_
  refine g_callVI C K (c_Course_living0 W9 hLb hkb (Z1) (Z8)) hLb hkb (by decide) rfl v_4_34 rfl ⟨rfl, rfl⟩ ⟨Nat.le_of_ble_eq_true rfl, Nat.le_of_ble_eq_true rfl⟩ (Nat.le_of_ble_eq_true rfl) ⟨Nat.le_of_ble_eq_true rfl, Nat.le_of_ble_eq_true rfl⟩ dX4_findFrom_2 rfl (st := [.ref a]) (fun r_373 I_370 J_371 h_372 => ?_)
  obtain ⟨rfl, rfl, er_373⟩ := h_372
  have h0r_373 := er_373
  subst er_373
  refine g_callSI C K (c_bitCount0 ) s_4_38 rfl ⟨rfl, rfl⟩ ⟨Nat.le_of_ble_eq_true rfl, Nat.le_of_ble_eq_true rfl⟩ (Nat.le_of_ble_eq_true rfl) ⟨Nat.le_of_ble_eq_true rfl, Nat.le_of_ble_eq_true rfl⟩ dX4_findFrom_5 rfl (st := [.ref a]) (fun r_377 I_374 J_375 h_376 => ?_)
  obtain ⟨rfl, rfl, er_377⟩ := h_376
  have h0r_377 := er_377
  subst er_377
  refine h_putI C K hLa hka f_4_24 p_4_3 dX4_findFrom_8 (fun I_378 hI_378 => ?_)
  refine g_aload_n C 0 dX4_findFrom_11 rfl rfl ?_
  refine g_sipush C (v := 1000) dX4_findFrom_12 (by decide) ?_
  refine h_putI C K hLa hka f_4_28 p_4_4 dX4_findFrom_15 (fun I_379 hI_379 => ?_)
  refine g_aload_n C 0 dX4_findFrom_18 rfl rfl ?_
  obtain ⟨b_380, hb_380, hb_380L, hb_380k, hb_380n, hb_380o⟩ := shp_a (W9 a hLa) hka 0 17 8 rfl (by decide)
  refine g_getR C K hLa hka f_4_11 hb_380 dX4_findFrom_19 ?_
  refine g_iconst C (v := 0) dX4_findFrom_22 (by decide) ?_
  obtain ⟨b_381, hb_381, hb_381L, hb_381k⟩ := (W9 b_380 hb_380L).2.1 hb_380k (0) (by rw [hb_380n]; decide)
  refine h_aaldC C K hb_380L hb_380k (0) (by decide) (by decide) (by rw [hb_380n]; decide) hb_381 dX4_findFrom_23 ?_
  refine g_aload_n C 1 dX4_findFrom_24 rfl rfl ?_
  refine g_callVV C K (c_Course_become W9 hb_381L hb_381k hLb hkb (((Z1).u2 hI_378 rfl).u2k hI_379 hka (by decide))) hb_381L hb_381k (by decide) rfl v_4_44 rfl ⟨rfl, rfl⟩ ⟨Nat.le_of_ble_eq_true rfl, Nat.le_of_ble_eq_true rfl⟩ (Nat.le_of_ble_eq_true rfl) ⟨Nat.le_of_ble_eq_true rfl, Nat.le_of_ble_eq_true rfl⟩ dX4_findFrom_25 rfl (st := []) (fun I_382 J_383 h_384 => ?_)
  obtain ⟨rfl, f_386, z_388⟩ := h_384
  refine g_aload_n C 0 dX4_findFrom_28 rfl rfl ?_
  refine g_iconst C (v := 0) dX4_findFrom_29 (by decide) ?_
  refine g_aload_n C 1 dX4_findFrom_30 rfl rfl ?_
  refine g_callVI C K (c_Course_living0 W9 hLb hkb (z_388) ((((Z8).u2 hI_378 rfl).u2k hI_379 hka (by decide)).fk f_386 (by decide))) hLb hkb (by decide) rfl v_4_34 rfl ⟨rfl, rfl⟩ ⟨Nat.le_of_ble_eq_true rfl, Nat.le_of_ble_eq_true rfl⟩ (Nat.le_of_ble_eq_true rfl) ⟨Nat.le_of_ble_eq_true rfl, Nat.le_of_ble_eq_true rfl⟩ dX4_findFrom_31 rfl (st := [.int 0, .ref a]) (fun r_392 I_389 J_390 h_391 => ?_)
  obtain ⟨rfl, rfl, er_392⟩ := h_391
  have h0r_392 := er_392
  subst er_392
  refine g_iconst C (v := 0) dX4_findFrom_34 (by decide) ?_
  refine g_callVV C K (c_Order_goOn0 W9 hLa hka) hLa hka (by decide) rfl v_4_48 rfl ⟨rfl, rfl⟩ ⟨Nat.le_of_ble_eq_true rfl, Nat.le_of_ble_eq_true rfl⟩ (Nat.le_of_ble_eq_true rfl) ⟨Nat.le_of_ble_eq_true rfl, Nat.le_of_ble_eq_true rfl⟩ dX4_findFrom_35 rfl (st := []) (fun I_393 J_394 h_395 => ?_)
  obtain ⟨rfl, f_397, v_399⟩ := h_395
  refine g_aload_n C 0 dX4_findFrom_38 rfl rfl ?_
  refine g_getI C K hLa hka f_4_28 (v := 0) (v_399) dX4_findFrom_39 ?_
  exact g_zret (ty := .int) (r := 0) B K rfl rfl (⟨rfl, ((((Fk.rf).u2 hI_378 hka (by decide)).u2 hI_379 hka (by decide)).tr f_386 (by decide)).tr f_397 (by decide), rfl⟩) dX4_findFrom_42
set_option maxRecDepth 100000 in
set_option maxHeartbeats 4000000 in
theorem c_Seat_parentsAmong0 {l : Launch} {D : va_G} {cy : Nat → ClassId} {L : List Nat} {κ ln : Nat → Nat} {R : Nat → Nat → Option Nat} {I : Nat → Nat → Int32} {J : Nat → Nat → Int64} {a : Nat} (hLa : a ∈ L) (hka : κ a = 8) (h5 : I a 5 = 0) : CtI l yX6_parentsAmong cX6_parentsAmong 5 (some .int) { frames := 0, cells := 0, slots := 0, locals := 0 } D cy L κ ln R I J [.ref a, .int 0, .int 0] (fun r I2 J2 => I = I2 ∧ J = J2 ∧ r = 0) := by
  refine CtI.of (by decide +kernel) (Nat.le_of_ble_eq_true rfl) ?_
  intro p e s m below meth c B K
  have C := B.1
  refine g_lo (is := [0, 1, 2]) (lo2 := [(0, .ref a), (1, .int 0), (2, .int 0)]) rfl ?_
  refine g_iconst C (v := 0) dX6_parentsAmong_0 (by decide) ?_
  refine g_istore_n C dX6_parentsAmong_1 rfl (by decide) (lo2 := [(3, .int 0), (0, .ref a), (1, .int 0), (2, .int 0)]) rfl ?_
  refine g_iconst C (v := 0) dX6_parentsAmong_2 (by decide) ?_
  refine g_istore C dX6_parentsAmong_3 (by decide) (lo2 := [(4, .int 0), (3, .int 0), (0, .ref a), (1, .int 0), (2, .int 0)]) rfl ?_
  refine g_iload C 0 dX6_parentsAmong_5 rfl ?_
  refine g_aload_n C 2 dX6_parentsAmong_7 rfl rfl ?_
  refine g_getI C K hLa hka f_6_33 (v := 0) (h5) dX6_parentsAmong_8 ?_
  refine t_icmp_ge C (tgt := 43) (by decide) dX6_parentsAmong_11 (by decide) ?_
  refine g_iload_n C 1 dX6_parentsAmong_43 rfl rfl ?_
  exact g_zret (ty := .int) (r := 0) B K rfl rfl (⟨rfl, rfl, rfl⟩) dX6_parentsAmong_44
set_option maxRecDepth 100000 in
set_option maxHeartbeats 4000000 in
theorem c_Seat_seat0 {l : Launch} {D : va_G} {cy : Nat → ClassId} {L : List Nat} {κ ln : Nat → Nat} {R : Nat → Nat → Option Nat} {I : Nat → Nat → Int32} {J : Nat → Nat → Int64} {ow : Nat → Nat × Nat} (W9 : ∀ a ∈ L, Shp L κ ln R ow a) {a : Nat} (hLa : a ∈ L) (hka : κ a = 6) {b : Nat} (hLb : b ∈ L) (hkb : κ b = 1) (Z1 : Zk L κ 1 I) (Z8 : Zk L κ 8 I) : CtI l yX6_seat cX6_seat 9 (some .int) { frames := 2, cells := 0, slots := 0, locals := 150 } D cy L κ ln R I J [.ref a, .ref b] (fun r I2 J2 => J = J2 ∧ Fk κ [6] I I2 ∧ r = 0) := by
  refine CtI.of (by decide +kernel) (Nat.le_of_ble_eq_true rfl) ?_
  intro p e s m below meth c B K
  have C := B.1
  refine g_lo (is := [0, 1]) (lo2 := [(0, .ref a), (1, .ref b)]) rfl ?_
  refine g_aload_n C 1 dX6_seat_0 rfl rfl ?_
  obtain ⟨b_400, hb_400, hb_400L, hb_400k⟩ := shp_o (W9 b hLb) hkb 0 8 rfl (by decide)
  refine g_getR C K hLb hkb f_6_19 hb_400 dX6_seat_1 ?_
  refine g_astore_n C dX6_seat_4 rfl (by decide) (lo2 := [(2, .ref b_400), (0, .ref a), (1, .ref b)]) rfl ?_
  refine g_aload_n C 2 dX6_seat_5 rfl rfl ?_
  refine g_callVI C K (c_Course_living0 W9 hLb hkb (Z1) (Z8)) hLb hkb (by decide) rfl v_6_25 rfl ⟨rfl, rfl⟩ ⟨Nat.le_of_ble_eq_true rfl, Nat.le_of_ble_eq_true rfl⟩ (Nat.le_of_ble_eq_true rfl) ⟨Nat.le_of_ble_eq_true rfl, Nat.le_of_ble_eq_true rfl⟩ dX6_seat_6 rfl (st := []) (fun r_404 I_401 J_402 h_403 => ?_)
  obtain ⟨rfl, rfl, er_404⟩ := h_403
  have h0r_404 := er_404
  subst er_404
  refine g_istore_n C dX6_seat_9 rfl (by decide) (lo2 := [(3, .int 0), (2, .ref b_400), (0, .ref a), (1, .ref b)]) rfl ?_
  refine g_aload_n C 1 dX6_seat_10 rfl rfl ?_
  refine g_iload_n C 0 dX6_seat_11 rfl rfl ?_
  refine g_iload_n C 0 dX6_seat_12 rfl rfl ?_
  refine g_callSI C K (c_Seat_parentsAmong0 hb_400L hb_400k (Z8 b_400 hb_400L hb_400k 5)) s_6_29 rfl ⟨rfl, rfl⟩ ⟨Nat.le_of_ble_eq_true rfl, Nat.le_of_ble_eq_true rfl⟩ (Nat.le_of_ble_eq_true rfl) ⟨Nat.le_of_ble_eq_true rfl, Nat.le_of_ble_eq_true rfl⟩ dX6_seat_13 rfl (st := []) (fun r_408 I_405 J_406 h_407 => ?_)
  obtain ⟨rfl, rfl, er_408⟩ := h_407
  have h0r_408 := er_408
  subst er_408
  refine g_istore C dX6_seat_16 (by decide) (lo2 := [(4, .int 0), (3, .int 0), (2, .ref b_400), (0, .ref a), (1, .ref b)]) rfl ?_
  refine g_iconst C (v := 0) dX6_seat_18 (by decide) ?_
  refine g_istore C dX6_seat_19 (by decide) (lo2 := [(5, .int 0), (4, .int 0), (3, .int 0), (2, .ref b_400), (0, .ref a), (1, .ref b)]) rfl ?_
  refine g_iconst C (v := (-1)) dX6_seat_21 (by decide) ?_
  refine g_istore C dX6_seat_22 (by decide) (lo2 := [(6, .int (-1)), (5, .int 0), (4, .int 0), (3, .int 0), (2, .ref b_400), (0, .ref a), (1, .ref b)]) rfl ?_
  refine g_aload_n C 5 dX6_seat_24 rfl rfl ?_
  refine g_iconst C (v := 0) dX6_seat_25 (by decide) ?_
  refine h_putI C K hLa hka f_6_15 p_6_1 dX6_seat_26 (fun I_409 hI_409 => ?_)
  refine g_iconst C (v := 0) dX6_seat_29 (by decide) ?_
  refine g_istore C dX6_seat_30 (by decide) (lo2 := [(7, .int 0), (6, .int (-1)), (5, .int 0), (4, .int 0), (3, .int 0), (2, .ref b_400), (0, .ref a), (1, .ref b)]) rfl ?_
  refine g_iload C 0 dX6_seat_32 rfl ?_
  refine g_aload_n C 5 dX6_seat_34 rfl rfl ?_
  refine g_getI C K hb_400L hb_400k f_6_33 (v := 0) (by rw [hI_409, u2_j (by decide)]; exact Z8 b_400 hb_400L hb_400k 5) dX6_seat_35 ?_
  refine t_icmp_ge C (tgt := 130) (by decide) dX6_seat_38 (by decide) ?_
  refine g_iload C 2 dX6_seat_130 rfl ?_
  exact g_zret (ty := .int) (r := 0) B K rfl rfl (⟨rfl, (Fk.rf).u2 hI_409 hka (by decide), rfl⟩) dX6_seat_132
set_option maxRecDepth 100000 in
set_option maxHeartbeats 4000000 in
theorem c_Image_keep0 {l : Launch} {D : va_G} {cy : Nat → ClassId} {L : List Nat} {κ ln : Nat → Nat} {R : Nat → Nat → Option Nat} {I : Nat → Nat → Int32} {J : Nat → Nat → Int64} {ow : Nat → Nat × Nat} (W9 : ∀ a ∈ L, Shp L κ ln R ow a) {a : Nat} (hLa : a ∈ L) (hka : κ a = 3) {b : Nat} (hLb : b ∈ L) (hkb : κ b = 8) {c9 : Nat} (hLc9 : c9 ∈ L) (hkc9 : κ c9 = 1) {d : Nat} (hLd : d ∈ L) (hkd : κ d = 7) (Z1 : Zk L κ 1 I) (Z8 : Zk L κ 8 I) : CtV l yX3_keep cX3_keep 4 none { frames := 2, cells := 0, slots := 0, locals := 150 } D cy L κ ln R I J [.ref a, .ref b, .ref c9, .ref d] (fun I2 J2 => Fj κ [15] J J2 ∧ Fk κ [1, 3, 7, 8, 14] I I2) := by
  refine CtV.of (by decide +kernel) (Nat.le_of_ble_eq_true rfl) ?_
  intro p e s m below meth c B K
  have C := B.1
  refine g_lo (is := [0, 1, 2, 3]) (lo2 := [(0, .ref a), (1, .ref b), (2, .ref c9), (3, .ref d)]) rfl ?_
  refine g_aload_n C 0 dX3_keep_0 rfl rfl ?_
  obtain ⟨b_410, hb_410, hb_410L, hb_410k⟩ := shp_o (W9 a hLa) hka 0 8 rfl (by decide)
  refine g_getR C K hLa hka f_3_10 hb_410 dX3_keep_1 ?_
  refine g_aload_n C 1 dX3_keep_4 rfl rfl ?_
  refine g_callVV C K (c_Table_become W9 hb_410L hb_410k hLb hkb (Z8)) hb_410L hb_410k (by decide) rfl v_3_36 rfl ⟨rfl, rfl⟩ ⟨Nat.le_of_ble_eq_true rfl, Nat.le_of_ble_eq_true rfl⟩ (Nat.le_of_ble_eq_true rfl) ⟨Nat.le_of_ble_eq_true rfl, Nat.le_of_ble_eq_true rfl⟩ dX3_keep_5 rfl (st := []) (fun I_411 J_412 h_413 => ?_)
  obtain ⟨g_416, f_415, z_417⟩ := h_413
  refine g_aload_n C 0 dX3_keep_8 rfl rfl ?_
  obtain ⟨b_418, hb_418, hb_418L, hb_418k⟩ := shp_o (W9 a hLa) hka 1 1 rfl (by decide)
  refine g_getR C K hLa hka f_3_21 hb_418 dX3_keep_9 ?_
  refine g_aload_n C 2 dX3_keep_12 rfl rfl ?_
  refine g_callVV C K (c_Course_become W9 hb_418L hb_418k hLc9 hkc9 ((Z1).fk f_415 (by decide))) hb_418L hb_418k (by decide) rfl v_3_39 rfl ⟨rfl, rfl⟩ ⟨Nat.le_of_ble_eq_true rfl, Nat.le_of_ble_eq_true rfl⟩ (Nat.le_of_ble_eq_true rfl) ⟨Nat.le_of_ble_eq_true rfl, Nat.le_of_ble_eq_true rfl⟩ dX3_keep_13 rfl (st := []) (fun I_419 J_420 h_421 => ?_)
  obtain ⟨rfl, f_423, z_425⟩ := h_421
  refine g_aload_n C 0 dX3_keep_16 rfl rfl ?_
  obtain ⟨b_426, hb_426, hb_426L, hb_426k⟩ := shp_o (W9 a hLa) hka 2 7 rfl (by decide)
  refine g_getR C K hLa hka f_3_28 hb_426 dX3_keep_17 ?_
  refine g_aload_n C 3 dX3_keep_20 rfl rfl ?_
  refine g_callVV C K (c_Sen_become W9 hb_426L hb_426k hLd hkd) hb_426L hb_426k (by decide) rfl v_3_42 rfl ⟨rfl, rfl⟩ ⟨Nat.le_of_ble_eq_true rfl, Nat.le_of_ble_eq_true rfl⟩ (Nat.le_of_ble_eq_true rfl) ⟨Nat.le_of_ble_eq_true rfl, Nat.le_of_ble_eq_true rfl⟩ dX3_keep_21 rfl (st := []) (fun I_427 J_428 h_429 => ?_)
  obtain ⟨rfl, f_431⟩ := h_429
  refine g_aload_n C 0 dX3_keep_24 rfl rfl ?_
  refine g_iconst C (v := 1) dX3_keep_25 (by decide) ?_
  refine h_putZ C K hLa hka f_3_32 p_3_3 (Or.inr rfl) dX3_keep_26 (fun I_433 hI_433 => ?_)
  exact g_vret B K rfl (⟨(Fj.rf).tr g_416 (by decide), ((((Fk.rf).tr f_415 (by decide)).tr f_423 (by decide)).tr f_431 (by decide)).u2 hI_433 hka (by decide)⟩) dX3_keep_29
