theorem dX11_count_0 : decode cX11_count 0 = .ok (.iload_n 1, 1) := by decide +kernel
theorem dX11_count_1 : decode cX11_count 1 = .ok (.tableswitch 75 0 4 #[35, 43, 51, 59, 67], 35) := by decide +kernel
theorem dX11_count_36 : decode cX11_count 36 = .ok (.aload_n 0, 1) := by decide +kernel
theorem dX11_count_37 : decode cX11_count 37 = .ok (.getfield 19, 3) := by decide +kernel
theorem dX11_count_40 : decode cX11_count 40 = .ok (.getfield 213, 3) := by decide +kernel
theorem dX11_count_43 : decode cX11_count 43 = .ok (.ireturn, 1) := by decide +kernel
theorem dX11_count_44 : decode cX11_count 44 = .ok (.aload_n 0, 1) := by decide +kernel
theorem dX11_count_45 : decode cX11_count 45 = .ok (.getfield 19, 3) := by decide +kernel
theorem dX11_count_48 : decode cX11_count 48 = .ok (.getfield 216, 3) := by decide +kernel
theorem dX11_count_51 : decode cX11_count 51 = .ok (.ireturn, 1) := by decide +kernel
theorem dX11_count_52 : decode cX11_count 52 = .ok (.aload_n 0, 1) := by decide +kernel
theorem dX11_count_53 : decode cX11_count 53 = .ok (.getfield 19, 3) := by decide +kernel
theorem dX11_count_56 : decode cX11_count 56 = .ok (.getfield 219, 3) := by decide +kernel
theorem dX11_count_59 : decode cX11_count 59 = .ok (.ireturn, 1) := by decide +kernel
theorem dX11_count_60 : decode cX11_count 60 = .ok (.aload_n 0, 1) := by decide +kernel
theorem dX11_count_61 : decode cX11_count 61 = .ok (.getfield 19, 3) := by decide +kernel
theorem dX11_count_64 : decode cX11_count 64 = .ok (.getfield 222, 3) := by decide +kernel
theorem dX11_count_67 : decode cX11_count 67 = .ok (.ireturn, 1) := by decide +kernel
theorem dX11_count_68 : decode cX11_count 68 = .ok (.aload_n 0, 1) := by decide +kernel
theorem dX11_count_69 : decode cX11_count 69 = .ok (.getfield 10, 3) := by decide +kernel
theorem dX11_count_72 : decode cX11_count 72 = .ok (.getfield 102, 3) := by decide +kernel
theorem dX11_count_75 : decode cX11_count 75 = .ok (.ireturn, 1) := by decide +kernel
theorem dX11_count_76 : decode cX11_count 76 = .ok (.iconst (-1), 1) := by decide +kernel
theorem dX11_count_77 : decode cX11_count 77 = .ok (.ireturn, 1) := by decide +kernel
theorem dX11_eat_0 : decode cX11_eat 0 = .ok (.aload_n 0, 1) := by decide +kernel
theorem dX11_eat_1 : decode cX11_eat 1 = .ok (.getfield 19, 3) := by decide +kernel
theorem dX11_eat_4 : decode cX11_eat 4 = .ok (.iload_n 1, 1) := by decide +kernel
theorem dX11_eat_5 : decode cX11_eat 5 = .ok (.invokevirtual 133, 3) := by decide +kernel
theorem dX11_eat_8 : decode cX11_eat 8 = .ok (.ifCond .eq 25, 3) := by decide +kernel
theorem dX11_eat_11 : decode cX11_eat 11 = .ok (.aload_n 0, 1) := by decide +kernel
theorem dX11_eat_12 : decode cX11_eat 12 = .ok (.getfield 19, 3) := by decide +kernel
theorem dX11_eat_15 : decode cX11_eat 15 = .ok (.iload_n 2, 1) := by decide +kernel
theorem dX11_eat_16 : decode cX11_eat 16 = .ok (.invokevirtual 175, 3) := by decide +kernel
theorem dX11_eat_19 : decode cX11_eat 19 = .ok (.ifCond .eq 14, 3) := by decide +kernel
theorem dX11_eat_22 : decode cX11_eat 22 = .ok (.iload_n 3, 1) := by decide +kernel
theorem dX11_eat_23 : decode cX11_eat 23 = .ok (.iconst 1, 1) := by decide +kernel
theorem dX11_eat_24 : decode cX11_eat 24 = .ok (.if_icmp .lt 9, 3) := by decide +kernel
theorem dX11_eat_27 : decode cX11_eat 27 = .ok (.iload_n 3, 1) := by decide +kernel
theorem dX11_eat_28 : decode cX11_eat 28 = .ok (.bipush 20, 2) := by decide +kernel
theorem dX11_eat_30 : decode cX11_eat 30 = .ok (.if_icmp .le 5, 3) := by decide +kernel
theorem dX11_eat_33 : decode cX11_eat 33 = .ok (.iconst (-1), 1) := by decide +kernel
theorem dX11_eat_34 : decode cX11_eat 34 = .ok (.ireturn, 1) := by decide +kernel
theorem dX11_eat_35 : decode cX11_eat 35 = .ok (.aload_n 0, 1) := by decide +kernel
theorem dX11_eat_36 : decode cX11_eat 36 = .ok (.getfield 38, 3) := by decide +kernel
theorem dX11_eat_39 : decode cX11_eat 39 = .ok (.aload_n 0, 1) := by decide +kernel
theorem dX11_eat_40 : decode cX11_eat 40 = .ok (.getfield 28, 3) := by decide +kernel
theorem dX11_eat_43 : decode cX11_eat 43 = .ok (.invokevirtual 225, 3) := by decide +kernel
theorem dX11_eat_46 : decode cX11_eat 46 = .ok (.aload_n 0, 1) := by decide +kernel
theorem dX11_eat_47 : decode cX11_eat 47 = .ok (.aload_n 0, 1) := by decide +kernel
theorem dX11_eat_48 : decode cX11_eat 48 = .ok (.getfield 28, 3) := by decide +kernel
theorem dX11_eat_51 : decode cX11_eat 51 = .ok (.iload_n 1, 1) := by decide +kernel
theorem dX11_eat_52 : decode cX11_eat 52 = .ok (.iload_n 2, 1) := by decide +kernel
theorem dX11_eat_53 : decode cX11_eat 53 = .ok (.iload_n 3, 1) := by decide +kernel
theorem dX11_eat_54 : decode cX11_eat 54 = .ok (.invokevirtual 228, 3) := by decide +kernel
theorem dX11_eat_57 : decode cX11_eat 57 = .ok (.invokevirtual 232, 3) := by decide +kernel
theorem dX11_eat_60 : decode cX11_eat 60 = .ok (.ireturn, 1) := by decide +kernel
theorem dX11_keptIfDone_0 : decode cX11_keptIfDone 0 = .ok (.iload_n 1, 1) := by decide +kernel
theorem dX11_keptIfDone_1 : decode cX11_keptIfDone 1 = .ok (.ifCond .ne 10, 3) := by decide +kernel
theorem dX11_keptIfDone_4 : decode cX11_keptIfDone 4 = .ok (.aload_n 0, 1) := by decide +kernel
theorem dX11_keptIfDone_5 : decode cX11_keptIfDone 5 = .ok (.getfield 38, 3) := by decide +kernel
theorem dX11_keptIfDone_8 : decode cX11_keptIfDone 8 = .ok (.invokevirtual 260, 3) := by decide +kernel
theorem dX11_keptIfDone_11 : decode cX11_keptIfDone 11 = .ok (.iload_n 1, 1) := by decide +kernel
theorem dX11_keptIfDone_12 : decode cX11_keptIfDone 12 = .ok (.ireturn, 1) := by decide +kernel
theorem dX11_now_0 : decode cX11_now 0 = .ok (.iload_n 1, 1) := by decide +kernel
theorem dX11_now_1 : decode cX11_now 1 = .ok (.tableswitch 111 0 7 #[47, 55, 63, 71, 79, 87, 95, 103], 47) := by decide +kernel
theorem dX11_now_48 : decode cX11_now 48 = .ok (.aload_n 0, 1) := by decide +kernel
theorem dX11_now_49 : decode cX11_now 49 = .ok (.getfield 28, 3) := by decide +kernel
theorem dX11_now_52 : decode cX11_now 52 = .ok (.getfield 195, 3) := by decide +kernel
theorem dX11_now_55 : decode cX11_now 55 = .ok (.ireturn, 1) := by decide +kernel
theorem dX11_now_56 : decode cX11_now 56 = .ok (.aload_n 0, 1) := by decide +kernel
theorem dX11_now_57 : decode cX11_now 57 = .ok (.getfield 28, 3) := by decide +kernel
theorem dX11_now_60 : decode cX11_now 60 = .ok (.getfield 151, 3) := by decide +kernel
theorem dX11_now_63 : decode cX11_now 63 = .ok (.ireturn, 1) := by decide +kernel
theorem dX11_now_64 : decode cX11_now 64 = .ok (.aload_n 0, 1) := by decide +kernel
theorem dX11_now_65 : decode cX11_now 65 = .ok (.getfield 28, 3) := by decide +kernel
theorem dX11_now_68 : decode cX11_now 68 = .ok (.getfield 154, 3) := by decide +kernel
theorem dX11_now_71 : decode cX11_now 71 = .ok (.ireturn, 1) := by decide +kernel
theorem dX11_now_72 : decode cX11_now 72 = .ok (.aload_n 0, 1) := by decide +kernel
theorem dX11_now_73 : decode cX11_now 73 = .ok (.getfield 28, 3) := by decide +kernel
theorem dX11_now_76 : decode cX11_now 76 = .ok (.getfield 198, 3) := by decide +kernel
theorem dX11_now_79 : decode cX11_now 79 = .ok (.ireturn, 1) := by decide +kernel
theorem dX11_now_80 : decode cX11_now 80 = .ok (.aload_n 0, 1) := by decide +kernel
theorem dX11_now_81 : decode cX11_now 81 = .ok (.getfield 28, 3) := by decide +kernel
theorem dX11_now_84 : decode cX11_now 84 = .ok (.getfield 201, 3) := by decide +kernel
theorem dX11_now_87 : decode cX11_now 87 = .ok (.ireturn, 1) := by decide +kernel
theorem dX11_now_88 : decode cX11_now 88 = .ok (.aload_n 0, 1) := by decide +kernel
theorem dX11_now_89 : decode cX11_now 89 = .ok (.getfield 28, 3) := by decide +kernel
theorem dX11_now_92 : decode cX11_now 92 = .ok (.invokevirtual 204, 3) := by decide +kernel
theorem dX11_now_95 : decode cX11_now 95 = .ok (.ireturn, 1) := by decide +kernel
theorem dX11_now_96 : decode cX11_now 96 = .ok (.aload_n 0, 1) := by decide +kernel
theorem dX11_now_97 : decode cX11_now 97 = .ok (.getfield 28, 3) := by decide +kernel
theorem dX11_now_100 : decode cX11_now 100 = .ok (.invokevirtual 207, 3) := by decide +kernel
theorem dX11_now_103 : decode cX11_now 103 = .ok (.ireturn, 1) := by decide +kernel
theorem dX11_now_104 : decode cX11_now 104 = .ok (.aload_n 0, 1) := by decide +kernel
theorem dX11_now_105 : decode cX11_now 105 = .ok (.getfield 28, 3) := by decide +kernel
theorem dX11_now_108 : decode cX11_now 108 = .ok (.getfield 210, 3) := by decide +kernel
theorem dX11_now_111 : decode cX11_now 111 = .ok (.ireturn, 1) := by decide +kernel
theorem dX11_now_112 : decode cX11_now 112 = .ok (.iconst (-1), 1) := by decide +kernel
theorem dX11_now_113 : decode cX11_now 113 = .ok (.ireturn, 1) := by decide +kernel
theorem dX11_serve_0 : decode cX11_serve 0 = .ok (.aload_n 0, 1) := by decide +kernel
theorem dX11_serve_1 : decode cX11_serve 1 = .ok (.getfield 19, 3) := by decide +kernel
theorem dX11_serve_4 : decode cX11_serve 4 = .ok (.iload_n 1, 1) := by decide +kernel
theorem dX11_serve_5 : decode cX11_serve 5 = .ok (.invokevirtual 133, 3) := by decide +kernel
theorem dX11_serve_8 : decode cX11_serve 8 = .ok (.ifCond .eq 25, 3) := by decide +kernel
theorem dX11_serve_11 : decode cX11_serve 11 = .ok (.aload_n 0, 1) := by decide +kernel
theorem dX11_serve_12 : decode cX11_serve 12 = .ok (.getfield 19, 3) := by decide +kernel
theorem dX11_serve_15 : decode cX11_serve 15 = .ok (.iload_n 2, 1) := by decide +kernel
theorem dX11_serve_16 : decode cX11_serve 16 = .ok (.invokevirtual 175, 3) := by decide +kernel
theorem dX11_serve_19 : decode cX11_serve 19 = .ok (.ifCond .eq 14, 3) := by decide +kernel
theorem dX11_serve_22 : decode cX11_serve 22 = .ok (.iload_n 3, 1) := by decide +kernel
theorem dX11_serve_23 : decode cX11_serve 23 = .ok (.iconst 1, 1) := by decide +kernel
theorem dX11_serve_24 : decode cX11_serve 24 = .ok (.if_icmp .lt 9, 3) := by decide +kernel
theorem dX11_serve_27 : decode cX11_serve 27 = .ok (.iload_n 3, 1) := by decide +kernel
theorem dX11_serve_28 : decode cX11_serve 28 = .ok (.bipush 40, 2) := by decide +kernel
theorem dX11_serve_30 : decode cX11_serve 30 = .ok (.if_icmp .le 5, 3) := by decide +kernel
theorem dX11_serve_33 : decode cX11_serve 33 = .ok (.iconst (-1), 1) := by decide +kernel
theorem dX11_serve_34 : decode cX11_serve 34 = .ok (.ireturn, 1) := by decide +kernel
theorem dX11_serve_35 : decode cX11_serve 35 = .ok (.aload_n 0, 1) := by decide +kernel
theorem dX11_serve_36 : decode cX11_serve 36 = .ok (.getfield 38, 3) := by decide +kernel
theorem dX11_serve_39 : decode cX11_serve 39 = .ok (.aload_n 0, 1) := by decide +kernel
theorem dX11_serve_40 : decode cX11_serve 40 = .ok (.getfield 28, 3) := by decide +kernel
theorem dX11_serve_43 : decode cX11_serve 43 = .ok (.invokevirtual 225, 3) := by decide +kernel
theorem dX11_serve_46 : decode cX11_serve 46 = .ok (.aload_n 0, 1) := by decide +kernel
theorem dX11_serve_47 : decode cX11_serve 47 = .ok (.aload_n 0, 1) := by decide +kernel
theorem dX11_serve_48 : decode cX11_serve 48 = .ok (.getfield 28, 3) := by decide +kernel
theorem dX11_serve_51 : decode cX11_serve 51 = .ok (.iload_n 1, 1) := by decide +kernel
theorem dX11_serve_52 : decode cX11_serve 52 = .ok (.iload_n 2, 1) := by decide +kernel
theorem dX11_serve_53 : decode cX11_serve 53 = .ok (.iload_n 3, 1) := by decide +kernel
theorem dX11_serve_54 : decode cX11_serve 54 = .ok (.invokevirtual 235, 3) := by decide +kernel
theorem dX11_serve_57 : decode cX11_serve 57 = .ok (.invokevirtual 232, 3) := by decide +kernel
theorem dX11_serve_60 : decode cX11_serve 60 = .ok (.ireturn, 1) := by decide +kernel
theorem dX1_allEaten_0 : decode cX1_allEaten 0 = .ok (.iconst 0, 1) := by decide +kernel
theorem dX1_allEaten_1 : decode cX1_allEaten 1 = .ok (.istore_n 1, 1) := by decide +kernel
theorem dX1_allEaten_2 : decode cX1_allEaten 2 = .ok (.iconst 0, 1) := by decide +kernel
theorem dX1_allEaten_3 : decode cX1_allEaten 3 = .ok (.istore_n 2, 1) := by decide +kernel
theorem dX1_allEaten_4 : decode cX1_allEaten 4 = .ok (.iload_n 2, 1) := by decide +kernel
theorem dX1_allEaten_5 : decode cX1_allEaten 5 = .ok (.aload_n 0, 1) := by decide +kernel
theorem dX1_allEaten_6 : decode cX1_allEaten 6 = .ok (.getfield 52, 3) := by decide +kernel
theorem dX1_allEaten_9 : decode cX1_allEaten 9 = .ok (.getfield 68, 3) := by decide +kernel
theorem dX1_allEaten_12 : decode cX1_allEaten 12 = .ok (.if_icmp .ge 18, 3) := by decide +kernel
theorem dX1_allEaten_15 : decode cX1_allEaten 15 = .ok (.iload_n 1, 1) := by decide +kernel
theorem dX1_allEaten_16 : decode cX1_allEaten 16 = .ok (.aload_n 0, 1) := by decide +kernel
theorem dX1_allEaten_17 : decode cX1_allEaten 17 = .ok (.getfield 21, 3) := by decide +kernel
theorem dX1_allEaten_20 : decode cX1_allEaten 20 = .ok (.iload_n 2, 1) := by decide +kernel
theorem dX1_allEaten_21 : decode cX1_allEaten 21 = .ok (.iaload, 1) := by decide +kernel
theorem dX1_allEaten_22 : decode cX1_allEaten 22 = .ok (.iadd, 1) := by decide +kernel
theorem dX1_allEaten_23 : decode cX1_allEaten 23 = .ok (.istore_n 1, 1) := by decide +kernel
theorem dX1_allEaten_24 : decode cX1_allEaten 24 = .ok (.iinc 2 1, 3) := by decide +kernel
theorem dX1_allEaten_27 : decode cX1_allEaten 27 = .ok (.goto (-23), 3) := by decide +kernel
theorem dX1_allEaten_30 : decode cX1_allEaten 30 = .ok (.iload_n 1, 1) := by decide +kernel
theorem dX1_allEaten_31 : decode cX1_allEaten 31 = .ok (.ireturn, 1) := by decide +kernel
theorem dX1_allHunger_0 : decode cX1_allHunger 0 = .ok (.iconst 0, 1) := by decide +kernel
theorem dX1_allHunger_1 : decode cX1_allHunger 1 = .ok (.istore_n 1, 1) := by decide +kernel
theorem dX1_allHunger_2 : decode cX1_allHunger 2 = .ok (.iconst 0, 1) := by decide +kernel
theorem dX1_allHunger_3 : decode cX1_allHunger 3 = .ok (.istore_n 2, 1) := by decide +kernel
theorem dX1_allHunger_4 : decode cX1_allHunger 4 = .ok (.iload_n 2, 1) := by decide +kernel
theorem dX1_allHunger_5 : decode cX1_allHunger 5 = .ok (.aload_n 0, 1) := by decide +kernel
theorem dX1_allHunger_6 : decode cX1_allHunger 6 = .ok (.getfield 52, 3) := by decide +kernel
theorem dX1_allHunger_9 : decode cX1_allHunger 9 = .ok (.getfield 68, 3) := by decide +kernel
theorem dX1_allHunger_12 : decode cX1_allHunger 12 = .ok (.if_icmp .ge 18, 3) := by decide +kernel
theorem dX1_allHunger_15 : decode cX1_allHunger 15 = .ok (.iload_n 1, 1) := by decide +kernel
theorem dX1_allHunger_16 : decode cX1_allHunger 16 = .ok (.aload_n 0, 1) := by decide +kernel
theorem dX1_allHunger_17 : decode cX1_allHunger 17 = .ok (.getfield 27, 3) := by decide +kernel
theorem dX1_allHunger_20 : decode cX1_allHunger 20 = .ok (.iload_n 2, 1) := by decide +kernel
theorem dX1_allHunger_21 : decode cX1_allHunger 21 = .ok (.iaload, 1) := by decide +kernel
theorem dX1_allHunger_22 : decode cX1_allHunger 22 = .ok (.iadd, 1) := by decide +kernel
theorem dX1_allHunger_23 : decode cX1_allHunger 23 = .ok (.istore_n 1, 1) := by decide +kernel
theorem dX1_allHunger_24 : decode cX1_allHunger 24 = .ok (.iinc 2 1, 3) := by decide +kernel
theorem dX1_allHunger_27 : decode cX1_allHunger 27 = .ok (.goto (-23), 3) := by decide +kernel
theorem dX1_allHunger_30 : decode cX1_allHunger 30 = .ok (.iload_n 1, 1) := by decide +kernel
theorem dX1_allHunger_31 : decode cX1_allHunger 31 = .ok (.ireturn, 1) := by decide +kernel
theorem dX1_eatUp_0 : decode cX1_eatUp 0 = .ok (.aload_n 0, 1) := by decide +kernel
theorem dX1_eatUp_1 : decode cX1_eatUp 1 = .ok (.iload_n 1, 1) := by decide +kernel
theorem dX1_eatUp_2 : decode cX1_eatUp 2 = .ok (.iload_n 2, 1) := by decide +kernel
theorem dX1_eatUp_3 : decode cX1_eatUp 3 = .ok (.iload_n 3, 1) := by decide +kernel
theorem dX1_eatUp_4 : decode cX1_eatUp 4 = .ok (.ineg, 1) := by decide +kernel
theorem dX1_eatUp_5 : decode cX1_eatUp 5 = .ok (.invokevirtual 105, 3) := by decide +kernel
theorem dX1_eatUp_8 : decode cX1_eatUp 8 = .ok (.aload_n 0, 1) := by decide +kernel
theorem dX1_eatUp_9 : decode cX1_eatUp 9 = .ok (.getfield 21, 3) := by decide +kernel
theorem dX1_eatUp_12 : decode cX1_eatUp 12 = .ok (.iload_n 1, 1) := by decide +kernel
theorem dX1_eatUp_13 : decode cX1_eatUp 13 = .ok (.dup2, 1) := by decide +kernel
theorem dX1_eatUp_14 : decode cX1_eatUp 14 = .ok (.iaload, 1) := by decide +kernel
theorem dX1_eatUp_15 : decode cX1_eatUp 15 = .ok (.iload_n 3, 1) := by decide +kernel
theorem dX1_eatUp_16 : decode cX1_eatUp 16 = .ok (.iadd, 1) := by decide +kernel
theorem dX1_eatUp_17 : decode cX1_eatUp 17 = .ok (.iastore, 1) := by decide +kernel
theorem dX1_eatUp_18 : decode cX1_eatUp 18 = .ok (.aload_n 0, 1) := by decide +kernel
theorem dX1_eatUp_19 : decode cX1_eatUp 19 = .ok (.getfield 24, 3) := by decide +kernel
theorem dX1_eatUp_22 : decode cX1_eatUp 22 = .ok (.iload_n 1, 1) := by decide +kernel
theorem dX1_eatUp_23 : decode cX1_eatUp 23 = .ok (.dup2, 1) := by decide +kernel
theorem dX1_eatUp_24 : decode cX1_eatUp 24 = .ok (.iaload, 1) := by decide +kernel
theorem dX1_eatUp_25 : decode cX1_eatUp 25 = .ok (.iload_n 3, 1) := by decide +kernel
theorem dX1_eatUp_26 : decode cX1_eatUp 26 = .ok (.iadd, 1) := by decide +kernel
theorem dX1_eatUp_27 : decode cX1_eatUp 27 = .ok (.iastore, 1) := by decide +kernel
theorem dX1_eatUp_28 : decode cX1_eatUp 28 = .ok (.return_, 1) := by decide +kernel
theorem dX1_lives_0 : decode cX1_lives 0 = .ok (.aload_n 0, 1) := by decide +kernel
theorem dX1_lives_1 : decode cX1_lives 1 = .ok (.getfield 30, 3) := by decide +kernel
theorem dX1_lives_4 : decode cX1_lives 4 = .ok (.iload_n 1, 1) := by decide +kernel
theorem dX1_lives_5 : decode cX1_lives 5 = .ok (.ishr, 1) := by decide +kernel
theorem dX1_lives_6 : decode cX1_lives 6 = .ok (.iconst 1, 1) := by decide +kernel
theorem dX1_lives_7 : decode cX1_lives 7 = .ok (.iand, 1) := by decide +kernel
theorem dX1_lives_8 : decode cX1_lives 8 = .ok (.ifCond .ne 7, 3) := by decide +kernel
theorem dX1_lives_11 : decode cX1_lives 11 = .ok (.iconst 1, 1) := by decide +kernel
theorem dX1_lives_12 : decode cX1_lives 12 = .ok (.goto 4, 3) := by decide +kernel
theorem dX1_lives_15 : decode cX1_lives 15 = .ok (.iconst 0, 1) := by decide +kernel
theorem dX1_lives_16 : decode cX1_lives 16 = .ok (.ireturn, 1) := by decide +kernel
theorem dX1_tryToEat_0 : decode cX1_tryToEat 0 = .ok (.aload_n 0, 1) := by decide +kernel
theorem dX1_tryToEat_1 : decode cX1_tryToEat 1 = .ok (.iload_n 1, 1) := by decide +kernel
theorem dX1_tryToEat_2 : decode cX1_tryToEat 2 = .ok (.invokevirtual 115, 3) := by decide +kernel
theorem dX1_tryToEat_5 : decode cX1_tryToEat 5 = .ok (.ifCond .ne 5, 3) := by decide +kernel
theorem dX1_tryToEat_8 : decode cX1_tryToEat 8 = .ok (.iconst 1, 1) := by decide +kernel
theorem dX1_tryToEat_9 : decode cX1_tryToEat 9 = .ok (.ireturn, 1) := by decide +kernel
theorem dX1_tryToEat_10 : decode cX1_tryToEat 10 = .ok (.aload_n 0, 1) := by decide +kernel
theorem dX1_tryToEat_11 : decode cX1_tryToEat 11 = .ok (.iload_n 1, 1) := by decide +kernel
theorem dX1_tryToEat_12 : decode cX1_tryToEat 12 = .ok (.iload_n 2, 1) := by decide +kernel
theorem dX1_tryToEat_13 : decode cX1_tryToEat 13 = .ok (.invokevirtual 71, 3) := by decide +kernel
theorem dX1_tryToEat_16 : decode cX1_tryToEat 16 = .ok (.iload_n 3, 1) := by decide +kernel
theorem dX1_tryToEat_17 : decode cX1_tryToEat 17 = .ok (.if_icmp .ge 5, 3) := by decide +kernel
theorem dX1_tryToEat_20 : decode cX1_tryToEat 20 = .ok (.iconst 2, 1) := by decide +kernel
theorem dX1_tryToEat_21 : decode cX1_tryToEat 21 = .ok (.ireturn, 1) := by decide +kernel
theorem dX1_tryToEat_22 : decode cX1_tryToEat 22 = .ok (.aload_n 0, 1) := by decide +kernel
theorem dX1_tryToEat_23 : decode cX1_tryToEat 23 = .ok (.iload_n 1, 1) := by decide +kernel
theorem dX1_tryToEat_24 : decode cX1_tryToEat 24 = .ok (.invokevirtual 109, 3) := by decide +kernel
theorem dX1_tryToEat_27 : decode cX1_tryToEat 27 = .ok (.iload_n 3, 1) := by decide +kernel
theorem dX1_tryToEat_28 : decode cX1_tryToEat 28 = .ok (.if_icmp .ge 5, 3) := by decide +kernel
theorem dX1_tryToEat_31 : decode cX1_tryToEat 31 = .ok (.iconst 3, 1) := by decide +kernel
theorem dX1_tryToEat_32 : decode cX1_tryToEat 32 = .ok (.ireturn, 1) := by decide +kernel
theorem dX1_tryToEat_33 : decode cX1_tryToEat 33 = .ok (.aload_n 0, 1) := by decide +kernel
theorem dX1_tryToEat_34 : decode cX1_tryToEat 34 = .ok (.iload_n 1, 1) := by decide +kernel
theorem dX1_tryToEat_35 : decode cX1_tryToEat 35 = .ok (.iload_n 2, 1) := by decide +kernel
theorem dX1_tryToEat_36 : decode cX1_tryToEat 36 = .ok (.iload_n 3, 1) := by decide +kernel
theorem dX1_tryToEat_37 : decode cX1_tryToEat 37 = .ok (.invokevirtual 112, 3) := by decide +kernel
theorem dX1_tryToEat_40 : decode cX1_tryToEat 40 = .ok (.iconst 0, 1) := by decide +kernel
theorem dX1_tryToEat_41 : decode cX1_tryToEat 41 = .ok (.ireturn, 1) := by decide +kernel
theorem dX1_tryToServe_0 : decode cX1_tryToServe 0 = .ok (.aload_n 0, 1) := by decide +kernel
theorem dX1_tryToServe_1 : decode cX1_tryToServe 1 = .ok (.iload_n 1, 1) := by decide +kernel
theorem dX1_tryToServe_2 : decode cX1_tryToServe 2 = .ok (.invokevirtual 115, 3) := by decide +kernel
theorem dX1_tryToServe_5 : decode cX1_tryToServe 5 = .ok (.ifCond .ne 5, 3) := by decide +kernel
theorem dX1_tryToServe_8 : decode cX1_tryToServe 8 = .ok (.iconst 1, 1) := by decide +kernel
theorem dX1_tryToServe_9 : decode cX1_tryToServe 9 = .ok (.ireturn, 1) := by decide +kernel
theorem dX1_tryToServe_10 : decode cX1_tryToServe 10 = .ok (.aload_n 0, 1) := by decide +kernel
theorem dX1_tryToServe_11 : decode cX1_tryToServe 11 = .ok (.getfield 9, 3) := by decide +kernel
theorem dX1_tryToServe_14 : decode cX1_tryToServe 14 = .ok (.iload_n 2, 1) := by decide +kernel
theorem dX1_tryToServe_15 : decode cX1_tryToServe 15 = .ok (.iaload, 1) := by decide +kernel
theorem dX1_tryToServe_16 : decode cX1_tryToServe 16 = .ok (.iload_n 3, 1) := by decide +kernel
theorem dX1_tryToServe_17 : decode cX1_tryToServe 17 = .ok (.if_icmp .ge 5, 3) := by decide +kernel
theorem dX1_tryToServe_20 : decode cX1_tryToServe 20 = .ok (.iconst 2, 1) := by decide +kernel
theorem dX1_tryToServe_21 : decode cX1_tryToServe 21 = .ok (.ireturn, 1) := by decide +kernel
theorem dX1_tryToServe_22 : decode cX1_tryToServe 22 = .ok (.aload_n 0, 1) := by decide +kernel
theorem dX1_tryToServe_23 : decode cX1_tryToServe 23 = .ok (.getfield 9, 3) := by decide +kernel
theorem dX1_tryToServe_26 : decode cX1_tryToServe 26 = .ok (.iload_n 2, 1) := by decide +kernel
theorem dX1_tryToServe_27 : decode cX1_tryToServe 27 = .ok (.dup2, 1) := by decide +kernel
theorem dX1_tryToServe_28 : decode cX1_tryToServe 28 = .ok (.iaload, 1) := by decide +kernel
theorem dX1_tryToServe_29 : decode cX1_tryToServe 29 = .ok (.iload_n 3, 1) := by decide +kernel
theorem dX1_tryToServe_30 : decode cX1_tryToServe 30 = .ok (.isub, 1) := by decide +kernel
theorem dX1_tryToServe_31 : decode cX1_tryToServe 31 = .ok (.iastore, 1) := by decide +kernel
theorem dX1_tryToServe_32 : decode cX1_tryToServe 32 = .ok (.aload_n 0, 1) := by decide +kernel
theorem dX1_tryToServe_33 : decode cX1_tryToServe 33 = .ok (.iload_n 1, 1) := by decide +kernel
theorem dX1_tryToServe_34 : decode cX1_tryToServe 34 = .ok (.iload_n 2, 1) := by decide +kernel
theorem dX1_tryToServe_35 : decode cX1_tryToServe 35 = .ok (.iload_n 3, 1) := by decide +kernel
theorem dX1_tryToServe_36 : decode cX1_tryToServe 36 = .ok (.invokevirtual 105, 3) := by decide +kernel
theorem dX1_tryToServe_39 : decode cX1_tryToServe 39 = .ok (.iconst 0, 1) := by decide +kernel
theorem dX1_tryToServe_40 : decode cX1_tryToServe 40 = .ok (.ireturn, 1) := by decide +kernel
theorem dX1_wantsYet_0 : decode cX1_wantsYet 0 = .ok (.aload_n 0, 1) := by decide +kernel
theorem dX1_wantsYet_1 : decode cX1_wantsYet 1 = .ok (.getfield 52, 3) := by decide +kernel
theorem dX1_wantsYet_4 : decode cX1_wantsYet 4 = .ok (.getfield 75, 3) := by decide +kernel
theorem dX1_wantsYet_7 : decode cX1_wantsYet 7 = .ok (.iload_n 1, 1) := by decide +kernel
theorem dX1_wantsYet_8 : decode cX1_wantsYet 8 = .ok (.iaload, 1) := by decide +kernel
theorem dX1_wantsYet_9 : decode cX1_wantsYet 9 = .ok (.aload_n 0, 1) := by decide +kernel
theorem dX1_wantsYet_10 : decode cX1_wantsYet 10 = .ok (.getfield 24, 3) := by decide +kernel
theorem dX1_wantsYet_13 : decode cX1_wantsYet 13 = .ok (.iload_n 1, 1) := by decide +kernel
theorem dX1_wantsYet_14 : decode cX1_wantsYet 14 = .ok (.iaload, 1) := by decide +kernel
theorem dX1_wantsYet_15 : decode cX1_wantsYet 15 = .ok (.isub, 1) := by decide +kernel
theorem dX1_wantsYet_16 : decode cX1_wantsYet 16 = .ok (.ireturn, 1) := by decide +kernel
theorem dX5_keepNoted_0 : decode cX5_keepNoted 0 = .ok (.aload_n 0, 1) := by decide +kernel
theorem dX5_keepNoted_1 : decode cX5_keepNoted 1 = .ok (.aload_n 0, 1) := by decide +kernel
theorem dX5_keepNoted_2 : decode cX5_keepNoted 2 = .ok (.getfield 21, 3) := by decide +kernel
theorem dX5_keepNoted_5 : decode cX5_keepNoted 5 = .ok (.iconst 1, 1) := by decide +kernel
theorem dX5_keepNoted_6 : decode cX5_keepNoted 6 = .ok (.iadd, 1) := by decide +kernel
theorem dX5_keepNoted_7 : decode cX5_keepNoted 7 = .ok (.bipush 9, 2) := by decide +kernel
theorem dX5_keepNoted_9 : decode cX5_keepNoted 9 = .ok (.if_icmp .ge 12, 3) := by decide +kernel
theorem dX5_keepNoted_12 : decode cX5_keepNoted 12 = .ok (.aload_n 0, 1) := by decide +kernel
theorem dX5_keepNoted_13 : decode cX5_keepNoted 13 = .ok (.getfield 21, 3) := by decide +kernel
theorem dX5_keepNoted_16 : decode cX5_keepNoted 16 = .ok (.iconst 1, 1) := by decide +kernel
theorem dX5_keepNoted_17 : decode cX5_keepNoted 17 = .ok (.iadd, 1) := by decide +kernel
theorem dX5_keepNoted_18 : decode cX5_keepNoted 18 = .ok (.goto 4, 3) := by decide +kernel
theorem dX5_keepNoted_21 : decode cX5_keepNoted 21 = .ok (.iconst 0, 1) := by decide +kernel
theorem dX5_keepNoted_22 : decode cX5_keepNoted 22 = .ok (.putfield 21, 3) := by decide +kernel
theorem dX5_keepNoted_25 : decode cX5_keepNoted 25 = .ok (.aload_n 0, 1) := by decide +kernel
theorem dX5_keepNoted_26 : decode cX5_keepNoted 26 = .ok (.aload_n 0, 1) := by decide +kernel
theorem dX5_keepNoted_27 : decode cX5_keepNoted 27 = .ok (.getfield 17, 3) := by decide +kernel
theorem dX5_keepNoted_30 : decode cX5_keepNoted 30 = .ok (.iconst 1, 1) := by decide +kernel
theorem dX5_keepNoted_31 : decode cX5_keepNoted 31 = .ok (.iadd, 1) := by decide +kernel
theorem dX5_keepNoted_32 : decode cX5_keepNoted 32 = .ok (.bipush 8, 2) := by decide +kernel
theorem dX5_keepNoted_34 : decode cX5_keepNoted 34 = .ok (.invokestatic 31, 3) := by decide +kernel
theorem dX5_keepNoted_37 : decode cX5_keepNoted 37 = .ok (.putfield 17, 3) := by decide +kernel
theorem dX5_keepNoted_40 : decode cX5_keepNoted 40 = .ok (.return_, 1) := by decide +kernel
theorem dX5_note_0 : decode cX5_note 0 = .ok (.aload_n 0, 1) := by decide +kernel
theorem dX5_note_1 : decode cX5_note 1 = .ok (.getfield 13, 3) := by decide +kernel
theorem dX5_note_4 : decode cX5_note 4 = .ok (.aload_n 0, 1) := by decide +kernel
theorem dX5_note_5 : decode cX5_note 5 = .ok (.getfield 21, 3) := by decide +kernel
theorem dX5_note_8 : decode cX5_note 8 = .ok (.aaload, 1) := by decide +kernel
theorem dX5_note_9 : decode cX5_note 9 = .ok (.aload_n 1, 1) := by decide +kernel
theorem dX5_note_10 : decode cX5_note 10 = .ok (.invokevirtual 27, 3) := by decide +kernel
theorem dX5_note_13 : decode cX5_note 13 = .ok (.return_, 1) := by decide +kernel
set_option maxRecDepth 100000 in
set_option maxHeartbeats 8000000 in
theorem c_X1_allEaten {l : Launch} {D : va_G} {cy : Nat → ClassId} {L : List Nat} {κ ln : Nat → Nat} {R : Nat → Nat → Option Nat} {I : Nat → Nat → Int32} {J : Nat → Nat → Int64} {ow : Nat → Nat × Nat} (W9 : ∀ a ∈ L, Shp L κ ln R ow a) {x : Nat} (hLx : x ∈ L) (hkx : κ x = 1) (hU : Iv L κ R ow I) : CtI l yX1_allEaten cX1_allEaten 3 (some .int) { frames := 0, cells := 0, slots := 0, locals := 0 } D cy L κ ln R I J [.ref x] (fun r I2 J2 => I = I2 ∧ J = J2 ∧ Rg (-2147483648) 2147483647 r) := by
  refine CtI.of (by decide +kernel) (Nat.le_of_ble_eq_true rfl) ?_
  intro p e s m below meth c B K
  have C := B.1
  obtain ⟨b_480771, hb_480771, hb_480771L, hb_480771k, hb_480771n, hb_480771o⟩ := shp_a (W9 x hLx) hkx 4 14 7 rfl (by decide)
  obtain ⟨b_480772, hb_480772, hb_480772L, hb_480772k⟩ := shp_o (W9 x hLx) hkx 0 8 rfl (by decide)
  refine g_lo (is := [0]) (lo2 := [(0, .ref x)]) rfl ?_
  have l_4 : ∀ (n_4 : Nat) (v_480773 : Int32) (v_480774 : Int32) (rv_480774 : Rg 0 7 v_480774) (hm_480775 : 7 < (v_480774 : Int32).toInt + (n_4 : Int)), WG p l e { frames := 0, cells := 0, slots := 0, locals := 0 } s m ([.ref x] : List Value).toArray below meth c 3 0 0 (MQ below (Qi_ D cy L κ ln R (fun r I2 J2 => I = I2 ∧ J = J2 ∧ Rg (-2147483648) 2147483647 r)) ([.ref x] : List Value).toArray s 0 0 (Al_ L)) D cy (Al_ L) s.heap L κ ln R I J 4 [(0, .ref x), (1, .int v_480773), (2, .int v_480774)] [] := by
    intro n_4
    induction n_4 with
    | zero =>
      intro v_480773 v_480774 rv_480774 hm_480775
      exact ms_0 rv_480774 hm_480775
    | succ n_4 ih_4 =>
      intro v_480773 v_480774 rv_480774 hm_480775
      refine g_iload_n C 2 dX1_allEaten_4 rfl rfl ?_
      refine g_aload_n C 0 dX1_allEaten_5 rfl rfl ?_
      refine g_getR C K hLx hkx f_1_52 hb_480772 dX1_allEaten_6 ?_
      obtain ⟨x_480776, hx_480776, rx_480776⟩ := ex_get (I := I) (a := b_480772) (j := 5) (lo := 0) (hi := 7) hU.1 hb_480772L (ro_o hb_480772k (by decide)) rfl
      refine g_getI C K hb_480772L hb_480772k f_1_68 (v := x_480776) hx_480776 dX1_allEaten_9 ?_
      refine g_icmp_ge C (tgt := 30) dX1_allEaten_12 (by decide) (fun h_480777 => ?_) (fun h_480777 => ?_)
      · skip
        refine g_iload_n C 1 dX1_allEaten_30 rfl rfl ?_
        exact g_zret (ty := .int) (r := v_480773) B K rfl (rfl) ⟨rfl, rfl, (rg_all v_480773)⟩ dX1_allEaten_31
      · skip
        have r_480778 := lt_l (hi := 6) (nle h_480777) rv_480774 rx_480776 (by decide)
        have r_480779 := lt_r (lo := 1) (nle h_480777) rv_480774 rx_480776 (by decide)
        refine g_iload_n C 1 dX1_allEaten_15 rfl rfl ?_
        refine g_aload_n C 0 dX1_allEaten_16 rfl rfl ?_
        refine g_getR C K hLx hkx f_1_21 hb_480771 dX1_allEaten_17 ?_
        refine g_iload_n C 2 dX1_allEaten_20 rfl rfl ?_
        obtain ⟨x_480780, hx_480780, rx_480780⟩ := ex_get (I := I) (a := b_480771) (j := v_480774.toNatClampNeg) (lo := (-2147483648)) (hi := 2147483647) hU.1 hb_480771L (ro_a hb_480771k (by decide) hb_480771o hkx rfl) (rfl)
        refine h_iald C K hb_480771L hb_480771k (v := x_480780) (v_480774.toNatClampNeg) (rfl) (ix_0 r_480778 (by decide)) (ix_lt r_480778 (by decide) hb_480771n (by decide)) hx_480780 dX1_allEaten_21 ?_
        obtain ⟨x_480781, hx_480781, rx_480781⟩ := ex_any (z0 := v_480773 + x_480780)
        refine g_iadd C (v := x_480781) dX1_allEaten_22 hx_480781 ?_
        refine g_istore_n C dX1_allEaten_23 rfl (by decide) (lo2 := [(1, .int x_480781), (0, .ref x), (2, .int v_480774)]) rfl ?_
        obtain ⟨x_480782, hx_480782, rx_480782, tx_480782⟩ := ex_add (y := 1) 1 7 r_480778 rc_1 (by decide) (by decide) (by decide) (by decide)
        refine g_iinc C dX1_allEaten_24 (k := 2) (v := x_480782) rfl hx_480782 (by decide) (lo2 := [(2, .int x_480782), (1, .int x_480781), (0, .ref x)]) rfl ?_
        refine g_goto C (tgt := 4) dX1_allEaten_27 (by decide) ?_
        refine g_lo (is := [2, 1, 0]) (lo2 := [(0, .ref x), (1, .int x_480781), (2, .int x_480782)]) rfl ?_
        exact ih_4 x_480781 x_480782 (rg_w rx_480782 (by decide) (by decide)) (ms_1 hm_480775 (ti_k tx_480782 rc_1) (by decide))
  refine g_iconst C (v := 0) dX1_allEaten_0 (by decide) ?_
  refine g_istore_n C dX1_allEaten_1 rfl (by decide) (lo2 := [(1, .int 0), (0, .ref x)]) rfl ?_
  refine g_iconst C (v := 0) dX1_allEaten_2 (by decide) ?_
  refine g_istore_n C dX1_allEaten_3 rfl (by decide) (lo2 := [(2, .int 0), (1, .int 0), (0, .ref x)]) rfl ?_
  refine g_lo (is := [2, 1, 0]) (lo2 := [(0, .ref x), (1, .int 0), (2, .int 0)]) rfl ?_
  exact l_4 8 0 0 (rg_w rc_0 (by decide) (by decide)) (ms_s (a := 0) (b := 7) (N := 8) (rg_w rc_0 (by decide) (by decide)) (by decide))
set_option maxRecDepth 100000 in
set_option maxHeartbeats 8000000 in
theorem c_X1_allHunger {l : Launch} {D : va_G} {cy : Nat → ClassId} {L : List Nat} {κ ln : Nat → Nat} {R : Nat → Nat → Option Nat} {I : Nat → Nat → Int32} {J : Nat → Nat → Int64} {ow : Nat → Nat × Nat} (W9 : ∀ a ∈ L, Shp L κ ln R ow a) {x : Nat} (hLx : x ∈ L) (hkx : κ x = 1) (hU : Iv L κ R ow I) : CtI l yX1_allHunger cX1_allHunger 3 (some .int) { frames := 0, cells := 0, slots := 0, locals := 0 } D cy L κ ln R I J [.ref x] (fun r I2 J2 => I = I2 ∧ J = J2 ∧ Rg (-2147483648) 2147483647 r) := by
  refine CtI.of (by decide +kernel) (Nat.le_of_ble_eq_true rfl) ?_
  intro p e s m below meth c B K
  have C := B.1
  obtain ⟨b_480847, hb_480847, hb_480847L, hb_480847k⟩ := shp_o (W9 x hLx) hkx 0 8 rfl (by decide)
  obtain ⟨b_480848, hb_480848, hb_480848L, hb_480848k, hb_480848n, hb_480848o⟩ := shp_a (W9 x hLx) hkx 6 14 7 rfl (by decide)
  refine g_lo (is := [0]) (lo2 := [(0, .ref x)]) rfl ?_
  have l_4 : ∀ (n_4 : Nat) (v_480849 : Int32) (v_480850 : Int32) (rv_480850 : Rg 0 7 v_480850) (hm_480851 : 7 < (v_480850 : Int32).toInt + (n_4 : Int)), WG p l e { frames := 0, cells := 0, slots := 0, locals := 0 } s m ([.ref x] : List Value).toArray below meth c 3 0 0 (MQ below (Qi_ D cy L κ ln R (fun r I2 J2 => I = I2 ∧ J = J2 ∧ Rg (-2147483648) 2147483647 r)) ([.ref x] : List Value).toArray s 0 0 (Al_ L)) D cy (Al_ L) s.heap L κ ln R I J 4 [(0, .ref x), (1, .int v_480849), (2, .int v_480850)] [] := by
    intro n_4
    induction n_4 with
    | zero =>
      intro v_480849 v_480850 rv_480850 hm_480851
      exact ms_0 rv_480850 hm_480851
    | succ n_4 ih_4 =>
      intro v_480849 v_480850 rv_480850 hm_480851
      refine g_iload_n C 2 dX1_allHunger_4 rfl rfl ?_
      refine g_aload_n C 0 dX1_allHunger_5 rfl rfl ?_
      refine g_getR C K hLx hkx f_1_52 hb_480847 dX1_allHunger_6 ?_
      obtain ⟨x_480852, hx_480852, rx_480852⟩ := ex_get (I := I) (a := b_480847) (j := 5) (lo := 0) (hi := 7) hU.1 hb_480847L (ro_o hb_480847k (by decide)) rfl
      refine g_getI C K hb_480847L hb_480847k f_1_68 (v := x_480852) hx_480852 dX1_allHunger_9 ?_
      refine g_icmp_ge C (tgt := 30) dX1_allHunger_12 (by decide) (fun h_480853 => ?_) (fun h_480853 => ?_)
      · skip
        refine g_iload_n C 1 dX1_allHunger_30 rfl rfl ?_
        exact g_zret (ty := .int) (r := v_480849) B K rfl (rfl) ⟨rfl, rfl, (rg_all v_480849)⟩ dX1_allHunger_31
      · skip
        have r_480854 := lt_l (hi := 6) (nle h_480853) rv_480850 rx_480852 (by decide)
        have r_480855 := lt_r (lo := 1) (nle h_480853) rv_480850 rx_480852 (by decide)
        refine g_iload_n C 1 dX1_allHunger_15 rfl rfl ?_
        refine g_aload_n C 0 dX1_allHunger_16 rfl rfl ?_
        refine g_getR C K hLx hkx f_1_27 hb_480848 dX1_allHunger_17 ?_
        refine g_iload_n C 2 dX1_allHunger_20 rfl rfl ?_
        obtain ⟨x_480856, hx_480856, rx_480856⟩ := ex_get (I := I) (a := b_480848) (j := v_480850.toNatClampNeg) (lo := (-2147483648)) (hi := 2147483647) hU.1 hb_480848L (ro_a hb_480848k (by decide) hb_480848o hkx rfl) (rfl)
        refine h_iald C K hb_480848L hb_480848k (v := x_480856) (v_480850.toNatClampNeg) (rfl) (ix_0 r_480854 (by decide)) (ix_lt r_480854 (by decide) hb_480848n (by decide)) hx_480856 dX1_allHunger_21 ?_
        obtain ⟨x_480857, hx_480857, rx_480857⟩ := ex_any (z0 := v_480849 + x_480856)
        refine g_iadd C (v := x_480857) dX1_allHunger_22 hx_480857 ?_
        refine g_istore_n C dX1_allHunger_23 rfl (by decide) (lo2 := [(1, .int x_480857), (0, .ref x), (2, .int v_480850)]) rfl ?_
        obtain ⟨x_480858, hx_480858, rx_480858, tx_480858⟩ := ex_add (y := 1) 1 7 r_480854 rc_1 (by decide) (by decide) (by decide) (by decide)
        refine g_iinc C dX1_allHunger_24 (k := 2) (v := x_480858) rfl hx_480858 (by decide) (lo2 := [(2, .int x_480858), (1, .int x_480857), (0, .ref x)]) rfl ?_
        refine g_goto C (tgt := 4) dX1_allHunger_27 (by decide) ?_
        refine g_lo (is := [2, 1, 0]) (lo2 := [(0, .ref x), (1, .int x_480857), (2, .int x_480858)]) rfl ?_
        exact ih_4 x_480857 x_480858 (rg_w rx_480858 (by decide) (by decide)) (ms_1 hm_480851 (ti_k tx_480858 rc_1) (by decide))
  refine g_iconst C (v := 0) dX1_allHunger_0 (by decide) ?_
  refine g_istore_n C dX1_allHunger_1 rfl (by decide) (lo2 := [(1, .int 0), (0, .ref x)]) rfl ?_
  refine g_iconst C (v := 0) dX1_allHunger_2 (by decide) ?_
  refine g_istore_n C dX1_allHunger_3 rfl (by decide) (lo2 := [(2, .int 0), (1, .int 0), (0, .ref x)]) rfl ?_
  refine g_lo (is := [2, 1, 0]) (lo2 := [(0, .ref x), (1, .int 0), (2, .int 0)]) rfl ?_
  exact l_4 8 0 0 (rg_w rc_0 (by decide) (by decide)) (ms_s (a := 0) (b := 7) (N := 8) (rg_w rc_0 (by decide) (by decide)) (by decide))
set_option maxRecDepth 100000 in
set_option maxHeartbeats 8000000 in
theorem c_X11_now {l : Launch} {D : va_G} {cy : Nat → ClassId} {L : List Nat} {κ ln : Nat → Nat} {R : Nat → Nat → Option Nat} {I : Nat → Nat → Int32} {J : Nat → Nat → Int64} {ow : Nat → Nat × Nat} (W9 : ∀ a ∈ L, Shp L κ ln R ow a) {x : Nat} (hLx : x ∈ L) (hkx : κ x = 11) (a0 : Int32) (hU : Iv L κ R ow I) : CtI l yX11_now cX11_now 2 (some .int) { frames := 1, cells := 0, slots := 0, locals := 22 } D cy L κ ln R I J [.ref x, .int a0] (fun r I2 J2 => I = I2 ∧ J = J2 ∧ Rg (-2147483648) 2147483647 r) := by
  refine CtI.of (by decide +kernel) (Nat.le_of_ble_eq_true rfl) ?_
  intro p e s m below meth c B K
  have C := B.1
  obtain ⟨b_480937, hb_480937, hb_480937L, hb_480937k⟩ := shp_o (W9 x hLx) hkx 2 1 rfl (by decide)
  refine g_lo (is := [0, 1]) (lo2 := [(0, .ref x), (1, .int a0)]) rfl ?_
  refine g_iload_n C 1 dX11_now_0 rfl rfl ?_
  by_cases c_480938 : a0.toInt = 0
  · skip
    have r_480939 := rg_of (a := 0) (b := 0) 0 c_480938 (by decide) (by decide)
    refine g_tableIn C (tgt := 48) dX11_now_1 (by omega) (by omega) (off := 47) (by rw [c_480938]; rfl) (by decide) ?_
    refine g_aload_n C 0 dX11_now_48 rfl rfl ?_
    refine g_getR C K hLx hkx f_11_28 hb_480937 dX11_now_49 ?_
    obtain ⟨x_480940, hx_480940, rx_480940⟩ := ex_get (I := I) (a := b_480937) (j := 9) (lo := (-2147483648)) (hi := 2147483647) hU.1 hb_480937L (ro_o hb_480937k (by decide)) rfl
    refine g_getI C K hb_480937L hb_480937k f_11_195 (v := x_480940) hx_480940 dX11_now_52 ?_
    exact g_zret (ty := .int) (r := x_480940) B K rfl (rfl) ⟨rfl, rfl, rx_480940⟩ dX11_now_55
  by_cases c_480941 : a0.toInt = 1
  · skip
    have r_480942 := rg_of (a := 1) (b := 1) 1 c_480941 (by decide) (by decide)
    refine g_tableIn C (tgt := 56) dX11_now_1 (by omega) (by omega) (off := 55) (by rw [c_480941]; rfl) (by decide) ?_
    refine g_aload_n C 0 dX11_now_56 rfl rfl ?_
    refine g_getR C K hLx hkx f_11_28 hb_480937 dX11_now_57 ?_
    obtain ⟨x_480943, hx_480943, rx_480943⟩ := ex_get (I := I) (a := b_480937) (j := 7) (lo := (-2147483648)) (hi := 2147483647) hU.1 hb_480937L (ro_o hb_480937k (by decide)) rfl
    refine g_getI C K hb_480937L hb_480937k f_11_151 (v := x_480943) hx_480943 dX11_now_60 ?_
    exact g_zret (ty := .int) (r := x_480943) B K rfl (rfl) ⟨rfl, rfl, rx_480943⟩ dX11_now_63
  by_cases c_480944 : a0.toInt = 2
  · skip
    have r_480945 := rg_of (a := 2) (b := 2) 2 c_480944 (by decide) (by decide)
    refine g_tableIn C (tgt := 64) dX11_now_1 (by omega) (by omega) (off := 63) (by rw [c_480944]; rfl) (by decide) ?_
    refine g_aload_n C 0 dX11_now_64 rfl rfl ?_
    refine g_getR C K hLx hkx f_11_28 hb_480937 dX11_now_65 ?_
    obtain ⟨x_480946, hx_480946, rx_480946⟩ := ex_get (I := I) (a := b_480937) (j := 8) (lo := (-2147483648)) (hi := 2147483647) hU.1 hb_480937L (ro_o hb_480937k (by decide)) rfl
    refine g_getI C K hb_480937L hb_480937k f_11_154 (v := x_480946) hx_480946 dX11_now_68 ?_
    exact g_zret (ty := .int) (r := x_480946) B K rfl (rfl) ⟨rfl, rfl, rx_480946⟩ dX11_now_71
  by_cases c_480947 : a0.toInt = 3
  · skip
    have r_480948 := rg_of (a := 3) (b := 3) 3 c_480947 (by decide) (by decide)
    refine g_tableIn C (tgt := 72) dX11_now_1 (by omega) (by omega) (off := 71) (by rw [c_480947]; rfl) (by decide) ?_
    refine g_aload_n C 0 dX11_now_72 rfl rfl ?_
    refine g_getR C K hLx hkx f_11_28 hb_480937 dX11_now_73 ?_
    obtain ⟨x_480949, hx_480949, rx_480949⟩ := ex_get (I := I) (a := b_480937) (j := 10) (lo := (-2147483648)) (hi := 2147483647) hU.1 hb_480937L (ro_o hb_480937k (by decide)) rfl
    refine g_getI C K hb_480937L hb_480937k f_11_198 (v := x_480949) hx_480949 dX11_now_76 ?_
    exact g_zret (ty := .int) (r := x_480949) B K rfl (rfl) ⟨rfl, rfl, rx_480949⟩ dX11_now_79
  by_cases c_480950 : a0.toInt = 4
  · skip
    have r_480951 := rg_of (a := 4) (b := 4) 4 c_480950 (by decide) (by decide)
    refine g_tableIn C (tgt := 80) dX11_now_1 (by omega) (by omega) (off := 79) (by rw [c_480950]; rfl) (by decide) ?_
    refine g_aload_n C 0 dX11_now_80 rfl rfl ?_
    refine g_getR C K hLx hkx f_11_28 hb_480937 dX11_now_81 ?_
    obtain ⟨x_480952, hx_480952, rx_480952⟩ := ex_get (I := I) (a := b_480937) (j := 11) (lo := (-2147483648)) (hi := 2147483647) hU.1 hb_480937L (ro_o hb_480937k (by decide)) rfl
    refine g_getI C K hb_480937L hb_480937k f_11_201 (v := x_480952) hx_480952 dX11_now_84 ?_
    exact g_zret (ty := .int) (r := x_480952) B K rfl (rfl) ⟨rfl, rfl, rx_480952⟩ dX11_now_87
  by_cases c_480953 : a0.toInt = 5
  · skip
    have r_480954 := rg_of (a := 5) (b := 5) 5 c_480953 (by decide) (by decide)
    refine g_tableIn C (tgt := 88) dX11_now_1 (by omega) (by omega) (off := 87) (by rw [c_480953]; rfl) (by decide) ?_
    refine g_aload_n C 0 dX11_now_88 rfl rfl ?_
    refine g_getR C K hLx hkx f_11_28 hb_480937 dX11_now_89 ?_
    refine g_callVI C K (c_X1_allEaten W9 hb_480937L hb_480937k   hU) hb_480937L hb_480937k (by decide) rfl v_11_204 rfl ⟨rfl, rfl⟩ ⟨Nat.le_of_ble_eq_true rfl, Nat.le_of_ble_eq_true rfl⟩ (Nat.le_of_ble_eq_true rfl) ⟨Nat.le_of_ble_eq_true rfl, Nat.le_of_ble_eq_true rfl⟩ dX11_now_92 rfl (st := []) (fun x_480955 I_480956 J_480957 h_480958 => ?_)
    obtain ⟨rfl, rfl, rx_480955⟩ := h_480958
    exact g_zret (ty := .int) (r := x_480955) B K rfl (rfl) ⟨rfl, rfl, rx_480955⟩ dX11_now_95
  by_cases c_480959 : a0.toInt = 6
  · skip
    have r_480960 := rg_of (a := 6) (b := 6) 6 c_480959 (by decide) (by decide)
    refine g_tableIn C (tgt := 96) dX11_now_1 (by omega) (by omega) (off := 95) (by rw [c_480959]; rfl) (by decide) ?_
    refine g_aload_n C 0 dX11_now_96 rfl rfl ?_
    refine g_getR C K hLx hkx f_11_28 hb_480937 dX11_now_97 ?_
    refine g_callVI C K (c_X1_allHunger W9 hb_480937L hb_480937k   hU) hb_480937L hb_480937k (by decide) rfl v_11_207 rfl ⟨rfl, rfl⟩ ⟨Nat.le_of_ble_eq_true rfl, Nat.le_of_ble_eq_true rfl⟩ (Nat.le_of_ble_eq_true rfl) ⟨Nat.le_of_ble_eq_true rfl, Nat.le_of_ble_eq_true rfl⟩ dX11_now_100 rfl (st := []) (fun x_480961 I_480962 J_480963 h_480964 => ?_)
    obtain ⟨rfl, rfl, rx_480961⟩ := h_480964
    exact g_zret (ty := .int) (r := x_480961) B K rfl (rfl) ⟨rfl, rfl, rx_480961⟩ dX11_now_103
  by_cases c_480965 : a0.toInt = 7
  · skip
    have r_480966 := rg_of (a := 7) (b := 7) 7 c_480965 (by decide) (by decide)
    refine g_tableIn C (tgt := 104) dX11_now_1 (by omega) (by omega) (off := 103) (by rw [c_480965]; rfl) (by decide) ?_
    refine g_aload_n C 0 dX11_now_104 rfl rfl ?_
    refine g_getR C K hLx hkx f_11_28 hb_480937 dX11_now_105 ?_
    obtain ⟨x_480967, hx_480967, rx_480967⟩ := ex_get (I := I) (a := b_480937) (j := 12) (lo := (-2147483648)) (hi := 2147483647) hU.1 hb_480937L (ro_o hb_480937k (by decide)) rfl
    refine g_getI C K hb_480937L hb_480937k f_11_210 (v := x_480967) hx_480967 dX11_now_108 ?_
    exact g_zret (ty := .int) (r := x_480967) B K rfl (rfl) ⟨rfl, rfl, rx_480967⟩ dX11_now_111
  obtain ⟨q_4809681, q_4809682⟩ := (rg_all a0)
  refine g_tableOut C (tgt := 112) dX11_now_1 (by omega) (by decide) ?_
  refine g_iconst C (v := (-1)) dX11_now_112 (by decide) ?_
  exact g_zret (ty := .int) (r := (-1)) B K rfl (rfl) ⟨rfl, rfl, rg_all _⟩ dX11_now_113
set_option maxRecDepth 100000 in
set_option maxHeartbeats 8000000 in
theorem c_X11_count {l : Launch} {D : va_G} {cy : Nat → ClassId} {L : List Nat} {κ ln : Nat → Nat} {R : Nat → Nat → Option Nat} {I : Nat → Nat → Int32} {J : Nat → Nat → Int64} {ow : Nat → Nat × Nat} (W9 : ∀ a ∈ L, Shp L κ ln R ow a) {x : Nat} (hLx : x ∈ L) (hkx : κ x = 11) (a0 : Int32) (hU : Iv L κ R ow I) : CtI l yX11_count cX11_count 2 (some .int) { frames := 0, cells := 0, slots := 0, locals := 0 } D cy L κ ln R I J [.ref x, .int a0] (fun r I2 J2 => I = I2 ∧ J = J2 ∧ Rg (-2147483648) 2147483647 r) := by
  refine CtI.of (by decide +kernel) (Nat.le_of_ble_eq_true rfl) ?_
  intro p e s m below meth c B K
  have C := B.1
  obtain ⟨b_481011, hb_481011, hb_481011L, hb_481011k⟩ := shp_o (W9 x hLx) hkx 0 10 rfl (by decide)
  obtain ⟨b_481012, hb_481012, hb_481012L, hb_481012k⟩ := shp_o (W9 x hLx) hkx 1 8 rfl (by decide)
  refine g_lo (is := [0, 1]) (lo2 := [(0, .ref x), (1, .int a0)]) rfl ?_
  refine g_iload_n C 1 dX11_count_0 rfl rfl ?_
  by_cases c_481013 : a0.toInt = 0
  · skip
    have r_481014 := rg_of (a := 0) (b := 0) 0 c_481013 (by decide) (by decide)
    refine g_tableIn C (tgt := 36) dX11_count_1 (by omega) (by omega) (off := 35) (by rw [c_481013]; rfl) (by decide) ?_
    refine g_aload_n C 0 dX11_count_36 rfl rfl ?_
    refine g_getR C K hLx hkx f_11_19 hb_481012 dX11_count_37 ?_
    obtain ⟨x_481015, hx_481015, rx_481015⟩ := ex_get (I := I) (a := b_481012) (j := 5) (lo := 0) (hi := 7) hU.1 hb_481012L (ro_o hb_481012k (by decide)) rfl
    refine g_getI C K hb_481012L hb_481012k f_11_213 (v := x_481015) hx_481015 dX11_count_40 ?_
    exact g_zret (ty := .int) (r := x_481015) B K rfl (rfl) ⟨rfl, rfl, rg_all _⟩ dX11_count_43
  by_cases c_481016 : a0.toInt = 1
  · skip
    have r_481017 := rg_of (a := 1) (b := 1) 1 c_481016 (by decide) (by decide)
    refine g_tableIn C (tgt := 44) dX11_count_1 (by omega) (by omega) (off := 43) (by rw [c_481016]; rfl) (by decide) ?_
    refine g_aload_n C 0 dX11_count_44 rfl rfl ?_
    refine g_getR C K hLx hkx f_11_19 hb_481012 dX11_count_45 ?_
    obtain ⟨x_481018, hx_481018, rx_481018⟩ := ex_get (I := I) (a := b_481012) (j := 6) (lo := 0) (hi := 6) hU.1 hb_481012L (ro_o hb_481012k (by decide)) rfl
    refine g_getI C K hb_481012L hb_481012k f_11_216 (v := x_481018) hx_481018 dX11_count_48 ?_
    exact g_zret (ty := .int) (r := x_481018) B K rfl (rfl) ⟨rfl, rfl, rg_all _⟩ dX11_count_51
  by_cases c_481019 : a0.toInt = 2
  · skip
    have r_481020 := rg_of (a := 2) (b := 2) 2 c_481019 (by decide) (by decide)
    refine g_tableIn C (tgt := 52) dX11_count_1 (by omega) (by omega) (off := 51) (by rw [c_481019]; rfl) (by decide) ?_
    refine g_aload_n C 0 dX11_count_52 rfl rfl ?_
    refine g_getR C K hLx hkx f_11_19 hb_481012 dX11_count_53 ?_
    obtain ⟨x_481021, hx_481021, rx_481021⟩ := ex_get (I := I) (a := b_481012) (j := 7) (lo := (-2147483648)) (hi := 2147483647) hU.1 hb_481012L (ro_o hb_481012k (by decide)) rfl
    refine g_getI C K hb_481012L hb_481012k f_11_219 (v := x_481021) hx_481021 dX11_count_56 ?_
    exact g_zret (ty := .int) (r := x_481021) B K rfl (rfl) ⟨rfl, rfl, rx_481021⟩ dX11_count_59
  by_cases c_481022 : a0.toInt = 3
  · skip
    have r_481023 := rg_of (a := 3) (b := 3) 3 c_481022 (by decide) (by decide)
    refine g_tableIn C (tgt := 60) dX11_count_1 (by omega) (by omega) (off := 59) (by rw [c_481022]; rfl) (by decide) ?_
    refine g_aload_n C 0 dX11_count_60 rfl rfl ?_
    refine g_getR C K hLx hkx f_11_19 hb_481012 dX11_count_61 ?_
    obtain ⟨x_481024, hx_481024, rx_481024⟩ := ex_get (I := I) (a := b_481012) (j := 8) (lo := (-2147483648)) (hi := 2147483647) hU.1 hb_481012L (ro_o hb_481012k (by decide)) rfl
    refine g_getI C K hb_481012L hb_481012k f_11_222 (v := x_481024) hx_481024 dX11_count_64 ?_
    exact g_zret (ty := .int) (r := x_481024) B K rfl (rfl) ⟨rfl, rfl, rx_481024⟩ dX11_count_67
  by_cases c_481025 : a0.toInt = 4
  · skip
    have r_481026 := rg_of (a := 4) (b := 4) 4 c_481025 (by decide) (by decide)
    refine g_tableIn C (tgt := 68) dX11_count_1 (by omega) (by omega) (off := 67) (by rw [c_481025]; rfl) (by decide) ?_
    refine g_aload_n C 0 dX11_count_68 rfl rfl ?_
    refine g_getR C K hLx hkx f_11_10 hb_481011 dX11_count_69 ?_
    obtain ⟨x_481027, hx_481027, rx_481027⟩ := ex_get (I := I) (a := b_481011) (j := 5) (lo := 0) (hi := 940) hU.1 hb_481011L (ro_o hb_481011k (by decide)) rfl
    refine g_getI C K hb_481011L hb_481011k f_11_102 (v := x_481027) hx_481027 dX11_count_72 ?_
    exact g_zret (ty := .int) (r := x_481027) B K rfl (rfl) ⟨rfl, rfl, rg_all _⟩ dX11_count_75
  obtain ⟨q_4810281, q_4810282⟩ := (rg_all a0)
  refine g_tableOut C (tgt := 76) dX11_count_1 (by omega) (by decide) ?_
  refine g_iconst C (v := (-1)) dX11_count_76 (by decide) ?_
  exact g_zret (ty := .int) (r := (-1)) B K rfl (rfl) ⟨rfl, rfl, rg_all _⟩ dX11_count_77
set_option maxRecDepth 100000 in
set_option maxHeartbeats 8000000 in
theorem c_X5_keepNoted {l : Launch} {D : va_G} {cy : Nat → ClassId} {L : List Nat} {κ ln : Nat → Nat} {R : Nat → Nat → Option Nat} {I : Nat → Nat → Int32} {J : Nat → Nat → Int64} {ow : Nat → Nat × Nat} (W9 : ∀ a ∈ L, Shp L κ ln R ow a) {x : Nat} (hLx : x ∈ L) (hkx : κ x = 5) (hU : Iv L κ R ow I) : CtV l yX5_keepNoted cX5_keepNoted 1 none { frames := 1, cells := 0, slots := 0, locals := 60 } D cy L κ ln R I J [.ref x] (fun I2 J2 => Iv L κ R ow I2 ∧ Fq L κ ow [501, 502] I I2 ∧ Fq L κ ow [] J J2) := by
  refine CtV.of (by decide +kernel) (Nat.le_of_ble_eq_true rfl) ?_
  intro p e s m below meth c B K
  have C := B.1
  have hF : Fq L κ ow [501, 502] I I := fq_rf
  have hG : Fq L κ ow [] J J := fq_rf
  refine g_lo (is := [0]) (lo2 := [(0, .ref x)]) rfl ?_
  refine g_aload_n C 0 dX5_keepNoted_0 rfl rfl ?_
  refine g_aload_n C 0 dX5_keepNoted_1 rfl rfl ?_
  obtain ⟨x_481075, hx_481075, rx_481075⟩ := ex_get (I := I) (a := x) (j := 2) (lo := 0) (hi := 8) hU.1 hLx (ro_o hkx (by decide)) rfl
  refine g_getI C K hLx hkx f_5_21 (v := x_481075) hx_481075 dX5_keepNoted_2 ?_
  refine g_iconst C (v := 1) dX5_keepNoted_5 (by decide) ?_
  obtain ⟨x_481076, hx_481076, rx_481076, tx_481076⟩ := ex_add 1 9 rx_481075 rc_1 (by decide) (by decide) (by decide) (by decide)
  refine g_iadd C (v := x_481076) dX5_keepNoted_6 hx_481076 ?_
  refine g_bipush C (v := 9) dX5_keepNoted_7 (by decide) ?_
  refine g_icmp_ge C (tgt := 21) dX5_keepNoted_9 (by decide) (fun h_481077 => ?_) (fun h_481077 => ?_)
  · skip
    have r_481078 := le_r (h_481077) rc_9 rx_481076
    refine g_iconst C (v := 0) dX5_keepNoted_21 (by decide) ?_
    refine h_putI C K hLx hkx f_5_21 p_5_2 dX5_keepNoted_22 (fun I_481079 hI_481079 => ?_)
    have hU_481080 := iv_put W9 hU hI_481079 (ro_o hkx (by decide)) (lo := 0) (hi := 8) (rfl) (rg_w rc_0 (by decide) (by decide)) rfl
    have hF_481081 := fq_puto hF hI_481079 hkx (by decide) (by decide)
    refine g_aload_n C 0 dX5_keepNoted_25 rfl rfl ?_
    refine g_aload_n C 0 dX5_keepNoted_26 rfl rfl ?_
    obtain ⟨x_481082, hx_481082, rx_481082⟩ := ex_get (I := I_481079) (a := x) (j := 1) (lo := 0) (hi := 8) hU_481080.1 hLx (ro_o hkx (by decide)) rfl
    refine g_getI C K hLx hkx f_5_17 (v := x_481082) hx_481082 dX5_keepNoted_27 ?_
    refine g_iconst C (v := 1) dX5_keepNoted_30 (by decide) ?_
    obtain ⟨x_481083, hx_481083, rx_481083, tx_481083⟩ := ex_add 1 9 rx_481082 rc_1 (by decide) (by decide) (by decide) (by decide)
    refine g_iadd C (v := x_481083) dX5_keepNoted_31 hx_481083 ?_
    refine g_bipush C (v := 8) dX5_keepNoted_32 (by decide) ?_
    obtain ⟨x_481084, hx_481084, rx_481084⟩ := ex_min 1 8 rx_481083 rc_8 (by decide) (by decide) (by decide)
    refine g_mmin C (v := x_481084) mw_5_31 w_min (Nat.le_of_ble_eq_true rfl) (Nat.le_of_ble_eq_true rfl) ⟨Nat.le_of_ble_eq_true rfl, Nat.le_of_ble_eq_true rfl⟩ (hx_481084) dX5_keepNoted_34 ?_
    refine h_putI C K hLx hkx f_5_17 p_5_1 dX5_keepNoted_37 (fun I_481085 hI_481085 => ?_)
    have hU_481086 := iv_put W9 hU_481080 hI_481085 (ro_o hkx (by decide)) (lo := 0) (hi := 8) (rfl) (rg_w rx_481084 (by decide) (by decide)) rfl
    have hF_481087 := fq_puto hF_481081 hI_481085 hkx (by decide) (by decide)
    exact g_vret B K rfl ⟨hU_481086, hF_481087, hG⟩ dX5_keepNoted_40
  · skip
    have r_481088 := lt_l (hi := 8) (nle h_481077) rx_481076 rc_9 (by decide)
    refine g_aload_n C 0 dX5_keepNoted_12 rfl rfl ?_
    refine g_getI C K hLx hkx f_5_21 (v := x_481075) hx_481075 dX5_keepNoted_13 ?_
    refine g_iconst C (v := 1) dX5_keepNoted_16 (by decide) ?_
    refine g_iadd C (v := x_481076) dX5_keepNoted_17 hx_481076 ?_
    refine g_goto C (tgt := 22) dX5_keepNoted_18 (by decide) ?_
    refine h_putI C K hLx hkx f_5_21 p_5_2 dX5_keepNoted_22 (fun I_481089 hI_481089 => ?_)
    have hU_481090 := iv_put W9 hU hI_481089 (ro_o hkx (by decide)) (lo := 0) (hi := 8) (rfl) (rg_w r_481088 (by decide) (by decide)) rfl
    have hF_481091 := fq_puto hF hI_481089 hkx (by decide) (by decide)
    refine g_aload_n C 0 dX5_keepNoted_25 rfl rfl ?_
    refine g_aload_n C 0 dX5_keepNoted_26 rfl rfl ?_
    obtain ⟨x_481092, hx_481092, rx_481092⟩ := ex_get (I := I_481089) (a := x) (j := 1) (lo := 0) (hi := 8) hU_481090.1 hLx (ro_o hkx (by decide)) rfl
    refine g_getI C K hLx hkx f_5_17 (v := x_481092) hx_481092 dX5_keepNoted_27 ?_
    refine g_iconst C (v := 1) dX5_keepNoted_30 (by decide) ?_
    obtain ⟨x_481093, hx_481093, rx_481093, tx_481093⟩ := ex_add 1 9 rx_481092 rc_1 (by decide) (by decide) (by decide) (by decide)
    refine g_iadd C (v := x_481093) dX5_keepNoted_31 hx_481093 ?_
    refine g_bipush C (v := 8) dX5_keepNoted_32 (by decide) ?_
    obtain ⟨x_481094, hx_481094, rx_481094⟩ := ex_min 1 8 rx_481093 rc_8 (by decide) (by decide) (by decide)
    refine g_mmin C (v := x_481094) mw_5_31 w_min (Nat.le_of_ble_eq_true rfl) (Nat.le_of_ble_eq_true rfl) ⟨Nat.le_of_ble_eq_true rfl, Nat.le_of_ble_eq_true rfl⟩ (hx_481094) dX5_keepNoted_34 ?_
    refine h_putI C K hLx hkx f_5_17 p_5_1 dX5_keepNoted_37 (fun I_481095 hI_481095 => ?_)
    have hU_481096 := iv_put W9 hU_481090 hI_481095 (ro_o hkx (by decide)) (lo := 0) (hi := 8) (rfl) (rg_w rx_481094 (by decide) (by decide)) rfl
    have hF_481097 := fq_puto hF_481091 hI_481095 hkx (by decide) (by decide)
    exact g_vret B K rfl ⟨hU_481096, hF_481097, hG⟩ dX5_keepNoted_40
set_option maxRecDepth 100000 in
set_option maxHeartbeats 8000000 in
theorem c_X11_keptIfDone {l : Launch} {D : va_G} {cy : Nat → ClassId} {L : List Nat} {κ ln : Nat → Nat} {R : Nat → Nat → Option Nat} {I : Nat → Nat → Int32} {J : Nat → Nat → Int64} {ow : Nat → Nat × Nat} (W9 : ∀ a ∈ L, Shp L κ ln R ow a) {x : Nat} (hLx : x ∈ L) (hkx : κ x = 11) (a0 : Int32) (ra0 : Rg 0 3 a0) (hU : Iv L κ R ow I) : CtI l yX11_keptIfDone cX11_keptIfDone 2 (some .int) { frames := 2, cells := 0, slots := 0, locals := 80 } D cy L κ ln R I J [.ref x, .int a0] (fun r I2 J2 => Iv L κ R ow I2 ∧ Fq L κ ow [501, 502] I I2 ∧ Fq L κ ow [] J J2 ∧ Rg 0 3 r) := by
  refine CtI.of (by decide +kernel) (Nat.le_of_ble_eq_true rfl) ?_
  intro p e s m below meth c B K
  have C := B.1
  have hF : Fq L κ ow [501, 502] I I := fq_rf
  have hG : Fq L κ ow [] J J := fq_rf
  obtain ⟨b_481120, hb_481120, hb_481120L, hb_481120k⟩ := shp_o (W9 x hLx) hkx 4 5 rfl (by decide)
  refine g_lo (is := [0, 1]) (lo2 := [(0, .ref x), (1, .int a0)]) rfl ?_
  refine g_iload_n C 1 dX11_keptIfDone_0 rfl rfl ?_
  refine g_if_ne C (tgt := 11) dX11_keptIfDone_1 (by decide) (fun h_481121 => ?_) (fun h_481121 => ?_)
  · skip
    have n_481122 : ¬ a0 = 0 := h_481121
    have r_481123 := ne_lo (lo := 1) n_481122 ra0 rc_0 rfl (by decide)
    refine g_iload_n C 1 dX11_keptIfDone_11 rfl rfl ?_
    exact g_zret (ty := .int) (r := a0) B K rfl (rfl) ⟨hU, hF, hG, rg_w r_481123 (by decide) (by decide)⟩ dX11_keptIfDone_12
  · skip
    have r_481124 := (⟨(ra0).1, (eq_rg (h_481121) rc_0).2⟩ : Rg 0 0 a0)
    refine g_aload_n C 0 dX11_keptIfDone_4 rfl rfl ?_
    refine g_getR C K hLx hkx f_11_38 hb_481120 dX11_keptIfDone_5 ?_
    refine g_callVV C K (c_X5_keepNoted W9 hb_481120L hb_481120k   hU) hb_481120L hb_481120k (by decide) rfl v_11_260 rfl ⟨rfl, rfl⟩ ⟨Nat.le_of_ble_eq_true rfl, Nat.le_of_ble_eq_true rfl⟩ (Nat.le_of_ble_eq_true rfl) ⟨Nat.le_of_ble_eq_true rfl, Nat.le_of_ble_eq_true rfl⟩ dX11_keptIfDone_8 rfl (st := []) (fun I_481126 J_481127 h_481128 => ?_)
    obtain ⟨hUI_481126, hFI_481126, hGJ_481127⟩ := h_481128
    have hF_481129 := fq_tr hF hFI_481126 (by decide)
    have hG_481130 := fq_tr hG hGJ_481127 (by decide)
    refine g_iload_n C 1 dX11_keptIfDone_11 rfl rfl ?_
    exact g_zret (ty := .int) (r := a0) B K rfl (rfl) ⟨hUI_481126, hF_481129, hG_481130, rg_w r_481124 (by decide) (by decide)⟩ dX11_keptIfDone_12
set_option maxRecDepth 100000 in
set_option maxHeartbeats 8000000 in
theorem c_X1_eatUp {l : Launch} {D : va_G} {cy : Nat → ClassId} {L : List Nat} {κ ln : Nat → Nat} {R : Nat → Nat → Option Nat} {I : Nat → Nat → Int32} {J : Nat → Nat → Int64} {ow : Nat → Nat × Nat} (W9 : ∀ a ∈ L, Shp L κ ln R ow a) {x : Nat} (hLx : x ∈ L) (hkx : κ x = 1) (a0 : Int32) (a1 : Int32) (a2 : Int32) (ra0 : Rg 0 6 a0) (ra1 : Rg 0 5 a1) (hU : Iv L κ R ow I) : CtV l yX1_eatUp cX1_eatUp 4 none { frames := 1, cells := 0, slots := 0, locals := 23 } D cy L κ ln R I J [.ref x, .int a0, .int a1, .int a2] (fun I2 J2 => Iv L κ R ow I2 ∧ Fq L κ ow [16200, 16300, 16400, 16500] I I2 ∧ Fq L κ ow [] J J2) := by
  refine CtV.of (by decide +kernel) (Nat.le_of_ble_eq_true rfl) ?_
  intro p e s m below meth c B K
  have C := B.1
  have hF : Fq L κ ow [16200, 16300, 16400, 16500] I I := fq_rf
  have hG : Fq L κ ow [] J J := fq_rf
  obtain ⟨b_481169, hb_481169, hb_481169L, hb_481169k, hb_481169n, hb_481169o⟩ := shp_a (W9 x hLx) hkx 4 14 7 rfl (by decide)
  obtain ⟨b_481170, hb_481170, hb_481170L, hb_481170k, hb_481170n, hb_481170o⟩ := shp_a (W9 x hLx) hkx 5 14 7 rfl (by decide)
  refine g_lo (is := [0, 1, 2, 3]) (lo2 := [(0, .ref x), (1, .int a0), (2, .int a1), (3, .int a2)]) rfl ?_
  refine g_aload_n C 0 dX1_eatUp_0 rfl rfl ?_
  refine g_iload_n C 1 dX1_eatUp_1 rfl rfl ?_
  refine g_iload_n C 2 dX1_eatUp_2 rfl rfl ?_
  refine g_iload_n C 3 dX1_eatUp_3 rfl rfl ?_
  obtain ⟨x_481171, hx_481171, rx_481171⟩ := ex_any (z0 := -a2)
  refine g_ineg C (v := x_481171) dX1_eatUp_4 hx_481171 ?_
  refine g_callVV C K (c_X1_addToPlate W9 hLx hkx a0 a1 x_481171 (ra0) (ra1) hU) hLx hkx (by decide) rfl v_1_105 rfl ⟨rfl, rfl⟩ ⟨Nat.le_of_ble_eq_true rfl, Nat.le_of_ble_eq_true rfl⟩ (Nat.le_of_ble_eq_true rfl) ⟨Nat.le_of_ble_eq_true rfl, Nat.le_of_ble_eq_true rfl⟩ dX1_eatUp_5 rfl (st := []) (fun I_481173 J_481174 h_481175 => ?_)
  obtain ⟨hUI_481173, hFI_481173, hGJ_481174⟩ := h_481175
  have hF_481176 := fq_tr hF hFI_481173 (by decide)
  have hG_481177 := fq_tr hG hGJ_481174 (by decide)
  refine g_aload_n C 0 dX1_eatUp_8 rfl rfl ?_
  refine g_getR C K hLx hkx f_1_21 hb_481169 dX1_eatUp_9 ?_
  refine g_iload_n C 1 dX1_eatUp_12 rfl rfl ?_
  refine g_dup2 C dX1_eatUp_13 rfl rfl ?_
  obtain ⟨x_481178, hx_481178, rx_481178⟩ := ex_get (I := I_481173) (a := b_481169) (j := a0.toNatClampNeg) (lo := (-2147483648)) (hi := 2147483647) hUI_481173.1 hb_481169L (ro_a hb_481169k (by decide) hb_481169o hkx rfl) (rfl)
  refine h_iald C K hb_481169L hb_481169k (v := x_481178) (a0.toNatClampNeg) (rfl) (ix_0 ra0 (by decide)) (ix_lt ra0 (by decide) hb_481169n (by decide)) hx_481178 dX1_eatUp_14 ?_
  refine g_iload_n C 3 dX1_eatUp_15 rfl rfl ?_
  obtain ⟨x_481179, hx_481179, rx_481179⟩ := ex_any (z0 := x_481178 + a2)
  refine g_iadd C (v := x_481179) dX1_eatUp_16 hx_481179 ?_
  refine h_iast C K hb_481169L hb_481169k (a0.toNatClampNeg) (rfl) (ix_0 ra0 (by decide)) (ix_lt ra0 (by decide) hb_481169n (by decide)) dX1_eatUp_17 (fun I_481180 hI_481180 => ?_)
  have hU_481181 := iv_put W9 hUI_481173 hI_481180 (ro_a hb_481169k (by decide) hb_481169o hkx rfl) (lo := (-2147483648)) (hi := 2147483647) (rfl) (rx_481179) rfl
  have hF_481182 := fq_puta hF_481176 hI_481180 (ro_a hb_481169k (by decide) hb_481169o hkx rfl) (by decide) (by decide)
  refine g_aload_n C 0 dX1_eatUp_18 rfl rfl ?_
  refine g_getR C K hLx hkx f_1_24 hb_481170 dX1_eatUp_19 ?_
  refine g_iload_n C 1 dX1_eatUp_22 rfl rfl ?_
  refine g_dup2 C dX1_eatUp_23 rfl rfl ?_
  obtain ⟨x_481183, hx_481183, rx_481183⟩ := ex_get (I := I_481180) (a := b_481170) (j := a0.toNatClampNeg) (lo := (-2147483648)) (hi := 2147483647) hU_481181.1 hb_481170L (ro_a hb_481170k (by decide) hb_481170o hkx rfl) (rfl)
  refine h_iald C K hb_481170L hb_481170k (v := x_481183) (a0.toNatClampNeg) (rfl) (ix_0 ra0 (by decide)) (ix_lt ra0 (by decide) hb_481170n (by decide)) hx_481183 dX1_eatUp_24 ?_
  refine g_iload_n C 3 dX1_eatUp_25 rfl rfl ?_
  obtain ⟨x_481184, hx_481184, rx_481184⟩ := ex_any (z0 := x_481183 + a2)
  refine g_iadd C (v := x_481184) dX1_eatUp_26 hx_481184 ?_
  refine h_iast C K hb_481170L hb_481170k (a0.toNatClampNeg) (rfl) (ix_0 ra0 (by decide)) (ix_lt ra0 (by decide) hb_481170n (by decide)) dX1_eatUp_27 (fun I_481185 hI_481185 => ?_)
  have hU_481186 := iv_put W9 hU_481181 hI_481185 (ro_a hb_481170k (by decide) hb_481170o hkx rfl) (lo := (-2147483648)) (hi := 2147483647) (rfl) (rx_481184) rfl
  have hF_481187 := fq_puta hF_481182 hI_481185 (ro_a hb_481170k (by decide) hb_481170o hkx rfl) (by decide) (by decide)
  exact g_vret B K rfl ⟨hU_481186, hF_481187, hG_481177⟩ dX1_eatUp_28
set_option maxRecDepth 100000 in
set_option maxHeartbeats 8000000 in
theorem c_X1_lives {l : Launch} {D : va_G} {cy : Nat → ClassId} {L : List Nat} {κ ln : Nat → Nat} {R : Nat → Nat → Option Nat} {I : Nat → Nat → Int32} {J : Nat → Nat → Int64} {ow : Nat → Nat × Nat} (W9 : ∀ a ∈ L, Shp L κ ln R ow a) {x : Nat} (hLx : x ∈ L) (hkx : κ x = 1) (a0 : Int32) (ra0 : Rg 0 6 a0) (hU : Iv L κ R ow I) : CtI l yX1_lives cX1_lives 2 (some .boolean) { frames := 0, cells := 0, slots := 0, locals := 0 } D cy L κ ln R I J [.ref x, .int a0] (fun r I2 J2 => I = I2 ∧ J = J2 ∧ Rg 0 1 r) := by
  refine CtI.of (by decide +kernel) (Nat.le_of_ble_eq_true rfl) ?_
  intro p e s m below meth c B K
  have C := B.1
  refine g_lo (is := [0, 1]) (lo2 := [(0, .ref x), (1, .int a0)]) rfl ?_
  refine g_aload_n C 0 dX1_lives_0 rfl rfl ?_
  obtain ⟨x_481202, hx_481202, rx_481202⟩ := ex_get (I := I) (a := x) (j := 7) (lo := (-2147483648)) (hi := 2147483647) hU.1 hLx (ro_o hkx (by decide)) rfl
  refine g_getI C K hLx hkx f_1_30 (v := x_481202) hx_481202 dX1_lives_1 ?_
  refine g_iload_n C 1 dX1_lives_4 rfl rfl ?_
  obtain ⟨x_481203, hx_481203, rx_481203⟩ := ex_any (z0 := x_481202 >>> (a0 &&& 31))
  refine g_ishr C (v := x_481203) dX1_lives_5 hx_481203 ?_
  refine g_iconst C (v := 1) dX1_lives_6 (by decide) ?_
  obtain ⟨x_481204, hx_481204, rx_481204⟩ := ex_andr (x := x_481203) (y := 1) (b := 1) (rg_w rc_1 (by decide) (by decide))
  refine g_iand C (v := x_481204) dX1_lives_7 hx_481204 ?_
  refine g_if_ne C (tgt := 15) dX1_lives_8 (by decide) (fun h_481205 => ?_) (fun h_481205 => ?_)
  · skip
    have n_481206 : ¬ x_481204 = 0 := h_481205
    have r_481207 := ne_lo (lo := 1) n_481206 rx_481204 rc_0 rfl (by decide)
    refine g_iconst C (v := 0) dX1_lives_15 (by decide) ?_
    exact g_zret (ty := .boolean) (r := 0) B K rfl (rfl) ⟨rfl, rfl, rg_w rc_0 (by decide) (by decide)⟩ dX1_lives_16
  · skip
    have r_481208 := (⟨(rx_481204).1, (eq_rg (h_481205) rc_0).2⟩ : Rg 0 0 x_481204)
    refine g_iconst C (v := 1) dX1_lives_11 (by decide) ?_
    refine g_goto C (tgt := 16) dX1_lives_12 (by decide) ?_
    exact g_zret (ty := .boolean) (r := 1) B K rfl (rfl) ⟨rfl, rfl, rg_w rc_1 (by decide) (by decide)⟩ dX1_lives_16
set_option maxRecDepth 100000 in
set_option maxHeartbeats 8000000 in
theorem c_X1_wantsYet {l : Launch} {D : va_G} {cy : Nat → ClassId} {L : List Nat} {κ ln : Nat → Nat} {R : Nat → Nat → Option Nat} {I : Nat → Nat → Int32} {J : Nat → Nat → Int64} {ow : Nat → Nat × Nat} (W9 : ∀ a ∈ L, Shp L κ ln R ow a) {x : Nat} (hLx : x ∈ L) (hkx : κ x = 1) (a0 : Int32) (ra0 : Rg 0 6 a0) (hU : Iv L κ R ow I) : CtI l yX1_wantsYet cX1_wantsYet 2 (some .int) { frames := 0, cells := 0, slots := 0, locals := 0 } D cy L κ ln R I J [.ref x, .int a0] (fun r I2 J2 => I = I2 ∧ J = J2 ∧ Rg (-2147483648) 2147483647 r) := by
  refine CtI.of (by decide +kernel) (Nat.le_of_ble_eq_true rfl) ?_
  intro p e s m below meth c B K
  have C := B.1
  obtain ⟨b_481221, hb_481221, hb_481221L, hb_481221k⟩ := shp_o (W9 x hLx) hkx 0 8 rfl (by decide)
  obtain ⟨b_481222, hb_481222, hb_481222L, hb_481222k, hb_481222n, hb_481222o⟩ := shp_a (W9 x hLx) hkx 5 14 7 rfl (by decide)
  obtain ⟨b_481223, hb_481223, hb_481223L, hb_481223k, hb_481223n, hb_481223o⟩ := shp_a (W9 b_481221 hb_481221L) hb_481221k 1 14 7 rfl (by decide)
  refine g_lo (is := [0, 1]) (lo2 := [(0, .ref x), (1, .int a0)]) rfl ?_
  refine g_aload_n C 0 dX1_wantsYet_0 rfl rfl ?_
  refine g_getR C K hLx hkx f_1_52 hb_481221 dX1_wantsYet_1 ?_
  refine g_getR C K hb_481221L hb_481221k f_1_75 hb_481223 dX1_wantsYet_4 ?_
  refine g_iload_n C 1 dX1_wantsYet_7 rfl rfl ?_
  obtain ⟨x_481224, hx_481224, rx_481224⟩ := ex_get (I := I) (a := b_481223) (j := a0.toNatClampNeg) (lo := (-2147483648)) (hi := 2147483647) hU.1 hb_481223L (ro_a hb_481223k (by decide) hb_481223o hb_481221k rfl) (rfl)
  refine h_iald C K hb_481223L hb_481223k (v := x_481224) (a0.toNatClampNeg) (rfl) (ix_0 ra0 (by decide)) (ix_lt ra0 (by decide) hb_481223n (by decide)) hx_481224 dX1_wantsYet_8 ?_
  refine g_aload_n C 0 dX1_wantsYet_9 rfl rfl ?_
  refine g_getR C K hLx hkx f_1_24 hb_481222 dX1_wantsYet_10 ?_
  refine g_iload_n C 1 dX1_wantsYet_13 rfl rfl ?_
  obtain ⟨x_481225, hx_481225, rx_481225⟩ := ex_get (I := I) (a := b_481222) (j := a0.toNatClampNeg) (lo := (-2147483648)) (hi := 2147483647) hU.1 hb_481222L (ro_a hb_481222k (by decide) hb_481222o hkx rfl) (rfl)
  refine h_iald C K hb_481222L hb_481222k (v := x_481225) (a0.toNatClampNeg) (rfl) (ix_0 ra0 (by decide)) (ix_lt ra0 (by decide) hb_481222n (by decide)) hx_481225 dX1_wantsYet_14 ?_
  obtain ⟨x_481226, hx_481226, rx_481226⟩ := ex_any (z0 := x_481224 - x_481225)
  refine g_isub C (v := x_481226) dX1_wantsYet_15 hx_481226 ?_
  exact g_zret (ty := .int) (r := x_481226) B K rfl (rfl) ⟨rfl, rfl, rx_481226⟩ dX1_wantsYet_16
set_option maxRecDepth 100000 in
set_option maxHeartbeats 8000000 in
theorem c_X1_tryToEat {l : Launch} {D : va_G} {cy : Nat → ClassId} {L : List Nat} {κ ln : Nat → Nat} {R : Nat → Nat → Option Nat} {I : Nat → Nat → Int32} {J : Nat → Nat → Int64} {ow : Nat → Nat × Nat} (W9 : ∀ a ∈ L, Shp L κ ln R ow a) {x : Nat} (hLx : x ∈ L) (hkx : κ x = 1) (a0 : Int32) (a1 : Int32) (a2 : Int32) (ra0 : Rg 0 6 a0) (ra1 : Rg 0 5 a1) (hU : Iv L κ R ow I) : CtI l yX1_tryToEat cX1_tryToEat 4 (some .int) { frames := 2, cells := 0, slots := 0, locals := 46 } D cy L κ ln R I J [.ref x, .int a0, .int a1, .int a2] (fun r I2 J2 => Iv L κ R ow I2 ∧ Fq L κ ow [16200, 16300, 16400, 16500] I I2 ∧ Fq L κ ow [] J J2 ∧ Rg 0 3 r) := by
  refine CtI.of (by decide +kernel) (Nat.le_of_ble_eq_true rfl) ?_
  intro p e s m below meth c B K
  have C := B.1
  have hF : Fq L κ ow [16200, 16300, 16400, 16500] I I := fq_rf
  have hG : Fq L κ ow [] J J := fq_rf
  refine g_lo (is := [0, 1, 2, 3]) (lo2 := [(0, .ref x), (1, .int a0), (2, .int a1), (3, .int a2)]) rfl ?_
  refine g_aload_n C 0 dX1_tryToEat_0 rfl rfl ?_
  refine g_iload_n C 1 dX1_tryToEat_1 rfl rfl ?_
  refine g_callVI C K (c_X1_lives W9 hLx hkx a0 (ra0) hU) hLx hkx (by decide) rfl v_1_115 rfl ⟨rfl, rfl⟩ ⟨Nat.le_of_ble_eq_true rfl, Nat.le_of_ble_eq_true rfl⟩ (Nat.le_of_ble_eq_true rfl) ⟨Nat.le_of_ble_eq_true rfl, Nat.le_of_ble_eq_true rfl⟩ dX1_tryToEat_2 rfl (st := []) (fun x_481283 I_481284 J_481285 h_481286 => ?_)
  obtain ⟨rfl, rfl, rx_481283⟩ := h_481286
  refine g_if_ne C (tgt := 10) dX1_tryToEat_5 (by decide) (fun h_481287 => ?_) (fun h_481287 => ?_)
  · skip
    have n_481288 : ¬ x_481283 = 0 := h_481287
    have r_481289 := ne_lo (lo := 1) n_481288 rx_481283 rc_0 rfl (by decide)
    refine g_aload_n C 0 dX1_tryToEat_10 rfl rfl ?_
    refine g_iload_n C 1 dX1_tryToEat_11 rfl rfl ?_
    refine g_iload_n C 2 dX1_tryToEat_12 rfl rfl ?_
    refine g_callVI C K (c_X1_onPlate W9 hLx hkx a0 a1 (ra0) (ra1) hU) hLx hkx (by decide) rfl v_1_71 rfl ⟨rfl, rfl⟩ ⟨Nat.le_of_ble_eq_true rfl, Nat.le_of_ble_eq_true rfl⟩ (Nat.le_of_ble_eq_true rfl) ⟨Nat.le_of_ble_eq_true rfl, Nat.le_of_ble_eq_true rfl⟩ dX1_tryToEat_13 rfl (st := []) (fun x_481290 I_481291 J_481292 h_481293 => ?_)
    obtain ⟨rfl, rfl, rx_481290⟩ := h_481293
    refine g_iload_n C 3 dX1_tryToEat_16 rfl rfl ?_
    refine g_icmp_ge C (tgt := 22) dX1_tryToEat_17 (by decide) (fun h_481294 => ?_) (fun h_481294 => ?_)
    · skip
      refine g_aload_n C 0 dX1_tryToEat_22 rfl rfl ?_
      refine g_iload_n C 1 dX1_tryToEat_23 rfl rfl ?_
      refine g_callVI C K (c_X1_wantsYet W9 hLx hkx a0 (ra0) hU) hLx hkx (by decide) rfl v_1_109 rfl ⟨rfl, rfl⟩ ⟨Nat.le_of_ble_eq_true rfl, Nat.le_of_ble_eq_true rfl⟩ (Nat.le_of_ble_eq_true rfl) ⟨Nat.le_of_ble_eq_true rfl, Nat.le_of_ble_eq_true rfl⟩ dX1_tryToEat_24 rfl (st := []) (fun x_481295 I_481296 J_481297 h_481298 => ?_)
      obtain ⟨rfl, rfl, rx_481295⟩ := h_481298
      refine g_iload_n C 3 dX1_tryToEat_27 rfl rfl ?_
      refine g_icmp_ge C (tgt := 33) dX1_tryToEat_28 (by decide) (fun h_481299 => ?_) (fun h_481299 => ?_)
      · skip
        refine g_aload_n C 0 dX1_tryToEat_33 rfl rfl ?_
        refine g_iload_n C 1 dX1_tryToEat_34 rfl rfl ?_
        refine g_iload_n C 2 dX1_tryToEat_35 rfl rfl ?_
        refine g_iload_n C 3 dX1_tryToEat_36 rfl rfl ?_
        refine g_callVV C K (c_X1_eatUp W9 hLx hkx a0 a1 a2 (ra0) (ra1) hU) hLx hkx (by decide) rfl v_1_112 rfl ⟨rfl, rfl⟩ ⟨Nat.le_of_ble_eq_true rfl, Nat.le_of_ble_eq_true rfl⟩ (Nat.le_of_ble_eq_true rfl) ⟨Nat.le_of_ble_eq_true rfl, Nat.le_of_ble_eq_true rfl⟩ dX1_tryToEat_37 rfl (st := []) (fun I_481301 J_481302 h_481303 => ?_)
        obtain ⟨hUI_481301, hFI_481301, hGJ_481302⟩ := h_481303
        have hF_481304 := fq_tr hF hFI_481301 (by decide)
        have hG_481305 := fq_tr hG hGJ_481302 (by decide)
        refine g_iconst C (v := 0) dX1_tryToEat_40 (by decide) ?_
        exact g_zret (ty := .int) (r := 0) B K rfl (rfl) ⟨hUI_481301, hF_481304, hG_481305, rg_w rc_0 (by decide) (by decide)⟩ dX1_tryToEat_41
      · skip
        have r_481306 := lt_l (hi := 2147483646) (nle h_481299) rx_481295 (rg_all a2) (by decide)
        have r_481307 := lt_r (lo := (-2147483647)) (nle h_481299) rx_481295 (rg_all a2) (by decide)
        refine g_iconst C (v := 3) dX1_tryToEat_31 (by decide) ?_
        exact g_zret (ty := .int) (r := 3) B K rfl (rfl) ⟨hU, hF, hG, rg_w rc_3 (by decide) (by decide)⟩ dX1_tryToEat_32
    · skip
      have r_481308 := lt_l (hi := 2147483646) (nle h_481294) rx_481290 (rg_all a2) (by decide)
      have r_481309 := lt_r (lo := (-2147483647)) (nle h_481294) rx_481290 (rg_all a2) (by decide)
      refine g_iconst C (v := 2) dX1_tryToEat_20 (by decide) ?_
      exact g_zret (ty := .int) (r := 2) B K rfl (rfl) ⟨hU, hF, hG, rg_w rc_2 (by decide) (by decide)⟩ dX1_tryToEat_21
  · skip
    have r_481310 := (⟨(rx_481283).1, (eq_rg (h_481287) rc_0).2⟩ : Rg 0 0 x_481283)
    refine g_iconst C (v := 1) dX1_tryToEat_8 (by decide) ?_
    exact g_zret (ty := .int) (r := 1) B K rfl (rfl) ⟨hU, hF, hG, rg_w rc_1 (by decide) (by decide)⟩ dX1_tryToEat_9
set_option maxRecDepth 100000 in
set_option maxHeartbeats 8000000 in
theorem c_X5_note {l : Launch} {D : va_G} {cy : Nat → ClassId} {L : List Nat} {κ ln : Nat → Nat} {R : Nat → Nat → Option Nat} {I : Nat → Nat → Int32} {J : Nat → Nat → Int64} {ow : Nat → Nat × Nat} (W9 : ∀ a ∈ L, Shp L κ ln R ow a) {x : Nat} (hLx : x ∈ L) (hkx : κ x = 5) {a0 : Nat} (hLa0 : a0 ∈ L) (hka0 : κ a0 = 1) (hU : Iv L κ R ow I) : CtV l yX5_note cX5_note 2 none { frames := 2, cells := 0, slots := 0, locals := 81 } D cy L κ ln R I J [.ref x, .ref a0] (fun I2 J2 => Iv L κ R ow I2 ∧ Fq L κ ow [107, 108, 109, 110, 111, 112, 16100, 16200, 16300, 16400, 16500, 16600] I I2 ∧ Fq L κ ow [] J J2) := by
  refine CtV.of (by decide +kernel) (Nat.le_of_ble_eq_true rfl) ?_
  intro p e s m below meth c B K
  have C := B.1
  have hF : Fq L κ ow [107, 108, 109, 110, 111, 112, 16100, 16200, 16300, 16400, 16500, 16600] I I := fq_rf
  have hG : Fq L κ ow [] J J := fq_rf
  obtain ⟨b_481329, hb_481329, hb_481329L, hb_481329k, hb_481329n, hb_481329o⟩ := shp_a (W9 x hLx) hkx 0 17 9 rfl (by decide)
  refine g_lo (is := [0, 1]) (lo2 := [(0, .ref x), (1, .ref a0)]) rfl ?_
  refine g_aload_n C 0 dX5_note_0 rfl rfl ?_
  refine g_getR C K hLx hkx f_5_13 hb_481329 dX5_note_1 ?_
  refine g_aload_n C 0 dX5_note_4 rfl rfl ?_
  obtain ⟨x_481330, hx_481330, rx_481330⟩ := ex_get (I := I) (a := x) (j := 2) (lo := 0) (hi := 8) hU.1 hLx (ro_o hkx (by decide)) rfl
  refine g_getI C K hLx hkx f_5_21 (v := x_481330) hx_481330 dX5_note_5 ?_
  obtain ⟨b_481331, hb_481331, hb_481331L, hb_481331k⟩ := (W9 b_481329 hb_481329L).2.1 hb_481329k (x_481330.toNatClampNeg) (ix_lt rx_481330 (by decide) hb_481329n (by decide))
  refine h_aaldC C K hb_481329L hb_481329k (x_481330.toNatClampNeg) (rfl) (ix_0 rx_481330 (by decide)) (ix_lt rx_481330 (by decide) hb_481329n (by decide)) hb_481331 dX5_note_8 ?_
  refine g_aload_n C 1 dX5_note_9 rfl rfl ?_
  refine g_callVV C K (c_X1_become W9 hb_481331L hb_481331k hLa0 hka0  hU) hb_481331L hb_481331k (by decide) rfl v_5_27 rfl ⟨rfl, rfl⟩ ⟨Nat.le_of_ble_eq_true rfl, Nat.le_of_ble_eq_true rfl⟩ (Nat.le_of_ble_eq_true rfl) ⟨Nat.le_of_ble_eq_true rfl, Nat.le_of_ble_eq_true rfl⟩ dX5_note_10 rfl (st := []) (fun I_481333 J_481334 h_481335 => ?_)
  obtain ⟨hUI_481333, hFI_481333, hGJ_481334⟩ := h_481335
  have hF_481336 := fq_tr hF hFI_481333 (by decide)
  have hG_481337 := fq_tr hG hGJ_481334 (by decide)
  exact g_vret B K rfl ⟨hUI_481333, hF_481336, hG_481337⟩ dX5_note_13
set_option maxRecDepth 100000 in
set_option maxHeartbeats 8000000 in
theorem c_X11_eat {l : Launch} {D : va_G} {cy : Nat → ClassId} {L : List Nat} {κ ln : Nat → Nat} {R : Nat → Nat → Option Nat} {I : Nat → Nat → Int32} {J : Nat → Nat → Int64} {ow : Nat → Nat × Nat} (W9 : ∀ a ∈ L, Shp L κ ln R ow a) {x : Nat} (hLx : x ∈ L) (hkx : κ x = 11) (a0 : Int32) (a1 : Int32) (a2 : Int32) (hU : Iv L κ R ow I) : CtI l yX11_eat cX11_eat 4 (some .int) { frames := 3, cells := 0, slots := 0, locals := 102 } D cy L κ ln R I J [.ref x, .int a0, .int a1, .int a2] (fun r I2 J2 => Iv L κ R ow I2 ∧ Fq L κ ow [107, 108, 109, 110, 111, 112, 501, 502, 16100, 16200, 16300, 16400, 16500, 16600] I I2 ∧ Fq L κ ow [] J J2 ∧ Rg (-1) 3 r) := by
  refine CtI.of (by decide +kernel) (Nat.le_of_ble_eq_true rfl) ?_
  intro p e s m below meth c B K
  have C := B.1
  have hF : Fq L κ ow [107, 108, 109, 110, 111, 112, 501, 502, 16100, 16200, 16300, 16400, 16500, 16600] I I := fq_rf
  have hG : Fq L κ ow [] J J := fq_rf
  obtain ⟨b_481428, hb_481428, hb_481428L, hb_481428k⟩ := shp_o (W9 x hLx) hkx 4 5 rfl (by decide)
  obtain ⟨b_481429, hb_481429, hb_481429L, hb_481429k⟩ := shp_o (W9 x hLx) hkx 1 8 rfl (by decide)
  obtain ⟨b_481430, hb_481430, hb_481430L, hb_481430k⟩ := shp_o (W9 x hLx) hkx 2 1 rfl (by decide)
  refine g_lo (is := [0, 1, 2, 3]) (lo2 := [(0, .ref x), (1, .int a0), (2, .int a1), (3, .int a2)]) rfl ?_
  refine g_aload_n C 0 dX11_eat_0 rfl rfl ?_
  refine g_getR C K hLx hkx f_11_19 hb_481429 dX11_eat_1 ?_
  refine g_iload_n C 1 dX11_eat_4 rfl rfl ?_
  refine g_callVI C K (c_X8_hasPerson W9 hb_481429L hb_481429k a0  hU) hb_481429L hb_481429k (by decide) rfl v_11_133 rfl ⟨rfl, rfl⟩ ⟨Nat.le_of_ble_eq_true rfl, Nat.le_of_ble_eq_true rfl⟩ (Nat.le_of_ble_eq_true rfl) ⟨Nat.le_of_ble_eq_true rfl, Nat.le_of_ble_eq_true rfl⟩ dX11_eat_5 rfl (st := []) (fun x_481431 I_481432 J_481433 h_481434 => ?_)
  obtain ⟨rfl, rfl, rx_481431, ex_481431⟩ := h_481434
  refine g_if_eq C (tgt := 33) dX11_eat_8 (by decide) (fun h_481435 => ?_) (fun h_481435 => ?_)
  · skip
    have r_481436 := (⟨(rx_481431).1, (eq_rg (h_481435) rc_0).2⟩ : Rg 0 0 x_481431)
    refine g_iconst C (v := (-1)) dX11_eat_33 (by decide) ?_
    exact g_zret (ty := .int) (r := (-1)) B K rfl (rfl) ⟨hU, hF, hG, rg_w rc_m1 (by decide) (by decide)⟩ dX11_eat_34
  · skip
    have n_481437 : ¬ x_481431 = 0 := h_481435
    have r_481438 := ne_lo (lo := 1) n_481437 rx_481431 rc_0 rfl (by decide)
    have r_481439 := rg_i (rg_all a0) ((ex_481431) (rg_nz r_481438 (by decide))) (lo := 0) (hi := 6) (by decide) (by decide)
    refine g_aload_n C 0 dX11_eat_11 rfl rfl ?_
    refine g_getR C K hLx hkx f_11_19 hb_481429 dX11_eat_12 ?_
    refine g_iload_n C 2 dX11_eat_15 rfl rfl ?_
    refine g_callVI C K (c_X8_hasDish W9 hb_481429L hb_481429k a1  hU) hb_481429L hb_481429k (by decide) rfl v_11_175 rfl ⟨rfl, rfl⟩ ⟨Nat.le_of_ble_eq_true rfl, Nat.le_of_ble_eq_true rfl⟩ (Nat.le_of_ble_eq_true rfl) ⟨Nat.le_of_ble_eq_true rfl, Nat.le_of_ble_eq_true rfl⟩ dX11_eat_16 rfl (st := []) (fun x_481440 I_481441 J_481442 h_481443 => ?_)
    obtain ⟨rfl, rfl, rx_481440, ex_481440⟩ := h_481443
    refine g_if_eq C (tgt := 33) dX11_eat_19 (by decide) (fun h_481444 => ?_) (fun h_481444 => ?_)
    · skip
      have r_481445 := (⟨(rx_481440).1, (eq_rg (h_481444) rc_0).2⟩ : Rg 0 0 x_481440)
      refine g_iconst C (v := (-1)) dX11_eat_33 (by decide) ?_
      exact g_zret (ty := .int) (r := (-1)) B K rfl (rfl) ⟨hU, hF, hG, rg_w rc_m1 (by decide) (by decide)⟩ dX11_eat_34
    · skip
      have n_481446 : ¬ x_481440 = 0 := h_481444
      have r_481447 := ne_lo (lo := 1) n_481446 rx_481440 rc_0 rfl (by decide)
      have r_481448 := rg_i (rg_all a1) ((ex_481440) (rg_nz r_481447 (by decide))) (lo := 0) (hi := 5) (by decide) (by decide)
      refine g_iload_n C 3 dX11_eat_22 rfl rfl ?_
      refine g_iconst C (v := 1) dX11_eat_23 (by decide) ?_
      refine g_icmp_lt C (tgt := 33) dX11_eat_24 (by decide) (fun h_481449 => ?_) (fun h_481449 => ?_)
      · skip
        have r_481450 := lt_l (hi := 0) (h_481449) (rg_all a2) rc_1 (by decide)
        refine g_iconst C (v := (-1)) dX11_eat_33 (by decide) ?_
        exact g_zret (ty := .int) (r := (-1)) B K rfl (rfl) ⟨hU, hF, hG, rg_w rc_m1 (by decide) (by decide)⟩ dX11_eat_34
      · skip
        have r_481451 := le_r (nlt h_481449) rc_1 (rg_all a2)
        refine g_iload_n C 3 dX11_eat_27 rfl rfl ?_
        refine g_bipush C (v := 20) dX11_eat_28 (by decide) ?_
        refine g_icmp_le C (tgt := 35) dX11_eat_30 (by decide) (fun h_481452 => ?_) (fun h_481452 => ?_)
        · skip
          have r_481453 := le_l (h_481452) r_481451 rc_20
          refine g_aload_n C 0 dX11_eat_35 rfl rfl ?_
          refine g_getR C K hLx hkx f_11_38 hb_481428 dX11_eat_36 ?_
          refine g_aload_n C 0 dX11_eat_39 rfl rfl ?_
          refine g_getR C K hLx hkx f_11_28 hb_481430 dX11_eat_40 ?_
          refine g_callVV C K (c_X5_note W9 hb_481428L hb_481428k hb_481430L hb_481430k  hU) hb_481428L hb_481428k (by decide) rfl v_11_225 rfl ⟨rfl, rfl⟩ ⟨Nat.le_of_ble_eq_true rfl, Nat.le_of_ble_eq_true rfl⟩ (Nat.le_of_ble_eq_true rfl) ⟨Nat.le_of_ble_eq_true rfl, Nat.le_of_ble_eq_true rfl⟩ dX11_eat_43 rfl (st := []) (fun I_481455 J_481456 h_481457 => ?_)
          obtain ⟨hUI_481455, hFI_481455, hGJ_481456⟩ := h_481457
          have hF_481458 := fq_tr hF hFI_481455 (by decide)
          have hG_481459 := fq_tr hG hGJ_481456 (by decide)
          refine g_aload_n C 0 dX11_eat_46 rfl rfl ?_
          refine g_aload_n C 0 dX11_eat_47 rfl rfl ?_
          refine g_getR C K hLx hkx f_11_28 hb_481430 dX11_eat_48 ?_
          refine g_iload_n C 1 dX11_eat_51 rfl rfl ?_
          refine g_iload_n C 2 dX11_eat_52 rfl rfl ?_
          refine g_iload_n C 3 dX11_eat_53 rfl rfl ?_
          refine g_callVI C K (c_X1_tryToEat W9 hb_481430L hb_481430k a0 a1 a2 (r_481439) (r_481448) hUI_481455) hb_481430L hb_481430k (by decide) rfl v_11_228 rfl ⟨rfl, rfl⟩ ⟨Nat.le_of_ble_eq_true rfl, Nat.le_of_ble_eq_true rfl⟩ (Nat.le_of_ble_eq_true rfl) ⟨Nat.le_of_ble_eq_true rfl, Nat.le_of_ble_eq_true rfl⟩ dX11_eat_54 rfl (st := [.ref x]) (fun x_481460 I_481461 J_481462 h_481463 => ?_)
          obtain ⟨hUI_481461, hFI_481461, hGJ_481462, rx_481460⟩ := h_481463
          have hF_481464 := fq_tr hF_481458 hFI_481461 (by decide)
          have hG_481465 := fq_tr hG_481459 hGJ_481462 (by decide)
          refine g_callVI C K (c_X11_keptIfDone W9 hLx hkx x_481460 (rx_481460) hUI_481461) hLx hkx (by decide) rfl v_11_232 rfl ⟨rfl, rfl⟩ ⟨Nat.le_of_ble_eq_true rfl, Nat.le_of_ble_eq_true rfl⟩ (Nat.le_of_ble_eq_true rfl) ⟨Nat.le_of_ble_eq_true rfl, Nat.le_of_ble_eq_true rfl⟩ dX11_eat_57 rfl (st := []) (fun x_481466 I_481467 J_481468 h_481469 => ?_)
          obtain ⟨hUI_481467, hFI_481467, hGJ_481468, rx_481466⟩ := h_481469
          have hF_481470 := fq_tr hF_481464 hFI_481467 (by decide)
          have hG_481471 := fq_tr hG_481465 hGJ_481468 (by decide)
          exact g_zret (ty := .int) (r := x_481466) B K rfl (rfl) ⟨hUI_481467, hF_481470, hG_481471, rg_w rx_481466 (by decide) (by decide)⟩ dX11_eat_60
        · skip
          have r_481472 := lt_r (lo := 21) (nle h_481452) rc_20 r_481451 (by decide)
          refine g_iconst C (v := (-1)) dX11_eat_33 (by decide) ?_
          exact g_zret (ty := .int) (r := (-1)) B K rfl (rfl) ⟨hU, hF, hG, rg_w rc_m1 (by decide) (by decide)⟩ dX11_eat_34
set_option maxRecDepth 100000 in
set_option maxHeartbeats 8000000 in
theorem c_X1_tryToServe {l : Launch} {D : va_G} {cy : Nat → ClassId} {L : List Nat} {κ ln : Nat → Nat} {R : Nat → Nat → Option Nat} {I : Nat → Nat → Int32} {J : Nat → Nat → Int64} {ow : Nat → Nat × Nat} (W9 : ∀ a ∈ L, Shp L κ ln R ow a) {x : Nat} (hLx : x ∈ L) (hkx : κ x = 1) (a0 : Int32) (a1 : Int32) (a2 : Int32) (ra0 : Rg 0 6 a0) (ra1 : Rg 0 5 a1) (hU : Iv L κ R ow I) : CtI l yX1_tryToServe cX1_tryToServe 4 (some .int) { frames := 1, cells := 0, slots := 0, locals := 23 } D cy L κ ln R I J [.ref x, .int a0, .int a1, .int a2] (fun r I2 J2 => Iv L κ R ow I2 ∧ Fq L κ ow [16100, 16200, 16300] I I2 ∧ Fq L κ ow [] J J2 ∧ Rg 0 2 r) := by
  refine CtI.of (by decide +kernel) (Nat.le_of_ble_eq_true rfl) ?_
  intro p e s m below meth c B K
  have C := B.1
  have hF : Fq L κ ow [16100, 16200, 16300] I I := fq_rf
  have hG : Fq L κ ow [] J J := fq_rf
  obtain ⟨b_481521, hb_481521, hb_481521L, hb_481521k, hb_481521n, hb_481521o⟩ := shp_a (W9 x hLx) hkx 1 14 6 rfl (by decide)
  refine g_lo (is := [0, 1, 2, 3]) (lo2 := [(0, .ref x), (1, .int a0), (2, .int a1), (3, .int a2)]) rfl ?_
  refine g_aload_n C 0 dX1_tryToServe_0 rfl rfl ?_
  refine g_iload_n C 1 dX1_tryToServe_1 rfl rfl ?_
  refine g_callVI C K (c_X1_lives W9 hLx hkx a0 (ra0) hU) hLx hkx (by decide) rfl v_1_115 rfl ⟨rfl, rfl⟩ ⟨Nat.le_of_ble_eq_true rfl, Nat.le_of_ble_eq_true rfl⟩ (Nat.le_of_ble_eq_true rfl) ⟨Nat.le_of_ble_eq_true rfl, Nat.le_of_ble_eq_true rfl⟩ dX1_tryToServe_2 rfl (st := []) (fun x_481522 I_481523 J_481524 h_481525 => ?_)
  obtain ⟨rfl, rfl, rx_481522⟩ := h_481525
  refine g_if_ne C (tgt := 10) dX1_tryToServe_5 (by decide) (fun h_481526 => ?_) (fun h_481526 => ?_)
  · skip
    have n_481527 : ¬ x_481522 = 0 := h_481526
    have r_481528 := ne_lo (lo := 1) n_481527 rx_481522 rc_0 rfl (by decide)
    refine g_aload_n C 0 dX1_tryToServe_10 rfl rfl ?_
    refine g_getR C K hLx hkx f_1_9 hb_481521 dX1_tryToServe_11 ?_
    refine g_iload_n C 2 dX1_tryToServe_14 rfl rfl ?_
    obtain ⟨x_481529, hx_481529, rx_481529⟩ := ex_get (I := I) (a := b_481521) (j := a1.toNatClampNeg) (lo := (-2147483648)) (hi := 2147483647) hU.1 hb_481521L (ro_a hb_481521k (by decide) hb_481521o hkx rfl) (rfl)
    refine h_iald C K hb_481521L hb_481521k (v := x_481529) (a1.toNatClampNeg) (rfl) (ix_0 ra1 (by decide)) (ix_lt ra1 (by decide) hb_481521n (by decide)) hx_481529 dX1_tryToServe_15 ?_
    refine g_iload_n C 3 dX1_tryToServe_16 rfl rfl ?_
    refine g_icmp_ge C (tgt := 22) dX1_tryToServe_17 (by decide) (fun h_481530 => ?_) (fun h_481530 => ?_)
    · skip
      refine g_aload_n C 0 dX1_tryToServe_22 rfl rfl ?_
      refine g_getR C K hLx hkx f_1_9 hb_481521 dX1_tryToServe_23 ?_
      refine g_iload_n C 2 dX1_tryToServe_26 rfl rfl ?_
      refine g_dup2 C dX1_tryToServe_27 rfl rfl ?_
      refine h_iald C K hb_481521L hb_481521k (v := x_481529) (a1.toNatClampNeg) (rfl) (ix_0 ra1 (by decide)) (ix_lt ra1 (by decide) hb_481521n (by decide)) hx_481529 dX1_tryToServe_28 ?_
      refine g_iload_n C 3 dX1_tryToServe_29 rfl rfl ?_
      obtain ⟨x_481532, hx_481532, rx_481532⟩ := ex_any (z0 := x_481529 - a2)
      refine g_isub C (v := x_481532) dX1_tryToServe_30 hx_481532 ?_
      refine h_iast C K hb_481521L hb_481521k (a1.toNatClampNeg) (rfl) (ix_0 ra1 (by decide)) (ix_lt ra1 (by decide) hb_481521n (by decide)) dX1_tryToServe_31 (fun I_481533 hI_481533 => ?_)
      have hU_481534 := iv_put W9 hU hI_481533 (ro_a hb_481521k (by decide) hb_481521o hkx rfl) (lo := (-2147483648)) (hi := 2147483647) (rfl) (rx_481532) rfl
      have hF_481535 := fq_puta hF hI_481533 (ro_a hb_481521k (by decide) hb_481521o hkx rfl) (by decide) (by decide)
      refine g_aload_n C 0 dX1_tryToServe_32 rfl rfl ?_
      refine g_iload_n C 1 dX1_tryToServe_33 rfl rfl ?_
      refine g_iload_n C 2 dX1_tryToServe_34 rfl rfl ?_
      refine g_iload_n C 3 dX1_tryToServe_35 rfl rfl ?_
      refine g_callVV C K (c_X1_addToPlate W9 hLx hkx a0 a1 a2 (ra0) (ra1) hU_481534) hLx hkx (by decide) rfl v_1_105 rfl ⟨rfl, rfl⟩ ⟨Nat.le_of_ble_eq_true rfl, Nat.le_of_ble_eq_true rfl⟩ (Nat.le_of_ble_eq_true rfl) ⟨Nat.le_of_ble_eq_true rfl, Nat.le_of_ble_eq_true rfl⟩ dX1_tryToServe_36 rfl (st := []) (fun I_481537 J_481538 h_481539 => ?_)
      obtain ⟨hUI_481537, hFI_481537, hGJ_481538⟩ := h_481539
      have hF_481540 := fq_tr hF_481535 hFI_481537 (by decide)
      have hG_481541 := fq_tr hG hGJ_481538 (by decide)
      refine g_iconst C (v := 0) dX1_tryToServe_39 (by decide) ?_
      exact g_zret (ty := .int) (r := 0) B K rfl (rfl) ⟨hUI_481537, hF_481540, hG_481541, rg_w rc_0 (by decide) (by decide)⟩ dX1_tryToServe_40
    · skip
      have r_481542 := lt_l (hi := 2147483646) (nle h_481530) rx_481529 (rg_all a2) (by decide)
      have r_481543 := lt_r (lo := (-2147483647)) (nle h_481530) rx_481529 (rg_all a2) (by decide)
      refine g_iconst C (v := 2) dX1_tryToServe_20 (by decide) ?_
      exact g_zret (ty := .int) (r := 2) B K rfl (rfl) ⟨hU, hF, hG, rg_w rc_2 (by decide) (by decide)⟩ dX1_tryToServe_21
  · skip
    have r_481544 := (⟨(rx_481522).1, (eq_rg (h_481526) rc_0).2⟩ : Rg 0 0 x_481522)
    refine g_iconst C (v := 1) dX1_tryToServe_8 (by decide) ?_
    exact g_zret (ty := .int) (r := 1) B K rfl (rfl) ⟨hU, hF, hG, rg_w rc_1 (by decide) (by decide)⟩ dX1_tryToServe_9
set_option maxRecDepth 100000 in
set_option maxHeartbeats 8000000 in
theorem c_X11_serve {l : Launch} {D : va_G} {cy : Nat → ClassId} {L : List Nat} {κ ln : Nat → Nat} {R : Nat → Nat → Option Nat} {I : Nat → Nat → Int32} {J : Nat → Nat → Int64} {ow : Nat → Nat × Nat} (W9 : ∀ a ∈ L, Shp L κ ln R ow a) {x : Nat} (hLx : x ∈ L) (hkx : κ x = 11) (a0 : Int32) (a1 : Int32) (a2 : Int32) (hU : Iv L κ R ow I) : CtI l yX11_serve cX11_serve 4 (some .int) { frames := 3, cells := 0, slots := 0, locals := 102 } D cy L κ ln R I J [.ref x, .int a0, .int a1, .int a2] (fun r I2 J2 => Iv L κ R ow I2 ∧ Fq L κ ow [107, 108, 109, 110, 111, 112, 501, 502, 16100, 16200, 16300, 16400, 16500, 16600] I I2 ∧ Fq L κ ow [] J J2 ∧ Rg (-1) 3 r) := by
  refine CtI.of (by decide +kernel) (Nat.le_of_ble_eq_true rfl) ?_
  intro p e s m below meth c B K
  have C := B.1
  have hF : Fq L κ ow [107, 108, 109, 110, 111, 112, 501, 502, 16100, 16200, 16300, 16400, 16500, 16600] I I := fq_rf
  have hG : Fq L κ ow [] J J := fq_rf
  obtain ⟨b_481635, hb_481635, hb_481635L, hb_481635k⟩ := shp_o (W9 x hLx) hkx 4 5 rfl (by decide)
  obtain ⟨b_481636, hb_481636, hb_481636L, hb_481636k⟩ := shp_o (W9 x hLx) hkx 1 8 rfl (by decide)
  obtain ⟨b_481637, hb_481637, hb_481637L, hb_481637k⟩ := shp_o (W9 x hLx) hkx 2 1 rfl (by decide)
  refine g_lo (is := [0, 1, 2, 3]) (lo2 := [(0, .ref x), (1, .int a0), (2, .int a1), (3, .int a2)]) rfl ?_
  refine g_aload_n C 0 dX11_serve_0 rfl rfl ?_
  refine g_getR C K hLx hkx f_11_19 hb_481636 dX11_serve_1 ?_
  refine g_iload_n C 1 dX11_serve_4 rfl rfl ?_
  refine g_callVI C K (c_X8_hasPerson W9 hb_481636L hb_481636k a0  hU) hb_481636L hb_481636k (by decide) rfl v_11_133 rfl ⟨rfl, rfl⟩ ⟨Nat.le_of_ble_eq_true rfl, Nat.le_of_ble_eq_true rfl⟩ (Nat.le_of_ble_eq_true rfl) ⟨Nat.le_of_ble_eq_true rfl, Nat.le_of_ble_eq_true rfl⟩ dX11_serve_5 rfl (st := []) (fun x_481638 I_481639 J_481640 h_481641 => ?_)
  obtain ⟨rfl, rfl, rx_481638, ex_481638⟩ := h_481641
  refine g_if_eq C (tgt := 33) dX11_serve_8 (by decide) (fun h_481642 => ?_) (fun h_481642 => ?_)
  · skip
    have r_481643 := (⟨(rx_481638).1, (eq_rg (h_481642) rc_0).2⟩ : Rg 0 0 x_481638)
    refine g_iconst C (v := (-1)) dX11_serve_33 (by decide) ?_
    exact g_zret (ty := .int) (r := (-1)) B K rfl (rfl) ⟨hU, hF, hG, rg_w rc_m1 (by decide) (by decide)⟩ dX11_serve_34
  · skip
    have n_481644 : ¬ x_481638 = 0 := h_481642
    have r_481645 := ne_lo (lo := 1) n_481644 rx_481638 rc_0 rfl (by decide)
    have r_481646 := rg_i (rg_all a0) ((ex_481638) (rg_nz r_481645 (by decide))) (lo := 0) (hi := 6) (by decide) (by decide)
    refine g_aload_n C 0 dX11_serve_11 rfl rfl ?_
    refine g_getR C K hLx hkx f_11_19 hb_481636 dX11_serve_12 ?_
    refine g_iload_n C 2 dX11_serve_15 rfl rfl ?_
    refine g_callVI C K (c_X8_hasDish W9 hb_481636L hb_481636k a1  hU) hb_481636L hb_481636k (by decide) rfl v_11_175 rfl ⟨rfl, rfl⟩ ⟨Nat.le_of_ble_eq_true rfl, Nat.le_of_ble_eq_true rfl⟩ (Nat.le_of_ble_eq_true rfl) ⟨Nat.le_of_ble_eq_true rfl, Nat.le_of_ble_eq_true rfl⟩ dX11_serve_16 rfl (st := []) (fun x_481647 I_481648 J_481649 h_481650 => ?_)
    obtain ⟨rfl, rfl, rx_481647, ex_481647⟩ := h_481650
    refine g_if_eq C (tgt := 33) dX11_serve_19 (by decide) (fun h_481651 => ?_) (fun h_481651 => ?_)
    · skip
      have r_481652 := (⟨(rx_481647).1, (eq_rg (h_481651) rc_0).2⟩ : Rg 0 0 x_481647)
      refine g_iconst C (v := (-1)) dX11_serve_33 (by decide) ?_
      exact g_zret (ty := .int) (r := (-1)) B K rfl (rfl) ⟨hU, hF, hG, rg_w rc_m1 (by decide) (by decide)⟩ dX11_serve_34
    · skip
      have n_481653 : ¬ x_481647 = 0 := h_481651
      have r_481654 := ne_lo (lo := 1) n_481653 rx_481647 rc_0 rfl (by decide)
      have r_481655 := rg_i (rg_all a1) ((ex_481647) (rg_nz r_481654 (by decide))) (lo := 0) (hi := 5) (by decide) (by decide)
      refine g_iload_n C 3 dX11_serve_22 rfl rfl ?_
      refine g_iconst C (v := 1) dX11_serve_23 (by decide) ?_
      refine g_icmp_lt C (tgt := 33) dX11_serve_24 (by decide) (fun h_481656 => ?_) (fun h_481656 => ?_)
      · skip
        have r_481657 := lt_l (hi := 0) (h_481656) (rg_all a2) rc_1 (by decide)
        refine g_iconst C (v := (-1)) dX11_serve_33 (by decide) ?_
        exact g_zret (ty := .int) (r := (-1)) B K rfl (rfl) ⟨hU, hF, hG, rg_w rc_m1 (by decide) (by decide)⟩ dX11_serve_34
      · skip
        have r_481658 := le_r (nlt h_481656) rc_1 (rg_all a2)
        refine g_iload_n C 3 dX11_serve_27 rfl rfl ?_
        refine g_bipush C (v := 40) dX11_serve_28 (by decide) ?_
        refine g_icmp_le C (tgt := 35) dX11_serve_30 (by decide) (fun h_481659 => ?_) (fun h_481659 => ?_)
        · skip
          have r_481660 := le_l (h_481659) r_481658 rc_40
          refine g_aload_n C 0 dX11_serve_35 rfl rfl ?_
          refine g_getR C K hLx hkx f_11_38 hb_481635 dX11_serve_36 ?_
          refine g_aload_n C 0 dX11_serve_39 rfl rfl ?_
          refine g_getR C K hLx hkx f_11_28 hb_481637 dX11_serve_40 ?_
          refine g_callVV C K (c_X5_note W9 hb_481635L hb_481635k hb_481637L hb_481637k  hU) hb_481635L hb_481635k (by decide) rfl v_11_225 rfl ⟨rfl, rfl⟩ ⟨Nat.le_of_ble_eq_true rfl, Nat.le_of_ble_eq_true rfl⟩ (Nat.le_of_ble_eq_true rfl) ⟨Nat.le_of_ble_eq_true rfl, Nat.le_of_ble_eq_true rfl⟩ dX11_serve_43 rfl (st := []) (fun I_481662 J_481663 h_481664 => ?_)
          obtain ⟨hUI_481662, hFI_481662, hGJ_481663⟩ := h_481664
          have hF_481665 := fq_tr hF hFI_481662 (by decide)
          have hG_481666 := fq_tr hG hGJ_481663 (by decide)
          refine g_aload_n C 0 dX11_serve_46 rfl rfl ?_
          refine g_aload_n C 0 dX11_serve_47 rfl rfl ?_
          refine g_getR C K hLx hkx f_11_28 hb_481637 dX11_serve_48 ?_
          refine g_iload_n C 1 dX11_serve_51 rfl rfl ?_
          refine g_iload_n C 2 dX11_serve_52 rfl rfl ?_
          refine g_iload_n C 3 dX11_serve_53 rfl rfl ?_
          refine g_callVI C K (c_X1_tryToServe W9 hb_481637L hb_481637k a0 a1 a2 (r_481646) (r_481655) hUI_481662) hb_481637L hb_481637k (by decide) rfl v_11_235 rfl ⟨rfl, rfl⟩ ⟨Nat.le_of_ble_eq_true rfl, Nat.le_of_ble_eq_true rfl⟩ (Nat.le_of_ble_eq_true rfl) ⟨Nat.le_of_ble_eq_true rfl, Nat.le_of_ble_eq_true rfl⟩ dX11_serve_54 rfl (st := [.ref x]) (fun x_481667 I_481668 J_481669 h_481670 => ?_)
          obtain ⟨hUI_481668, hFI_481668, hGJ_481669, rx_481667⟩ := h_481670
          have hF_481671 := fq_tr hF_481665 hFI_481668 (by decide)
          have hG_481672 := fq_tr hG_481666 hGJ_481669 (by decide)
          refine g_callVI C K (c_X11_keptIfDone W9 hLx hkx x_481667 (rg_w rx_481667 (by decide) (by decide)) hUI_481668) hLx hkx (by decide) rfl v_11_232 rfl ⟨rfl, rfl⟩ ⟨Nat.le_of_ble_eq_true rfl, Nat.le_of_ble_eq_true rfl⟩ (Nat.le_of_ble_eq_true rfl) ⟨Nat.le_of_ble_eq_true rfl, Nat.le_of_ble_eq_true rfl⟩ dX11_serve_57 rfl (st := []) (fun x_481673 I_481674 J_481675 h_481676 => ?_)
          obtain ⟨hUI_481674, hFI_481674, hGJ_481675, rx_481673⟩ := h_481676
          have hF_481677 := fq_tr hF_481671 hFI_481674 (by decide)
          have hG_481678 := fq_tr hG_481672 hGJ_481675 (by decide)
          exact g_zret (ty := .int) (r := x_481673) B K rfl (rfl) ⟨hUI_481674, hF_481677, hG_481678, rg_w rx_481673 (by decide) (by decide)⟩ dX11_serve_60
        · skip
          have r_481679 := lt_r (lo := 41) (nle h_481659) rc_40 r_481658 (by decide)
          refine g_iconst C (v := (-1)) dX11_serve_33 (by decide) ?_
          exact g_zret (ty := .int) (r := (-1)) B K rfl (rfl) ⟨hU, hF, hG, rg_w rc_m1 (by decide) (by decide)⟩ dX11_serve_34
