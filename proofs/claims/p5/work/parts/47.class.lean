theorem dX11_count_0 : decode cX11_count 0 = .ok (.iload_n 1, 1) := by decide +kernel
theorem dX11_count_1 : decode cX11_count 1 = .ok (.tableswitch 75 0 4 #[35, 43, 51, 59, 67], 35) := by decide +kernel
theorem dX11_count_36 : decode cX11_count 36 = .ok (.aload_n 0, 1) := by decide +kernel
theorem dX11_count_37 : decode cX11_count 37 = .ok (.getfield 19, 3) := by decide +kernel
theorem dX11_count_40 : decode cX11_count 40 = .ok (.getfield 213, 3) := by decide +kernel
theorem dX11_count_43 : decode cX11_count 43 = .ok (.ireturn, 1) := by decide +kernel
theorem dX11_count_44 : decode cX11_count 44 = .ok (.aload_n 0, 1) := by decide +kernel
theorem dX11_count_45 : decode cX11_count 45 = .ok (.getfield 19, 3) := by decide +kernel
theorem dX11_count_48 : decode cX11_count 48 = .ok (.getfield 216, 3) := by decide +kernel
theorem dX11_count_51 : decode cX11_count 51 = .ok (.ireturn, 1) := by decide +kernel
theorem dX11_count_52 : decode cX11_count 52 = .ok (.aload_n 0, 1) := by decide +kernel
theorem dX11_count_53 : decode cX11_count 53 = .ok (.getfield 19, 3) := by decide +kernel
theorem dX11_count_56 : decode cX11_count 56 = .ok (.getfield 219, 3) := by decide +kernel
theorem dX11_count_59 : decode cX11_count 59 = .ok (.ireturn, 1) := by decide +kernel
theorem dX11_count_60 : decode cX11_count 60 = .ok (.aload_n 0, 1) := by decide +kernel
theorem dX11_count_61 : decode cX11_count 61 = .ok (.getfield 19, 3) := by decide +kernel
theorem dX11_count_64 : decode cX11_count 64 = .ok (.getfield 222, 3) := by decide +kernel
theorem dX11_count_67 : decode cX11_count 67 = .ok (.ireturn, 1) := by decide +kernel
theorem dX11_count_68 : decode cX11_count 68 = .ok (.aload_n 0, 1) := by decide +kernel
theorem dX11_count_69 : decode cX11_count 69 = .ok (.getfield 10, 3) := by decide +kernel
theorem dX11_count_72 : decode cX11_count 72 = .ok (.getfield 102, 3) := by decide +kernel
theorem dX11_count_75 : decode cX11_count 75 = .ok (.ireturn, 1) := by decide +kernel
theorem dX11_count_76 : decode cX11_count 76 = .ok (.iconst (-1), 1) := by decide +kernel
theorem dX11_count_77 : decode cX11_count 77 = .ok (.ireturn, 1) := by decide +kernel
theorem dX11_eat_0 : decode cX11_eat 0 = .ok (.aload_n 0, 1) := by decide +kernel
theorem dX11_eat_1 : decode cX11_eat 1 = .ok (.getfield 19, 3) := by decide +kernel
theorem dX11_eat_4 : decode cX11_eat 4 = .ok (.iload_n 1, 1) := by decide +kernel
theorem dX11_eat_5 : decode cX11_eat 5 = .ok (.invokevirtual 133, 3) := by decide +kernel
theorem dX11_eat_8 : decode cX11_eat 8 = .ok (.ifCond .eq 25, 3) := by decide +kernel
theorem dX11_eat_11 : decode cX11_eat 11 = .ok (.aload_n 0, 1) := by decide +kernel
theorem dX11_eat_12 : decode cX11_eat 12 = .ok (.getfield 19, 3) := by decide +kernel
theorem dX11_eat_15 : decode cX11_eat 15 = .ok (.iload_n 2, 1) := by decide +kernel
theorem dX11_eat_16 : decode cX11_eat 16 = .ok (.invokevirtual 175, 3) := by decide +kernel
theorem dX11_eat_19 : decode cX11_eat 19 = .ok (.ifCond .eq 14, 3) := by decide +kernel
theorem dX11_eat_22 : decode cX11_eat 22 = .ok (.iload_n 3, 1) := by decide +kernel
theorem dX11_eat_23 : decode cX11_eat 23 = .ok (.iconst 1, 1) := by decide +kernel
theorem dX11_eat_24 : decode cX11_eat 24 = .ok (.if_icmp .lt 9, 3) := by decide +kernel
theorem dX11_eat_27 : decode cX11_eat 27 = .ok (.iload_n 3, 1) := by decide +kernel
theorem dX11_eat_28 : decode cX11_eat 28 = .ok (.bipush 20, 2) := by decide +kernel
theorem dX11_eat_30 : decode cX11_eat 30 = .ok (.if_icmp .le 5, 3) := by decide +kernel
theorem dX11_eat_33 : decode cX11_eat 33 = .ok (.iconst (-1), 1) := by decide +kernel
theorem dX11_eat_34 : decode cX11_eat 34 = .ok (.ireturn, 1) := by decide +kernel
theorem dX11_eat_35 : decode cX11_eat 35 = .ok (.aload_n 0, 1) := by decide +kernel
theorem dX11_eat_36 : decode cX11_eat 36 = .ok (.getfield 38, 3) := by decide +kernel
theorem dX11_eat_39 : decode cX11_eat 39 = .ok (.aload_n 0, 1) := by decide +kernel
theorem dX11_eat_40 : decode cX11_eat 40 = .ok (.getfield 28, 3) := by decide +kernel
theorem dX11_eat_43 : decode cX11_eat 43 = .ok (.invokevirtual 225, 3) := by decide +kernel
theorem dX11_eat_46 : decode cX11_eat 46 = .ok (.aload_n 0, 1) := by decide +kernel
theorem dX11_eat_47 : decode cX11_eat 47 = .ok (.aload_n 0, 1) := by decide +kernel
theorem dX11_eat_48 : decode cX11_eat 48 = .ok (.getfield 28, 3) := by decide +kernel
theorem dX11_eat_51 : decode cX11_eat 51 = .ok (.iload_n 1, 1) := by decide +kernel
theorem dX11_eat_52 : decode cX11_eat 52 = .ok (.iload_n 2, 1) := by decide +kernel
theorem dX11_eat_53 : decode cX11_eat 53 = .ok (.iload_n 3, 1) := by decide +kernel
theorem dX11_eat_54 : decode cX11_eat 54 = .ok (.invokevirtual 228, 3) := by decide +kernel
theorem dX11_eat_57 : decode cX11_eat 57 = .ok (.invokevirtual 232, 3) := by decide +kernel
theorem dX11_eat_60 : decode cX11_eat 60 = .ok (.ireturn, 1) := by decide +kernel
theorem dX11_keptIfDone_0 : decode cX11_keptIfDone 0 = .ok (.iload_n 1, 1) := by decide +kernel
theorem dX11_keptIfDone_1 : decode cX11_keptIfDone 1 = .ok (.ifCond .ne 10, 3) := by decide +kernel
theorem dX11_keptIfDone_4 : decode cX11_keptIfDone 4 = .ok (.aload_n 0, 1) := by decide +kernel
theorem dX11_keptIfDone_5 : decode cX11_keptIfDone 5 = .ok (.getfield 38, 3) := by decide +kernel
theorem dX11_keptIfDone_8 : decode cX11_keptIfDone 8 = .ok (.invokevirtual 260, 3) := by decide +kernel
theorem dX11_keptIfDone_11 : decode cX11_keptIfDone 11 = .ok (.iload_n 1, 1) := by decide +kernel
theorem dX11_keptIfDone_12 : decode cX11_keptIfDone 12 = .ok (.ireturn, 1) := by decide +kernel
theorem dX11_now_0 : decode cX11_now 0 = .ok (.iload_n 1, 1) := by decide +kernel
theorem dX11_now_1 : decode cX11_now 1 = .ok (.tableswitch 111 0 7 #[47, 55, 63, 71, 79, 87, 95, 103], 47) := by decide +kernel
theorem dX11_now_48 : decode cX11_now 48 = .ok (.aload_n 0, 1) := by decide +kernel
theorem dX11_now_49 : decode cX11_now 49 = .ok (.getfield 28, 3) := by decide +kernel
theorem dX11_now_52 : decode cX11_now 52 = .ok (.getfield 195, 3) := by decide +kernel
theorem dX11_now_55 : decode cX11_now 55 = .ok (.ireturn, 1) := by decide +kernel
theorem dX11_now_56 : decode cX11_now 56 = .ok (.aload_n 0, 1) := by decide +kernel
theorem dX11_now_57 : decode cX11_now 57 = .ok (.getfield 28, 3) := by decide +kernel
theorem dX11_now_60 : decode cX11_now 60 = .ok (.getfield 151, 3) := by decide +kernel
theorem dX11_now_63 : decode cX11_now 63 = .ok (.ireturn, 1) := by decide +kernel
theorem dX11_now_64 : decode cX11_now 64 = .ok (.aload_n 0, 1) := by decide +kernel
theorem dX11_now_65 : decode cX11_now 65 = .ok (.getfield 28, 3) := by decide +kernel
theorem dX11_now_68 : decode cX11_now 68 = .ok (.getfield 154, 3) := by decide +kernel
theorem dX11_now_71 : decode cX11_now 71 = .ok (.ireturn, 1) := by decide +kernel
theorem dX11_now_72 : decode cX11_now 72 = .ok (.aload_n 0, 1) := by decide +kernel
theorem dX11_now_73 : decode cX11_now 73 = .ok (.getfield 28, 3) := by decide +kernel
theorem dX11_now_76 : decode cX11_now 76 = .ok (.getfield 198, 3) := by decide +kernel
theorem dX11_now_79 : decode cX11_now 79 = .ok (.ireturn, 1) := by decide +kernel
theorem dX11_now_80 : decode cX11_now 80 = .ok (.aload_n 0, 1) := by decide +kernel
theorem dX11_now_81 : decode cX11_now 81 = .ok (.getfield 28, 3) := by decide +kernel
theorem dX11_now_84 : decode cX11_now 84 = .ok (.getfield 201, 3) := by decide +kernel
theorem dX11_now_87 : decode cX11_now 87 = .ok (.ireturn, 1) := by decide +kernel
theorem dX11_now_88 : decode cX11_now 88 = .ok (.aload_n 0, 1) := by decide +kernel
theorem dX11_now_89 : decode cX11_now 89 = .ok (.getfield 28, 3) := by decide +kernel
theorem dX11_now_92 : decode cX11_now 92 = .ok (.invokevirtual 204, 3) := by decide +kernel
theorem dX11_now_95 : decode cX11_now 95 = .ok (.ireturn, 1) := by decide +kernel
theorem dX11_now_96 : decode cX11_now 96 = .ok (.aload_n 0, 1) := by decide +kernel
theorem dX11_now_97 : decode cX11_now 97 = .ok (.getfield 28, 3) := by decide +kernel
theorem dX11_now_100 : decode cX11_now 100 = .ok (.invokevirtual 207, 3) := by decide +kernel
theorem dX11_now_103 : decode cX11_now 103 = .ok (.ireturn, 1) := by decide +kernel
theorem dX11_now_104 : decode cX11_now 104 = .ok (.aload_n 0, 1) := by decide +kernel
theorem dX11_now_105 : decode cX11_now 105 = .ok (.getfield 28, 3) := by decide +kernel
theorem dX11_now_108 : decode cX11_now 108 = .ok (.getfield 210, 3) := by decide +kernel
theorem dX11_now_111 : decode cX11_now 111 = .ok (.ireturn, 1) := by decide +kernel
theorem dX11_now_112 : decode cX11_now 112 = .ok (.iconst (-1), 1) := by decide +kernel
theorem dX11_now_113 : decode cX11_now 113 = .ok (.ireturn, 1) := by decide +kernel
theorem dX11_serve_0 : decode cX11_serve 0 = .ok (.aload_n 0, 1) := by decide +kernel
theorem dX11_serve_1 : decode cX11_serve 1 = .ok (.getfield 19, 3) := by decide +kernel
theorem dX11_serve_4 : decode cX11_serve 4 = .ok (.iload_n 1, 1) := by decide +kernel
theorem dX11_serve_5 : decode cX11_serve 5 = .ok (.invokevirtual 133, 3) := by decide +kernel
theorem dX11_serve_8 : decode cX11_serve 8 = .ok (.ifCond .eq 25, 3) := by decide +kernel
theorem dX11_serve_11 : decode cX11_serve 11 = .ok (.aload_n 0, 1) := by decide +kernel
theorem dX11_serve_12 : decode cX11_serve 12 = .ok (.getfield 19, 3) := by decide +kernel
theorem dX11_serve_15 : decode cX11_serve 15 = .ok (.iload_n 2, 1) := by decide +kernel
theorem dX11_serve_16 : decode cX11_serve 16 = .ok (.invokevirtual 175, 3) := by decide +kernel
theorem dX11_serve_19 : decode cX11_serve 19 = .ok (.ifCond .eq 14, 3) := by decide +kernel
theorem dX11_serve_22 : decode cX11_serve 22 = .ok (.iload_n 3, 1) := by decide +kernel
theorem dX11_serve_23 : decode cX11_serve 23 = .ok (.iconst 1, 1) := by decide +kernel
theorem dX11_serve_24 : decode cX11_serve 24 = .ok (.if_icmp .lt 9, 3) := by decide +kernel
theorem dX11_serve_27 : decode cX11_serve 27 = .ok (.iload_n 3, 1) := by decide +kernel
theorem dX11_serve_28 : decode cX11_serve 28 = .ok (.bipush 40, 2) := by decide +kernel
theorem dX11_serve_30 : decode cX11_serve 30 = .ok (.if_icmp .le 5, 3) := by decide +kernel
theorem dX11_serve_33 : decode cX11_serve 33 = .ok (.iconst (-1), 1) := by decide +kernel
theorem dX11_serve_34 : decode cX11_serve 34 = .ok (.ireturn, 1) := by decide +kernel
theorem dX11_serve_35 : decode cX11_serve 35 = .ok (.aload_n 0, 1) := by decide +kernel
theorem dX11_serve_36 : decode cX11_serve 36 = .ok (.getfield 38, 3) := by decide +kernel
theorem dX11_serve_39 : decode cX11_serve 39 = .ok (.aload_n 0, 1) := by decide +kernel
theorem dX11_serve_40 : decode cX11_serve 40 = .ok (.getfield 28, 3) := by decide +kernel
theorem dX11_serve_43 : decode cX11_serve 43 = .ok (.invokevirtual 225, 3) := by decide +kernel
theorem dX11_serve_46 : decode cX11_serve 46 = .ok (.aload_n 0, 1) := by decide +kernel
theorem dX11_serve_47 : decode cX11_serve 47 = .ok (.aload_n 0, 1) := by decide +kernel
theorem dX11_serve_48 : decode cX11_serve 48 = .ok (.getfield 28, 3) := by decide +kernel
theorem dX11_serve_51 : decode cX11_serve 51 = .ok (.iload_n 1, 1) := by decide +kernel
theorem dX11_serve_52 : decode cX11_serve 52 = .ok (.iload_n 2, 1) := by decide +kernel
theorem dX11_serve_53 : decode cX11_serve 53 = .ok (.iload_n 3, 1) := by decide +kernel
theorem dX11_serve_54 : decode cX11_serve 54 = .ok (.invokevirtual 235, 3) := by decide +kernel
theorem dX11_serve_57 : decode cX11_serve 57 = .ok (.invokevirtual 232, 3) := by decide +kernel
theorem dX11_serve_60 : decode cX11_serve 60 = .ok (.ireturn, 1) := by decide +kernel
theorem dX1_allEaten_0 : decode cX1_allEaten 0 = .ok (.iconst 0, 1) := by decide +kernel
theorem dX1_allEaten_1 : decode cX1_allEaten 1 = .ok (.istore_n 1, 1) := by decide +kernel
theorem dX1_allEaten_2 : decode cX1_allEaten 2 = .ok (.iconst 0, 1) := by decide +kernel
theorem dX1_allEaten_3 : decode cX1_allEaten 3 = .ok (.istore_n 2, 1) := by decide +kernel
theorem dX1_allEaten_4 : decode cX1_allEaten 4 = .ok (.iload_n 2, 1) := by decide +kernel
theorem dX1_allEaten_5 : decode cX1_allEaten 5 = .ok (.aload_n 0, 1) := by decide +kernel
theorem dX1_allEaten_6 : decode cX1_allEaten 6 = .ok (.getfield 52, 3) := by decide +kernel
theorem dX1_allEaten_9 : decode cX1_allEaten 9 = .ok (.getfield 68, 3) := by decide +kernel
theorem dX1_allEaten_12 : decode cX1_allEaten 12 = .ok (.if_icmp .ge 18, 3) := by decide +kernel
theorem dX1_allEaten_15 : decode cX1_allEaten 15 = .ok (.iload_n 1, 1) := by decide +kernel
theorem dX1_allEaten_16 : decode cX1_allEaten 16 = .ok (.aload_n 0, 1) := by decide +kernel
theorem dX1_allEaten_17 : decode cX1_allEaten 17 = .ok (.getfield 21, 3) := by decide +kernel
theorem dX1_allEaten_20 : decode cX1_allEaten 20 = .ok (.iload_n 2, 1) := by decide +kernel
theorem dX1_allEaten_21 : decode cX1_allEaten 21 = .ok (.iaload, 1) := by decide +kernel
theorem dX1_allEaten_22 : decode cX1_allEaten 22 = .ok (.iadd, 1) := by decide +kernel
theorem dX1_allEaten_23 : decode cX1_allEaten 23 = .ok (.istore_n 1, 1) := by decide +kernel
theorem dX1_allEaten_24 : decode cX1_allEaten 24 = .ok (.iinc 2 1, 3) := by decide +kernel
theorem dX1_allEaten_27 : decode cX1_allEaten 27 = .ok (.goto (-23), 3) := by decide +kernel
theorem dX1_allEaten_30 : decode cX1_allEaten 30 = .ok (.iload_n 1, 1) := by decide +kernel
theorem dX1_allEaten_31 : decode cX1_allEaten 31 = .ok (.ireturn, 1) := by decide +kernel
theorem dX1_allHunger_0 : decode cX1_allHunger 0 = .ok (.iconst 0, 1) := by decide +kernel
theorem dX1_allHunger_1 : decode cX1_allHunger 1 = .ok (.istore_n 1, 1) := by decide +kernel
theorem dX1_allHunger_2 : decode cX1_allHunger 2 = .ok (.iconst 0, 1) := by decide +kernel
theorem dX1_allHunger_3 : decode cX1_allHunger 3 = .ok (.istore_n 2, 1) := by decide +kernel
theorem dX1_allHunger_4 : decode cX1_allHunger 4 = .ok (.iload_n 2, 1) := by decide +kernel
theorem dX1_allHunger_5 : decode cX1_allHunger 5 = .ok (.aload_n 0, 1) := by decide +kernel
theorem dX1_allHunger_6 : decode cX1_allHunger 6 = .ok (.getfield 52, 3) := by decide +kernel
theorem dX1_allHunger_9 : decode cX1_allHunger 9 = .ok (.getfield 68, 3) := by decide +kernel
theorem dX1_allHunger_12 : decode cX1_allHunger 12 = .ok (.if_icmp .ge 18, 3) := by decide +kernel
theorem dX1_allHunger_15 : decode cX1_allHunger 15 = .ok (.iload_n 1, 1) := by decide +kernel
theorem dX1_allHunger_16 : decode cX1_allHunger 16 = .ok (.aload_n 0, 1) := by decide +kernel
theorem dX1_allHunger_17 : decode cX1_allHunger 17 = .ok (.getfield 27, 3) := by decide +kernel
theorem dX1_allHunger_20 : decode cX1_allHunger 20 = .ok (.iload_n 2, 1) := by decide +kernel
theorem dX1_allHunger_21 : decode cX1_allHunger 21 = .ok (.iaload, 1) := by decide +kernel
theorem dX1_allHunger_22 : decode cX1_allHunger 22 = .ok (.iadd, 1) := by decide +kernel
theorem dX1_allHunger_23 : decode cX1_allHunger 23 = .ok (.istore_n 1, 1) := by decide +kernel
theorem dX1_allHunger_24 : decode cX1_allHunger 24 = .ok (.iinc 2 1, 3) := by decide +kernel
theorem dX1_allHunger_27 : decode cX1_allHunger 27 = .ok (.goto (-23), 3) := by decide +kernel
theorem dX1_allHunger_30 : decode cX1_allHunger 30 = .ok (.iload_n 1, 1) := by decide +kernel
theorem dX1_allHunger_31 : decode cX1_allHunger 31 = .ok (.ireturn, 1) := by decide +kernel
theorem dX1_eatUp_0 : decode cX1_eatUp 0 = .ok (.aload_n 0, 1) := by decide +kernel
theorem dX1_eatUp_1 : decode cX1_eatUp 1 = .ok (.iload_n 1, 1) := by decide +kernel
theorem dX1_eatUp_2 : decode cX1_eatUp 2 = .ok (.iload_n 2, 1) := by decide +kernel
theorem dX1_eatUp_3 : decode cX1_eatUp 3 = .ok (.iload_n 3, 1) := by decide +kernel
theorem dX1_eatUp_4 : decode cX1_eatUp 4 = .ok (.ineg, 1) := by decide +kernel
theorem dX1_eatUp_5 : decode cX1_eatUp 5 = .ok (.invokevirtual 105, 3) := by decide +kernel
theorem dX1_eatUp_8 : decode cX1_eatUp 8 = .ok (.aload_n 0, 1) := by decide +kernel
theorem dX1_eatUp_9 : decode cX1_eatUp 9 = .ok (.getfield 21, 3) := by decide +kernel
theorem dX1_eatUp_12 : decode cX1_eatUp 12 = .ok (.iload_n 1, 1) := by decide +kernel
theorem dX1_eatUp_13 : decode cX1_eatUp 13 = .ok (.dup2, 1) := by decide +kernel
theorem dX1_eatUp_14 : decode cX1_eatUp 14 = .ok (.iaload, 1) := by decide +kernel
theorem dX1_eatUp_15 : decode cX1_eatUp 15 = .ok (.iload_n 3, 1) := by decide +kernel
theorem dX1_eatUp_16 : decode cX1_eatUp 16 = .ok (.iadd, 1) := by decide +kernel
theorem dX1_eatUp_17 : decode cX1_eatUp 17 = .ok (.iastore, 1) := by decide +kernel
theorem dX1_eatUp_18 : decode cX1_eatUp 18 = .ok (.aload_n 0, 1) := by decide +kernel
theorem dX1_eatUp_19 : decode cX1_eatUp 19 = .ok (.getfield 24, 3) := by decide +kernel
theorem dX1_eatUp_22 : decode cX1_eatUp 22 = .ok (.iload_n 1, 1) := by decide +kernel
theorem dX1_eatUp_23 : decode cX1_eatUp 23 = .ok (.dup2, 1) := by decide +kernel
theorem dX1_eatUp_24 : decode cX1_eatUp 24 = .ok (.iaload, 1) := by decide +kernel
theorem dX1_eatUp_25 : decode cX1_eatUp 25 = .ok (.iload_n 3, 1) := by decide +kernel
theorem dX1_eatUp_26 : decode cX1_eatUp 26 = .ok (.iadd, 1) := by decide +kernel
theorem dX1_eatUp_27 : decode cX1_eatUp 27 = .ok (.iastore, 1) := by decide +kernel
theorem dX1_eatUp_28 : decode cX1_eatUp 28 = .ok (.return_, 1) := by decide +kernel
theorem dX1_lives_0 : decode cX1_lives 0 = .ok (.aload_n 0, 1) := by decide +kernel
theorem dX1_lives_1 : decode cX1_lives 1 = .ok (.getfield 30, 3) := by decide +kernel
theorem dX1_lives_4 : decode cX1_lives 4 = .ok (.iload_n 1, 1) := by decide +kernel
theorem dX1_lives_5 : decode cX1_lives 5 = .ok (.ishr, 1) := by decide +kernel
theorem dX1_lives_6 : decode cX1_lives 6 = .ok (.iconst 1, 1) := by decide +kernel
theorem dX1_lives_7 : decode cX1_lives 7 = .ok (.iand, 1) := by decide +kernel
theorem dX1_lives_8 : decode cX1_lives 8 = .ok (.ifCond .ne 7, 3) := by decide +kernel
theorem dX1_lives_11 : decode cX1_lives 11 = .ok (.iconst 1, 1) := by decide +kernel
theorem dX1_lives_12 : decode cX1_lives 12 = .ok (.goto 4, 3) := by decide +kernel
theorem dX1_lives_15 : decode cX1_lives 15 = .ok (.iconst 0, 1) := by decide +kernel
theorem dX1_lives_16 : decode cX1_lives 16 = .ok (.ireturn, 1) := by decide +kernel
theorem dX1_tryToEat_0 : decode cX1_tryToEat 0 = .ok (.aload_n 0, 1) := by decide +kernel
theorem dX1_tryToEat_1 : decode cX1_tryToEat 1 = .ok (.iload_n 1, 1) := by decide +kernel
theorem dX1_tryToEat_2 : decode cX1_tryToEat 2 = .ok (.invokevirtual 115, 3) := by decide +kernel
theorem dX1_tryToEat_5 : decode cX1_tryToEat 5 = .ok (.ifCond .ne 5, 3) := by decide +kernel
theorem dX1_tryToEat_8 : decode cX1_tryToEat 8 = .ok (.iconst 1, 1) := by decide +kernel
theorem dX1_tryToEat_9 : decode cX1_tryToEat 9 = .ok (.ireturn, 1) := by decide +kernel
theorem dX1_tryToEat_10 : decode cX1_tryToEat 10 = .ok (.aload_n 0, 1) := by decide +kernel
theorem dX1_tryToEat_11 : decode cX1_tryToEat 11 = .ok (.iload_n 1, 1) := by decide +kernel
theorem dX1_tryToEat_12 : decode cX1_tryToEat 12 = .ok (.iload_n 2, 1) := by decide +kernel
theorem dX1_tryToEat_13 : decode cX1_tryToEat 13 = .ok (.invokevirtual 71, 3) := by decide +kernel
theorem dX1_tryToEat_16 : decode cX1_tryToEat 16 = .ok (.iload_n 3, 1) := by decide +kernel
theorem dX1_tryToEat_17 : decode cX1_tryToEat 17 = .ok (.if_icmp .ge 5, 3) := by decide +kernel
theorem dX1_tryToEat_20 : decode cX1_tryToEat 20 = .ok (.iconst 2, 1) := by decide +kernel
theorem dX1_tryToEat_21 : decode cX1_tryToEat 21 = .ok (.ireturn, 1) := by decide +kernel
theorem dX1_tryToEat_22 : decode cX1_tryToEat 22 = .ok (.aload_n 0, 1) := by decide +kernel
theorem dX1_tryToEat_23 : decode cX1_tryToEat 23 = .ok (.iload_n 1, 1) := by decide +kernel
theorem dX1_tryToEat_24 : decode cX1_tryToEat 24 = .ok (.invokevirtual 109, 3) := by decide +kernel
theorem dX1_tryToEat_27 : decode cX1_tryToEat 27 = .ok (.iload_n 3, 1) := by decide +kernel
theorem dX1_tryToEat_28 : decode cX1_tryToEat 28 = .ok (.if_icmp .ge 5, 3) := by decide +kernel
theorem dX1_tryToEat_31 : decode cX1_tryToEat 31 = .ok (.iconst 3, 1) := by decide +kernel
theorem dX1_tryToEat_32 : decode cX1_tryToEat 32 = .ok (.ireturn, 1) := by decide +kernel
theorem dX1_tryToEat_33 : decode cX1_tryToEat 33 = .ok (.aload_n 0, 1) := by decide +kernel
theorem dX1_tryToEat_34 : decode cX1_tryToEat 34 = .ok (.iload_n 1, 1) := by decide +kernel
theorem dX1_tryToEat_35 : decode cX1_tryToEat 35 = .ok (.iload_n 2, 1) := by decide +kernel
theorem dX1_tryToEat_36 : decode cX1_tryToEat 36 = .ok (.iload_n 3, 1) := by decide +kernel
theorem dX1_tryToEat_37 : decode cX1_tryToEat 37 = .ok (.invokevirtual 112, 3) := by decide +kernel
theorem dX1_tryToEat_40 : decode cX1_tryToEat 40 = .ok (.iconst 0, 1) := by decide +kernel
theorem dX1_tryToEat_41 : decode cX1_tryToEat 41 = .ok (.ireturn, 1) := by decide +kernel
theorem dX1_tryToServe_0 : decode cX1_tryToServe 0 = .ok (.aload_n 0, 1) := by decide +kernel
theorem dX1_tryToServe_1 : decode cX1_tryToServe 1 = .ok (.iload_n 1, 1) := by decide +kernel
theorem dX1_tryToServe_2 : decode cX1_tryToServe 2 = .ok (.invokevirtual 115, 3) := by decide +kernel
theorem dX1_tryToServe_5 : decode cX1_tryToServe 5 = .ok (.ifCond .ne 5, 3) := by decide +kernel
theorem dX1_tryToServe_8 : decode cX1_tryToServe 8 = .ok (.iconst 1, 1) := by decide +kernel
theorem dX1_tryToServe_9 : decode cX1_tryToServe 9 = .ok (.ireturn, 1) := by decide +kernel
theorem dX1_tryToServe_10 : decode cX1_tryToServe 10 = .ok (.aload_n 0, 1) := by decide +kernel
theorem dX1_tryToServe_11 : decode cX1_tryToServe 11 = .ok (.getfield 9, 3) := by decide +kernel
theorem dX1_tryToServe_14 : decode cX1_tryToServe 14 = .ok (.iload_n 2, 1) := by decide +kernel
theorem dX1_tryToServe_15 : decode cX1_tryToServe 15 = .ok (.iaload, 1) := by decide +kernel
theorem dX1_tryToServe_16 : decode cX1_tryToServe 16 = .ok (.iload_n 3, 1) := by decide +kernel
theorem dX1_tryToServe_17 : decode cX1_tryToServe 17 = .ok (.if_icmp .ge 5, 3) := by decide +kernel
theorem dX1_tryToServe_20 : decode cX1_tryToServe 20 = .ok (.iconst 2, 1) := by decide +kernel
theorem dX1_tryToServe_21 : decode cX1_tryToServe 21 = .ok (.ireturn, 1) := by decide +kernel
theorem dX1_tryToServe_22 : decode cX1_tryToServe 22 = .ok (.aload_n 0, 1) := by decide +kernel
theorem dX1_tryToServe_23 : decode cX1_tryToServe 23 = .ok (.getfield 9, 3) := by decide +kernel
theorem dX1_tryToServe_26 : decode cX1_tryToServe 26 = .ok (.iload_n 2, 1) := by decide +kernel
theorem dX1_tryToServe_27 : decode cX1_tryToServe 27 = .ok (.dup2, 1) := by decide +kernel
theorem dX1_tryToServe_28 : decode cX1_tryToServe 28 = .ok (.iaload, 1) := by decide +kernel
theorem dX1_tryToServe_29 : decode cX1_tryToServe 29 = .ok (.iload_n 3, 1) := by decide +kernel
theorem dX1_tryToServe_30 : decode cX1_tryToServe 30 = .ok (.isub, 1) := by decide +kernel
theorem dX1_tryToServe_31 : decode cX1_tryToServe 31 = .ok (.iastore, 1) := by decide +kernel
theorem dX1_tryToServe_32 : decode cX1_tryToServe 32 = .ok (.aload_n 0, 1) := by decide +kernel
theorem dX1_tryToServe_33 : decode cX1_tryToServe 33 = .ok (.iload_n 1, 1) := by decide +kernel
theorem dX1_tryToServe_34 : decode cX1_tryToServe 34 = .ok (.iload_n 2, 1) := by decide +kernel
theorem dX1_tryToServe_35 : decode cX1_tryToServe 35 = .ok (.iload_n 3, 1) := by decide +kernel
theorem dX1_tryToServe_36 : decode cX1_tryToServe 36 = .ok (.invokevirtual 105, 3) := by decide +kernel
theorem dX1_tryToServe_39 : decode cX1_tryToServe 39 = .ok (.iconst 0, 1) := by decide +kernel
theorem dX1_tryToServe_40 : decode cX1_tryToServe 40 = .ok (.ireturn, 1) := by decide +kernel
theorem dX1_wantsYet_0 : decode cX1_wantsYet 0 = .ok (.aload_n 0, 1) := by decide +kernel
theorem dX1_wantsYet_1 : decode cX1_wantsYet 1 = .ok (.getfield 52, 3) := by decide +kernel
theorem dX1_wantsYet_4 : decode cX1_wantsYet 4 = .ok (.getfield 75, 3) := by decide +kernel
theorem dX1_wantsYet_7 : decode cX1_wantsYet 7 = .ok (.iload_n 1, 1) := by decide +kernel
theorem dX1_wantsYet_8 : decode cX1_wantsYet 8 = .ok (.iaload, 1) := by decide +kernel
theorem dX1_wantsYet_9 : decode cX1_wantsYet 9 = .ok (.aload_n 0, 1) := by decide +kernel
theorem dX1_wantsYet_10 : decode cX1_wantsYet 10 = .ok (.getfield 24, 3) := by decide +kernel
theorem dX1_wantsYet_13 : decode cX1_wantsYet 13 = .ok (.iload_n 1, 1) := by decide +kernel
theorem dX1_wantsYet_14 : decode cX1_wantsYet 14 = .ok (.iaload, 1) := by decide +kernel
theorem dX1_wantsYet_15 : decode cX1_wantsYet 15 = .ok (.isub, 1) := by decide +kernel
theorem dX1_wantsYet_16 : decode cX1_wantsYet 16 = .ok (.ireturn, 1) := by decide +kernel
theorem dX5_keepNoted_0 : decode cX5_keepNoted 0 = .ok (.aload_n 0, 1) := by decide +kernel
theorem dX5_keepNoted_1 : decode cX5_keepNoted 1 = .ok (.aload_n 0, 1) := by decide +kernel
theorem dX5_keepNoted_2 : decode cX5_keepNoted 2 = .ok (.getfield 21, 3) := by decide +kernel
theorem dX5_keepNoted_5 : decode cX5_keepNoted 5 = .ok (.iconst 1, 1) := by decide +kernel
theorem dX5_keepNoted_6 : decode cX5_keepNoted 6 = .ok (.iadd, 1) := by decide +kernel
theorem dX5_keepNoted_7 : decode cX5_keepNoted 7 = .ok (.bipush 9, 2) := by decide +kernel
theorem dX5_keepNoted_9 : decode cX5_keepNoted 9 = .ok (.if_icmp .ge 12, 3) := by decide +kernel
theorem dX5_keepNoted_12 : decode cX5_keepNoted 12 = .ok (.aload_n 0, 1) := by decide +kernel
theorem dX5_keepNoted_13 : decode cX5_keepNoted 13 = .ok (.getfield 21, 3) := by decide +kernel
theorem dX5_keepNoted_16 : decode cX5_keepNoted 16 = .ok (.iconst 1, 1) := by decide +kernel
theorem dX5_keepNoted_17 : decode cX5_keepNoted 17 = .ok (.iadd, 1) := by decide +kernel
theorem dX5_keepNoted_18 : decode cX5_keepNoted 18 = .ok (.goto 4, 3) := by decide +kernel
theorem dX5_keepNoted_21 : decode cX5_keepNoted 21 = .ok (.iconst 0, 1) := by decide +kernel
theorem dX5_keepNoted_22 : decode cX5_keepNoted 22 = .ok (.putfield 21, 3) := by decide +kernel
theorem dX5_keepNoted_25 : decode cX5_keepNoted 25 = .ok (.aload_n 0, 1) := by decide +kernel
theorem dX5_keepNoted_26 : decode cX5_keepNoted 26 = .ok (.aload_n 0, 1) := by decide +kernel
theorem dX5_keepNoted_27 : decode cX5_keepNoted 27 = .ok (.getfield 17, 3) := by decide +kernel
theorem dX5_keepNoted_30 : decode cX5_keepNoted 30 = .ok (.iconst 1, 1) := by decide +kernel
theorem dX5_keepNoted_31 : decode cX5_keepNoted 31 = .ok (.iadd, 1) := by decide +kernel
theorem dX5_keepNoted_32 : decode cX5_keepNoted 32 = .ok (.bipush 8, 2) := by decide +kernel
theorem dX5_keepNoted_34 : decode cX5_keepNoted 34 = .ok (.invokestatic 31, 3) := by decide +kernel
theorem dX5_keepNoted_37 : decode cX5_keepNoted 37 = .ok (.putfield 17, 3) := by decide +kernel
theorem dX5_keepNoted_40 : decode cX5_keepNoted 40 = .ok (.return_, 1) := by decide +kernel
theorem dX5_note_0 : decode cX5_note 0 = .ok (.aload_n 0, 1) := by decide +kernel
theorem dX5_note_1 : decode cX5_note 1 = .ok (.getfield 13, 3) := by decide +kernel
theorem dX5_note_4 : decode cX5_note 4 = .ok (.aload_n 0, 1) := by decide +kernel
theorem dX5_note_5 : decode cX5_note 5 = .ok (.getfield 21, 3) := by decide +kernel
theorem dX5_note_8 : decode cX5_note 8 = .ok (.aaload, 1) := by decide +kernel
theorem dX5_note_9 : decode cX5_note 9 = .ok (.aload_n 1, 1) := by decide +kernel
theorem dX5_note_10 : decode cX5_note 10 = .ok (.invokevirtual 27, 3) := by decide +kernel
theorem dX5_note_13 : decode cX5_note 13 = .ok (.return_, 1) := by decide +kernel
set_option maxRecDepth 100000 in
set_option maxHeartbeats 8000000 in
theorem c_X1_allEaten {l : Launch} {D : va_G} {cy : Nat → ClassId} {L : List Nat} {κ ln : Nat → Nat} {R : Nat → Nat → Option Nat} {I : Nat → Nat → Int32} {J : Nat → Nat → Int64} {ow : Nat → Nat × Nat} (W9 : ∀ a ∈ L, Shp L κ ln R ow a) {x : Nat} (hLx : x ∈ L) (hkx : κ x = 1) (hU : Iv L κ R ow I) : CtI l yX1_allEaten cX1_allEaten 3 (some .int) { frames := 0, cells := 0, slots := 0, locals := 0 } D cy L κ ln R I J [.ref x] (fun r I2 J2 => I = I2 ∧ J = J2 ∧ Rg (-2147483648) 2147483647 r) := by
  refine CtI.of (by decide +kernel) (Nat.le_of_ble_eq_true rfl) ?_
  intro p e s m below meth c B K
  have C := B.1
  obtain ⟨b_1, hb_1, hb_1L, hb_1k, hb_1n, hb_1o⟩ := shp_a (W9 x hLx) hkx 4 14 7 rfl (by decide)
  obtain ⟨b_2, hb_2, hb_2L, hb_2k⟩ := shp_o (W9 x hLx) hkx 0 8 rfl (by decide)
  refine g_lo (is := [0]) (lo2 := [(0, .ref x)]) rfl ?_
  have l_4 : ∀ (n_4 : Nat) (v_3 : Int32) (v_4 : Int32) (rv_4 : Rg 0 7 v_4) (hm_5 : 7 < (v_4 : Int32).toInt + (n_4 : Int)), WG p l e { frames := 0, cells := 0, slots := 0, locals := 0 } s m ([.ref x] : List Value).toArray below meth c 3 0 0 (MQ below (Qi_ D cy L κ ln R (fun r I2 J2 => I = I2 ∧ J = J2 ∧ Rg (-2147483648) 2147483647 r)) ([.ref x] : List Value).toArray s 0 0 (Al_ L)) D cy (Al_ L) s.heap L κ ln R I J 4 [(0, .ref x), (1, .int v_3), (2, .int v_4)] [] := by
    intro n_4
    induction n_4 with
    | zero =>
      intro v_3 v_4 rv_4 hm_5
      exact ms_0 rv_4 hm_5
    | succ n_4 ih_4 =>
      intro v_3 v_4 rv_4 hm_5
      refine g_iload_n C 2 dX1_allEaten_4 rfl rfl ?_
      refine g_aload_n C 0 dX1_allEaten_5 rfl rfl ?_
      refine g_getR C K hLx hkx f_1_52 hb_2 dX1_allEaten_6 ?_
      obtain ⟨x_6, hx_6, rx_6⟩ := ex_get (I := I) (a := b_2) (j := 5) (lo := 0) (hi := 7) hU.1 hb_2L (ro_o hb_2k (by decide)) rfl
      refine g_getI C K hb_2L hb_2k f_1_68 (v := x_6) hx_6 dX1_allEaten_9 ?_
      refine g_icmp_ge C (tgt := 30) dX1_allEaten_12 (by decide) (fun h_7 => ?_) (fun h_7 => ?_)
      · skip
        refine g_iload_n C 1 dX1_allEaten_30 rfl rfl ?_
        exact g_zret (ty := .int) (r := v_3) B K rfl (rfl) ⟨rfl, rfl, (rg_all v_3)⟩ dX1_allEaten_31
      · skip
        have r_8 := lt_l (hi := 6) (nle h_7) rv_4 rx_6 (by decide)
        have r_9 := lt_r (lo := 1) (nle h_7) rv_4 rx_6 (by decide)
        refine g_iload_n C 1 dX1_allEaten_15 rfl rfl ?_
        refine g_aload_n C 0 dX1_allEaten_16 rfl rfl ?_
        refine g_getR C K hLx hkx f_1_21 hb_1 dX1_allEaten_17 ?_
        refine g_iload_n C 2 dX1_allEaten_20 rfl rfl ?_
        obtain ⟨x_10, hx_10, rx_10⟩ := ex_any (z0 := I b_1 (v_4.toNatClampNeg))
        refine h_iald C K hb_1L hb_1k (v := x_10) (v_4.toNatClampNeg) (rfl) (ix_0 r_8 (by decide)) (ix_lt r_8 (by decide) hb_1n (by decide)) hx_10 dX1_allEaten_21 ?_
        obtain ⟨x_11, hx_11, rx_11⟩ := ex_any (z0 := v_3 + x_10)
        refine g_iadd C (v := x_11) dX1_allEaten_22 hx_11 ?_
        refine g_istore_n C dX1_allEaten_23 rfl (by decide) (lo2 := [(1, .int x_11), (0, .ref x), (2, .int v_4)]) rfl ?_
        obtain ⟨x_12, hx_12, rx_12, tx_12⟩ := ex_add (y := 1) 1 7 r_8 rc_1 (by decide) (by decide) (by decide) (by decide)
        refine g_iinc C dX1_allEaten_24 (k := 2) (v := x_12) rfl hx_12 (by decide) (lo2 := [(2, .int x_12), (1, .int x_11), (0, .ref x)]) rfl ?_
        refine g_goto C (tgt := 4) dX1_allEaten_27 (by decide) ?_
        refine g_lo (is := [2, 1, 0]) (lo2 := [(0, .ref x), (1, .int x_11), (2, .int x_12)]) rfl ?_
        exact ih_4 x_11 x_12 (rg_w rx_12 (by decide) (by decide)) (ms_1 hm_5 (ti_k tx_12 rc_1) (by decide))
  refine g_iconst C (v := 0) dX1_allEaten_0 (by decide) ?_
  refine g_istore_n C dX1_allEaten_1 rfl (by decide) (lo2 := [(1, .int 0), (0, .ref x)]) rfl ?_
  refine g_iconst C (v := 0) dX1_allEaten_2 (by decide) ?_
  refine g_istore_n C dX1_allEaten_3 rfl (by decide) (lo2 := [(2, .int 0), (1, .int 0), (0, .ref x)]) rfl ?_
  refine g_lo (is := [2, 1, 0]) (lo2 := [(0, .ref x), (1, .int 0), (2, .int 0)]) rfl ?_
  exact l_4 8 0 0 (rg_w rc_0 (by decide) (by decide)) (ms_s (a := 0) (b := 7) (N := 8) (rg_w rc_0 (by decide) (by decide)) (by decide))
set_option maxRecDepth 100000 in
set_option maxHeartbeats 8000000 in
theorem c_X1_allHunger {l : Launch} {D : va_G} {cy : Nat → ClassId} {L : List Nat} {κ ln : Nat → Nat} {R : Nat → Nat → Option Nat} {I : Nat → Nat → Int32} {J : Nat → Nat → Int64} {ow : Nat → Nat × Nat} (W9 : ∀ a ∈ L, Shp L κ ln R ow a) {x : Nat} (hLx : x ∈ L) (hkx : κ x = 1) (hU : Iv L κ R ow I) : CtI l yX1_allHunger cX1_allHunger 3 (some .int) { frames := 0, cells := 0, slots := 0, locals := 0 } D cy L κ ln R I J [.ref x] (fun r I2 J2 => I = I2 ∧ J = J2 ∧ Rg (-2147483648) 2147483647 r) := by
  refine CtI.of (by decide +kernel) (Nat.le_of_ble_eq_true rfl) ?_
  intro p e s m below meth c B K
  have C := B.1
  obtain ⟨b_1, hb_1, hb_1L, hb_1k, hb_1n, hb_1o⟩ := shp_a (W9 x hLx) hkx 6 14 7 rfl (by decide)
  obtain ⟨b_2, hb_2, hb_2L, hb_2k⟩ := shp_o (W9 x hLx) hkx 0 8 rfl (by decide)
  refine g_lo (is := [0]) (lo2 := [(0, .ref x)]) rfl ?_
  have l_4 : ∀ (n_4 : Nat) (v_3 : Int32) (v_4 : Int32) (rv_4 : Rg 0 7 v_4) (hm_5 : 7 < (v_4 : Int32).toInt + (n_4 : Int)), WG p l e { frames := 0, cells := 0, slots := 0, locals := 0 } s m ([.ref x] : List Value).toArray below meth c 3 0 0 (MQ below (Qi_ D cy L κ ln R (fun r I2 J2 => I = I2 ∧ J = J2 ∧ Rg (-2147483648) 2147483647 r)) ([.ref x] : List Value).toArray s 0 0 (Al_ L)) D cy (Al_ L) s.heap L κ ln R I J 4 [(0, .ref x), (1, .int v_3), (2, .int v_4)] [] := by
    intro n_4
    induction n_4 with
    | zero =>
      intro v_3 v_4 rv_4 hm_5
      exact ms_0 rv_4 hm_5
    | succ n_4 ih_4 =>
      intro v_3 v_4 rv_4 hm_5
      refine g_iload_n C 2 dX1_allHunger_4 rfl rfl ?_
      refine g_aload_n C 0 dX1_allHunger_5 rfl rfl ?_
      refine g_getR C K hLx hkx f_1_52 hb_2 dX1_allHunger_6 ?_
      obtain ⟨x_6, hx_6, rx_6⟩ := ex_get (I := I) (a := b_2) (j := 5) (lo := 0) (hi := 7) hU.1 hb_2L (ro_o hb_2k (by decide)) rfl
      refine g_getI C K hb_2L hb_2k f_1_68 (v := x_6) hx_6 dX1_allHunger_9 ?_
      refine g_icmp_ge C (tgt := 30) dX1_allHunger_12 (by decide) (fun h_7 => ?_) (fun h_7 => ?_)
      · skip
        refine g_iload_n C 1 dX1_allHunger_30 rfl rfl ?_
        exact g_zret (ty := .int) (r := v_3) B K rfl (rfl) ⟨rfl, rfl, (rg_all v_3)⟩ dX1_allHunger_31
      · skip
        have r_8 := lt_l (hi := 6) (nle h_7) rv_4 rx_6 (by decide)
        have r_9 := lt_r (lo := 1) (nle h_7) rv_4 rx_6 (by decide)
        refine g_iload_n C 1 dX1_allHunger_15 rfl rfl ?_
        refine g_aload_n C 0 dX1_allHunger_16 rfl rfl ?_
        refine g_getR C K hLx hkx f_1_27 hb_1 dX1_allHunger_17 ?_
        refine g_iload_n C 2 dX1_allHunger_20 rfl rfl ?_
        obtain ⟨x_10, hx_10, rx_10⟩ := ex_any (z0 := I b_1 (v_4.toNatClampNeg))
        refine h_iald C K hb_1L hb_1k (v := x_10) (v_4.toNatClampNeg) (rfl) (ix_0 r_8 (by decide)) (ix_lt r_8 (by decide) hb_1n (by decide)) hx_10 dX1_allHunger_21 ?_
        obtain ⟨x_11, hx_11, rx_11⟩ := ex_any (z0 := v_3 + x_10)
        refine g_iadd C (v := x_11) dX1_allHunger_22 hx_11 ?_
        refine g_istore_n C dX1_allHunger_23 rfl (by decide) (lo2 := [(1, .int x_11), (0, .ref x), (2, .int v_4)]) rfl ?_
        obtain ⟨x_12, hx_12, rx_12, tx_12⟩ := ex_add (y := 1) 1 7 r_8 rc_1 (by decide) (by decide) (by decide) (by decide)
        refine g_iinc C dX1_allHunger_24 (k := 2) (v := x_12) rfl hx_12 (by decide) (lo2 := [(2, .int x_12), (1, .int x_11), (0, .ref x)]) rfl ?_
        refine g_goto C (tgt := 4) dX1_allHunger_27 (by decide) ?_
        refine g_lo (is := [2, 1, 0]) (lo2 := [(0, .ref x), (1, .int x_11), (2, .int x_12)]) rfl ?_
        exact ih_4 x_11 x_12 (rg_w rx_12 (by decide) (by decide)) (ms_1 hm_5 (ti_k tx_12 rc_1) (by decide))
  refine g_iconst C (v := 0) dX1_allHunger_0 (by decide) ?_
  refine g_istore_n C dX1_allHunger_1 rfl (by decide) (lo2 := [(1, .int 0), (0, .ref x)]) rfl ?_
  refine g_iconst C (v := 0) dX1_allHunger_2 (by decide) ?_
  refine g_istore_n C dX1_allHunger_3 rfl (by decide) (lo2 := [(2, .int 0), (1, .int 0), (0, .ref x)]) rfl ?_
  refine g_lo (is := [2, 1, 0]) (lo2 := [(0, .ref x), (1, .int 0), (2, .int 0)]) rfl ?_
  exact l_4 8 0 0 (rg_w rc_0 (by decide) (by decide)) (ms_s (a := 0) (b := 7) (N := 8) (rg_w rc_0 (by decide) (by decide)) (by decide))
set_option maxRecDepth 100000 in
set_option maxHeartbeats 8000000 in
theorem c_X11_now {l : Launch} {D : va_G} {cy : Nat → ClassId} {L : List Nat} {κ ln : Nat → Nat} {R : Nat → Nat → Option Nat} {I : Nat → Nat → Int32} {J : Nat → Nat → Int64} {ow : Nat → Nat × Nat} (W9 : ∀ a ∈ L, Shp L κ ln R ow a) {x : Nat} (hLx : x ∈ L) (hkx : κ x = 11) (a0 : Int32) (hU : Iv L κ R ow I) : CtI l yX11_now cX11_now 2 (some .int) { frames := 1, cells := 0, slots := 0, locals := 22 } D cy L κ ln R I J [.ref x, .int a0] (fun r I2 J2 => I = I2 ∧ J = J2 ∧ Rg (-2147483648) 2147483647 r) := by
  refine CtI.of (by decide +kernel) (Nat.le_of_ble_eq_true rfl) ?_
  intro p e s m below meth c B K
  have C := B.1
  obtain ⟨b_1, hb_1, hb_1L, hb_1k⟩ := shp_o (W9 x hLx) hkx 2 1 rfl (by decide)
  refine g_lo (is := [0, 1]) (lo2 := [(0, .ref x), (1, .int a0)]) rfl ?_
  refine g_iload_n C 1 dX11_now_0 rfl rfl ?_
  by_cases c_2 : a0.toInt = 0
  · skip
    have r_3 := rg_of (a := 0) (b := 0) 0 c_2 (by decide) (by decide)
    refine g_tableIn C (tgt := 48) dX11_now_1 (by omega) (by omega) (off := 47) (by rw [c_2]; rfl) (by decide) ?_
    refine g_aload_n C 0 dX11_now_48 rfl rfl ?_
    refine g_getR C K hLx hkx f_11_28 hb_1 dX11_now_49 ?_
    obtain ⟨x_4, hx_4, rx_4⟩ := ex_get (I := I) (a := b_1) (j := 9) (lo := (-2147483648)) (hi := 2147483647) hU.1 hb_1L (ro_o hb_1k (by decide)) rfl
    refine g_getI C K hb_1L hb_1k f_11_195 (v := x_4) hx_4 dX11_now_52 ?_
    exact g_zret (ty := .int) (r := x_4) B K rfl (rfl) ⟨rfl, rfl, rx_4⟩ dX11_now_55
  by_cases c_5 : a0.toInt = 1
  · skip
    have r_6 := rg_of (a := 1) (b := 1) 1 c_5 (by decide) (by decide)
    refine g_tableIn C (tgt := 56) dX11_now_1 (by omega) (by omega) (off := 55) (by rw [c_5]; rfl) (by decide) ?_
    refine g_aload_n C 0 dX11_now_56 rfl rfl ?_
    refine g_getR C K hLx hkx f_11_28 hb_1 dX11_now_57 ?_
    obtain ⟨x_7, hx_7, rx_7⟩ := ex_get (I := I) (a := b_1) (j := 7) (lo := (-2147483648)) (hi := 2147483647) hU.1 hb_1L (ro_o hb_1k (by decide)) rfl
    refine g_getI C K hb_1L hb_1k f_11_151 (v := x_7) hx_7 dX11_now_60 ?_
    exact g_zret (ty := .int) (r := x_7) B K rfl (rfl) ⟨rfl, rfl, rx_7⟩ dX11_now_63
  by_cases c_8 : a0.toInt = 2
  · skip
    have r_9 := rg_of (a := 2) (b := 2) 2 c_8 (by decide) (by decide)
    refine g_tableIn C (tgt := 64) dX11_now_1 (by omega) (by omega) (off := 63) (by rw [c_8]; rfl) (by decide) ?_
    refine g_aload_n C 0 dX11_now_64 rfl rfl ?_
    refine g_getR C K hLx hkx f_11_28 hb_1 dX11_now_65 ?_
    obtain ⟨x_10, hx_10, rx_10⟩ := ex_get (I := I) (a := b_1) (j := 8) (lo := (-2147483648)) (hi := 2147483647) hU.1 hb_1L (ro_o hb_1k (by decide)) rfl
    refine g_getI C K hb_1L hb_1k f_11_154 (v := x_10) hx_10 dX11_now_68 ?_
    exact g_zret (ty := .int) (r := x_10) B K rfl (rfl) ⟨rfl, rfl, rx_10⟩ dX11_now_71
  by_cases c_11 : a0.toInt = 3
  · skip
    have r_12 := rg_of (a := 3) (b := 3) 3 c_11 (by decide) (by decide)
    refine g_tableIn C (tgt := 72) dX11_now_1 (by omega) (by omega) (off := 71) (by rw [c_11]; rfl) (by decide) ?_
    refine g_aload_n C 0 dX11_now_72 rfl rfl ?_
    refine g_getR C K hLx hkx f_11_28 hb_1 dX11_now_73 ?_
    obtain ⟨x_13, hx_13, rx_13⟩ := ex_get (I := I) (a := b_1) (j := 10) (lo := (-2147483648)) (hi := 2147483647) hU.1 hb_1L (ro_o hb_1k (by decide)) rfl
    refine g_getI C K hb_1L hb_1k f_11_198 (v := x_13) hx_13 dX11_now_76 ?_
    exact g_zret (ty := .int) (r := x_13) B K rfl (rfl) ⟨rfl, rfl, rx_13⟩ dX11_now_79
  by_cases c_14 : a0.toInt = 4
  · skip
    have r_15 := rg_of (a := 4) (b := 4) 4 c_14 (by decide) (by decide)
    refine g_tableIn C (tgt := 80) dX11_now_1 (by omega) (by omega) (off := 79) (by rw [c_14]; rfl) (by decide) ?_
    refine g_aload_n C 0 dX11_now_80 rfl rfl ?_
    refine g_getR C K hLx hkx f_11_28 hb_1 dX11_now_81 ?_
    obtain ⟨x_16, hx_16, rx_16⟩ := ex_get (I := I) (a := b_1) (j := 11) (lo := (-2147483648)) (hi := 2147483647) hU.1 hb_1L (ro_o hb_1k (by decide)) rfl
    refine g_getI C K hb_1L hb_1k f_11_201 (v := x_16) hx_16 dX11_now_84 ?_
    exact g_zret (ty := .int) (r := x_16) B K rfl (rfl) ⟨rfl, rfl, rx_16⟩ dX11_now_87
  by_cases c_17 : a0.toInt = 5
  · skip
    have r_18 := rg_of (a := 5) (b := 5) 5 c_17 (by decide) (by decide)
    refine g_tableIn C (tgt := 88) dX11_now_1 (by omega) (by omega) (off := 87) (by rw [c_17]; rfl) (by decide) ?_
    refine g_aload_n C 0 dX11_now_88 rfl rfl ?_
    refine g_getR C K hLx hkx f_11_28 hb_1 dX11_now_89 ?_
    refine g_callVI C K (c_X1_allEaten W9 hb_1L hb_1k   hU) hb_1L hb_1k (by decide) rfl v_11_204 rfl ⟨rfl, rfl⟩ ⟨Nat.le_of_ble_eq_true rfl, Nat.le_of_ble_eq_true rfl⟩ (Nat.le_of_ble_eq_true rfl) ⟨Nat.le_of_ble_eq_true rfl, Nat.le_of_ble_eq_true rfl⟩ dX11_now_92 rfl (st := []) (fun x_19 I_20 J_21 h_22 => ?_)
    obtain ⟨rfl, rfl, rx_19⟩ := h_22
    exact g_zret (ty := .int) (r := x_19) B K rfl (rfl) ⟨rfl, rfl, rx_19⟩ dX11_now_95
  by_cases c_23 : a0.toInt = 6
  · skip
    have r_24 := rg_of (a := 6) (b := 6) 6 c_23 (by decide) (by decide)
    refine g_tableIn C (tgt := 96) dX11_now_1 (by omega) (by omega) (off := 95) (by rw [c_23]; rfl) (by decide) ?_
    refine g_aload_n C 0 dX11_now_96 rfl rfl ?_
    refine g_getR C K hLx hkx f_11_28 hb_1 dX11_now_97 ?_
    refine g_callVI C K (c_X1_allHunger W9 hb_1L hb_1k   hU) hb_1L hb_1k (by decide) rfl v_11_207 rfl ⟨rfl, rfl⟩ ⟨Nat.le_of_ble_eq_true rfl, Nat.le_of_ble_eq_true rfl⟩ (Nat.le_of_ble_eq_true rfl) ⟨Nat.le_of_ble_eq_true rfl, Nat.le_of_ble_eq_true rfl⟩ dX11_now_100 rfl (st := []) (fun x_25 I_26 J_27 h_28 => ?_)
    obtain ⟨rfl, rfl, rx_25⟩ := h_28
    exact g_zret (ty := .int) (r := x_25) B K rfl (rfl) ⟨rfl, rfl, rx_25⟩ dX11_now_103
  by_cases c_29 : a0.toInt = 7
  · skip
    have r_30 := rg_of (a := 7) (b := 7) 7 c_29 (by decide) (by decide)
    refine g_tableIn C (tgt := 104) dX11_now_1 (by omega) (by omega) (off := 103) (by rw [c_29]; rfl) (by decide) ?_
    refine g_aload_n C 0 dX11_now_104 rfl rfl ?_
    refine g_getR C K hLx hkx f_11_28 hb_1 dX11_now_105 ?_
    obtain ⟨x_31, hx_31, rx_31⟩ := ex_get (I := I) (a := b_1) (j := 12) (lo := (-2147483648)) (hi := 2147483647) hU.1 hb_1L (ro_o hb_1k (by decide)) rfl
    refine g_getI C K hb_1L hb_1k f_11_210 (v := x_31) hx_31 dX11_now_108 ?_
    exact g_zret (ty := .int) (r := x_31) B K rfl (rfl) ⟨rfl, rfl, rx_31⟩ dX11_now_111
  obtain ⟨q_321, q_322⟩ := (rg_all a0)
  refine g_tableOut C (tgt := 112) dX11_now_1 (by omega) (by decide) ?_
  refine g_iconst C (v := (-1)) dX11_now_112 (by decide) ?_
  exact g_zret (ty := .int) (r := (-1)) B K rfl (rfl) ⟨rfl, rfl, rg_all _⟩ dX11_now_113
set_option maxRecDepth 100000 in
set_option maxHeartbeats 8000000 in
theorem c_X11_count {l : Launch} {D : va_G} {cy : Nat → ClassId} {L : List Nat} {κ ln : Nat → Nat} {R : Nat → Nat → Option Nat} {I : Nat → Nat → Int32} {J : Nat → Nat → Int64} {ow : Nat → Nat × Nat} (W9 : ∀ a ∈ L, Shp L κ ln R ow a) {x : Nat} (hLx : x ∈ L) (hkx : κ x = 11) (a0 : Int32) (hU : Iv L κ R ow I) : CtI l yX11_count cX11_count 2 (some .int) { frames := 0, cells := 0, slots := 0, locals := 0 } D cy L κ ln R I J [.ref x, .int a0] (fun r I2 J2 => I = I2 ∧ J = J2 ∧ Rg (-2147483648) 2147483647 r) := by
  refine CtI.of (by decide +kernel) (Nat.le_of_ble_eq_true rfl) ?_
  intro p e s m below meth c B K
  have C := B.1
  obtain ⟨b_1, hb_1, hb_1L, hb_1k⟩ := shp_o (W9 x hLx) hkx 1 8 rfl (by decide)
  obtain ⟨b_2, hb_2, hb_2L, hb_2k⟩ := shp_o (W9 x hLx) hkx 0 10 rfl (by decide)
  refine g_lo (is := [0, 1]) (lo2 := [(0, .ref x), (1, .int a0)]) rfl ?_
  refine g_iload_n C 1 dX11_count_0 rfl rfl ?_
  by_cases c_3 : a0.toInt = 0
  · skip
    have r_4 := rg_of (a := 0) (b := 0) 0 c_3 (by decide) (by decide)
    refine g_tableIn C (tgt := 36) dX11_count_1 (by omega) (by omega) (off := 35) (by rw [c_3]; rfl) (by decide) ?_
    refine g_aload_n C 0 dX11_count_36 rfl rfl ?_
    refine g_getR C K hLx hkx f_11_19 hb_1 dX11_count_37 ?_
    obtain ⟨x_5, hx_5, rx_5⟩ := ex_get (I := I) (a := b_1) (j := 5) (lo := 0) (hi := 7) hU.1 hb_1L (ro_o hb_1k (by decide)) rfl
    refine g_getI C K hb_1L hb_1k f_11_213 (v := x_5) hx_5 dX11_count_40 ?_
    exact g_zret (ty := .int) (r := x_5) B K rfl (rfl) ⟨rfl, rfl, rg_all _⟩ dX11_count_43
  by_cases c_6 : a0.toInt = 1
  · skip
    have r_7 := rg_of (a := 1) (b := 1) 1 c_6 (by decide) (by decide)
    refine g_tableIn C (tgt := 44) dX11_count_1 (by omega) (by omega) (off := 43) (by rw [c_6]; rfl) (by decide) ?_
    refine g_aload_n C 0 dX11_count_44 rfl rfl ?_
    refine g_getR C K hLx hkx f_11_19 hb_1 dX11_count_45 ?_
    obtain ⟨x_8, hx_8, rx_8⟩ := ex_get (I := I) (a := b_1) (j := 6) (lo := 0) (hi := 6) hU.1 hb_1L (ro_o hb_1k (by decide)) rfl
    refine g_getI C K hb_1L hb_1k f_11_216 (v := x_8) hx_8 dX11_count_48 ?_
    exact g_zret (ty := .int) (r := x_8) B K rfl (rfl) ⟨rfl, rfl, rg_all _⟩ dX11_count_51
  by_cases c_9 : a0.toInt = 2
  · skip
    have r_10 := rg_of (a := 2) (b := 2) 2 c_9 (by decide) (by decide)
    refine g_tableIn C (tgt := 52) dX11_count_1 (by omega) (by omega) (off := 51) (by rw [c_9]; rfl) (by decide) ?_
    refine g_aload_n C 0 dX11_count_52 rfl rfl ?_
    refine g_getR C K hLx hkx f_11_19 hb_1 dX11_count_53 ?_
    obtain ⟨x_11, hx_11, rx_11⟩ := ex_get (I := I) (a := b_1) (j := 7) (lo := (-2147483648)) (hi := 2147483647) hU.1 hb_1L (ro_o hb_1k (by decide)) rfl
    refine g_getI C K hb_1L hb_1k f_11_219 (v := x_11) hx_11 dX11_count_56 ?_
    exact g_zret (ty := .int) (r := x_11) B K rfl (rfl) ⟨rfl, rfl, rx_11⟩ dX11_count_59
  by_cases c_12 : a0.toInt = 3
  · skip
    have r_13 := rg_of (a := 3) (b := 3) 3 c_12 (by decide) (by decide)
    refine g_tableIn C (tgt := 60) dX11_count_1 (by omega) (by omega) (off := 59) (by rw [c_12]; rfl) (by decide) ?_
    refine g_aload_n C 0 dX11_count_60 rfl rfl ?_
    refine g_getR C K hLx hkx f_11_19 hb_1 dX11_count_61 ?_
    obtain ⟨x_14, hx_14, rx_14⟩ := ex_get (I := I) (a := b_1) (j := 8) (lo := (-2147483648)) (hi := 2147483647) hU.1 hb_1L (ro_o hb_1k (by decide)) rfl
    refine g_getI C K hb_1L hb_1k f_11_222 (v := x_14) hx_14 dX11_count_64 ?_
    exact g_zret (ty := .int) (r := x_14) B K rfl (rfl) ⟨rfl, rfl, rx_14⟩ dX11_count_67
  by_cases c_15 : a0.toInt = 4
  · skip
    have r_16 := rg_of (a := 4) (b := 4) 4 c_15 (by decide) (by decide)
    refine g_tableIn C (tgt := 68) dX11_count_1 (by omega) (by omega) (off := 67) (by rw [c_15]; rfl) (by decide) ?_
    refine g_aload_n C 0 dX11_count_68 rfl rfl ?_
    refine g_getR C K hLx hkx f_11_10 hb_2 dX11_count_69 ?_
    obtain ⟨x_17, hx_17, rx_17⟩ := ex_get (I := I) (a := b_2) (j := 5) (lo := 0) (hi := 940) hU.1 hb_2L (ro_o hb_2k (by decide)) rfl
    refine g_getI C K hb_2L hb_2k f_11_102 (v := x_17) hx_17 dX11_count_72 ?_
    exact g_zret (ty := .int) (r := x_17) B K rfl (rfl) ⟨rfl, rfl, rg_all _⟩ dX11_count_75
  obtain ⟨q_181, q_182⟩ := (rg_all a0)
  refine g_tableOut C (tgt := 76) dX11_count_1 (by omega) (by decide) ?_
  refine g_iconst C (v := (-1)) dX11_count_76 (by decide) ?_
  exact g_zret (ty := .int) (r := (-1)) B K rfl (rfl) ⟨rfl, rfl, rg_all _⟩ dX11_count_77
set_option maxRecDepth 100000 in
set_option maxHeartbeats 8000000 in
theorem c_X5_keepNoted {l : Launch} {D : va_G} {cy : Nat → ClassId} {L : List Nat} {κ ln : Nat → Nat} {R : Nat → Nat → Option Nat} {I : Nat → Nat → Int32} {J : Nat → Nat → Int64} {ow : Nat → Nat × Nat} (W9 : ∀ a ∈ L, Shp L κ ln R ow a) {x : Nat} (hLx : x ∈ L) (hkx : κ x = 5) (hU : Iv L κ R ow I) : CtV l yX5_keepNoted cX5_keepNoted 1 none { frames := 1, cells := 0, slots := 0, locals := 60 } D cy L κ ln R I J [.ref x] (fun I2 J2 => Iv L κ R ow I2 ∧ Fq L κ ow [501, 502] I I2 ∧ Fq L κ ow [] J J2) := by
  refine CtV.of (by decide +kernel) (Nat.le_of_ble_eq_true rfl) ?_
  intro p e s m below meth c B K
  have C := B.1
  have hF : Fq L κ ow [501, 502] I I := fq_rf
  have hG : Fq L κ ow [] J J := fq_rf
  refine g_lo (is := [0]) (lo2 := [(0, .ref x)]) rfl ?_
  refine g_aload_n C 0 dX5_keepNoted_0 rfl rfl ?_
  refine g_aload_n C 0 dX5_keepNoted_1 rfl rfl ?_
  obtain ⟨x_1, hx_1, rx_1⟩ := ex_get (I := I) (a := x) (j := 2) (lo := 0) (hi := 8) hU.1 hLx (ro_o hkx (by decide)) rfl
  refine g_getI C K hLx hkx f_5_21 (v := x_1) hx_1 dX5_keepNoted_2 ?_
  refine g_iconst C (v := 1) dX5_keepNoted_5 (by decide) ?_
  obtain ⟨x_2, hx_2, rx_2, tx_2⟩ := ex_add 1 9 rx_1 rc_1 (by decide) (by decide) (by decide) (by decide)
  refine g_iadd C (v := x_2) dX5_keepNoted_6 hx_2 ?_
  refine g_bipush C (v := 9) dX5_keepNoted_7 (by decide) ?_
  refine g_icmp_ge C (tgt := 21) dX5_keepNoted_9 (by decide) (fun h_3 => ?_) (fun h_3 => ?_)
  · skip
    have r_4 := le_r (h_3) rc_9 rx_2
    refine g_iconst C (v := 0) dX5_keepNoted_21 (by decide) ?_
    refine h_putI C K hLx hkx f_5_21 p_5_2 dX5_keepNoted_22 (fun I_5 hI_5 => ?_)
    have hU_6 := iv_put W9 hU hI_5 (ro_o hkx (by decide)) (lo := 0) (hi := 8) (rfl) (rg_w rc_0 (by decide) (by decide)) rfl
    have hF_7 := fq_puto hF hI_5 hkx (by decide) (by decide)
    refine g_aload_n C 0 dX5_keepNoted_25 rfl rfl ?_
    refine g_aload_n C 0 dX5_keepNoted_26 rfl rfl ?_
    obtain ⟨x_8, hx_8, rx_8⟩ := ex_get (I := I_5) (a := x) (j := 1) (lo := 0) (hi := 8) hU_6.1 hLx (ro_o hkx (by decide)) rfl
    refine g_getI C K hLx hkx f_5_17 (v := x_8) hx_8 dX5_keepNoted_27 ?_
    refine g_iconst C (v := 1) dX5_keepNoted_30 (by decide) ?_
    obtain ⟨x_9, hx_9, rx_9, tx_9⟩ := ex_add 1 9 rx_8 rc_1 (by decide) (by decide) (by decide) (by decide)
    refine g_iadd C (v := x_9) dX5_keepNoted_31 hx_9 ?_
    refine g_bipush C (v := 8) dX5_keepNoted_32 (by decide) ?_
    obtain ⟨x_10, hx_10, rx_10⟩ := ex_min 1 8 rx_9 rc_8 (by decide) (by decide) (by decide)
    refine g_mmin C (v := x_10) mw_5_31 w_min (Nat.le_of_ble_eq_true rfl) (Nat.le_of_ble_eq_true rfl) ⟨Nat.le_of_ble_eq_true rfl, Nat.le_of_ble_eq_true rfl⟩ (hx_10) dX5_keepNoted_34 ?_
    refine h_putI C K hLx hkx f_5_17 p_5_1 dX5_keepNoted_37 (fun I_11 hI_11 => ?_)
    have hU_12 := iv_put W9 hU_6 hI_11 (ro_o hkx (by decide)) (lo := 0) (hi := 8) (rfl) (rg_w rx_10 (by decide) (by decide)) rfl
    have hF_13 := fq_puto hF_7 hI_11 hkx (by decide) (by decide)
    exact g_vret B K rfl ⟨hU_12, hF_13, hG⟩ dX5_keepNoted_40
  · skip
    have r_14 := lt_l (hi := 8) (nle h_3) rx_2 rc_9 (by decide)
    refine g_aload_n C 0 dX5_keepNoted_12 rfl rfl ?_
    refine g_getI C K hLx hkx f_5_21 (v := x_1) hx_1 dX5_keepNoted_13 ?_
    refine g_iconst C (v := 1) dX5_keepNoted_16 (by decide) ?_
    refine g_iadd C (v := x_2) dX5_keepNoted_17 hx_2 ?_
    refine g_goto C (tgt := 22) dX5_keepNoted_18 (by decide) ?_
    refine h_putI C K hLx hkx f_5_21 p_5_2 dX5_keepNoted_22 (fun I_15 hI_15 => ?_)
    have hU_16 := iv_put W9 hU hI_15 (ro_o hkx (by decide)) (lo := 0) (hi := 8) (rfl) (rg_w r_14 (by decide) (by decide)) rfl
    have hF_17 := fq_puto hF hI_15 hkx (by decide) (by decide)
    refine g_aload_n C 0 dX5_keepNoted_25 rfl rfl ?_
    refine g_aload_n C 0 dX5_keepNoted_26 rfl rfl ?_
    obtain ⟨x_18, hx_18, rx_18⟩ := ex_get (I := I_15) (a := x) (j := 1) (lo := 0) (hi := 8) hU_16.1 hLx (ro_o hkx (by decide)) rfl
    refine g_getI C K hLx hkx f_5_17 (v := x_18) hx_18 dX5_keepNoted_27 ?_
    refine g_iconst C (v := 1) dX5_keepNoted_30 (by decide) ?_
    obtain ⟨x_19, hx_19, rx_19, tx_19⟩ := ex_add 1 9 rx_18 rc_1 (by decide) (by decide) (by decide) (by decide)
    refine g_iadd C (v := x_19) dX5_keepNoted_31 hx_19 ?_
    refine g_bipush C (v := 8) dX5_keepNoted_32 (by decide) ?_
    obtain ⟨x_20, hx_20, rx_20⟩ := ex_min 1 8 rx_19 rc_8 (by decide) (by decide) (by decide)
    refine g_mmin C (v := x_20) mw_5_31 w_min (Nat.le_of_ble_eq_true rfl) (Nat.le_of_ble_eq_true rfl) ⟨Nat.le_of_ble_eq_true rfl, Nat.le_of_ble_eq_true rfl⟩ (hx_20) dX5_keepNoted_34 ?_
    refine h_putI C K hLx hkx f_5_17 p_5_1 dX5_keepNoted_37 (fun I_21 hI_21 => ?_)
    have hU_22 := iv_put W9 hU_16 hI_21 (ro_o hkx (by decide)) (lo := 0) (hi := 8) (rfl) (rg_w rx_20 (by decide) (by decide)) rfl
    have hF_23 := fq_puto hF_17 hI_21 hkx (by decide) (by decide)
    exact g_vret B K rfl ⟨hU_22, hF_23, hG⟩ dX5_keepNoted_40
set_option maxRecDepth 100000 in
set_option maxHeartbeats 8000000 in
theorem c_X11_keptIfDone {l : Launch} {D : va_G} {cy : Nat → ClassId} {L : List Nat} {κ ln : Nat → Nat} {R : Nat → Nat → Option Nat} {I : Nat → Nat → Int32} {J : Nat → Nat → Int64} {ow : Nat → Nat × Nat} (W9 : ∀ a ∈ L, Shp L κ ln R ow a) {x : Nat} (hLx : x ∈ L) (hkx : κ x = 11) (a0 : Int32) (ra0 : Rg 0 3 a0) (hU : Iv L κ R ow I) : CtI l yX11_keptIfDone cX11_keptIfDone 2 (some .int) { frames := 2, cells := 0, slots := 0, locals := 80 } D cy L κ ln R I J [.ref x, .int a0] (fun r I2 J2 => Iv L κ R ow I2 ∧ Fq L κ ow [501, 502] I I2 ∧ Fq L κ ow [] J J2 ∧ Rg 0 3 r) := by
  refine CtI.of (by decide +kernel) (Nat.le_of_ble_eq_true rfl) ?_
  intro p e s m below meth c B K
  have C := B.1
  have hF : Fq L κ ow [501, 502] I I := fq_rf
  have hG : Fq L κ ow [] J J := fq_rf
  obtain ⟨b_1, hb_1, hb_1L, hb_1k⟩ := shp_o (W9 x hLx) hkx 4 5 rfl (by decide)
  refine g_lo (is := [0, 1]) (lo2 := [(0, .ref x), (1, .int a0)]) rfl ?_
  refine g_iload_n C 1 dX11_keptIfDone_0 rfl rfl ?_
  refine g_if_ne C (tgt := 11) dX11_keptIfDone_1 (by decide) (fun h_2 => ?_) (fun h_2 => ?_)
  · skip
    have n_3 : ¬ a0 = 0 := h_2
    have r_4 := ne_lo (lo := 1) n_3 ra0 rc_0 rfl (by decide)
    refine g_iload_n C 1 dX11_keptIfDone_11 rfl rfl ?_
    exact g_zret (ty := .int) (r := a0) B K rfl (rfl) ⟨hU, hF, hG, rg_w r_4 (by decide) (by decide)⟩ dX11_keptIfDone_12
  · skip
    have r_5 := (⟨(ra0).1, (eq_rg (h_2) rc_0).2⟩ : Rg 0 0 a0)
    refine g_aload_n C 0 dX11_keptIfDone_4 rfl rfl ?_
    refine g_getR C K hLx hkx f_11_38 hb_1 dX11_keptIfDone_5 ?_
    refine g_callVV C K (c_X5_keepNoted W9 hb_1L hb_1k   hU) hb_1L hb_1k (by decide) rfl v_11_260 rfl ⟨rfl, rfl⟩ ⟨Nat.le_of_ble_eq_true rfl, Nat.le_of_ble_eq_true rfl⟩ (Nat.le_of_ble_eq_true rfl) ⟨Nat.le_of_ble_eq_true rfl, Nat.le_of_ble_eq_true rfl⟩ dX11_keptIfDone_8 rfl (st := []) (fun I_7 J_8 h_9 => ?_)
    obtain ⟨hUI_7, hFI_7, hGJ_8⟩ := h_9
    have hF_10 := fq_tr hF hFI_7 (by decide)
    have hG_11 := fq_tr hG hGJ_8 (by decide)
    refine g_iload_n C 1 dX11_keptIfDone_11 rfl rfl ?_
    exact g_zret (ty := .int) (r := a0) B K rfl (rfl) ⟨hUI_7, hF_10, hG_11, rg_w r_5 (by decide) (by decide)⟩ dX11_keptIfDone_12
set_option maxRecDepth 100000 in
set_option maxHeartbeats 8000000 in
theorem c_X1_eatUp {l : Launch} {D : va_G} {cy : Nat → ClassId} {L : List Nat} {κ ln : Nat → Nat} {R : Nat → Nat → Option Nat} {I : Nat → Nat → Int32} {J : Nat → Nat → Int64} {ow : Nat → Nat × Nat} (W9 : ∀ a ∈ L, Shp L κ ln R ow a) {x : Nat} (hLx : x ∈ L) (hkx : κ x = 1) (a0 : Int32) (a1 : Int32) (a2 : Int32) (ra0 : Rg 0 6 a0) (ra1 : Rg 0 5 a1) (hU : Iv L κ R ow I) : CtV l yX1_eatUp cX1_eatUp 4 none { frames := 1, cells := 0, slots := 0, locals := 23 } D cy L κ ln R I J [.ref x, .int a0, .int a1, .int a2] (fun I2 J2 => Iv L κ R ow I2 ∧ Fq L κ ow [16200, 16300, 16400, 16500] I I2 ∧ Fq L κ ow [] J J2) := by
  refine CtV.of (by decide +kernel) (Nat.le_of_ble_eq_true rfl) ?_
  intro p e s m below meth c B K
  have C := B.1
  have hF : Fq L κ ow [16200, 16300, 16400, 16500] I I := fq_rf
  have hG : Fq L κ ow [] J J := fq_rf
  obtain ⟨b_1, hb_1, hb_1L, hb_1k, hb_1n, hb_1o⟩ := shp_a (W9 x hLx) hkx 5 14 7 rfl (by decide)
  obtain ⟨b_2, hb_2, hb_2L, hb_2k, hb_2n, hb_2o⟩ := shp_a (W9 x hLx) hkx 4 14 7 rfl (by decide)
  refine g_lo (is := [0, 1, 2, 3]) (lo2 := [(0, .ref x), (1, .int a0), (2, .int a1), (3, .int a2)]) rfl ?_
  refine g_aload_n C 0 dX1_eatUp_0 rfl rfl ?_
  refine g_iload_n C 1 dX1_eatUp_1 rfl rfl ?_
  refine g_iload_n C 2 dX1_eatUp_2 rfl rfl ?_
  refine g_iload_n C 3 dX1_eatUp_3 rfl rfl ?_
  obtain ⟨x_3, hx_3, rx_3⟩ := ex_any (z0 := -a2)
  refine g_ineg C (v := x_3) dX1_eatUp_4 hx_3 ?_
  refine g_callVV C K (c_X1_addToPlate W9 hLx hkx a0 a1 x_3 (ra0) (ra1) hU) hLx hkx (by decide) rfl v_1_105 rfl ⟨rfl, rfl⟩ ⟨Nat.le_of_ble_eq_true rfl, Nat.le_of_ble_eq_true rfl⟩ (Nat.le_of_ble_eq_true rfl) ⟨Nat.le_of_ble_eq_true rfl, Nat.le_of_ble_eq_true rfl⟩ dX1_eatUp_5 rfl (st := []) (fun I_5 J_6 h_7 => ?_)
  obtain ⟨hUI_5, hFI_5, hGJ_6, fx_4⟩ := h_7
  have hF_8 := fq_tr hF hFI_5 (by decide)
  have hG_9 := fq_tr hG hGJ_6 (by decide)
  refine g_aload_n C 0 dX1_eatUp_8 rfl rfl ?_
  refine g_getR C K hLx hkx f_1_21 hb_2 dX1_eatUp_9 ?_
  refine g_iload_n C 1 dX1_eatUp_12 rfl rfl ?_
  refine g_dup2 C dX1_eatUp_13 rfl rfl ?_
  obtain ⟨x_10, hx_10, rx_10⟩ := ex_any (z0 := I_5 b_2 (a0.toNatClampNeg))
  refine h_iald C K hb_2L hb_2k (v := x_10) (a0.toNatClampNeg) (rfl) (ix_0 ra0 (by decide)) (ix_lt ra0 (by decide) hb_2n (by decide)) hx_10 dX1_eatUp_14 ?_
  refine g_iload_n C 3 dX1_eatUp_15 rfl rfl ?_
  obtain ⟨x_11, hx_11, rx_11⟩ := ex_any (z0 := x_10 + a2)
  refine g_iadd C (v := x_11) dX1_eatUp_16 hx_11 ?_
  refine h_iast C K hb_2L hb_2k (a0.toNatClampNeg) (rfl) (ix_0 ra0 (by decide)) (ix_lt ra0 (by decide) hb_2n (by decide)) dX1_eatUp_17 (fun I_12 hI_12 => ?_)
  have hU_13 := iv_put W9 hUI_5 hI_12 (ro_a hb_2k (by decide) hb_2o hkx rfl) (lo := (-2147483648)) (hi := 2147483647) (rfl) (rx_11) rfl
  have hF_14 := fq_puta hF_8 hI_12 (ro_a hb_2k (by decide) hb_2o hkx rfl) (by decide) (by decide)
  refine g_aload_n C 0 dX1_eatUp_18 rfl rfl ?_
  refine g_getR C K hLx hkx f_1_24 hb_1 dX1_eatUp_19 ?_
  refine g_iload_n C 1 dX1_eatUp_22 rfl rfl ?_
  refine g_dup2 C dX1_eatUp_23 rfl rfl ?_
  obtain ⟨x_15, hx_15, rx_15⟩ := ex_any (z0 := I_12 b_1 (a0.toNatClampNeg))
  refine h_iald C K hb_1L hb_1k (v := x_15) (a0.toNatClampNeg) (rfl) (ix_0 ra0 (by decide)) (ix_lt ra0 (by decide) hb_1n (by decide)) hx_15 dX1_eatUp_24 ?_
  refine g_iload_n C 3 dX1_eatUp_25 rfl rfl ?_
  obtain ⟨x_16, hx_16, rx_16⟩ := ex_any (z0 := x_15 + a2)
  refine g_iadd C (v := x_16) dX1_eatUp_26 hx_16 ?_
  refine h_iast C K hb_1L hb_1k (a0.toNatClampNeg) (rfl) (ix_0 ra0 (by decide)) (ix_lt ra0 (by decide) hb_1n (by decide)) dX1_eatUp_27 (fun I_17 hI_17 => ?_)
  have hU_18 := iv_put W9 hU_13 hI_17 (ro_a hb_1k (by decide) hb_1o hkx rfl) (lo := (-2147483648)) (hi := 2147483647) (rfl) (rx_16) rfl
  have hF_19 := fq_puta hF_14 hI_17 (ro_a hb_1k (by decide) hb_1o hkx rfl) (by decide) (by decide)
  exact g_vret B K rfl ⟨hU_18, hF_19, hG_9⟩ dX1_eatUp_28
set_option maxRecDepth 100000 in
set_option maxHeartbeats 8000000 in
theorem c_X1_lives {l : Launch} {D : va_G} {cy : Nat → ClassId} {L : List Nat} {κ ln : Nat → Nat} {R : Nat → Nat → Option Nat} {I : Nat → Nat → Int32} {J : Nat → Nat → Int64} {ow : Nat → Nat × Nat} (W9 : ∀ a ∈ L, Shp L κ ln R ow a) {x : Nat} (hLx : x ∈ L) (hkx : κ x = 1) (a0 : Int32) (ra0 : Rg 0 6 a0) (hU : Iv L κ R ow I) : CtI l yX1_lives cX1_lives 2 (some .boolean) { frames := 0, cells := 0, slots := 0, locals := 0 } D cy L κ ln R I J [.ref x, .int a0] (fun r I2 J2 => I = I2 ∧ J = J2 ∧ Rg 0 1 r) := by
  refine CtI.of (by decide +kernel) (Nat.le_of_ble_eq_true rfl) ?_
  intro p e s m below meth c B K
  have C := B.1
  refine g_lo (is := [0, 1]) (lo2 := [(0, .ref x), (1, .int a0)]) rfl ?_
  refine g_aload_n C 0 dX1_lives_0 rfl rfl ?_
  obtain ⟨x_1, hx_1, rx_1⟩ := ex_get (I := I) (a := x) (j := 7) (lo := (-2147483648)) (hi := 2147483647) hU.1 hLx (ro_o hkx (by decide)) rfl
  refine g_getI C K hLx hkx f_1_30 (v := x_1) hx_1 dX1_lives_1 ?_
  refine g_iload_n C 1 dX1_lives_4 rfl rfl ?_
  obtain ⟨x_2, hx_2, rx_2⟩ := ex_any (z0 := x_1 >>> (a0 &&& 31))
  refine g_ishr C (v := x_2) dX1_lives_5 hx_2 ?_
  refine g_iconst C (v := 1) dX1_lives_6 (by decide) ?_
  obtain ⟨x_3, hx_3, rx_3⟩ := ex_andr (x := x_2) (y := 1) (b := 1) (rg_w rc_1 (by decide) (by decide))
  refine g_iand C (v := x_3) dX1_lives_7 hx_3 ?_
  refine g_if_ne C (tgt := 15) dX1_lives_8 (by decide) (fun h_4 => ?_) (fun h_4 => ?_)
  · skip
    have n_5 : ¬ x_3 = 0 := h_4
    have r_6 := ne_lo (lo := 1) n_5 rx_3 rc_0 rfl (by decide)
    refine g_iconst C (v := 0) dX1_lives_15 (by decide) ?_
    exact g_zret (ty := .boolean) (r := 0) B K rfl (rfl) ⟨rfl, rfl, rg_w rc_0 (by decide) (by decide)⟩ dX1_lives_16
  · skip
    have r_7 := (⟨(rx_3).1, (eq_rg (h_4) rc_0).2⟩ : Rg 0 0 x_3)
    refine g_iconst C (v := 1) dX1_lives_11 (by decide) ?_
    refine g_goto C (tgt := 16) dX1_lives_12 (by decide) ?_
    exact g_zret (ty := .boolean) (r := 1) B K rfl (rfl) ⟨rfl, rfl, rg_w rc_1 (by decide) (by decide)⟩ dX1_lives_16
set_option maxRecDepth 100000 in
set_option maxHeartbeats 8000000 in
theorem c_X1_wantsYet {l : Launch} {D : va_G} {cy : Nat → ClassId} {L : List Nat} {κ ln : Nat → Nat} {R : Nat → Nat → Option Nat} {I : Nat → Nat → Int32} {J : Nat → Nat → Int64} {ow : Nat → Nat × Nat} (W9 : ∀ a ∈ L, Shp L κ ln R ow a) {x : Nat} (hLx : x ∈ L) (hkx : κ x = 1) (a0 : Int32) (ra0 : Rg 0 6 a0) (hU : Iv L κ R ow I) : CtI l yX1_wantsYet cX1_wantsYet 2 (some .int) { frames := 0, cells := 0, slots := 0, locals := 0 } D cy L κ ln R I J [.ref x, .int a0] (fun r I2 J2 => I = I2 ∧ J = J2 ∧ Rg (-2147483648) 2147483647 r) := by
  refine CtI.of (by decide +kernel) (Nat.le_of_ble_eq_true rfl) ?_
  intro p e s m below meth c B K
  have C := B.1
  obtain ⟨b_1, hb_1, hb_1L, hb_1k, hb_1n, hb_1o⟩ := shp_a (W9 x hLx) hkx 5 14 7 rfl (by decide)
  obtain ⟨b_2, hb_2, hb_2L, hb_2k⟩ := shp_o (W9 x hLx) hkx 0 8 rfl (by decide)
  obtain ⟨b_3, hb_3, hb_3L, hb_3k, hb_3n, hb_3o⟩ := shp_a (W9 b_2 hb_2L) hb_2k 1 14 7 rfl (by decide)
  refine g_lo (is := [0, 1]) (lo2 := [(0, .ref x), (1, .int a0)]) rfl ?_
  refine g_aload_n C 0 dX1_wantsYet_0 rfl rfl ?_
  refine g_getR C K hLx hkx f_1_52 hb_2 dX1_wantsYet_1 ?_
  refine g_getR C K hb_2L hb_2k f_1_75 hb_3 dX1_wantsYet_4 ?_
  refine g_iload_n C 1 dX1_wantsYet_7 rfl rfl ?_
  obtain ⟨x_4, hx_4, rx_4⟩ := ex_any (z0 := I b_3 (a0.toNatClampNeg))
  refine h_iald C K hb_3L hb_3k (v := x_4) (a0.toNatClampNeg) (rfl) (ix_0 ra0 (by decide)) (ix_lt ra0 (by decide) hb_3n (by decide)) hx_4 dX1_wantsYet_8 ?_
  refine g_aload_n C 0 dX1_wantsYet_9 rfl rfl ?_
  refine g_getR C K hLx hkx f_1_24 hb_1 dX1_wantsYet_10 ?_
  refine g_iload_n C 1 dX1_wantsYet_13 rfl rfl ?_
  obtain ⟨x_5, hx_5, rx_5⟩ := ex_any (z0 := I b_1 (a0.toNatClampNeg))
  refine h_iald C K hb_1L hb_1k (v := x_5) (a0.toNatClampNeg) (rfl) (ix_0 ra0 (by decide)) (ix_lt ra0 (by decide) hb_1n (by decide)) hx_5 dX1_wantsYet_14 ?_
  obtain ⟨x_6, hx_6, rx_6⟩ := ex_any (z0 := x_4 - x_5)
  refine g_isub C (v := x_6) dX1_wantsYet_15 hx_6 ?_
  exact g_zret (ty := .int) (r := x_6) B K rfl (rfl) ⟨rfl, rfl, rx_6⟩ dX1_wantsYet_16
set_option maxRecDepth 100000 in
set_option maxHeartbeats 8000000 in
theorem c_X1_tryToEat {l : Launch} {D : va_G} {cy : Nat → ClassId} {L : List Nat} {κ ln : Nat → Nat} {R : Nat → Nat → Option Nat} {I : Nat → Nat → Int32} {J : Nat → Nat → Int64} {ow : Nat → Nat × Nat} (W9 : ∀ a ∈ L, Shp L κ ln R ow a) {x : Nat} (hLx : x ∈ L) (hkx : κ x = 1) (a0 : Int32) (a1 : Int32) (a2 : Int32) (ra0 : Rg 0 6 a0) (ra1 : Rg 0 5 a1) (hU : Iv L κ R ow I) : CtI l yX1_tryToEat cX1_tryToEat 4 (some .int) { frames := 2, cells := 0, slots := 0, locals := 46 } D cy L κ ln R I J [.ref x, .int a0, .int a1, .int a2] (fun r I2 J2 => Iv L κ R ow I2 ∧ Fq L κ ow [16200, 16300, 16400, 16500] I I2 ∧ Fq L κ ow [] J J2 ∧ Rg 0 3 r) := by
  refine CtI.of (by decide +kernel) (Nat.le_of_ble_eq_true rfl) ?_
  intro p e s m below meth c B K
  have C := B.1
  have hF : Fq L κ ow [16200, 16300, 16400, 16500] I I := fq_rf
  have hG : Fq L κ ow [] J J := fq_rf
  refine g_lo (is := [0, 1, 2, 3]) (lo2 := [(0, .ref x), (1, .int a0), (2, .int a1), (3, .int a2)]) rfl ?_
  refine g_aload_n C 0 dX1_tryToEat_0 rfl rfl ?_
  refine g_iload_n C 1 dX1_tryToEat_1 rfl rfl ?_
  refine g_callVI C K (c_X1_lives W9 hLx hkx a0 (ra0) hU) hLx hkx (by decide) rfl v_1_115 rfl ⟨rfl, rfl⟩ ⟨Nat.le_of_ble_eq_true rfl, Nat.le_of_ble_eq_true rfl⟩ (Nat.le_of_ble_eq_true rfl) ⟨Nat.le_of_ble_eq_true rfl, Nat.le_of_ble_eq_true rfl⟩ dX1_tryToEat_2 rfl (st := []) (fun x_1 I_2 J_3 h_4 => ?_)
  obtain ⟨rfl, rfl, rx_1⟩ := h_4
  refine g_if_ne C (tgt := 10) dX1_tryToEat_5 (by decide) (fun h_5 => ?_) (fun h_5 => ?_)
  · skip
    have n_6 : ¬ x_1 = 0 := h_5
    have r_7 := ne_lo (lo := 1) n_6 rx_1 rc_0 rfl (by decide)
    refine g_aload_n C 0 dX1_tryToEat_10 rfl rfl ?_
    refine g_iload_n C 1 dX1_tryToEat_11 rfl rfl ?_
    refine g_iload_n C 2 dX1_tryToEat_12 rfl rfl ?_
    refine g_callVI C K (c_X1_onPlate W9 hLx hkx a0 a1 (ra0) (ra1) hU) hLx hkx (by decide) rfl v_1_71 rfl ⟨rfl, rfl⟩ ⟨Nat.le_of_ble_eq_true rfl, Nat.le_of_ble_eq_true rfl⟩ (Nat.le_of_ble_eq_true rfl) ⟨Nat.le_of_ble_eq_true rfl, Nat.le_of_ble_eq_true rfl⟩ dX1_tryToEat_13 rfl (st := []) (fun x_8 I_9 J_10 h_11 => ?_)
    obtain ⟨rfl, rfl, rx_8, fx_8⟩ := h_11
    refine g_iload_n C 3 dX1_tryToEat_16 rfl rfl ?_
    refine g_icmp_ge C (tgt := 22) dX1_tryToEat_17 (by decide) (fun h_12 => ?_) (fun h_12 => ?_)
    · skip
      refine g_aload_n C 0 dX1_tryToEat_22 rfl rfl ?_
      refine g_iload_n C 1 dX1_tryToEat_23 rfl rfl ?_
      refine g_callVI C K (c_X1_wantsYet W9 hLx hkx a0 (ra0) hU) hLx hkx (by decide) rfl v_1_109 rfl ⟨rfl, rfl⟩ ⟨Nat.le_of_ble_eq_true rfl, Nat.le_of_ble_eq_true rfl⟩ (Nat.le_of_ble_eq_true rfl) ⟨Nat.le_of_ble_eq_true rfl, Nat.le_of_ble_eq_true rfl⟩ dX1_tryToEat_24 rfl (st := []) (fun x_13 I_14 J_15 h_16 => ?_)
      obtain ⟨rfl, rfl, rx_13⟩ := h_16
      refine g_iload_n C 3 dX1_tryToEat_27 rfl rfl ?_
      refine g_icmp_ge C (tgt := 33) dX1_tryToEat_28 (by decide) (fun h_17 => ?_) (fun h_17 => ?_)
      · skip
        refine g_aload_n C 0 dX1_tryToEat_33 rfl rfl ?_
        refine g_iload_n C 1 dX1_tryToEat_34 rfl rfl ?_
        refine g_iload_n C 2 dX1_tryToEat_35 rfl rfl ?_
        refine g_iload_n C 3 dX1_tryToEat_36 rfl rfl ?_
        refine g_callVV C K (c_X1_eatUp W9 hLx hkx a0 a1 a2 (ra0) (ra1) hU) hLx hkx (by decide) rfl v_1_112 rfl ⟨rfl, rfl⟩ ⟨Nat.le_of_ble_eq_true rfl, Nat.le_of_ble_eq_true rfl⟩ (Nat.le_of_ble_eq_true rfl) ⟨Nat.le_of_ble_eq_true rfl, Nat.le_of_ble_eq_true rfl⟩ dX1_tryToEat_37 rfl (st := []) (fun I_19 J_20 h_21 => ?_)
        obtain ⟨hUI_19, hFI_19, hGJ_20⟩ := h_21
        have hF_22 := fq_tr hF hFI_19 (by decide)
        have hG_23 := fq_tr hG hGJ_20 (by decide)
        refine g_iconst C (v := 0) dX1_tryToEat_40 (by decide) ?_
        exact g_zret (ty := .int) (r := 0) B K rfl (rfl) ⟨hUI_19, hF_22, hG_23, rg_w rc_0 (by decide) (by decide)⟩ dX1_tryToEat_41
      · skip
        have r_24 := lt_l (hi := 2147483646) (nle h_17) rx_13 (rg_all a2) (by decide)
        have r_25 := lt_r (lo := (-2147483647)) (nle h_17) rx_13 (rg_all a2) (by decide)
        refine g_iconst C (v := 3) dX1_tryToEat_31 (by decide) ?_
        exact g_zret (ty := .int) (r := 3) B K rfl (rfl) ⟨hU, hF, hG, rg_w rc_3 (by decide) (by decide)⟩ dX1_tryToEat_32
    · skip
      have r_26 := lt_l (hi := 2147483646) (nle h_12) rx_8 (rg_all a2) (by decide)
      have r_27 := lt_r (lo := (-2147483647)) (nle h_12) rx_8 (rg_all a2) (by decide)
      refine g_iconst C (v := 2) dX1_tryToEat_20 (by decide) ?_
      exact g_zret (ty := .int) (r := 2) B K rfl (rfl) ⟨hU, hF, hG, rg_w rc_2 (by decide) (by decide)⟩ dX1_tryToEat_21
  · skip
    have r_28 := (⟨(rx_1).1, (eq_rg (h_5) rc_0).2⟩ : Rg 0 0 x_1)
    refine g_iconst C (v := 1) dX1_tryToEat_8 (by decide) ?_
    exact g_zret (ty := .int) (r := 1) B K rfl (rfl) ⟨hU, hF, hG, rg_w rc_1 (by decide) (by decide)⟩ dX1_tryToEat_9
set_option maxRecDepth 100000 in
set_option maxHeartbeats 8000000 in
theorem c_X5_note {l : Launch} {D : va_G} {cy : Nat → ClassId} {L : List Nat} {κ ln : Nat → Nat} {R : Nat → Nat → Option Nat} {I : Nat → Nat → Int32} {J : Nat → Nat → Int64} {ow : Nat → Nat × Nat} (W9 : ∀ a ∈ L, Shp L κ ln R ow a) {x : Nat} (hLx : x ∈ L) (hkx : κ x = 5) {a0 : Nat} (hLa0 : a0 ∈ L) (hka0 : κ a0 = 1) (hU : Iv L κ R ow I) : CtV l yX5_note cX5_note 2 none { frames := 2, cells := 0, slots := 0, locals := 81 } D cy L κ ln R I J [.ref x, .ref a0] (fun I2 J2 => Iv L κ R ow I2 ∧ Fq L κ ow [107, 108, 109, 110, 111, 112, 16100, 16200, 16300, 16400, 16500, 16600] I I2 ∧ Fq L κ ow [] J J2) := by
  refine CtV.of (by decide +kernel) (Nat.le_of_ble_eq_true rfl) ?_
  intro p e s m below meth c B K
  have C := B.1
  have hF : Fq L κ ow [107, 108, 109, 110, 111, 112, 16100, 16200, 16300, 16400, 16500, 16600] I I := fq_rf
  have hG : Fq L κ ow [] J J := fq_rf
  obtain ⟨b_1, hb_1, hb_1L, hb_1k, hb_1n, hb_1o⟩ := shp_a (W9 x hLx) hkx 0 17 9 rfl (by decide)
  refine g_lo (is := [0, 1]) (lo2 := [(0, .ref x), (1, .ref a0)]) rfl ?_
  refine g_aload_n C 0 dX5_note_0 rfl rfl ?_
  refine g_getR C K hLx hkx f_5_13 hb_1 dX5_note_1 ?_
  refine g_aload_n C 0 dX5_note_4 rfl rfl ?_
  obtain ⟨x_2, hx_2, rx_2⟩ := ex_get (I := I) (a := x) (j := 2) (lo := 0) (hi := 8) hU.1 hLx (ro_o hkx (by decide)) rfl
  refine g_getI C K hLx hkx f_5_21 (v := x_2) hx_2 dX5_note_5 ?_
  obtain ⟨b_3, hb_3, hb_3L, hb_3k⟩ := (W9 b_1 hb_1L).2.1 hb_1k (x_2.toNatClampNeg) (ix_lt rx_2 (by decide) hb_1n (by decide))
  refine h_aaldC C K hb_1L hb_1k (x_2.toNatClampNeg) (rfl) (ix_0 rx_2 (by decide)) (ix_lt rx_2 (by decide) hb_1n (by decide)) hb_3 dX5_note_8 ?_
  refine g_aload_n C 1 dX5_note_9 rfl rfl ?_
  refine g_callVV C K (c_X1_become W9 hb_3L hb_3k hLa0 hka0  hU) hb_3L hb_3k (by decide) rfl v_5_27 rfl ⟨rfl, rfl⟩ ⟨Nat.le_of_ble_eq_true rfl, Nat.le_of_ble_eq_true rfl⟩ (Nat.le_of_ble_eq_true rfl) ⟨Nat.le_of_ble_eq_true rfl, Nat.le_of_ble_eq_true rfl⟩ dX5_note_10 rfl (st := []) (fun I_5 J_6 h_7 => ?_)
  obtain ⟨hUI_5, hFI_5, hGJ_6⟩ := h_7
  have hF_8 := fq_tr hF hFI_5 (by decide)
  have hG_9 := fq_tr hG hGJ_6 (by decide)
  exact g_vret B K rfl ⟨hUI_5, hF_8, hG_9⟩ dX5_note_13
set_option maxRecDepth 100000 in
set_option maxHeartbeats 8000000 in
theorem c_X11_eat {l : Launch} {D : va_G} {cy : Nat → ClassId} {L : List Nat} {κ ln : Nat → Nat} {R : Nat → Nat → Option Nat} {I : Nat → Nat → Int32} {J : Nat → Nat → Int64} {ow : Nat → Nat × Nat} (W9 : ∀ a ∈ L, Shp L κ ln R ow a) {x : Nat} (hLx : x ∈ L) (hkx : κ x = 11) (a0 : Int32) (a1 : Int32) (a2 : Int32) (hU : Iv L κ R ow I) : CtI l yX11_eat cX11_eat 4 (some .int) { frames := 3, cells := 0, slots := 0, locals := 102 } D cy L κ ln R I J [.ref x, .int a0, .int a1, .int a2] (fun r I2 J2 => Iv L κ R ow I2 ∧ Fq L κ ow [107, 108, 109, 110, 111, 112, 501, 502, 16100, 16200, 16300, 16400, 16500, 16600] I I2 ∧ Fq L κ ow [] J J2 ∧ Rg (-1) 3 r) := by
  refine CtI.of (by decide +kernel) (Nat.le_of_ble_eq_true rfl) ?_
  intro p e s m below meth c B K
  have C := B.1
  have hF : Fq L κ ow [107, 108, 109, 110, 111, 112, 501, 502, 16100, 16200, 16300, 16400, 16500, 16600] I I := fq_rf
  have hG : Fq L κ ow [] J J := fq_rf
  obtain ⟨b_1, hb_1, hb_1L, hb_1k⟩ := shp_o (W9 x hLx) hkx 4 5 rfl (by decide)
  obtain ⟨b_2, hb_2, hb_2L, hb_2k⟩ := shp_o (W9 x hLx) hkx 1 8 rfl (by decide)
  obtain ⟨b_3, hb_3, hb_3L, hb_3k⟩ := shp_o (W9 x hLx) hkx 2 1 rfl (by decide)
  refine g_lo (is := [0, 1, 2, 3]) (lo2 := [(0, .ref x), (1, .int a0), (2, .int a1), (3, .int a2)]) rfl ?_
  refine g_aload_n C 0 dX11_eat_0 rfl rfl ?_
  refine g_getR C K hLx hkx f_11_19 hb_2 dX11_eat_1 ?_
  refine g_iload_n C 1 dX11_eat_4 rfl rfl ?_
  refine g_callVI C K (c_X8_hasPerson W9 hb_2L hb_2k a0  hU) hb_2L hb_2k (by decide) rfl v_11_133 rfl ⟨rfl, rfl⟩ ⟨Nat.le_of_ble_eq_true rfl, Nat.le_of_ble_eq_true rfl⟩ (Nat.le_of_ble_eq_true rfl) ⟨Nat.le_of_ble_eq_true rfl, Nat.le_of_ble_eq_true rfl⟩ dX11_eat_5 rfl (st := []) (fun x_4 I_5 J_6 h_7 => ?_)
  obtain ⟨rfl, rfl, rx_4, ex_4⟩ := h_7
  refine g_if_eq C (tgt := 33) dX11_eat_8 (by decide) (fun h_8 => ?_) (fun h_8 => ?_)
  · skip
    have r_9 := (⟨(rx_4).1, (eq_rg (h_8) rc_0).2⟩ : Rg 0 0 x_4)
    refine g_iconst C (v := (-1)) dX11_eat_33 (by decide) ?_
    exact g_zret (ty := .int) (r := (-1)) B K rfl (rfl) ⟨hU, hF, hG, rg_w rc_m1 (by decide) (by decide)⟩ dX11_eat_34
  · skip
    have n_10 : ¬ x_4 = 0 := h_8
    have r_11 := ne_lo (lo := 1) n_10 rx_4 rc_0 rfl (by decide)
    have r_12 := rg_i (rg_all a0) ((ex_4) n_10) (lo := 0) (hi := 6) (by decide) (by decide)
    refine g_aload_n C 0 dX11_eat_11 rfl rfl ?_
    refine g_getR C K hLx hkx f_11_19 hb_2 dX11_eat_12 ?_
    refine g_iload_n C 2 dX11_eat_15 rfl rfl ?_
    refine g_callVI C K (c_X8_hasDish W9 hb_2L hb_2k a1  hU) hb_2L hb_2k (by decide) rfl v_11_175 rfl ⟨rfl, rfl⟩ ⟨Nat.le_of_ble_eq_true rfl, Nat.le_of_ble_eq_true rfl⟩ (Nat.le_of_ble_eq_true rfl) ⟨Nat.le_of_ble_eq_true rfl, Nat.le_of_ble_eq_true rfl⟩ dX11_eat_16 rfl (st := []) (fun x_13 I_14 J_15 h_16 => ?_)
    obtain ⟨rfl, rfl, rx_13, ex_13⟩ := h_16
    refine g_if_eq C (tgt := 33) dX11_eat_19 (by decide) (fun h_17 => ?_) (fun h_17 => ?_)
    · skip
      have r_18 := (⟨(rx_13).1, (eq_rg (h_17) rc_0).2⟩ : Rg 0 0 x_13)
      refine g_iconst C (v := (-1)) dX11_eat_33 (by decide) ?_
      exact g_zret (ty := .int) (r := (-1)) B K rfl (rfl) ⟨hU, hF, hG, rg_w rc_m1 (by decide) (by decide)⟩ dX11_eat_34
    · skip
      have n_19 : ¬ x_13 = 0 := h_17
      have r_20 := ne_lo (lo := 1) n_19 rx_13 rc_0 rfl (by decide)
      have r_21 := rg_i (rg_all a1) ((ex_13) n_19) (lo := 0) (hi := 5) (by decide) (by decide)
      refine g_iload_n C 3 dX11_eat_22 rfl rfl ?_
      refine g_iconst C (v := 1) dX11_eat_23 (by decide) ?_
      refine g_icmp_lt C (tgt := 33) dX11_eat_24 (by decide) (fun h_22 => ?_) (fun h_22 => ?_)
      · skip
        have r_23 := lt_l (hi := 0) (h_22) (rg_all a2) rc_1 (by decide)
        refine g_iconst C (v := (-1)) dX11_eat_33 (by decide) ?_
        exact g_zret (ty := .int) (r := (-1)) B K rfl (rfl) ⟨hU, hF, hG, rg_w rc_m1 (by decide) (by decide)⟩ dX11_eat_34
      · skip
        have r_24 := le_r (nlt h_22) rc_1 (rg_all a2)
        refine g_iload_n C 3 dX11_eat_27 rfl rfl ?_
        refine g_bipush C (v := 20) dX11_eat_28 (by decide) ?_
        refine g_icmp_le C (tgt := 35) dX11_eat_30 (by decide) (fun h_25 => ?_) (fun h_25 => ?_)
        · skip
          have r_26 := le_l (h_25) r_24 rc_20
          refine g_aload_n C 0 dX11_eat_35 rfl rfl ?_
          refine g_getR C K hLx hkx f_11_38 hb_1 dX11_eat_36 ?_
          refine g_aload_n C 0 dX11_eat_39 rfl rfl ?_
          refine g_getR C K hLx hkx f_11_28 hb_3 dX11_eat_40 ?_
          refine g_callVV C K (c_X5_note W9 hb_1L hb_1k hb_3L hb_3k  hU) hb_1L hb_1k (by decide) rfl v_11_225 rfl ⟨rfl, rfl⟩ ⟨Nat.le_of_ble_eq_true rfl, Nat.le_of_ble_eq_true rfl⟩ (Nat.le_of_ble_eq_true rfl) ⟨Nat.le_of_ble_eq_true rfl, Nat.le_of_ble_eq_true rfl⟩ dX11_eat_43 rfl (st := []) (fun I_28 J_29 h_30 => ?_)
          obtain ⟨hUI_28, hFI_28, hGJ_29⟩ := h_30
          have hF_31 := fq_tr hF hFI_28 (by decide)
          have hG_32 := fq_tr hG hGJ_29 (by decide)
          refine g_aload_n C 0 dX11_eat_46 rfl rfl ?_
          refine g_aload_n C 0 dX11_eat_47 rfl rfl ?_
          refine g_getR C K hLx hkx f_11_28 hb_3 dX11_eat_48 ?_
          refine g_iload_n C 1 dX11_eat_51 rfl rfl ?_
          refine g_iload_n C 2 dX11_eat_52 rfl rfl ?_
          refine g_iload_n C 3 dX11_eat_53 rfl rfl ?_
          refine g_callVI C K (c_X1_tryToEat W9 hb_3L hb_3k a0 a1 a2 (r_12) (r_21) hUI_28) hb_3L hb_3k (by decide) rfl v_11_228 rfl ⟨rfl, rfl⟩ ⟨Nat.le_of_ble_eq_true rfl, Nat.le_of_ble_eq_true rfl⟩ (Nat.le_of_ble_eq_true rfl) ⟨Nat.le_of_ble_eq_true rfl, Nat.le_of_ble_eq_true rfl⟩ dX11_eat_54 rfl (st := [.ref x]) (fun x_33 I_34 J_35 h_36 => ?_)
          obtain ⟨hUI_34, hFI_34, hGJ_35, rx_33⟩ := h_36
          have hF_37 := fq_tr hF_31 hFI_34 (by decide)
          have hG_38 := fq_tr hG_32 hGJ_35 (by decide)
          refine g_callVI C K (c_X11_keptIfDone W9 hLx hkx x_33 (rx_33) hUI_34) hLx hkx (by decide) rfl v_11_232 rfl ⟨rfl, rfl⟩ ⟨Nat.le_of_ble_eq_true rfl, Nat.le_of_ble_eq_true rfl⟩ (Nat.le_of_ble_eq_true rfl) ⟨Nat.le_of_ble_eq_true rfl, Nat.le_of_ble_eq_true rfl⟩ dX11_eat_57 rfl (st := []) (fun x_39 I_40 J_41 h_42 => ?_)
          obtain ⟨hUI_40, hFI_40, hGJ_41, rx_39⟩ := h_42
          have hF_43 := fq_tr hF_37 hFI_40 (by decide)
          have hG_44 := fq_tr hG_38 hGJ_41 (by decide)
          exact g_zret (ty := .int) (r := x_39) B K rfl (rfl) ⟨hUI_40, hF_43, hG_44, rg_w rx_39 (by decide) (by decide)⟩ dX11_eat_60
        · skip
          have r_45 := lt_r (lo := 21) (nle h_25) rc_20 r_24 (by decide)
          refine g_iconst C (v := (-1)) dX11_eat_33 (by decide) ?_
          exact g_zret (ty := .int) (r := (-1)) B K rfl (rfl) ⟨hU, hF, hG, rg_w rc_m1 (by decide) (by decide)⟩ dX11_eat_34
set_option maxRecDepth 100000 in
set_option maxHeartbeats 8000000 in
theorem c_X1_tryToServe {l : Launch} {D : va_G} {cy : Nat → ClassId} {L : List Nat} {κ ln : Nat → Nat} {R : Nat → Nat → Option Nat} {I : Nat → Nat → Int32} {J : Nat → Nat → Int64} {ow : Nat → Nat × Nat} (W9 : ∀ a ∈ L, Shp L κ ln R ow a) {x : Nat} (hLx : x ∈ L) (hkx : κ x = 1) (a0 : Int32) (a1 : Int32) (a2 : Int32) (ra0 : Rg 0 6 a0) (ra1 : Rg 0 5 a1) (hU : Iv L κ R ow I) : CtI l yX1_tryToServe cX1_tryToServe 4 (some .int) { frames := 1, cells := 0, slots := 0, locals := 23 } D cy L κ ln R I J [.ref x, .int a0, .int a1, .int a2] (fun r I2 J2 => Iv L κ R ow I2 ∧ Fq L κ ow [16100, 16200, 16300] I I2 ∧ Fq L κ ow [] J J2 ∧ Rg 0 2 r) := by
  refine CtI.of (by decide +kernel) (Nat.le_of_ble_eq_true rfl) ?_
  intro p e s m below meth c B K
  have C := B.1
  have hF : Fq L κ ow [16100, 16200, 16300] I I := fq_rf
  have hG : Fq L κ ow [] J J := fq_rf
  obtain ⟨b_1, hb_1, hb_1L, hb_1k, hb_1n, hb_1o⟩ := shp_a (W9 x hLx) hkx 1 14 6 rfl (by decide)
  refine g_lo (is := [0, 1, 2, 3]) (lo2 := [(0, .ref x), (1, .int a0), (2, .int a1), (3, .int a2)]) rfl ?_
  refine g_aload_n C 0 dX1_tryToServe_0 rfl rfl ?_
  refine g_iload_n C 1 dX1_tryToServe_1 rfl rfl ?_
  refine g_callVI C K (c_X1_lives W9 hLx hkx a0 (ra0) hU) hLx hkx (by decide) rfl v_1_115 rfl ⟨rfl, rfl⟩ ⟨Nat.le_of_ble_eq_true rfl, Nat.le_of_ble_eq_true rfl⟩ (Nat.le_of_ble_eq_true rfl) ⟨Nat.le_of_ble_eq_true rfl, Nat.le_of_ble_eq_true rfl⟩ dX1_tryToServe_2 rfl (st := []) (fun x_2 I_3 J_4 h_5 => ?_)
  obtain ⟨rfl, rfl, rx_2⟩ := h_5
  refine g_if_ne C (tgt := 10) dX1_tryToServe_5 (by decide) (fun h_6 => ?_) (fun h_6 => ?_)
  · skip
    have n_7 : ¬ x_2 = 0 := h_6
    have r_8 := ne_lo (lo := 1) n_7 rx_2 rc_0 rfl (by decide)
    refine g_aload_n C 0 dX1_tryToServe_10 rfl rfl ?_
    refine g_getR C K hLx hkx f_1_9 hb_1 dX1_tryToServe_11 ?_
    refine g_iload_n C 2 dX1_tryToServe_14 rfl rfl ?_
    obtain ⟨x_9, hx_9, rx_9⟩ := ex_any (z0 := I b_1 (a1.toNatClampNeg))
    refine h_iald C K hb_1L hb_1k (v := x_9) (a1.toNatClampNeg) (rfl) (ix_0 ra1 (by decide)) (ix_lt ra1 (by decide) hb_1n (by decide)) hx_9 dX1_tryToServe_15 ?_
    refine g_iload_n C 3 dX1_tryToServe_16 rfl rfl ?_
    refine g_icmp_ge C (tgt := 22) dX1_tryToServe_17 (by decide) (fun h_10 => ?_) (fun h_10 => ?_)
    · skip
      refine g_aload_n C 0 dX1_tryToServe_22 rfl rfl ?_
      refine g_getR C K hLx hkx f_1_9 hb_1 dX1_tryToServe_23 ?_
      refine g_iload_n C 2 dX1_tryToServe_26 rfl rfl ?_
      refine g_dup2 C dX1_tryToServe_27 rfl rfl ?_
      refine h_iald C K hb_1L hb_1k (v := x_9) (a1.toNatClampNeg) (rfl) (ix_0 ra1 (by decide)) (ix_lt ra1 (by decide) hb_1n (by decide)) hx_9 dX1_tryToServe_28 ?_
      refine g_iload_n C 3 dX1_tryToServe_29 rfl rfl ?_
      obtain ⟨x_12, hx_12, rx_12⟩ := ex_any (z0 := x_9 - a2)
      refine g_isub C (v := x_12) dX1_tryToServe_30 hx_12 ?_
      refine h_iast C K hb_1L hb_1k (a1.toNatClampNeg) (rfl) (ix_0 ra1 (by decide)) (ix_lt ra1 (by decide) hb_1n (by decide)) dX1_tryToServe_31 (fun I_13 hI_13 => ?_)
      have hU_14 := iv_put W9 hU hI_13 (ro_a hb_1k (by decide) hb_1o hkx rfl) (lo := (-2147483648)) (hi := 2147483647) (rfl) (rx_12) rfl
      have hF_15 := fq_puta hF hI_13 (ro_a hb_1k (by decide) hb_1o hkx rfl) (by decide) (by decide)
      refine g_aload_n C 0 dX1_tryToServe_32 rfl rfl ?_
      refine g_iload_n C 1 dX1_tryToServe_33 rfl rfl ?_
      refine g_iload_n C 2 dX1_tryToServe_34 rfl rfl ?_
      refine g_iload_n C 3 dX1_tryToServe_35 rfl rfl ?_
      refine g_callVV C K (c_X1_addToPlate W9 hLx hkx a0 a1 a2 (ra0) (ra1) hU_14) hLx hkx (by decide) rfl v_1_105 rfl ⟨rfl, rfl⟩ ⟨Nat.le_of_ble_eq_true rfl, Nat.le_of_ble_eq_true rfl⟩ (Nat.le_of_ble_eq_true rfl) ⟨Nat.le_of_ble_eq_true rfl, Nat.le_of_ble_eq_true rfl⟩ dX1_tryToServe_36 rfl (st := []) (fun I_17 J_18 h_19 => ?_)
      obtain ⟨hUI_17, hFI_17, hGJ_18, fx_16⟩ := h_19
      have hF_20 := fq_tr hF_15 hFI_17 (by decide)
      have hG_21 := fq_tr hG hGJ_18 (by decide)
      refine g_iconst C (v := 0) dX1_tryToServe_39 (by decide) ?_
      exact g_zret (ty := .int) (r := 0) B K rfl (rfl) ⟨hUI_17, hF_20, hG_21, rg_w rc_0 (by decide) (by decide)⟩ dX1_tryToServe_40
    · skip
      have r_22 := lt_l (hi := 2147483646) (nle h_10) rx_9 (rg_all a2) (by decide)
      have r_23 := lt_r (lo := (-2147483647)) (nle h_10) rx_9 (rg_all a2) (by decide)
      refine g_iconst C (v := 2) dX1_tryToServe_20 (by decide) ?_
      exact g_zret (ty := .int) (r := 2) B K rfl (rfl) ⟨hU, hF, hG, rg_w rc_2 (by decide) (by decide)⟩ dX1_tryToServe_21
  · skip
    have r_24 := (⟨(rx_2).1, (eq_rg (h_6) rc_0).2⟩ : Rg 0 0 x_2)
    refine g_iconst C (v := 1) dX1_tryToServe_8 (by decide) ?_
    exact g_zret (ty := .int) (r := 1) B K rfl (rfl) ⟨hU, hF, hG, rg_w rc_1 (by decide) (by decide)⟩ dX1_tryToServe_9
set_option maxRecDepth 100000 in
set_option maxHeartbeats 8000000 in
theorem c_X11_serve {l : Launch} {D : va_G} {cy : Nat → ClassId} {L : List Nat} {κ ln : Nat → Nat} {R : Nat → Nat → Option Nat} {I : Nat → Nat → Int32} {J : Nat → Nat → Int64} {ow : Nat → Nat × Nat} (W9 : ∀ a ∈ L, Shp L κ ln R ow a) {x : Nat} (hLx : x ∈ L) (hkx : κ x = 11) (a0 : Int32) (a1 : Int32) (a2 : Int32) (hU : Iv L κ R ow I) : CtI l yX11_serve cX11_serve 4 (some .int) { frames := 3, cells := 0, slots := 0, locals := 102 } D cy L κ ln R I J [.ref x, .int a0, .int a1, .int a2] (fun r I2 J2 => Iv L κ R ow I2 ∧ Fq L κ ow [107, 108, 109, 110, 111, 112, 501, 502, 16100, 16200, 16300, 16400, 16500, 16600] I I2 ∧ Fq L κ ow [] J J2 ∧ Rg (-1) 3 r) := by
  refine CtI.of (by decide +kernel) (Nat.le_of_ble_eq_true rfl) ?_
  intro p e s m below meth c B K
  have C := B.1
  have hF : Fq L κ ow [107, 108, 109, 110, 111, 112, 501, 502, 16100, 16200, 16300, 16400, 16500, 16600] I I := fq_rf
  have hG : Fq L κ ow [] J J := fq_rf
  obtain ⟨b_1, hb_1, hb_1L, hb_1k⟩ := shp_o (W9 x hLx) hkx 4 5 rfl (by decide)
  obtain ⟨b_2, hb_2, hb_2L, hb_2k⟩ := shp_o (W9 x hLx) hkx 1 8 rfl (by decide)
  obtain ⟨b_3, hb_3, hb_3L, hb_3k⟩ := shp_o (W9 x hLx) hkx 2 1 rfl (by decide)
  refine g_lo (is := [0, 1, 2, 3]) (lo2 := [(0, .ref x), (1, .int a0), (2, .int a1), (3, .int a2)]) rfl ?_
  refine g_aload_n C 0 dX11_serve_0 rfl rfl ?_
  refine g_getR C K hLx hkx f_11_19 hb_2 dX11_serve_1 ?_
  refine g_iload_n C 1 dX11_serve_4 rfl rfl ?_
  refine g_callVI C K (c_X8_hasPerson W9 hb_2L hb_2k a0  hU) hb_2L hb_2k (by decide) rfl v_11_133 rfl ⟨rfl, rfl⟩ ⟨Nat.le_of_ble_eq_true rfl, Nat.le_of_ble_eq_true rfl⟩ (Nat.le_of_ble_eq_true rfl) ⟨Nat.le_of_ble_eq_true rfl, Nat.le_of_ble_eq_true rfl⟩ dX11_serve_5 rfl (st := []) (fun x_4 I_5 J_6 h_7 => ?_)
  obtain ⟨rfl, rfl, rx_4, ex_4⟩ := h_7
  refine g_if_eq C (tgt := 33) dX11_serve_8 (by decide) (fun h_8 => ?_) (fun h_8 => ?_)
  · skip
    have r_9 := (⟨(rx_4).1, (eq_rg (h_8) rc_0).2⟩ : Rg 0 0 x_4)
    refine g_iconst C (v := (-1)) dX11_serve_33 (by decide) ?_
    exact g_zret (ty := .int) (r := (-1)) B K rfl (rfl) ⟨hU, hF, hG, rg_w rc_m1 (by decide) (by decide)⟩ dX11_serve_34
  · skip
    have n_10 : ¬ x_4 = 0 := h_8
    have r_11 := ne_lo (lo := 1) n_10 rx_4 rc_0 rfl (by decide)
    have r_12 := rg_i (rg_all a0) ((ex_4) n_10) (lo := 0) (hi := 6) (by decide) (by decide)
    refine g_aload_n C 0 dX11_serve_11 rfl rfl ?_
    refine g_getR C K hLx hkx f_11_19 hb_2 dX11_serve_12 ?_
    refine g_iload_n C 2 dX11_serve_15 rfl rfl ?_
    refine g_callVI C K (c_X8_hasDish W9 hb_2L hb_2k a1  hU) hb_2L hb_2k (by decide) rfl v_11_175 rfl ⟨rfl, rfl⟩ ⟨Nat.le_of_ble_eq_true rfl, Nat.le_of_ble_eq_true rfl⟩ (Nat.le_of_ble_eq_true rfl) ⟨Nat.le_of_ble_eq_true rfl, Nat.le_of_ble_eq_true rfl⟩ dX11_serve_16 rfl (st := []) (fun x_13 I_14 J_15 h_16 => ?_)
    obtain ⟨rfl, rfl, rx_13, ex_13⟩ := h_16
    refine g_if_eq C (tgt := 33) dX11_serve_19 (by decide) (fun h_17 => ?_) (fun h_17 => ?_)
    · skip
      have r_18 := (⟨(rx_13).1, (eq_rg (h_17) rc_0).2⟩ : Rg 0 0 x_13)
      refine g_iconst C (v := (-1)) dX11_serve_33 (by decide) ?_
      exact g_zret (ty := .int) (r := (-1)) B K rfl (rfl) ⟨hU, hF, hG, rg_w rc_m1 (by decide) (by decide)⟩ dX11_serve_34
    · skip
      have n_19 : ¬ x_13 = 0 := h_17
      have r_20 := ne_lo (lo := 1) n_19 rx_13 rc_0 rfl (by decide)
      have r_21 := rg_i (rg_all a1) ((ex_13) n_19) (lo := 0) (hi := 5) (by decide) (by decide)
      refine g_iload_n C 3 dX11_serve_22 rfl rfl ?_
      refine g_iconst C (v := 1) dX11_serve_23 (by decide) ?_
      refine g_icmp_lt C (tgt := 33) dX11_serve_24 (by decide) (fun h_22 => ?_) (fun h_22 => ?_)
      · skip
        have r_23 := lt_l (hi := 0) (h_22) (rg_all a2) rc_1 (by decide)
        refine g_iconst C (v := (-1)) dX11_serve_33 (by decide) ?_
        exact g_zret (ty := .int) (r := (-1)) B K rfl (rfl) ⟨hU, hF, hG, rg_w rc_m1 (by decide) (by decide)⟩ dX11_serve_34
      · skip
        have r_24 := le_r (nlt h_22) rc_1 (rg_all a2)
        refine g_iload_n C 3 dX11_serve_27 rfl rfl ?_
        refine g_bipush C (v := 40) dX11_serve_28 (by decide) ?_
        refine g_icmp_le C (tgt := 35) dX11_serve_30 (by decide) (fun h_25 => ?_) (fun h_25 => ?_)
        · skip
          have r_26 := le_l (h_25) r_24 rc_40
          refine g_aload_n C 0 dX11_serve_35 rfl rfl ?_
          refine g_getR C K hLx hkx f_11_38 hb_1 dX11_serve_36 ?_
          refine g_aload_n C 0 dX11_serve_39 rfl rfl ?_
          refine g_getR C K hLx hkx f_11_28 hb_3 dX11_serve_40 ?_
          refine g_callVV C K (c_X5_note W9 hb_1L hb_1k hb_3L hb_3k  hU) hb_1L hb_1k (by decide) rfl v_11_225 rfl ⟨rfl, rfl⟩ ⟨Nat.le_of_ble_eq_true rfl, Nat.le_of_ble_eq_true rfl⟩ (Nat.le_of_ble_eq_true rfl) ⟨Nat.le_of_ble_eq_true rfl, Nat.le_of_ble_eq_true rfl⟩ dX11_serve_43 rfl (st := []) (fun I_28 J_29 h_30 => ?_)
          obtain ⟨hUI_28, hFI_28, hGJ_29⟩ := h_30
          have hF_31 := fq_tr hF hFI_28 (by decide)
          have hG_32 := fq_tr hG hGJ_29 (by decide)
          refine g_aload_n C 0 dX11_serve_46 rfl rfl ?_
          refine g_aload_n C 0 dX11_serve_47 rfl rfl ?_
          refine g_getR C K hLx hkx f_11_28 hb_3 dX11_serve_48 ?_
          refine g_iload_n C 1 dX11_serve_51 rfl rfl ?_
          refine g_iload_n C 2 dX11_serve_52 rfl rfl ?_
          refine g_iload_n C 3 dX11_serve_53 rfl rfl ?_
          refine g_callVI C K (c_X1_tryToServe W9 hb_3L hb_3k a0 a1 a2 (r_12) (r_21) hUI_28) hb_3L hb_3k (by decide) rfl v_11_235 rfl ⟨rfl, rfl⟩ ⟨Nat.le_of_ble_eq_true rfl, Nat.le_of_ble_eq_true rfl⟩ (Nat.le_of_ble_eq_true rfl) ⟨Nat.le_of_ble_eq_true rfl, Nat.le_of_ble_eq_true rfl⟩ dX11_serve_54 rfl (st := [.ref x]) (fun x_33 I_34 J_35 h_36 => ?_)
          obtain ⟨hUI_34, hFI_34, hGJ_35, rx_33⟩ := h_36
          have hF_37 := fq_tr hF_31 hFI_34 (by decide)
          have hG_38 := fq_tr hG_32 hGJ_35 (by decide)
          refine g_callVI C K (c_X11_keptIfDone W9 hLx hkx x_33 (rg_w rx_33 (by decide) (by decide)) hUI_34) hLx hkx (by decide) rfl v_11_232 rfl ⟨rfl, rfl⟩ ⟨Nat.le_of_ble_eq_true rfl, Nat.le_of_ble_eq_true rfl⟩ (Nat.le_of_ble_eq_true rfl) ⟨Nat.le_of_ble_eq_true rfl, Nat.le_of_ble_eq_true rfl⟩ dX11_serve_57 rfl (st := []) (fun x_39 I_40 J_41 h_42 => ?_)
          obtain ⟨hUI_40, hFI_40, hGJ_41, rx_39⟩ := h_42
          have hF_43 := fq_tr hF_37 hFI_40 (by decide)
          have hG_44 := fq_tr hG_38 hGJ_41 (by decide)
          exact g_zret (ty := .int) (r := x_39) B K rfl (rfl) ⟨hUI_40, hF_43, hG_44, rg_w rx_39 (by decide) (by decide)⟩ dX11_serve_60
        · skip
          have r_45 := lt_r (lo := 41) (nle h_25) rc_40 r_24 (by decide)
          refine g_iconst C (v := (-1)) dX11_serve_33 (by decide) ?_
          exact g_zret (ty := .int) (r := (-1)) B K rfl (rfl) ⟨hU, hF, hG, rg_w rc_m1 (by decide) (by decide)⟩ dX11_serve_34
