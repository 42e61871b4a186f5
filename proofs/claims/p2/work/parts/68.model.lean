theorem dX12_last_0 : decode cX12_last 0 = .ok (.aload_n 0, 1) := by decide +kernel
theorem dX12_last_1 : decode cX12_last 1 = .ok (.iconst 0, 1) := by decide +kernel
theorem dX12_last_2 : decode cX12_last 2 = .ok (.putfield 82, 3) := by decide +kernel
theorem dX12_last_5 : decode cX12_last 5 = .ok (.aload_n 0, 1) := by decide +kernel
theorem dX12_last_6 : decode cX12_last 6 = .ok (.iload_n 1, 1) := by decide +kernel
theorem dX12_last_7 : decode cX12_last 7 = .ok (.invokevirtual 250, 3) := by decide +kernel
theorem dX12_last_10 : decode cX12_last 10 = .ok (.ifCond .ne 5, 3) := by decide +kernel
theorem dX12_last_13 : decode cX12_last 13 = .ok (.iconst (-1), 1) := by decide +kernel
theorem dX12_last_14 : decode cX12_last 14 = .ok (.ireturn, 1) := by decide +kernel
theorem dX12_last_15 : decode cX12_last 15 = .ok (.aload_n 0, 1) := by decide +kernel
theorem dX12_last_16 : decode cX12_last 16 = .ok (.getfield 13, 3) := by decide +kernel
theorem dX12_last_19 : decode cX12_last 19 = .ok (.bipush 78, 2) := by decide +kernel
theorem dX12_last_21 : decode cX12_last 21 = .ok (.iload_n 1, 1) := by decide +kernel
theorem dX12_last_22 : decode cX12_last 22 = .ok (.iadd, 1) := by decide +kernel
theorem dX12_last_23 : decode cX12_last 23 = .ok (.iaload, 1) := by decide +kernel
theorem dX12_last_24 : decode cX12_last 24 = .ok (.istore_n 2, 1) := by decide +kernel
theorem dX12_last_25 : decode cX12_last 25 = .ok (.aload_n 0, 1) := by decide +kernel
theorem dX12_last_26 : decode cX12_last 26 = .ok (.getfield 61, 3) := by decide +kernel
theorem dX12_last_29 : decode cX12_last 29 = .ok (.iconst 0, 1) := by decide +kernel
theorem dX12_last_30 : decode cX12_last 30 = .ok (.iconst 1, 1) := by decide +kernel
theorem dX12_last_31 : decode cX12_last 31 = .ok (.bastore, 1) := by decide +kernel
theorem dX12_last_32 : decode cX12_last 32 = .ok (.iconst 0, 1) := by decide +kernel
theorem dX12_last_33 : decode cX12_last 33 = .ok (.istore_n 3, 1) := by decide +kernel
theorem dX12_last_34 : decode cX12_last 34 = .ok (.iconst 1, 1) := by decide +kernel
theorem dX12_last_35 : decode cX12_last 35 = .ok (.istore 4, 2) := by decide +kernel
theorem dX12_last_37 : decode cX12_last 37 = .ok (.iload 4, 2) := by decide +kernel
theorem dX12_last_39 : decode cX12_last 39 = .ok (.iload_n 2, 1) := by decide +kernel
theorem dX12_last_40 : decode cX12_last 40 = .ok (.if_icmp .gt 65, 3) := by decide +kernel
theorem dX12_last_43 : decode cX12_last 43 = .ok (.aload_n 0, 1) := by decide +kernel
theorem dX12_last_44 : decode cX12_last 44 = .ok (.getfield 61, 3) := by decide +kernel
theorem dX12_last_47 : decode cX12_last 47 = .ok (.iload 4, 2) := by decide +kernel
theorem dX12_last_49 : decode cX12_last 49 = .ok (.iconst 0, 1) := by decide +kernel
theorem dX12_last_50 : decode cX12_last 50 = .ok (.bastore, 1) := by decide +kernel
theorem dX12_last_51 : decode cX12_last 51 = .ok (.iconst 0, 1) := by decide +kernel
theorem dX12_last_52 : decode cX12_last 52 = .ok (.istore_n 3, 1) := by decide +kernel
theorem dX12_last_53 : decode cX12_last 53 = .ok (.iconst 3, 1) := by decide +kernel
theorem dX12_last_54 : decode cX12_last 54 = .ok (.iload 4, 2) := by decide +kernel
theorem dX12_last_56 : decode cX12_last 56 = .ok (.invokestatic 265, 3) := by decide +kernel
theorem dX12_last_59 : decode cX12_last 59 = .ok (.istore 5, 2) := by decide +kernel
theorem dX12_last_61 : decode cX12_last 61 = .ok (.iload 5, 2) := by decide +kernel
theorem dX12_last_63 : decode cX12_last 63 = .ok (.ifCond .le 36, 3) := by decide +kernel
theorem dX12_last_66 : decode cX12_last 66 = .ok (.aload_n 0, 1) := by decide +kernel
theorem dX12_last_67 : decode cX12_last 67 = .ok (.getfield 61, 3) := by decide +kernel
theorem dX12_last_70 : decode cX12_last 70 = .ok (.iload 4, 2) := by decide +kernel
theorem dX12_last_72 : decode cX12_last 72 = .ok (.iload 5, 2) := by decide +kernel
theorem dX12_last_74 : decode cX12_last 74 = .ok (.isub, 1) := by decide +kernel
theorem dX12_last_75 : decode cX12_last 75 = .ok (.baload, 1) := by decide +kernel
theorem dX12_last_76 : decode cX12_last 76 = .ok (.ifCond .eq 6, 3) := by decide +kernel
theorem dX12_last_79 : decode cX12_last 79 = .ok (.goto 14, 3) := by decide +kernel
theorem dX12_last_82 : decode cX12_last 82 = .ok (.aload_n 0, 1) := by decide +kernel
theorem dX12_last_83 : decode cX12_last 83 = .ok (.getfield 61, 3) := by decide +kernel
theorem dX12_last_86 : decode cX12_last 86 = .ok (.iload 4, 2) := by decide +kernel
theorem dX12_last_88 : decode cX12_last 88 = .ok (.iconst 1, 1) := by decide +kernel
theorem dX12_last_89 : decode cX12_last 89 = .ok (.bastore, 1) := by decide +kernel
theorem dX12_last_90 : decode cX12_last 90 = .ok (.iload 5, 2) := by decide +kernel
theorem dX12_last_92 : decode cX12_last 92 = .ok (.istore_n 3, 1) := by decide +kernel
theorem dX12_last_93 : decode cX12_last 93 = .ok (.iinc 5 (-1), 3) := by decide +kernel
theorem dX12_last_96 : decode cX12_last 96 = .ok (.goto (-35), 3) := by decide +kernel
theorem dX12_last_99 : decode cX12_last 99 = .ok (.iinc 4 1, 3) := by decide +kernel
theorem dX12_last_102 : decode cX12_last 102 = .ok (.goto (-65), 3) := by decide +kernel
theorem dX12_last_105 : decode cX12_last 105 = .ok (.iload_n 3, 1) := by decide +kernel
theorem dX12_last_106 : decode cX12_last 106 = .ok (.ireturn, 1) := by decide +kernel
theorem dX12_left_0 : decode cX12_left 0 = .ok (.aload_n 0, 1) := by decide +kernel
theorem dX12_left_1 : decode cX12_left 1 = .ok (.iconst 0, 1) := by decide +kernel
theorem dX12_left_2 : decode cX12_left 2 = .ok (.putfield 82, 3) := by decide +kernel
theorem dX12_left_5 : decode cX12_left 5 = .ok (.aload_n 0, 1) := by decide +kernel
theorem dX12_left_6 : decode cX12_left 6 = .ok (.invokevirtual 162, 3) := by decide +kernel
theorem dX12_left_9 : decode cX12_left 9 = .ok (.istore_n 2, 1) := by decide +kernel
theorem dX12_left_10 : decode cX12_left 10 = .ok (.aload_n 0, 1) := by decide +kernel
theorem dX12_left_11 : decode cX12_left 11 = .ok (.iload_n 1, 1) := by decide +kernel
theorem dX12_left_12 : decode cX12_left 12 = .ok (.invokevirtual 238, 3) := by decide +kernel
theorem dX12_left_15 : decode cX12_left 15 = .ok (.ifCond .eq 13, 3) := by decide +kernel
theorem dX12_left_18 : decode cX12_left 18 = .ok (.iload_n 2, 1) := by decide +kernel
theorem dX12_left_19 : decode cX12_left 19 = .ok (.iconst 1, 1) := by decide +kernel
theorem dX12_left_20 : decode cX12_left 20 = .ok (.bipush 7, 2) := by decide +kernel
theorem dX12_left_22 : decode cX12_left 22 = .ok (.invokestatic 149, 3) := by decide +kernel
theorem dX12_left_25 : decode cX12_left 25 = .ok (.ifCond .ne 5, 3) := by decide +kernel
theorem dX12_left_28 : decode cX12_left 28 = .ok (.iconst (-1), 1) := by decide +kernel
theorem dX12_left_29 : decode cX12_left 29 = .ok (.ireturn, 1) := by decide +kernel
theorem dX12_left_30 : decode cX12_left 30 = .ok (.iconst 0, 1) := by decide +kernel
theorem dX12_left_31 : decode cX12_left 31 = .ok (.istore_n 3, 1) := by decide +kernel
theorem dX12_left_32 : decode cX12_left 32 = .ok (.iload_n 3, 1) := by decide +kernel
theorem dX12_left_33 : decode cX12_left 33 = .ok (.iload_n 2, 1) := by decide +kernel
theorem dX12_left_34 : decode cX12_left 34 = .ok (.if_icmp .ge 24, 3) := by decide +kernel
theorem dX12_left_37 : decode cX12_left 37 = .ok (.aload_n 0, 1) := by decide +kernel
theorem dX12_left_38 : decode cX12_left 38 = .ok (.aload_n 0, 1) := by decide +kernel
theorem dX12_left_39 : decode cX12_left 39 = .ok (.getfield 7, 3) := by decide +kernel
theorem dX12_left_42 : decode cX12_left 42 = .ok (.iload_n 3, 1) := by decide +kernel
theorem dX12_left_43 : decode cX12_left 43 = .ok (.iaload, 1) := by decide +kernel
theorem dX12_left_44 : decode cX12_left 44 = .ok (.invokevirtual 238, 3) := by decide +kernel
theorem dX12_left_47 : decode cX12_left 47 = .ok (.ifCond .ne 5, 3) := by decide +kernel
theorem dX12_left_50 : decode cX12_left 50 = .ok (.iconst (-1), 1) := by decide +kernel
theorem dX12_left_51 : decode cX12_left 51 = .ok (.ireturn, 1) := by decide +kernel
theorem dX12_left_52 : decode cX12_left 52 = .ok (.iinc 3 1, 3) := by decide +kernel
theorem dX12_left_55 : decode cX12_left 55 = .ok (.goto (-23), 3) := by decide +kernel
theorem dX12_left_58 : decode cX12_left 58 = .ok (.aload_n 0, 1) := by decide +kernel
theorem dX12_left_59 : decode cX12_left 59 = .ok (.invokevirtual 329, 3) := by decide +kernel
theorem dX12_left_62 : decode cX12_left 62 = .ok (.iconst 0, 1) := by decide +kernel
theorem dX12_left_63 : decode cX12_left 63 = .ok (.istore_n 3, 1) := by decide +kernel
theorem dX12_left_64 : decode cX12_left 64 = .ok (.iload_n 3, 1) := by decide +kernel
theorem dX12_left_65 : decode cX12_left 65 = .ok (.iload_n 2, 1) := by decide +kernel
theorem dX12_left_66 : decode cX12_left 66 = .ok (.if_icmp .ge 35, 3) := by decide +kernel
theorem dX12_left_69 : decode cX12_left 69 = .ok (.aload_n 0, 1) := by decide +kernel
theorem dX12_left_70 : decode cX12_left 70 = .ok (.aload_n 0, 1) := by decide +kernel
theorem dX12_left_71 : decode cX12_left 71 = .ok (.getfield 7, 3) := by decide +kernel
theorem dX12_left_74 : decode cX12_left 74 = .ok (.iload_n 3, 1) := by decide +kernel
theorem dX12_left_75 : decode cX12_left 75 = .ok (.iaload, 1) := by decide +kernel
theorem dX12_left_76 : decode cX12_left 76 = .ok (.invokevirtual 244, 3) := by decide +kernel
theorem dX12_left_79 : decode cX12_left 79 = .ok (.ifCond .ne 16, 3) := by decide +kernel
theorem dX12_left_82 : decode cX12_left 82 = .ok (.aload_n 0, 1) := by decide +kernel
theorem dX12_left_83 : decode cX12_left 83 = .ok (.iconst 5, 1) := by decide +kernel
theorem dX12_left_84 : decode cX12_left 84 = .ok (.aload_n 0, 1) := by decide +kernel
theorem dX12_left_85 : decode cX12_left 85 = .ok (.getfield 7, 3) := by decide +kernel
theorem dX12_left_88 : decode cX12_left 88 = .ok (.iload_n 3, 1) := by decide +kernel
theorem dX12_left_89 : decode cX12_left 89 = .ok (.iaload, 1) := by decide +kernel
theorem dX12_left_90 : decode cX12_left 90 = .ok (.iconst 0, 1) := by decide +kernel
theorem dX12_left_91 : decode cX12_left 91 = .ok (.iconst 0, 1) := by decide +kernel
theorem dX12_left_92 : decode cX12_left 92 = .ok (.invokevirtual 285, 3) := by decide +kernel
theorem dX12_left_95 : decode cX12_left 95 = .ok (.iinc 3 1, 3) := by decide +kernel
theorem dX12_left_98 : decode cX12_left 98 = .ok (.goto (-34), 3) := by decide +kernel
theorem dX12_left_101 : decode cX12_left 101 = .ok (.aload_n 0, 1) := by decide +kernel
theorem dX12_left_102 : decode cX12_left 102 = .ok (.iload_n 1, 1) := by decide +kernel
theorem dX12_left_103 : decode cX12_left 103 = .ok (.invokevirtual 247, 3) := by decide +kernel
theorem dX12_left_106 : decode cX12_left 106 = .ok (.istore_n 3, 1) := by decide +kernel
theorem dX12_left_107 : decode cX12_left 107 = .ok (.aload_n 0, 1) := by decide +kernel
theorem dX12_left_108 : decode cX12_left 108 = .ok (.invokevirtual 332, 3) := by decide +kernel
theorem dX12_left_111 : decode cX12_left 111 = .ok (.iload_n 3, 1) := by decide +kernel
theorem dX12_left_112 : decode cX12_left 112 = .ok (.ireturn, 1) := by decide +kernel
theorem dX12_line_0 : decode cX12_line 0 = .ok (.aload_n 0, 1) := by decide +kernel
theorem dX12_line_1 : decode cX12_line 1 = .ok (.iconst 0, 1) := by decide +kernel
theorem dX12_line_2 : decode cX12_line 2 = .ok (.putfield 82, 3) := by decide +kernel
theorem dX12_line_5 : decode cX12_line 5 = .ok (.aload_n 0, 1) := by decide +kernel
theorem dX12_line_6 : decode cX12_line 6 = .ok (.iload_n 1, 1) := by decide +kernel
theorem dX12_line_7 : decode cX12_line 7 = .ok (.invokevirtual 238, 3) := by decide +kernel
theorem dX12_line_10 : decode cX12_line 10 = .ok (.ifCond .eq 7, 3) := by decide +kernel
theorem dX12_line_13 : decode cX12_line 13 = .ok (.iload_n 2, 1) := by decide +kernel
theorem dX12_line_14 : decode cX12_line 14 = .ok (.ifCond .ge 5, 3) := by decide +kernel
theorem dX12_line_17 : decode cX12_line 17 = .ok (.iconst (-1), 1) := by decide +kernel
theorem dX12_line_18 : decode cX12_line 18 = .ok (.ireturn, 1) := by decide +kernel
theorem dX12_line_19 : decode cX12_line 19 = .ok (.aload_n 0, 1) := by decide +kernel
theorem dX12_line_20 : decode cX12_line 20 = .ok (.invokevirtual 259, 3) := by decide +kernel
theorem dX12_line_23 : decode cX12_line 23 = .ok (.istore_n 3, 1) := by decide +kernel
theorem dX12_line_24 : decode cX12_line 24 = .ok (.aload_n 0, 1) := by decide +kernel
theorem dX12_line_25 : decode cX12_line 25 = .ok (.iload_n 1, 1) := by decide +kernel
theorem dX12_line_26 : decode cX12_line 26 = .ok (.iload_n 3, 1) := by decide +kernel
theorem dX12_line_27 : decode cX12_line 27 = .ok (.invokevirtual 262, 3) := by decide +kernel
theorem dX12_line_30 : decode cX12_line 30 = .ok (.istore 4, 2) := by decide +kernel
theorem dX12_line_32 : decode cX12_line 32 = .ok (.iconst 0, 1) := by decide +kernel
theorem dX12_line_33 : decode cX12_line 33 = .ok (.istore 5, 2) := by decide +kernel
theorem dX12_line_35 : decode cX12_line 35 = .ok (.iload 5, 2) := by decide +kernel
theorem dX12_line_37 : decode cX12_line 37 = .ok (.iload_n 2, 1) := by decide +kernel
theorem dX12_line_38 : decode cX12_line 38 = .ok (.if_icmp .ge 30, 3) := by decide +kernel
theorem dX12_line_41 : decode cX12_line 41 = .ok (.iload 4, 2) := by decide +kernel
theorem dX12_line_43 : decode cX12_line 43 = .ok (.iconst (-1), 1) := by decide +kernel
theorem dX12_line_44 : decode cX12_line 44 = .ok (.if_icmp .eq 24, 3) := by decide +kernel
theorem dX12_line_47 : decode cX12_line 47 = .ok (.iload_n 3, 1) := by decide +kernel
theorem dX12_line_48 : decode cX12_line 48 = .ok (.iconst 1, 1) := by decide +kernel
theorem dX12_line_49 : decode cX12_line 49 = .ok (.iload 4, 2) := by decide +kernel
theorem dX12_line_51 : decode cX12_line 51 = .ok (.ishl, 1) := by decide +kernel
theorem dX12_line_52 : decode cX12_line 52 = .ok (.ior, 1) := by decide +kernel
theorem dX12_line_53 : decode cX12_line 53 = .ok (.istore_n 3, 1) := by decide +kernel
theorem dX12_line_54 : decode cX12_line 54 = .ok (.aload_n 0, 1) := by decide +kernel
theorem dX12_line_55 : decode cX12_line 55 = .ok (.iload_n 1, 1) := by decide +kernel
theorem dX12_line_56 : decode cX12_line 56 = .ok (.iload_n 3, 1) := by decide +kernel
theorem dX12_line_57 : decode cX12_line 57 = .ok (.invokevirtual 262, 3) := by decide +kernel
theorem dX12_line_60 : decode cX12_line 60 = .ok (.istore 4, 2) := by decide +kernel
theorem dX12_line_62 : decode cX12_line 62 = .ok (.iinc 5 1, 3) := by decide +kernel
theorem dX12_line_65 : decode cX12_line 65 = .ok (.goto (-30), 3) := by decide +kernel
theorem dX12_line_68 : decode cX12_line 68 = .ok (.iload 4, 2) := by decide +kernel
theorem dX12_line_70 : decode cX12_line 70 = .ok (.ireturn, 1) := by decide +kernel
theorem dX12_odds_0 : decode cX12_odds 0 = .ok (.aload_n 0, 1) := by decide +kernel
theorem dX12_odds_1 : decode cX12_odds 1 = .ok (.iconst 0, 1) := by decide +kernel
theorem dX12_odds_2 : decode cX12_odds 2 = .ok (.putfield 82, 3) := by decide +kernel
theorem dX12_odds_5 : decode cX12_odds 5 = .ok (.aload_n 0, 1) := by decide +kernel
theorem dX12_odds_6 : decode cX12_odds 6 = .ok (.iload_n 1, 1) := by decide +kernel
theorem dX12_odds_7 : decode cX12_odds 7 = .ok (.invokevirtual 238, 3) := by decide +kernel
theorem dX12_odds_10 : decode cX12_odds 10 = .ok (.ifCond .eq 13, 3) := by decide +kernel
theorem dX12_odds_13 : decode cX12_odds 13 = .ok (.iload_n 2, 1) := by decide +kernel
theorem dX12_odds_14 : decode cX12_odds 14 = .ok (.iconst 1, 1) := by decide +kernel
theorem dX12_odds_15 : decode cX12_odds 15 = .ok (.bipush 30, 2) := by decide +kernel
theorem dX12_odds_17 : decode cX12_odds 17 = .ok (.invokestatic 149, 3) := by decide +kernel
theorem dX12_odds_20 : decode cX12_odds 20 = .ok (.ifCond .ne 5, 3) := by decide +kernel
theorem dX12_odds_23 : decode cX12_odds 23 = .ok (.iconst (-1), 1) := by decide +kernel
theorem dX12_odds_24 : decode cX12_odds 24 = .ok (.ireturn, 1) := by decide +kernel
theorem dX12_odds_25 : decode cX12_odds 25 = .ok (.aload_n 0, 1) := by decide +kernel
theorem dX12_odds_26 : decode cX12_odds 26 = .ok (.invokevirtual 329, 3) := by decide +kernel
theorem dX12_odds_29 : decode cX12_odds 29 = .ok (.iconst 0, 1) := by decide +kernel
theorem dX12_odds_30 : decode cX12_odds 30 = .ok (.istore 4, 2) := by decide +kernel
theorem dX12_odds_32 : decode cX12_odds 32 = .ok (.iconst 0, 1) := by decide +kernel
theorem dX12_odds_33 : decode cX12_odds 33 = .ok (.istore 5, 2) := by decide +kernel
theorem dX12_odds_35 : decode cX12_odds 35 = .ok (.iload 5, 2) := by decide +kernel
theorem dX12_odds_37 : decode cX12_odds 37 = .ok (.iload_n 2, 1) := by decide +kernel
theorem dX12_odds_38 : decode cX12_odds 38 = .ok (.if_icmp .ge 35, 3) := by decide +kernel
theorem dX12_odds_41 : decode cX12_odds 41 = .ok (.aload_n 0, 1) := by decide +kernel
theorem dX12_odds_42 : decode cX12_odds 42 = .ok (.bipush 10, 2) := by decide +kernel
theorem dX12_odds_44 : decode cX12_odds 44 = .ok (.iload_n 3, 1) := by decide +kernel
theorem dX12_odds_45 : decode cX12_odds 45 = .ok (.iload 5, 2) := by decide +kernel
theorem dX12_odds_47 : decode cX12_odds 47 = .ok (.iadd, 1) := by decide +kernel
theorem dX12_odds_48 : decode cX12_odds 48 = .ok (.invokevirtual 358, 3) := by decide +kernel
theorem dX12_odds_51 : decode cX12_odds 51 = .ok (.pop, 1) := by decide +kernel
theorem dX12_odds_52 : decode cX12_odds 52 = .ok (.aload_n 0, 1) := by decide +kernel
theorem dX12_odds_53 : decode cX12_odds 53 = .ok (.iload_n 1, 1) := by decide +kernel
theorem dX12_odds_54 : decode cX12_odds 54 = .ok (.invokevirtual 244, 3) := by decide +kernel
theorem dX12_odds_57 : decode cX12_odds 57 = .ok (.ifCond .ne 6, 3) := by decide +kernel
theorem dX12_odds_60 : decode cX12_odds 60 = .ok (.iinc 4 1, 3) := by decide +kernel
theorem dX12_odds_63 : decode cX12_odds 63 = .ok (.aload_n 0, 1) := by decide +kernel
theorem dX12_odds_64 : decode cX12_odds 64 = .ok (.invokevirtual 332, 3) := by decide +kernel
theorem dX12_odds_67 : decode cX12_odds 67 = .ok (.iinc 5 1, 3) := by decide +kernel
theorem dX12_odds_70 : decode cX12_odds 70 = .ok (.goto (-35), 3) := by decide +kernel
theorem dX12_odds_73 : decode cX12_odds 73 = .ok (.iload 4, 2) := by decide +kernel
theorem dX12_odds_75 : decode cX12_odds 75 = .ok (.ireturn, 1) := by decide +kernel
theorem dX12_stay_0 : decode cX12_stay 0 = .ok (.iconst 0, 1) := by decide +kernel
theorem dX12_stay_1 : decode cX12_stay 1 = .ok (.istore_n 2, 1) := by decide +kernel
theorem dX12_stay_2 : decode cX12_stay 2 = .ok (.iload_n 2, 1) := by decide +kernel
theorem dX12_stay_3 : decode cX12_stay 3 = .ok (.bipush 75, 2) := by decide +kernel
theorem dX12_stay_5 : decode cX12_stay 5 = .ok (.if_icmp .ge 41, 3) := by decide +kernel
theorem dX12_stay_8 : decode cX12_stay 8 = .ok (.aload_n 0, 1) := by decide +kernel
theorem dX12_stay_9 : decode cX12_stay 9 = .ok (.getfield 13, 3) := by decide +kernel
theorem dX12_stay_12 : decode cX12_stay 12 = .ok (.bipush 72, 2) := by decide +kernel
theorem dX12_stay_14 : decode cX12_stay 14 = .ok (.iload_n 2, 1) := by decide +kernel
theorem dX12_stay_15 : decode cX12_stay 15 = .ok (.iadd, 1) := by decide +kernel
theorem dX12_stay_16 : decode cX12_stay 16 = .ok (.iaload, 1) := by decide +kernel
theorem dX12_stay_17 : decode cX12_stay 17 = .ok (.istore_n 3, 1) := by decide +kernel
theorem dX12_stay_18 : decode cX12_stay 18 = .ok (.aload_n 0, 1) := by decide +kernel
theorem dX12_stay_19 : decode cX12_stay 19 = .ok (.getfield 13, 3) := by decide +kernel
theorem dX12_stay_22 : decode cX12_stay 22 = .ok (.bipush 72, 2) := by decide +kernel
theorem dX12_stay_24 : decode cX12_stay 24 = .ok (.iload_n 2, 1) := by decide +kernel
theorem dX12_stay_25 : decode cX12_stay 25 = .ok (.iadd, 1) := by decide +kernel
theorem dX12_stay_26 : decode cX12_stay 26 = .ok (.aload_n 0, 1) := by decide +kernel
theorem dX12_stay_27 : decode cX12_stay 27 = .ok (.getfield 25, 3) := by decide +kernel
theorem dX12_stay_30 : decode cX12_stay 30 = .ok (.iload_n 2, 1) := by decide +kernel
theorem dX12_stay_31 : decode cX12_stay 31 = .ok (.iaload, 1) := by decide +kernel
theorem dX12_stay_32 : decode cX12_stay 32 = .ok (.iastore, 1) := by decide +kernel
theorem dX12_stay_33 : decode cX12_stay 33 = .ok (.aload_n 0, 1) := by decide +kernel
theorem dX12_stay_34 : decode cX12_stay 34 = .ok (.getfield 25, 3) := by decide +kernel
theorem dX12_stay_37 : decode cX12_stay 37 = .ok (.iload_n 2, 1) := by decide +kernel
theorem dX12_stay_38 : decode cX12_stay 38 = .ok (.iload_n 3, 1) := by decide +kernel
theorem dX12_stay_39 : decode cX12_stay 39 = .ok (.iastore, 1) := by decide +kernel
theorem dX12_stay_40 : decode cX12_stay 40 = .ok (.iinc 2 1, 3) := by decide +kernel
theorem dX12_stay_43 : decode cX12_stay 43 = .ok (.goto (-41), 3) := by decide +kernel
theorem dX12_stay_46 : decode cX12_stay 46 = .ok (.iload_n 1, 1) := by decide +kernel
theorem dX12_stay_47 : decode cX12_stay 47 = .ok (.ifCond .ne 4, 3) := by decide +kernel
theorem dX12_stay_50 : decode cX12_stay 50 = .ok (.return_, 1) := by decide +kernel
theorem dX12_stay_51 : decode cX12_stay 51 = .ok (.aload_n 0, 1) := by decide +kernel
theorem dX12_stay_52 : decode cX12_stay 52 = .ok (.invokevirtual 282, 3) := by decide +kernel
theorem dX12_stay_55 : decode cX12_stay 55 = .ok (.aload_n 0, 1) := by decide +kernel
theorem dX12_stay_56 : decode cX12_stay 56 = .ok (.invokevirtual 332, 3) := by decide +kernel
theorem dX12_stay_59 : decode cX12_stay 59 = .ok (.return_, 1) := by decide +kernel
theorem dX12_table_0 : decode cX12_table 0 = .ok (.aload_n 0, 1) := by decide +kernel
theorem dX12_table_1 : decode cX12_table 1 = .ok (.sipush 900, 3) := by decide +kernel
theorem dX12_table_4 : decode cX12_table 4 = .ok (.invokevirtual 216, 3) := by decide +kernel
theorem dX12_table_7 : decode cX12_table 7 = .ok (.iconst 0, 1) := by decide +kernel
theorem dX12_table_8 : decode cX12_table 8 = .ok (.istore_n 1, 1) := by decide +kernel
theorem dX12_table_9 : decode cX12_table 9 = .ok (.iload_n 1, 1) := by decide +kernel
theorem dX12_table_10 : decode cX12_table 10 = .ok (.bipush 72, 2) := by decide +kernel
theorem dX12_table_12 : decode cX12_table 12 = .ok (.if_icmp .ge 16, 3) := by decide +kernel
theorem dX12_table_15 : decode cX12_table 15 = .ok (.aload_n 0, 1) := by decide +kernel
theorem dX12_table_16 : decode cX12_table 16 = .ok (.getfield 16, 3) := by decide +kernel
theorem dX12_table_19 : decode cX12_table 19 = .ok (.iload_n 1, 1) := by decide +kernel
theorem dX12_table_20 : decode cX12_table 20 = .ok (.iconst 0, 1) := by decide +kernel
theorem dX12_table_21 : decode cX12_table 21 = .ok (.iastore, 1) := by decide +kernel
theorem dX12_table_22 : decode cX12_table 22 = .ok (.iinc 1 1, 3) := by decide +kernel
theorem dX12_table_25 : decode cX12_table 25 = .ok (.goto (-16), 3) := by decide +kernel
theorem dX12_table_28 : decode cX12_table 28 = .ok (.aload_n 0, 1) := by decide +kernel
theorem dX12_table_29 : decode cX12_table 29 = .ok (.iconst 0, 1) := by decide +kernel
theorem dX12_table_30 : decode cX12_table 30 = .ok (.putfield 197, 3) := by decide +kernel
theorem dX12_table_33 : decode cX12_table 33 = .ok (.aload_n 0, 1) := by decide +kernel
theorem dX12_table_34 : decode cX12_table 34 = .ok (.iconst 0, 1) := by decide +kernel
theorem dX12_table_35 : decode cX12_table 35 = .ok (.putfield 213, 3) := by decide +kernel
theorem dX12_table_38 : decode cX12_table 38 = .ok (.iconst 0, 1) := by decide +kernel
theorem dX12_table_39 : decode cX12_table 39 = .ok (.istore_n 1, 1) := by decide +kernel
theorem dX12_table_40 : decode cX12_table 40 = .ok (.aload_n 0, 1) := by decide +kernel
theorem dX12_table_41 : decode cX12_table 41 = .ok (.getfield 104, 3) := by decide +kernel
theorem dX12_table_44 : decode cX12_table 44 = .ok (.ifCond .eq 30, 3) := by decide +kernel
theorem dX12_table_47 : decode cX12_table 47 = .ok (.aload_n 0, 1) := by decide +kernel
theorem dX12_table_48 : decode cX12_table 48 = .ok (.invokevirtual 219, 3) := by decide +kernel
theorem dX12_table_51 : decode cX12_table 51 = .ok (.ifCond .eq 10, 3) := by decide +kernel
theorem dX12_table_54 : decode cX12_table 54 = .ok (.aload_n 0, 1) := by decide +kernel
theorem dX12_table_55 : decode cX12_table 55 = .ok (.invokevirtual 222, 3) := by decide +kernel
theorem dX12_table_58 : decode cX12_table 58 = .ok (.ifCond .ne 10, 3) := by decide +kernel
theorem dX12_table_61 : decode cX12_table 61 = .ok (.iconst (-1), 1) := by decide +kernel
theorem dX12_table_62 : decode cX12_table 62 = .ok (.aload_n 0, 1) := by decide +kernel
theorem dX12_table_63 : decode cX12_table 63 = .ok (.getfield 143, 3) := by decide +kernel
theorem dX12_table_66 : decode cX12_table 66 = .ok (.isub, 1) := by decide +kernel
theorem dX12_table_67 : decode cX12_table 67 = .ok (.ireturn, 1) := by decide +kernel
theorem dX12_table_68 : decode cX12_table 68 = .ok (.iinc 1 1, 3) := by decide +kernel
theorem dX12_table_71 : decode cX12_table 71 = .ok (.goto (-31), 3) := by decide +kernel
theorem dX12_table_74 : decode cX12_table 74 = .ok (.iconst 0, 1) := by decide +kernel
theorem dX12_table_75 : decode cX12_table 75 = .ok (.istore_n 2, 1) := by decide +kernel
theorem dX12_table_76 : decode cX12_table 76 = .ok (.iload_n 2, 1) := by decide +kernel
theorem dX12_table_77 : decode cX12_table 77 = .ok (.bipush 72, 2) := by decide +kernel
theorem dX12_table_79 : decode cX12_table 79 = .ok (.if_icmp .ge 21, 3) := by decide +kernel
theorem dX12_table_82 : decode cX12_table 82 = .ok (.aload_n 0, 1) := by decide +kernel
theorem dX12_table_83 : decode cX12_table 83 = .ok (.getfield 13, 3) := by decide +kernel
theorem dX12_table_86 : decode cX12_table 86 = .ok (.iload_n 2, 1) := by decide +kernel
theorem dX12_table_87 : decode cX12_table 87 = .ok (.aload_n 0, 1) := by decide +kernel
theorem dX12_table_88 : decode cX12_table 88 = .ok (.getfield 16, 3) := by decide +kernel
theorem dX12_table_91 : decode cX12_table 91 = .ok (.iload_n 2, 1) := by decide +kernel
theorem dX12_table_92 : decode cX12_table 92 = .ok (.iaload, 1) := by decide +kernel
theorem dX12_table_93 : decode cX12_table 93 = .ok (.iastore, 1) := by decide +kernel
theorem dX12_table_94 : decode cX12_table 94 = .ok (.iinc 2 1, 3) := by decide +kernel
theorem dX12_table_97 : decode cX12_table 97 = .ok (.goto (-21), 3) := by decide +kernel
theorem dX12_table_100 : decode cX12_table 100 = .ok (.iconst 0, 1) := by decide +kernel
theorem dX12_table_101 : decode cX12_table 101 = .ok (.istore_n 2, 1) := by decide +kernel
theorem dX12_table_102 : decode cX12_table 102 = .ok (.iload_n 2, 1) := by decide +kernel
theorem dX12_table_103 : decode cX12_table 103 = .ok (.bipush 13, 2) := by decide +kernel
theorem dX12_table_105 : decode cX12_table 105 = .ok (.if_icmp .ge 21, 3) := by decide +kernel
theorem dX12_table_108 : decode cX12_table 108 = .ok (.aload_n 0, 1) := by decide +kernel
theorem dX12_table_109 : decode cX12_table 109 = .ok (.getfield 28, 3) := by decide +kernel
theorem dX12_table_112 : decode cX12_table 112 = .ok (.iload_n 2, 1) := by decide +kernel
theorem dX12_table_113 : decode cX12_table 113 = .ok (.aload_n 0, 1) := by decide +kernel
theorem dX12_table_114 : decode cX12_table 114 = .ok (.getfield 32, 3) := by decide +kernel
theorem dX12_table_117 : decode cX12_table 117 = .ok (.iload_n 2, 1) := by decide +kernel
theorem dX12_table_118 : decode cX12_table 118 = .ok (.laload, 1) := by decide +kernel
theorem dX12_table_119 : decode cX12_table 119 = .ok (.lastore, 1) := by decide +kernel
theorem dX12_table_120 : decode cX12_table 120 = .ok (.iinc 2 1, 3) := by decide +kernel
theorem dX12_table_123 : decode cX12_table 123 = .ok (.goto (-21), 3) := by decide +kernel
theorem dX12_table_126 : decode cX12_table 126 = .ok (.aload_n 0, 1) := by decide +kernel
theorem dX12_table_127 : decode cX12_table 127 = .ok (.invokevirtual 225, 3) := by decide +kernel
theorem dX12_table_130 : decode cX12_table 130 = .ok (.aload_n 0, 1) := by decide +kernel
theorem dX12_table_131 : decode cX12_table 131 = .ok (.iconst 0, 1) := by decide +kernel
theorem dX12_table_132 : decode cX12_table 132 = .ok (.putfield 228, 3) := by decide +kernel
theorem dX12_table_135 : decode cX12_table 135 = .ok (.iload_n 1, 1) := by decide +kernel
theorem dX12_table_136 : decode cX12_table 136 = .ok (.ireturn, 1) := by decide +kernel
set_option maxRecDepth 100000 in
set_option maxHeartbeats 8000000 in
theorem c_X12_table {l : Launch} {D : va_G} {cy : Nat → ClassId} {L : List Nat} {κ ln : Nat → Nat} {R : Nat → Nat → Option Nat} {I : Nat → Nat → Int32} {J : Nat → Nat → Int64} {ow : Nat → Nat × Nat} (W9 : ∀ a ∈ L, Shp L κ ln R ow a) {x : Nat} (hLx : x ∈ L) (hkx : κ x = 12) (hU : Iw L κ R ow I) : CtI l yX12_table cX12_table 3 (some .int) { frames := 7, cells := 0, slots := 0, locals := 154 } D cy L κ ln R I J [.ref x] (fun r I2 J2 => Iw L κ R ow I2 ∧ Fq L κ ow [1200, 1202, 1203, 1204, 1205, 1206, 1207, 1208, 1209, 1210, 1211, 1213, 1223, 1224, 1225, 83400, 83500] I I2 ∧ Fq L κ ow [1212, 83900, 84000] J J2 ∧ Rg (-2147483648) 2147483647 r) := by
  refine CtI.of (by decide +kernel) (Nat.le_of_ble_eq_true rfl) ?_
  intro p e s m below meth c B K
  have C := B.1
  have hF : Fq L κ ow [1200, 1202, 1203, 1204, 1205, 1206, 1207, 1208, 1209, 1210, 1211, 1213, 1223, 1224, 1225, 83400, 83500] I I := fq_rf
  have hG : Fq L κ ow [1212, 83900, 84000] J J := fq_rf
  obtain ⟨b_1, hb_1, hb_1L, hb_1k, hb_1n, hb_1o⟩ := shp_a (W9 x hLx) hkx 14 14 389 rfl (by decide)
  obtain ⟨b_2, hb_2, hb_2L, hb_2k, hb_2n, hb_2o⟩ := shp_a (W9 x hLx) hkx 20 15 13 rfl (by decide)
  obtain ⟨b_3, hb_3, hb_3L, hb_3k, hb_3n, hb_3o⟩ := shp_a (W9 x hLx) hkx 19 15 13 rfl (by decide)
  obtain ⟨b_4, hb_4, hb_4L, hb_4k, hb_4n, hb_4o⟩ := shp_a (W9 x hLx) hkx 15 14 72 rfl (by decide)
  refine g_lo (is := [0]) (lo2 := [(0, .ref x)]) rfl ?_
  have l_102 : ∀ (n_102 : Nat) (I_5 : Nat → Nat → Int32) (J_6 : Nat → Nat → Int64) (hU_7 : Iw1 L κ R ow I_5) (hF_8 : Fq L κ ow [1200, 1202, 1203, 1204, 1205, 1206, 1207, 1208, 1209, 1210, 1211, 1213, 1223, 1224, 1225, 83400, 83500] I I_5) (hG_9 : Fq L κ ow [1212, 83900, 84000] J J_6) (v_10 : Int32) (v_11 : Int32) (rv_11 : Rg 0 13 v_11) (v_12 : Int32) (rv_12 : Rg 0 0 v_12) (q_13 : I_5 x 7 = v_12) (hm_14 : 13 < (v_11 : Int32).toInt + (n_102 : Int)), WG p l e { frames := 7, cells := 0, slots := 0, locals := 154 } s m ([.ref x] : List Value).toArray below meth c 3 0 0 (MQ below (Qi_ D cy L κ ln R (fun r I2 J2 => Iw L κ R ow I2 ∧ Fq L κ ow [1200, 1202, 1203, 1204, 1205, 1206, 1207, 1208, 1209, 1210, 1211, 1213, 1223, 1224, 1225, 83400, 83500] I I2 ∧ Fq L κ ow [1212, 83900, 84000] J J2 ∧ Rg (-2147483648) 2147483647 r)) ([.ref x] : List Value).toArray s 0 0 (Al_ L)) D cy (Al_ L) s.heap L κ ln R I_5 J_6 102 [(0, .ref x), (1, .int v_10), (2, .int v_11)] [] := by
    intro n_102
    induction n_102 with
    | zero =>
      intro I_5 J_6 hU_7 hF_8 hG_9 v_10 v_11 rv_11 v_12 rv_12 q_13 hm_14
      exact ms_0 rv_11 hm_14
    | succ n_102 ih_102 =>
      intro I_5 J_6 hU_7 hF_8 hG_9 v_10 v_11 rv_11 v_12 rv_12 q_13 hm_14
      refine g_iload_n C 2 dX12_table_102 rfl rfl ?_
      refine g_bipush C (v := 13) dX12_table_103 (by decide) ?_
      refine g_icmp_ge C (tgt := 126) dX12_table_105 (by decide) (fun h_15 => ?_) (fun h_15 => ?_)
      · skip
        have r_16 := le_r (h_15) rc_13 rv_11
        refine g_aload_n C 0 dX12_table_126 rfl rfl ?_
        refine g_callVV C K (c_X12_startSo W9 hLx hkx   hU_7) hLx hkx (by decide) rfl v_12_225 rfl ⟨rfl, rfl⟩ ⟨Nat.le_of_ble_eq_true rfl, Nat.le_of_ble_eq_true rfl⟩ (Nat.le_of_ble_eq_true rfl) ⟨Nat.le_of_ble_eq_true rfl, Nat.le_of_ble_eq_true rfl⟩ dX12_table_127 rfl (st := []) (fun I_18 J_19 h_20 => ?_)
        obtain ⟨hUI_18, hFI_18, hGJ_19⟩ := h_20
        have hF_21 := fq_tr hF_8 hFI_18 (by decide)
        have hG_22 := fq_tr hG_9 hGJ_19 (by decide)
        refine g_aload_n C 0 dX12_table_130 rfl rfl ?_
        refine g_iconst C (v := 0) dX12_table_131 (by decide) ?_
        refine h_putI C K hLx hkx f_12_228 p_12_23 dX12_table_132 (fun I_23 hI_23 => ?_)
        have hU_24 := iw_z W9 hUI_18 (uw_put hUI_18.1 hI_23 (ro_o hkx (by decide)) (lo := 0) (hi := 8) (rfl) (rg_w rc_0 (by decide) (by decide))) hLx hkx hI_23
        have hF_25 := fq_puto hF_21 hI_23 hkx (by decide) (by decide)
        refine g_iload_n C 1 dX12_table_135 rfl rfl ?_
        exact g_zret (ty := .int) (r := v_10) B K rfl (rfl) ⟨hU_24, hF_25, hG_22, (rg_all v_10)⟩ dX12_table_136
      · skip
        have r_26 := lt_l (hi := 12) (nle h_15) rv_11 rc_13 (by decide)
        refine g_aload_n C 0 dX12_table_108 rfl rfl ?_
        refine g_getR C K hLx hkx f_12_28 hb_3 dX12_table_109 ?_
        refine g_iload_n C 2 dX12_table_112 rfl rfl ?_
        refine g_aload_n C 0 dX12_table_113 rfl rfl ?_
        refine g_getR C K hLx hkx f_12_32 hb_2 dX12_table_114 ?_
        refine g_iload_n C 2 dX12_table_117 rfl rfl ?_
        obtain ⟨y_27, hy_27⟩ : ∃ z, J_6 b_2 (v_11.toNatClampNeg) = z := ⟨_, rfl⟩
        refine h_lald C K hb_2L hb_2k (v := y_27) (v_11.toNatClampNeg) (rfl) (ix_0 r_26 (by decide)) (ix_lt r_26 (by decide) hb_2n (by decide)) hy_27 dX12_table_118 ?_
        refine h_last C K hb_3L hb_3k (v_11.toNatClampNeg) (rfl) (ix_0 r_26 (by decide)) (ix_lt r_26 (by decide) hb_3n (by decide)) dX12_table_119 (fun J_28 hJ_28 => ?_)
        have hG_29 := fq_puta hG_9 hJ_28 (ro_a hb_3k (by decide) hb_3o hkx rfl) (by decide) (by decide)
        obtain ⟨x_30, hx_30, rx_30, tx_30⟩ := ex_add (y := 1) 1 13 r_26 rc_1 (by decide) (by decide) (by decide) (by decide)
        refine g_iinc C dX12_table_120 (k := 2) (v := x_30) rfl hx_30 (by decide) (lo2 := [(2, .int x_30), (0, .ref x), (1, .int v_10)]) rfl ?_
        refine g_goto C (tgt := 102) dX12_table_123 (by decide) ?_
        refine g_lo (is := [1, 2, 0]) (lo2 := [(0, .ref x), (1, .int v_10), (2, .int x_30)]) rfl ?_
        exact ih_102 I_5 J_28 hU_7 hF_8 hG_29 v_10 x_30 (rg_w rx_30 (by decide) (by decide)) v_12 (rv_12) q_13 (ms_1 hm_14 (ti_k tx_30 rc_1) (by decide))
  have l_40 : ∀ (n_40 : Nat) (I_31 : Nat → Nat → Int32) (J_32 : Nat → Nat → Int64) (hU_33 : Iw L κ R ow I_31) (hF_34 : Fq L κ ow [1200, 1202, 1203, 1204, 1205, 1206, 1207, 1208, 1209, 1210, 1211, 1213, 1223, 1224, 1225, 83400, 83500] I I_31) (hG_35 : Fq L κ ow [1212, 83900, 84000] J J_32) (v_36 : Int32) (hm_37 : 940 < (I_31 x 5).toInt + (n_40 : Int)), WG p l e { frames := 7, cells := 0, slots := 0, locals := 154 } s m ([.ref x] : List Value).toArray below meth c 3 0 0 (MQ below (Qi_ D cy L κ ln R (fun r I2 J2 => Iw L κ R ow I2 ∧ Fq L κ ow [1200, 1202, 1203, 1204, 1205, 1206, 1207, 1208, 1209, 1210, 1211, 1213, 1223, 1224, 1225, 83400, 83500] I I2 ∧ Fq L κ ow [1212, 83900, 84000] J J2 ∧ Rg (-2147483648) 2147483647 r)) ([.ref x] : List Value).toArray s 0 0 (Al_ L)) D cy (Al_ L) s.heap L κ ln R I_31 J_32 40 [(0, .ref x), (1, .int v_36)] [] := by
    intro n_40
    induction n_40 with
    | zero =>
      intro I_31 J_32 hU_33 hF_34 hG_35 v_36 hm_37
      exact absurd hm_37 (by obtain ⟨z, hz, rz⟩ := ex_getw (I := I_31) (a := x) (j := 5) (lo := 0) (hi := 940) hU_33.1 hLx (ro_o hkx (by decide)) rfl; rw [hz]; have := rz.2; omega)
    | succ n_40 ih_40 =>
      intro I_31 J_32 hU_33 hF_34 hG_35 v_36 hm_37
      refine g_aload_n C 0 dX12_table_40 rfl rfl ?_
      obtain ⟨x_38, hx_38, rx_38⟩ := ex_getw (I := I_31) (a := x) (j := 7) (lo := 0) (hi := 4) hU_33.1 hLx (ro_o hkx (by decide)) rfl
      refine g_getI C K hLx hkx f_12_104 (v := x_38) hx_38 dX12_table_41 ?_
      refine g_if_eq C (tgt := 74) dX12_table_44 (by decide) (fun h_39 => ?_) (fun h_39 => ?_)
      · skip
        have r_40 := (⟨(rx_38).1, (eq_rg (h_39) rc_0).2⟩ : Rg 0 0 x_38)
        refine g_iconst C (v := 0) dX12_table_74 (by decide) ?_
        refine g_istore_n C dX12_table_75 rfl (by decide) (lo2 := [(2, .int 0), (0, .ref x), (1, .int v_36)]) rfl ?_
        refine g_lo (is := [1, 2, 0]) (lo2 := [(0, .ref x), (1, .int v_36), (2, .int 0)]) rfl ?_
        have ex_76 : ∀ (I_42 : Nat → Nat → Int32) (hI_42 : I_42 = cpn_ I_31 b_4 b_1 (0) (0) 72) (v_41 : Int32) (rv_41 : Rg 72 72 v_41), WG p l e { frames := 7, cells := 0, slots := 0, locals := 154 } s m ([.ref x] : List Value).toArray below meth c 3 0 0 (MQ below (Qi_ D cy L κ ln R (fun r I2 J2 => Iw L κ R ow I2 ∧ Fq L κ ow [1200, 1202, 1203, 1204, 1205, 1206, 1207, 1208, 1209, 1210, 1211, 1213, 1223, 1224, 1225, 83400, 83500] I I2 ∧ Fq L κ ow [1212, 83900, 84000] J J2 ∧ Rg (-2147483648) 2147483647 r)) ([.ref x] : List Value).toArray s 0 0 (Al_ L)) D cy (Al_ L) s.heap L κ ln R I_42 J_32 100 [(0, .ref x), (1, .int v_36), (2, .int v_41)] [] := by
          intro I_42 hI_42 v_41 rv_41
          have hF_43 := fq_cpn hF_34 hI_42 (ro_a hb_1k (by decide) hb_1o hkx rfl) (by decide) (by decide)
          have hU_44 := uw_cpn hU_33.1 hb_4L hI_42 (ro_a hb_1k (by decide) hb_1o hkx rfl) (ro_a hb_4k (by decide) hb_4o hkx rfl) (fun i _ => by rw [bn_834, bn_835]; exact ⟨Int.le_refl _, Int.le_refl _⟩)
          have hU_45 := iw_hd W9 hU_33 hU_44 hLx hkx hb_1 hI_42
          refine g_iconst C (v := 0) dX12_table_100 (by decide) ?_
          refine g_istore_n C dX12_table_101 rfl (by decide) (lo2 := [(2, .int 0), (0, .ref x), (1, .int v_36)]) rfl ?_
          refine g_lo (is := [1, 2, 0]) (lo2 := [(0, .ref x), (1, .int v_36), (2, .int 0)]) rfl ?_
          exact l_102 14 I_42 J_32 hU_45 hF_43 hG_35 v_36 0 (rg_w rc_0 (by decide) (by decide)) x_38 (r_40) (kp_cn (κ := κ) hI_42 (by rw [hkx, hb_1k]; decide) hx_38) (ms_s (a := 0) (b := 13) (N := 14) (rg_w rc_0 (by decide) (by decide)) (by decide))
        have l_76 : ∀ (m_76 : Nat) (v_46 : Int32) (I_47 : Nat → Nat → Int32), v_46.toInt + (m_76 : Int) = 72 → 0 ≤ v_46.toInt → I_47 = cpn_ I_31 b_4 b_1 (0) (0) v_46.toNatClampNeg → WG p l e { frames := 7, cells := 0, slots := 0, locals := 154 } s m ([.ref x] : List Value).toArray below meth c 3 0 0 (MQ below (Qi_ D cy L κ ln R (fun r I2 J2 => Iw L κ R ow I2 ∧ Fq L κ ow [1200, 1202, 1203, 1204, 1205, 1206, 1207, 1208, 1209, 1210, 1211, 1213, 1223, 1224, 1225, 83400, 83500] I I2 ∧ Fq L κ ow [1212, 83900, 84000] J J2 ∧ Rg (-2147483648) 2147483647 r)) ([.ref x] : List Value).toArray s 0 0 (Al_ L)) D cy (Al_ L) s.heap L κ ln R I_47 J_32 76 [(0, .ref x), (1, .int v_36), (2, .int v_46)] [] := by
          intro m_76
          induction m_76 with
          | zero =>
            intro v_46 I_47 hk_76 h0_76 hI_47
            have rv_46 : Rg 72 72 v_46 := by unfold Rg; omega
            refine g_iload_n C 2 dX12_table_76 rfl rfl ?_
            refine g_bipush C (v := 72) dX12_table_77 (by decide) ?_
            refine g_icmp_ge C (tgt := 100) dX12_table_79 (by decide) (fun h_48 => ?_) (fun h_48 => ?_)
            · skip
              refine g_lo (is := [0, 1, 2]) (lo2 := [(0, .ref x), (1, .int v_36), (2, .int v_46)]) rfl ?_
              exact ex_76 I_47 (hI_47.trans (congrArg (fun q => cpn_ I_31 b_4 b_1 (0) (0) q) (show v_46.toNatClampNeg = 72 from by have := ix_n rv_46 (by decide); have := rv_46.1; have := rv_46.2; omega))) v_46 rv_46
            · skip
              have r_49 := lt_l (hi := 71) (nle h_48) rv_46 rc_72 (by decide)
              exact rg_no r_49 (by decide)
          | succ m_76 ih_76 =>
            intro v_46 I_47 hk_76 h0_76 hI_47
            have rv_46 : Rg 0 71 v_46 := by unfold Rg; omega
            refine g_iload_n C 2 dX12_table_76 rfl rfl ?_
            refine g_bipush C (v := 72) dX12_table_77 (by decide) ?_
            refine g_icmp_ge C (tgt := 100) dX12_table_79 (by decide) (fun h_50 => ?_) (fun h_50 => ?_)
            · skip
              have r_51 := le_r (h_50) rc_72 rv_46
              exact rg_no r_51 (by decide)
            · skip
              refine g_aload_n C 0 dX12_table_82 rfl rfl ?_
              refine g_getR C K hLx hkx f_12_13 hb_1 dX12_table_83 ?_
              refine g_iload_n C 2 dX12_table_86 rfl rfl ?_
              refine g_aload_n C 0 dX12_table_87 rfl rfl ?_
              refine g_getR C K hLx hkx f_12_16 hb_4 dX12_table_88 ?_
              refine g_iload_n C 2 dX12_table_91 rfl rfl ?_
              obtain ⟨x_52, hx_52, rx_52⟩ := ex_any (z0 := I_47 b_4 (v_46.toNatClampNeg))
              refine h_iald C K hb_4L hb_4k (v := x_52) (v_46.toNatClampNeg) (rfl) (ix_0 rv_46 (by decide)) (ix_lt rv_46 (by decide) hb_4n (by decide)) hx_52 dX12_table_92 ?_
              refine h_iast C K hb_1L hb_1k (v_46.toNatClampNeg) (rfl) (ix_0 rv_46 (by decide)) (ix_lt rv_46 (by decide) hb_1n (by decide)) dX12_table_93 (fun I_53 hI_53 => ?_)
              obtain ⟨x_54, hx_54, rx_54, tx_54⟩ := ex_add (y := 1) 1 72 rv_46 rc_1 (by decide) (by decide) (by decide) (by decide)
              refine g_iinc C dX12_table_94 (k := 2) (v := x_54) rfl hx_54 (by decide) (lo2 := [(2, .int x_54), (0, .ref x), (1, .int v_36)]) rfl ?_
              refine g_goto C (tgt := 76) dX12_table_97 (by decide) ?_
              refine g_lo (is := [1, 2, 0]) (lo2 := [(0, .ref x), (1, .int v_36), (2, .int x_54)]) rfl ?_
              have kk_76 : x_54.toNatClampNeg = v_46.toNatClampNeg + 1 := by have q1 := ix_n rv_46 (by decide); have q2 := (ti_k tx_54 rc_1); have q3 : x_54.toNatClampNeg = x_54.toInt.toNat := rfl; omega
              exact ih_76 x_54 I_53 (by have := (ti_k tx_54 rc_1); omega) (by have := (ti_k tx_54 rc_1); omega) (by rw [kk_76]; exact cpn_s hI_47 hx_52 hI_53 (show v_46.toNatClampNeg = (0) + v_46.toNatClampNeg from by omega) (show v_46.toNatClampNeg = (0) + v_46.toNatClampNeg from by omega) (Or.inl (ne_ro (ro_a hb_4k (by decide) hb_4o hkx rfl) (ro_a hb_1k (by decide) hb_1o hkx rfl) (by decide))))
        exact l_76 72 0 I_31 (by decide) (by decide) cpn_0
      · skip
        have n_55 : ¬ x_38 = 0 := h_39
        have r_56 := ne_lo (lo := 1) n_55 rx_38 rc_0 rfl (by decide)
        refine g_aload_n C 0 dX12_table_47 rfl rfl ?_
        refine g_callVI C K (c_X12_readLine W9 hLx hkx   hU_33) hLx hkx (by decide) rfl v_12_219 rfl ⟨rfl, rfl⟩ ⟨Nat.le_of_ble_eq_true rfl, Nat.le_of_ble_eq_true rfl⟩ (Nat.le_of_ble_eq_true rfl) ⟨Nat.le_of_ble_eq_true rfl, Nat.le_of_ble_eq_true rfl⟩ dX12_table_48 rfl (st := []) (fun x_57 I_58 J_59 h_60 => ?_)
        obtain ⟨hUI_58, hFI_58, hGJ_59, rx_57, ex_57⟩ := h_60
        have hF_61 := fq_tr hF_34 hFI_58 (by decide)
        have hG_62 := fq_tr hG_35 hGJ_59 (by decide)
        refine g_if_eq C (tgt := 61) dX12_table_51 (by decide) (fun h_63 => ?_) (fun h_63 => ?_)
        · skip
          have r_64 := (⟨(rx_57).1, (eq_rg (h_63) rc_0).2⟩ : Rg 0 0 x_57)
          refine g_iconst C (v := (-1)) dX12_table_61 (by decide) ?_
          refine g_aload_n C 0 dX12_table_62 rfl rfl ?_
          obtain ⟨x_65, hx_65, rx_65⟩ := ex_getw (I := I_58) (a := x) (j := 11) (lo := (-2147483648)) (hi := 2147483647) hUI_58.1 hLx (ro_o hkx (by decide)) rfl
          refine g_getI C K hLx hkx f_12_143 (v := x_65) hx_65 dX12_table_63 ?_
          obtain ⟨x_66, hx_66, rx_66, tx_66⟩ := ex_sub (-2147483648) 2147483647 rc_m1 rx_65 (by decide) (by decide) (by decide) (by decide)
          refine g_isub C (v := x_66) dX12_table_66 hx_66 ?_
          exact g_zret (ty := .int) (r := x_66) B K rfl (rfl) ⟨hUI_58, hF_61, hG_62, rx_66⟩ dX12_table_67
        · skip
          have n_67 : ¬ x_57 = 0 := h_63
          have r_68 := ne_lo (lo := 1) n_67 rx_57 rc_0 rfl (by decide)
          refine g_aload_n C 0 dX12_table_54 rfl rfl ?_
          refine g_callVI C K (c_X12_readEnd W9 hLx hkx   hUI_58) hLx hkx (by decide) rfl v_12_222 rfl ⟨rfl, rfl⟩ ⟨Nat.le_of_ble_eq_true rfl, Nat.le_of_ble_eq_true rfl⟩ (Nat.le_of_ble_eq_true rfl) ⟨Nat.le_of_ble_eq_true rfl, Nat.le_of_ble_eq_true rfl⟩ dX12_table_55 rfl (st := []) (fun x_69 I_70 J_71 h_72 => ?_)
          obtain ⟨hUI_70, hFI_70, hGJ_71, rx_69, ex_69⟩ := h_72
          have hF_73 := fq_tr hF_61 hFI_70 (by decide)
          have hG_74 := fq_tr hG_62 hGJ_71 (by decide)
          refine g_if_ne C (tgt := 68) dX12_table_58 (by decide) (fun h_75 => ?_) (fun h_75 => ?_)
          · skip
            have n_76 : ¬ x_69 = 0 := h_75
            have r_77 := ne_lo (lo := 1) n_76 rx_69 rc_0 rfl (by decide)
            obtain ⟨x_78, hx_78, rx_78⟩ := ex_any (z0 := v_36 + 1)
            refine g_iinc C dX12_table_68 (k := 1) (v := x_78) rfl hx_78 (by decide) (lo2 := [(1, .int x_78), (0, .ref x)]) rfl ?_
            refine g_goto C (tgt := 40) dX12_table_71 (by decide) ?_
            refine g_lo (is := [1, 0]) (lo2 := [(0, .ref x), (1, .int x_78)]) rfl ?_
            exact ih_40 I_70 J_71 hUI_70 hF_73 hG_74 x_78 (tb_m hm_37 (ps_t2 pg_rf (ex_57.2 n_67)) (ex_69.2 (rg_nz r_77 (by decide))) ex_69.1.1)
          · skip
            have r_79 := (⟨(rx_69).1, (eq_rg (h_75) rc_0).2⟩ : Rg 0 0 x_69)
            refine g_iconst C (v := (-1)) dX12_table_61 (by decide) ?_
            refine g_aload_n C 0 dX12_table_62 rfl rfl ?_
            obtain ⟨x_80, hx_80, rx_80⟩ := ex_getw (I := I_70) (a := x) (j := 11) (lo := (-2147483648)) (hi := 2147483647) hUI_70.1 hLx (ro_o hkx (by decide)) rfl
            refine g_getI C K hLx hkx f_12_143 (v := x_80) hx_80 dX12_table_63 ?_
            obtain ⟨x_81, hx_81, rx_81, tx_81⟩ := ex_sub (-2147483648) 2147483647 rc_m1 rx_80 (by decide) (by decide) (by decide) (by decide)
            refine g_isub C (v := x_81) dX12_table_66 hx_81 ?_
            exact g_zret (ty := .int) (r := x_81) B K rfl (rfl) ⟨hUI_70, hF_73, hG_74, rx_81⟩ dX12_table_67
  have l_9 : ∀ (n_9 : Nat) (I_82 : Nat → Nat → Int32) (J_83 : Nat → Nat → Int64) (hU_84 : Iw L κ R ow I_82) (hF_85 : Fq L κ ow [1200, 1202, 1203, 1204, 1205, 1206, 1207, 1208, 1209, 1210, 1211, 1213, 1223, 1224, 1225, 83400, 83500] I I_82) (hG_86 : Fq L κ ow [1212, 83900, 84000] J J_83) (v_87 : Int32) (rv_87 : Rg 0 72 v_87) (hm_88 : 72 < (v_87 : Int32).toInt + (n_9 : Int)), WG p l e { frames := 7, cells := 0, slots := 0, locals := 154 } s m ([.ref x] : List Value).toArray below meth c 3 0 0 (MQ below (Qi_ D cy L κ ln R (fun r I2 J2 => Iw L κ R ow I2 ∧ Fq L κ ow [1200, 1202, 1203, 1204, 1205, 1206, 1207, 1208, 1209, 1210, 1211, 1213, 1223, 1224, 1225, 83400, 83500] I I2 ∧ Fq L κ ow [1212, 83900, 84000] J J2 ∧ Rg (-2147483648) 2147483647 r)) ([.ref x] : List Value).toArray s 0 0 (Al_ L)) D cy (Al_ L) s.heap L κ ln R I_82 J_83 9 [(0, .ref x), (1, .int v_87)] [] := by
    intro n_9
    induction n_9 with
    | zero =>
      intro I_82 J_83 hU_84 hF_85 hG_86 v_87 rv_87 hm_88
      exact ms_0 rv_87 hm_88
    | succ n_9 ih_9 =>
      intro I_82 J_83 hU_84 hF_85 hG_86 v_87 rv_87 hm_88
      refine g_iload_n C 1 dX12_table_9 rfl rfl ?_
      refine g_bipush C (v := 72) dX12_table_10 (by decide) ?_
      refine g_icmp_ge C (tgt := 28) dX12_table_12 (by decide) (fun h_89 => ?_) (fun h_89 => ?_)
      · skip
        have r_90 := le_r (h_89) rc_72 rv_87
        refine g_aload_n C 0 dX12_table_28 rfl rfl ?_
        refine g_iconst C (v := 0) dX12_table_29 (by decide) ?_
        refine h_putZ C K hLx hkx f_12_197 p_12_24 (rg_bool (rg_w rc_0 (by decide) (by decide))) dX12_table_30 (fun I_91 hI_91 => ?_)
        have hU_92 := iw_put W9 hU_84 hI_91 (ro_o hkx (by decide)) (lo := 0) (hi := 1) (rfl) (rg_w rc_0 (by decide) (by decide)) rfl
        have hF_93 := fq_puto hF_85 hI_91 hkx (by decide) (by decide)
        refine g_aload_n C 0 dX12_table_33 rfl rfl ?_
        refine g_iconst C (v := 0) dX12_table_34 (by decide) ?_
        refine h_putZ C K hLx hkx f_12_213 p_12_25 (rg_bool (rg_w rc_0 (by decide) (by decide))) dX12_table_35 (fun I_94 hI_94 => ?_)
        have hU_95 := iw_put W9 hU_92 hI_94 (ro_o hkx (by decide)) (lo := 0) (hi := 1) (rfl) (rg_w rc_0 (by decide) (by decide)) rfl
        have hF_96 := fq_puto hF_93 hI_94 hkx (by decide) (by decide)
        refine g_iconst C (v := 0) dX12_table_38 (by decide) ?_
        refine g_istore_n C dX12_table_39 rfl (by decide) (lo2 := [(1, .int 0), (0, .ref x)]) rfl ?_
        refine g_lo (is := [1, 0]) (lo2 := [(0, .ref x), (1, .int 0)]) rfl ?_
        exact l_40 941 I_94 J_83 hU_95 hF_96 hG_86 0 (by obtain ⟨z, hz, rz⟩ := ex_getw (I := I_94) (a := x) (j := 5) (lo := 0) (hi := 940) hU_95.1 hLx (ro_o hkx (by decide)) rfl; rw [hz]; have := rz.1; omega)
      · skip
        have r_97 := lt_l (hi := 71) (nle h_89) rv_87 rc_72 (by decide)
        refine g_aload_n C 0 dX12_table_15 rfl rfl ?_
        refine g_getR C K hLx hkx f_12_16 hb_4 dX12_table_16 ?_
        refine g_iload_n C 1 dX12_table_19 rfl rfl ?_
        refine g_iconst C (v := 0) dX12_table_20 (by decide) ?_
        refine h_iast C K hb_4L hb_4k (v_87.toNatClampNeg) (rfl) (ix_0 r_97 (by decide)) (ix_lt r_97 (by decide) hb_4n (by decide)) dX12_table_21 (fun I_98 hI_98 => ?_)
        have hU_99 := iw_put0 W9 hU_84 hI_98 (ro_a hb_4k (by decide) hb_4o hkx rfl) (z0_in _) rfl
        have hF_100 := fq_puta hF_85 hI_98 (ro_a hb_4k (by decide) hb_4o hkx rfl) (by decide) (by decide)
        obtain ⟨x_101, hx_101, rx_101, tx_101⟩ := ex_add (y := 1) 1 72 r_97 rc_1 (by decide) (by decide) (by decide) (by decide)
        refine g_iinc C dX12_table_22 (k := 1) (v := x_101) rfl hx_101 (by decide) (lo2 := [(1, .int x_101), (0, .ref x)]) rfl ?_
        refine g_goto C (tgt := 9) dX12_table_25 (by decide) ?_
        refine g_lo (is := [1, 0]) (lo2 := [(0, .ref x), (1, .int x_101)]) rfl ?_
        exact ih_9 I_98 J_83 hU_99 hF_100 hG_86 x_101 (rg_w rx_101 (by decide) (by decide)) (ms_1 hm_88 (ti_k tx_101 rc_1) (by decide))
  refine g_aload_n C 0 dX12_table_0 rfl rfl ?_
  refine g_sipush C (v := 900) dX12_table_1 (by decide) ?_
  refine g_callVV C K (c_X12_begin W9 hLx hkx 900 (rc_900) hU) hLx hkx (by decide) rfl v_12_216 rfl ⟨rfl, rfl⟩ ⟨Nat.le_of_ble_eq_true rfl, Nat.le_of_ble_eq_true rfl⟩ (Nat.le_of_ble_eq_true rfl) ⟨Nat.le_of_ble_eq_true rfl, Nat.le_of_ble_eq_true rfl⟩ dX12_table_4 rfl (st := []) (fun I_103 J_104 h_105 => ?_)
  obtain ⟨hUI_103, hFI_103, hGJ_104⟩ := h_105
  have hF_106 := fq_tr hF hFI_103 (by decide)
  have hG_107 := fq_tr hG hGJ_104 (by decide)
  refine g_iconst C (v := 0) dX12_table_7 (by decide) ?_
  refine g_istore_n C dX12_table_8 rfl (by decide) (lo2 := [(1, .int 0), (0, .ref x)]) rfl ?_
  refine g_lo (is := [1, 0]) (lo2 := [(0, .ref x), (1, .int 0)]) rfl ?_
  exact l_9 73 I_103 J_104 hUI_103 hF_106 hG_107 0 (rg_w rc_0 (by decide) (by decide)) (ms_s (a := 0) (b := 72) (N := 73) (rg_w rc_0 (by decide) (by decide)) (by decide))
set_option maxRecDepth 100000 in
set_option maxHeartbeats 8000000 in
theorem c_X12_stay {l : Launch} {D : va_G} {cy : Nat → ClassId} {L : List Nat} {κ ln : Nat → Nat} {R : Nat → Nat → Option Nat} {I : Nat → Nat → Int32} {J : Nat → Nat → Int64} {ow : Nat → Nat × Nat} (W9 : ∀ a ∈ L, Shp L κ ln R ow a) {x : Nat} (hLx : x ∈ L) (hkx : κ x = 12) (a0 : Int32) (ra0 : Rg 0 1 a0) (hU : Iw L κ R ow I) (hga : Ga_ R x I) : CtV l yX12_stay cX12_stay 4 none { frames := 1, cells := 0, slots := 0, locals := 21 } D cy L κ ln R I J [.ref x, .int a0] (fun I2 J2 => Iw L κ R ow I2 ∧ Fq L κ ow [1223, 83400, 83700, 83800] I I2 ∧ Fq L κ ow [] J J2) := by
  refine CtV.of (by decide +kernel) (Nat.le_of_ble_eq_true rfl) ?_
  intro p e s m below meth c B K
  have C := B.1
  have hF : Fq L κ ow [1223, 83400, 83700, 83800] I I := fq_rf
  have hG : Fq L κ ow [] J J := fq_rf
  obtain ⟨b_1, hb_1, hb_1L, hb_1k, hb_1n, hb_1o⟩ := shp_a (W9 x hLx) hkx 14 14 389 rfl (by decide)
  obtain ⟨b_2, hb_2, hb_2L, hb_2k, hb_2n, hb_2o⟩ := shp_a (W9 x hLx) hkx 18 14 75 rfl (by decide)
  refine g_lo (is := [0, 1]) (lo2 := [(0, .ref x), (1, .int a0)]) rfl ?_
  refine g_iconst C (v := 0) dX12_stay_0 (by decide) ?_
  refine g_istore_n C dX12_stay_1 rfl (by decide) (lo2 := [(2, .int 0), (0, .ref x), (1, .int a0)]) rfl ?_
  refine g_lo (is := [1, 2, 0]) (lo2 := [(0, .ref x), (1, .int a0), (2, .int 0)]) rfl ?_
  have ex_2 : ∀ (I_4 : Nat → Nat → Int32) (hI_4 : I_4 = swp_ I b_1 b_2 75) (v_3 : Int32) (rv_3 : Rg 75 75 v_3), WG p l e { frames := 1, cells := 0, slots := 0, locals := 21 } s m ([.ref x, .int a0] : List Value).toArray below meth c 4 0 0 (MQ below (Qv_ D cy L κ ln R (fun I2 J2 => Iw L κ R ow I2 ∧ Fq L κ ow [1223, 83400, 83700, 83800] I I2 ∧ Fq L κ ow [] J J2)) ([.ref x, .int a0] : List Value).toArray s 0 0 (Al_ L)) D cy (Al_ L) s.heap L κ ln R I_4 J 46 [(0, .ref x), (1, .int a0), (2, .int v_3)] [] := by
    intro I_4 hI_4 v_3 rv_3
    have hF_5 := fq_swp hF hI_4 (ro_a hb_1k (by decide) hb_1o hkx rfl) (ro_a hb_2k (by decide) hb_2o hkx rfl) (by decide) (by decide)
    have hU_6 := uw_swp hU.1 hb_1L hb_2L hI_4 (ro_a hb_1k (by decide) hb_1o hkx rfl) (ro_a hb_2k (by decide) hb_2o hkx rfl)
    have q_7 := iw_sw W9 hU hU_6 hLx hkx hb_1 hb_2 hI_4 hga
    refine g_iload_n C 1 dX12_stay_46 rfl rfl ?_
    refine g_if_ne C (tgt := 51) dX12_stay_47 (by decide) (fun h_8 => ?_) (fun h_8 => ?_)
    · skip
      have n_9 : ¬ a0 = 0 := h_8
      have r_10 := ne_lo (lo := 1) n_9 ra0 rc_0 rfl (by decide)
      refine g_aload_n C 0 dX12_stay_51 rfl rfl ?_
      refine g_callVV C K (c_X12_snap W9 hLx hkx   q_7.1) hLx hkx (by decide) rfl v_12_282 rfl ⟨rfl, rfl⟩ ⟨Nat.le_of_ble_eq_true rfl, Nat.le_of_ble_eq_true rfl⟩ (Nat.le_of_ble_eq_true rfl) ⟨Nat.le_of_ble_eq_true rfl, Nat.le_of_ble_eq_true rfl⟩ dX12_stay_52 rfl (st := []) (fun I_12 J_13 h_14 => ?_)
      obtain ⟨hUI_12, hFI_12, hGJ_13, ex_11⟩ := h_14
      have hF_15 := fq_tr hF_5 hFI_12 (by decide)
      have hG_16 := fq_tr hG hGJ_13 (by decide)
      refine g_aload_n C 0 dX12_stay_55 rfl rfl ?_
      refine g_callVV C K (c_X12_takeBack W9 hLx hkx   hUI_12  ((ga_mv W9 hLx hkx q_7.2 ex_11 hFI_12 (by decide)))) hLx hkx (by decide) rfl v_12_332 rfl ⟨rfl, rfl⟩ ⟨Nat.le_of_ble_eq_true rfl, Nat.le_of_ble_eq_true rfl⟩ (Nat.le_of_ble_eq_true rfl) ⟨Nat.le_of_ble_eq_true rfl, Nat.le_of_ble_eq_true rfl⟩ dX12_stay_56 rfl (st := []) (fun I_18 J_19 h_20 => ?_)
      obtain ⟨hUI_18, hFI_18, hGJ_19, ex_17⟩ := h_20
      have hF_21 := fq_tr hF_15 hFI_18 (by decide)
      have hG_22 := fq_tr hG_16 hGJ_19 (by decide)
      exact g_vret B K rfl ⟨hUI_18, hF_21, hG_22⟩ dX12_stay_59
    · skip
      have r_23 := (⟨(ra0).1, (eq_rg (h_8) rc_0).2⟩ : Rg 0 0 a0)
      exact g_vret B K rfl ⟨q_7.1, hF_5, hG⟩ dX12_stay_50
  have l_2 : ∀ (m_2 : Nat) (v_24 : Int32) (I_25 : Nat → Nat → Int32), v_24.toInt + (m_2 : Int) = 75 → 0 ≤ v_24.toInt → I_25 = swp_ I b_1 b_2 v_24.toNatClampNeg → WG p l e { frames := 1, cells := 0, slots := 0, locals := 21 } s m ([.ref x, .int a0] : List Value).toArray below meth c 4 0 0 (MQ below (Qv_ D cy L κ ln R (fun I2 J2 => Iw L κ R ow I2 ∧ Fq L κ ow [1223, 83400, 83700, 83800] I I2 ∧ Fq L κ ow [] J J2)) ([.ref x, .int a0] : List Value).toArray s 0 0 (Al_ L)) D cy (Al_ L) s.heap L κ ln R I_25 J 2 [(0, .ref x), (1, .int a0), (2, .int v_24)] [] := by
    intro m_2
    induction m_2 with
    | zero =>
      intro v_24 I_25 hk_2 h0_2 hI_25
      have rv_24 : Rg 75 75 v_24 := by unfold Rg; omega
      refine g_iload_n C 2 dX12_stay_2 rfl rfl ?_
      refine g_bipush C (v := 75) dX12_stay_3 (by decide) ?_
      refine g_icmp_ge C (tgt := 46) dX12_stay_5 (by decide) (fun h_26 => ?_) (fun h_26 => ?_)
      · skip
        refine g_lo (is := [0, 1, 2]) (lo2 := [(0, .ref x), (1, .int a0), (2, .int v_24)]) rfl ?_
        exact ex_2 I_25 (hI_25.trans (congrArg (fun q => swp_ I b_1 b_2 q) (show v_24.toNatClampNeg = 75 from by have := ix_n rv_24 (by decide); have := rv_24.1; have := rv_24.2; omega))) v_24 rv_24
      · skip
        have r_27 := lt_l (hi := 74) (nle h_26) rv_24 rc_75 (by decide)
        exact rg_no r_27 (by decide)
    | succ m_2 ih_2 =>
      intro v_24 I_25 hk_2 h0_2 hI_25
      have rv_24 : Rg 0 74 v_24 := by unfold Rg; omega
      refine g_iload_n C 2 dX12_stay_2 rfl rfl ?_
      refine g_bipush C (v := 75) dX12_stay_3 (by decide) ?_
      refine g_icmp_ge C (tgt := 46) dX12_stay_5 (by decide) (fun h_28 => ?_) (fun h_28 => ?_)
      · skip
        have r_29 := le_r (h_28) rc_75 rv_24
        exact rg_no r_29 (by decide)
      · skip
        refine g_aload_n C 0 dX12_stay_8 rfl rfl ?_
        refine g_getR C K hLx hkx f_12_13 hb_1 dX12_stay_9 ?_
        refine g_bipush C (v := 72) dX12_stay_12 (by decide) ?_
        refine g_iload_n C 2 dX12_stay_14 rfl rfl ?_
        obtain ⟨x_30, hx_30, rx_30, tx_30⟩ := ex_add 72 146 rc_72 rv_24 (by decide) (by decide) (by decide) (by decide)
        refine g_iadd C (v := x_30) dX12_stay_15 hx_30 ?_
        obtain ⟨x_31, hx_31, rx_31⟩ := ex_any (z0 := I_25 b_1 (x_30.toNatClampNeg))
        refine h_iald C K hb_1L hb_1k (v := x_31) (x_30.toNatClampNeg) (rfl) (ix_0 rx_30 (by decide)) (ix_lt rx_30 (by decide) hb_1n (by decide)) hx_31 dX12_stay_16 ?_
        refine g_istore_n C dX12_stay_17 rfl (by decide) (lo2 := [(3, .int x_31), (0, .ref x), (1, .int a0), (2, .int v_24)]) rfl ?_
        refine g_aload_n C 1 dX12_stay_18 rfl rfl ?_
        refine g_getR C K hLx hkx f_12_13 hb_1 dX12_stay_19 ?_
        refine g_bipush C (v := 72) dX12_stay_22 (by decide) ?_
        refine g_iload_n C 3 dX12_stay_24 rfl rfl ?_
        refine g_iadd C (v := x_30) dX12_stay_25 hx_30 ?_
        refine g_aload_n C 1 dX12_stay_26 rfl rfl ?_
        refine g_getR C K hLx hkx f_12_25 hb_2 dX12_stay_27 ?_
        refine g_iload_n C 3 dX12_stay_30 rfl rfl ?_
        obtain ⟨x_32, hx_32, rx_32⟩ := ex_any (z0 := I_25 b_2 (v_24.toNatClampNeg))
        refine h_iald C K hb_2L hb_2k (v := x_32) (v_24.toNatClampNeg) (rfl) (ix_0 rv_24 (by decide)) (ix_lt rv_24 (by decide) hb_2n (by decide)) hx_32 dX12_stay_31 ?_
        refine h_iast C K hb_1L hb_1k (x_30.toNatClampNeg) (rfl) (ix_0 rx_30 (by decide)) (ix_lt rx_30 (by decide) hb_1n (by decide)) dX12_stay_32 (fun I_33 hI_33 => ?_)
        refine g_aload_n C 1 dX12_stay_33 rfl rfl ?_
        refine g_getR C K hLx hkx f_12_25 hb_2 dX12_stay_34 ?_
        refine g_iload_n C 3 dX12_stay_37 rfl rfl ?_
        refine g_iload_n C 0 dX12_stay_38 rfl rfl ?_
        refine h_iast C K hb_2L hb_2k (v_24.toNatClampNeg) (rfl) (ix_0 rv_24 (by decide)) (ix_lt rv_24 (by decide) hb_2n (by decide)) dX12_stay_39 (fun I_34 hI_34 => ?_)
        obtain ⟨x_35, hx_35, rx_35, tx_35⟩ := ex_add (y := 1) 1 75 rv_24 rc_1 (by decide) (by decide) (by decide) (by decide)
        refine g_iinc C dX12_stay_40 (k := 3) (v := x_35) rfl hx_35 (by decide) (lo2 := [(2, .int x_35), (3, .int x_31), (0, .ref x), (1, .int a0)]) rfl ?_
        refine g_goto C (tgt := 2) dX12_stay_43 (by decide) ?_
        refine g_lo (is := [2, 3, 0]) (lo2 := [(0, .ref x), (1, .int a0), (2, .int x_35)]) rfl ?_
        have kk_2 : x_35.toNatClampNeg = v_24.toNatClampNeg + 1 := by have q1 := ix_n rv_24 (by decide); have q2 := (ti_k tx_35 rc_1); have q3 : x_35.toNatClampNeg = x_35.toInt.toNat := rfl; omega
        exact ih_2 x_35 I_34 (by have := (ti_k tx_35 rc_1); omega) (by have := (ti_k tx_35 rc_1); omega) (by rw [kk_2]; exact swp_s hI_25 (ne_ro (ro_a hb_1k (by decide) hb_1o hkx rfl) (ro_a hb_2k (by decide) hb_2o hkx rfl) (by decide)) hx_31 hx_32 hI_33 hI_34 (show x_30.toNatClampNeg = 72 + v_24.toNatClampNeg from by rw [nx_a tx_30 rc_72 rv_24 (by decide)]; simp only [show (72 : Int32).toNatClampNeg = 72 from rfl] <;> omega) rfl rfl)
  exact l_2 75 0 I (by decide) (by decide) swp_0
set_option maxRecDepth 100000 in
set_option maxHeartbeats 8000000 in
theorem c_X12_left {l : Launch} {D : va_G} {cy : Nat → ClassId} {L : List Nat} {κ ln : Nat → Nat} {R : Nat → Nat → Option Nat} {I : Nat → Nat → Int32} {J : Nat → Nat → Int64} {ow : Nat → Nat × Nat} (W9 : ∀ a ∈ L, Shp L κ ln R ow a) {x : Nat} (hLx : x ∈ L) (hkx : κ x = 12) (a0 : Int32) (hU : Iw L κ R ow I) : CtI l yX12_left cX12_left 4 (some .int) { frames := 5, cells := 0, slots := 0, locals := 120 } D cy L κ ln R I J [.ref x, .int a0] (fun r I2 J2 => Iw L κ R ow I2 ∧ Fq L κ ow [1200, 1202, 83400, 83800] I I2 ∧ Fq L κ ow [] J J2 ∧ Rg (-2147483648) 2147483647 r) := by
  refine CtI.of (by decide +kernel) (Nat.le_of_ble_eq_true rfl) ?_
  intro p e s m below meth c B K
  have C := B.1
  have hF : Fq L κ ow [1200, 1202, 83400, 83800] I I := fq_rf
  have hG : Fq L κ ow [] J J := fq_rf
  obtain ⟨b_1, hb_1, hb_1L, hb_1k, hb_1n, hb_1o⟩ := shp_a (W9 x hLx) hkx 1 14 940 rfl (by decide)
  refine g_lo (is := [0, 1]) (lo2 := [(0, .ref x), (1, .int a0)]) rfl ?_
  have l_64 : ∀ (n_64 : Nat) (I_2 : Nat → Nat → Int32) (J_3 : Nat → Nat → Int64) (hU_4 : Iw L κ R ow I_2) (hF_5 : Fq L κ ow [1200, 1202, 83400, 83800] I I_2) (hG_6 : Fq L κ ow [] J J_3) (v_7 : Int32) (rv_7 : Rg 0 6 v_7) (v_8 : Int32) (rv_8 : Rg 1 7 v_8) (v_9 : Int32) (rv_9 : Rg 0 7 v_9) (q_10 : I_2 x 0 = 0) (ga_11 : Ga_ R x I_2) (hj_12 : ∀ j : Nat, (j : Int) < v_8.toInt → Rg 0 6 (I_2 b_1 j)) (hm_13 : 7 < (v_9 : Int32).toInt + (n_64 : Int)), WG p l e { frames := 5, cells := 0, slots := 0, locals := 120 } s m ([.ref x, .int a0] : List Value).toArray below meth c 4 0 0 (MQ below (Qi_ D cy L κ ln R (fun r I2 J2 => Iw L κ R ow I2 ∧ Fq L κ ow [1200, 1202, 83400, 83800] I I2 ∧ Fq L κ ow [] J J2 ∧ Rg (-2147483648) 2147483647 r)) ([.ref x, .int a0] : List Value).toArray s 0 0 (Al_ L)) D cy (Al_ L) s.heap L κ ln R I_2 J_3 64 [(0, .ref x), (1, .int v_7), (2, .int v_8), (3, .int v_9)] [] := by
    intro n_64
    induction n_64 with
    | zero =>
      intro I_2 J_3 hU_4 hF_5 hG_6 v_7 rv_7 v_8 rv_8 v_9 rv_9 q_10 ga_11 hj_12 hm_13
      exact ms_0 rv_9 hm_13
    | succ n_64 ih_64 =>
      intro I_2 J_3 hU_4 hF_5 hG_6 v_7 rv_7 v_8 rv_8 v_9 rv_9 q_10 ga_11 hj_12 hm_13
      have j_95 : ∀ (I_14 : Nat → Nat → Int32) (J_15 : Nat → Nat → Int64) (hU_16 : Iw L κ R ow I_14) (hF_17 : Fq L κ ow [1200, 1202, 83400, 83800] I I_14) (hG_18 : Fq L κ ow [] J J_15) (v_19 : Int32) (rv_19 : Rg 0 6 v_19) (v_20 : Int32) (rv_20 : Rg 1 7 v_20) (v_21 : Int32) (rv_21 : Rg 0 6 v_21) (q_22 : I_14 x 0 = 0) (hm_23 : 7 < (v_21 : Int32).toInt + ((n_64 + 1 : Nat) : Int)) (ga_24 : Ga_ R x I_14) (hj_25 : ∀ j : Nat, (j : Int) < v_20.toInt → Rg 0 6 (I_14 b_1 j)), WG p l e { frames := 5, cells := 0, slots := 0, locals := 120 } s m ([.ref x, .int a0] : List Value).toArray below meth c 4 0 0 (MQ below (Qi_ D cy L κ ln R (fun r I2 J2 => Iw L κ R ow I2 ∧ Fq L κ ow [1200, 1202, 83400, 83800] I I2 ∧ Fq L κ ow [] J J2 ∧ Rg (-2147483648) 2147483647 r)) ([.ref x, .int a0] : List Value).toArray s 0 0 (Al_ L)) D cy (Al_ L) s.heap L κ ln R I_14 J_15 95 [(0, .ref x), (1, .int v_19), (2, .int v_20), (3, .int v_21)] [] := by
        intro I_14 J_15 hU_16 hF_17 hG_18 v_19 rv_19 v_20 rv_20 v_21 rv_21 q_22 hm_23 ga_24 hj_25
        obtain ⟨x_26, hx_26, rx_26, tx_26⟩ := ex_add (y := 1) 1 7 rv_21 rc_1 (by decide) (by decide) (by decide) (by decide)
        refine g_iinc C dX12_left_95 (k := 3) (v := x_26) rfl hx_26 (by decide) (lo2 := [(3, .int x_26), (0, .ref x), (1, .int v_19), (2, .int v_20)]) rfl ?_
        refine g_goto C (tgt := 64) dX12_left_98 (by decide) ?_
        refine g_lo (is := [1, 2, 3, 0]) (lo2 := [(0, .ref x), (1, .int v_19), (2, .int v_20), (3, .int x_26)]) rfl ?_
        exact ih_64 I_14 J_15 hU_16 hF_17 hG_18 v_19 (rv_19) v_20 (rv_20) x_26 (rg_w rx_26 (by decide) (by decide)) q_22 ga_24 hj_25 (ms_1 hm_23 (ti_k tx_26 rc_1) (by decide))
      refine g_iload_n C 3 dX12_left_64 rfl rfl ?_
      refine g_iload_n C 2 dX12_left_65 rfl rfl ?_
      refine g_icmp_ge C (tgt := 101) dX12_left_66 (by decide) (fun h_27 => ?_) (fun h_27 => ?_)
      · skip
        have r_28 := le_r (h_27) rv_8 rv_9
        refine g_aload_n C 0 dX12_left_101 rfl rfl ?_
        refine g_iload_n C 1 dX12_left_102 rfl rfl ?_
        refine g_callVI C K (c_X12_plateOf W9 hLx hkx v_7 (rv_7) hU_4) hLx hkx (by decide) rfl v_12_247 rfl ⟨rfl, rfl⟩ ⟨Nat.le_of_ble_eq_true rfl, Nat.le_of_ble_eq_true rfl⟩ (Nat.le_of_ble_eq_true rfl) ⟨Nat.le_of_ble_eq_true rfl, Nat.le_of_ble_eq_true rfl⟩ dX12_left_103 rfl (st := []) (fun x_29 I_30 J_31 h_32 => ?_)
        obtain ⟨rfl, rfl, rx_29⟩ := h_32
        refine g_istore_n C dX12_left_106 rfl (by decide) (lo2 := [(3, .int x_29), (0, .ref x), (1, .int v_7), (2, .int v_8)]) rfl ?_
        refine g_aload_n C 1 dX12_left_107 rfl rfl ?_
        refine g_callVV C K (c_X12_takeBack W9 hLx hkx   hU_4  (ga_11)) hLx hkx (by decide) rfl v_12_332 rfl ⟨rfl, rfl⟩ ⟨Nat.le_of_ble_eq_true rfl, Nat.le_of_ble_eq_true rfl⟩ (Nat.le_of_ble_eq_true rfl) ⟨Nat.le_of_ble_eq_true rfl, Nat.le_of_ble_eq_true rfl⟩ dX12_left_108 rfl (st := []) (fun I_34 J_35 h_36 => ?_)
        obtain ⟨hUI_34, hFI_34, hGJ_35, ex_33⟩ := h_36
        have hF_37 := fq_tr hF_5 hFI_34 (by decide)
        have hG_38 := fq_tr hG_6 hGJ_35 (by decide)
        refine g_iload_n C 0 dX12_left_111 rfl rfl ?_
        exact g_zret (ty := .int) (r := x_29) B K rfl (rfl) ⟨hUI_34, hF_37, hG_38, rx_29⟩ dX12_left_112
      · skip
        have r_39 := lt_l (hi := 6) (nle h_27) rv_9 rv_8 (by decide)
        refine g_aload_n C 0 dX12_left_69 rfl rfl ?_
        refine g_aload_n C 0 dX12_left_70 rfl rfl ?_
        refine g_getR C K hLx hkx f_12_7 hb_1 dX12_left_71 ?_
        refine g_iload_n C 3 dX12_left_74 rfl rfl ?_
        obtain ⟨x_40, hx_40, rx_40⟩ := ex_getw (I := I_2) (a := b_1) (j := v_9.toNatClampNeg) (lo := 0) (hi := 255) hU_4.1 hb_1L (ro_a hb_1k (by decide) hb_1o hkx rfl) (rfl)
        refine h_iald C K hb_1L hb_1k (v := x_40) (v_9.toNatClampNeg) (rfl) (ix_0 r_39 (by decide)) (ix_lt r_39 (by decide) hb_1n (by decide)) hx_40 dX12_left_75 ?_
        have r_41 := eq_rg (Eq.symm hx_40) (hj_12 v_9.toNatClampNeg (by rw [ix_n r_39 (by decide)]; exact Int32.lt_iff_toInt_lt.mp (nle h_27)))
        refine g_callVI C K (c_X12_isDead W9 hLx hkx x_40 (r_41) hU_4) hLx hkx (by decide) rfl v_12_244 rfl ⟨rfl, rfl⟩ ⟨Nat.le_of_ble_eq_true rfl, Nat.le_of_ble_eq_true rfl⟩ (Nat.le_of_ble_eq_true rfl) ⟨Nat.le_of_ble_eq_true rfl, Nat.le_of_ble_eq_true rfl⟩ dX12_left_76 rfl (st := []) (fun x_42 I_43 J_44 h_45 => ?_)
        obtain ⟨rfl, rfl, rx_42⟩ := h_45
        refine g_if_ne C (tgt := 95) dX12_left_79 (by decide) (fun h_46 => ?_) (fun h_46 => ?_)
        · skip
          have n_47 : ¬ x_42 = 0 := h_46
          have r_48 := ne_lo (lo := 1) n_47 rx_42 rc_0 rfl (by decide)
          refine g_lo (is := [0, 1, 2, 3]) (lo2 := [(0, .ref x), (1, .int v_7), (2, .int v_8), (3, .int v_9)]) rfl ?_
          exact j_95 I_2 J_3 hU_4 hF_5 hG_6 v_7 (rv_7) v_8 (rv_8) v_9 (r_39) q_10 hm_13 ga_11 hj_12
        · skip
          have r_49 := (⟨(rx_42).1, (eq_rg (h_46) rc_0).2⟩ : Rg 0 0 x_42)
          refine g_aload_n C 0 dX12_left_82 rfl rfl ?_
          refine g_iconst C (v := 5) dX12_left_83 (by decide) ?_
          refine g_aload_n C 0 dX12_left_84 rfl rfl ?_
          refine g_getR C K hLx hkx f_12_7 hb_1 dX12_left_85 ?_
          refine g_iload_n C 3 dX12_left_88 rfl rfl ?_
          refine h_iald C K hb_1L hb_1k (v := x_40) (v_9.toNatClampNeg) (rfl) (ix_0 r_39 (by decide)) (ix_lt r_39 (by decide) hb_1n (by decide)) hx_40 dX12_left_89 ?_
          refine g_iconst C (v := 0) dX12_left_90 (by decide) ?_
          refine g_iconst C (v := 0) dX12_left_91 (by decide) ?_
          refine g_callVV C K (c_X12_live W9 hLx hkx 5 x_40 0 0 (rg_w rc_5 (by decide) (by decide)) (r_41) (rg_w rc_0 (by decide) (by decide)) (rg_w rc_0 (by decide) (by decide)) hU_4  (fun a ha => ⟨fun q => absurd q (by decide), fun q => absurd q (by decide)⟩)) hLx hkx (by decide) rfl v_12_285 rfl ⟨rfl, rfl⟩ ⟨Nat.le_of_ble_eq_true rfl, Nat.le_of_ble_eq_true rfl⟩ (Nat.le_of_ble_eq_true rfl) ⟨Nat.le_of_ble_eq_true rfl, Nat.le_of_ble_eq_true rfl⟩ dX12_left_92 rfl (st := []) (fun I_52 J_53 h_54 => ?_)
          obtain ⟨hUI_52, hFI_52, hGJ_53, ex_51⟩ := h_54
          have hF_55 := fq_tr hF_5 hFI_52 (by decide)
          have hG_56 := fq_tr hG_6 hGJ_53 (by decide)
          refine g_lo (is := [0, 1, 2, 3]) (lo2 := [(0, .ref x), (1, .int v_7), (2, .int v_8), (3, .int v_9)]) rfl ?_
          exact j_95 I_52 J_53 hUI_52 hF_55 hG_56 v_7 (rv_7) v_8 (rv_8) v_9 (r_39) (fq_at hFI_52 hLx hkx (by decide) (by decide) q_10) hm_13 (ga_mv W9 hLx hkx ga_11 ex_51 hFI_52 (by decide)) (fun j hj => eq_rg (fq_ar hFI_52 hb_1L (ro_a hb_1k (by decide) hb_1o hkx rfl) (by decide) (by decide) rfl) (hj_12 j hj))
  have l_32 : ∀ (n_32 : Nat) (I_57 : Nat → Nat → Int32) (J_58 : Nat → Nat → Int64) (hU_59 : Iw L κ R ow I_57) (hF_60 : Fq L κ ow [1200, 1202, 83400, 83800] I I_57) (hG_61 : Fq L κ ow [] J J_58) (v_62 : Int32) (rv_62 : Rg 0 6 v_62) (v_63 : Int32) (rv_63 : Rg 1 7 v_63) (v_64 : Int32) (rv_64 : Rg 0 7 v_64) (q_65 : I_57 x 0 = 0) (hj_66 : ∀ j : Nat, (j : Int) < v_64.toInt → Rg 0 6 (I_57 b_1 j)) (hm_67 : 7 < (v_64 : Int32).toInt + (n_32 : Int)), WG p l e { frames := 5, cells := 0, slots := 0, locals := 120 } s m ([.ref x, .int a0] : List Value).toArray below meth c 4 0 0 (MQ below (Qi_ D cy L κ ln R (fun r I2 J2 => Iw L κ R ow I2 ∧ Fq L κ ow [1200, 1202, 83400, 83800] I I2 ∧ Fq L κ ow [] J J2 ∧ Rg (-2147483648) 2147483647 r)) ([.ref x, .int a0] : List Value).toArray s 0 0 (Al_ L)) D cy (Al_ L) s.heap L κ ln R I_57 J_58 32 [(0, .ref x), (1, .int v_62), (2, .int v_63), (3, .int v_64)] [] := by
    intro n_32
    induction n_32 with
    | zero =>
      intro I_57 J_58 hU_59 hF_60 hG_61 v_62 rv_62 v_63 rv_63 v_64 rv_64 q_65 hj_66 hm_67
      exact ms_0 rv_64 hm_67
    | succ n_32 ih_32 =>
      intro I_57 J_58 hU_59 hF_60 hG_61 v_62 rv_62 v_63 rv_63 v_64 rv_64 q_65 hj_66 hm_67
      refine g_iload_n C 3 dX12_left_32 rfl rfl ?_
      refine g_iload_n C 2 dX12_left_33 rfl rfl ?_
      refine g_icmp_ge C (tgt := 58) dX12_left_34 (by decide) (fun h_68 => ?_) (fun h_68 => ?_)
      · skip
        have r_69 := le_r (h_68) rv_63 rv_64
        refine g_aload_n C 0 dX12_left_58 rfl rfl ?_
        refine g_callVV C K (c_X12_layAside W9 hLx hkx   hU_59) hLx hkx (by decide) rfl v_12_329 rfl ⟨rfl, rfl⟩ ⟨Nat.le_of_ble_eq_true rfl, Nat.le_of_ble_eq_true rfl⟩ (Nat.le_of_ble_eq_true rfl) ⟨Nat.le_of_ble_eq_true rfl, Nat.le_of_ble_eq_true rfl⟩ dX12_left_59 rfl (st := []) (fun I_71 J_72 h_73 => ?_)
        obtain ⟨hUI_71, hFI_71, hGJ_72, ex_70⟩ := h_73
        have hF_74 := fq_tr hF_60 hFI_71 (by decide)
        have hG_75 := fq_tr hG_61 hGJ_72 (by decide)
        refine g_iconst C (v := 0) dX12_left_62 (by decide) ?_
        refine g_istore_n C dX12_left_63 rfl (by decide) (lo2 := [(3, .int 0), (0, .ref x), (1, .int v_62), (2, .int v_63)]) rfl ?_
        refine g_lo (is := [1, 2, 3, 0]) (lo2 := [(0, .ref x), (1, .int v_62), (2, .int v_63), (3, .int 0)]) rfl ?_
        exact l_64 8 I_71 J_72 hUI_71 hF_74 hG_75 v_62 (rv_62) v_63 (rv_63) 0 (rg_w rc_0 (by decide) (by decide)) (fq_at hFI_71 hLx hkx (by decide) (by decide) q_65) ex_70.2 (fun j hj => eq_rg (fq_ar hFI_71 hb_1L (ro_a hb_1k (by decide) hb_1o hkx rfl) (by decide) (by decide) rfl) ((fun j hj => hj_66 j (Int.lt_of_lt_of_le hj (Int32.le_iff_toInt_le.mp (h_68)))) j hj)) (ms_s (a := 0) (b := 7) (N := 8) (rg_w rc_0 (by decide) (by decide)) (by decide))
      · skip
        have r_76 := lt_l (hi := 6) (nle h_68) rv_64 rv_63 (by decide)
        refine g_aload_n C 0 dX12_left_37 rfl rfl ?_
        refine g_aload_n C 0 dX12_left_38 rfl rfl ?_
        refine g_getR C K hLx hkx f_12_7 hb_1 dX12_left_39 ?_
        refine g_iload_n C 3 dX12_left_42 rfl rfl ?_
        obtain ⟨x_77, hx_77, rx_77⟩ := ex_getw (I := I_57) (a := b_1) (j := v_64.toNatClampNeg) (lo := 0) (hi := 255) hU_59.1 hb_1L (ro_a hb_1k (by decide) hb_1o hkx rfl) (rfl)
        refine h_iald C K hb_1L hb_1k (v := x_77) (v_64.toNatClampNeg) (rfl) (ix_0 r_76 (by decide)) (ix_lt r_76 (by decide) hb_1n (by decide)) hx_77 dX12_left_43 ?_
        refine g_callVI C K (c_X12_isPerson W9 hLx hkx x_77  hU_59) hLx hkx (by decide) rfl v_12_238 rfl ⟨rfl, rfl⟩ ⟨Nat.le_of_ble_eq_true rfl, Nat.le_of_ble_eq_true rfl⟩ (Nat.le_of_ble_eq_true rfl) ⟨Nat.le_of_ble_eq_true rfl, Nat.le_of_ble_eq_true rfl⟩ dX12_left_44 rfl (st := []) (fun x_78 I_79 J_80 h_81 => ?_)
        obtain ⟨rfl, rfl, rx_78, ex_78⟩ := h_81
        refine g_if_ne C (tgt := 52) dX12_left_47 (by decide) (fun h_82 => ?_) (fun h_82 => ?_)
        · skip
          have n_83 : ¬ x_78 = 0 := h_82
          have r_84 := ne_lo (lo := 1) n_83 rx_78 rc_0 rfl (by decide)
          have r_85 := rg_i rx_77 ((ex_78) n_83) (lo := 0) (hi := 6) (by decide) (by decide)
          obtain ⟨x_86, hx_86, rx_86, tx_86⟩ := ex_add (y := 1) 1 7 r_76 rc_1 (by decide) (by decide) (by decide) (by decide)
          refine g_iinc C dX12_left_52 (k := 3) (v := x_86) rfl hx_86 (by decide) (lo2 := [(3, .int x_86), (0, .ref x), (1, .int v_62), (2, .int v_63)]) rfl ?_
          refine g_goto C (tgt := 32) dX12_left_55 (by decide) ?_
          refine g_lo (is := [1, 2, 3, 0]) (lo2 := [(0, .ref x), (1, .int v_62), (2, .int v_63), (3, .int x_86)]) rfl ?_
          exact ih_32 I_57 J_58 hU_59 hF_60 hG_61 v_62 (rv_62) v_63 (rv_63) x_86 (rg_w rx_86 (by decide) (by decide)) q_65 (fun j hj => by by_cases q : (j : Int) < v_64.toInt; exact hj_66 j q; have q1 := ix_n r_76 (by decide); have q2 := (ti_k tx_86 rc_1); rw [show j = v_64.toNatClampNeg from by omega]; exact eq_rg hx_77 (r_85)) (ms_1 hm_67 (ti_k tx_86 rc_1) (by decide))
        · skip
          have r_87 := (⟨(rx_78).1, (eq_rg (h_82) rc_0).2⟩ : Rg 0 0 x_78)
          refine g_iconst C (v := (-1)) dX12_left_50 (by decide) ?_
          exact g_zret (ty := .int) (r := (-1)) B K rfl (rfl) ⟨hU_59, hF_60, hG_61, rg_all _⟩ dX12_left_51
  refine g_aload_n C 0 dX12_left_0 rfl rfl ?_
  refine g_iconst C (v := 0) dX12_left_1 (by decide) ?_
  refine h_putI C K hLx hkx f_12_82 p_12_0 dX12_left_2 (fun I_88 hI_88 => ?_)
  have hU_89 := iw_put W9 hU hI_88 (ro_o hkx (by decide)) (lo := (-2147483648)) (hi := 2147483647) (rfl) (rg_all _) rfl
  have hF_90 := fq_puto hF hI_88 hkx (by decide) (by decide)
  refine g_aload_n C 0 dX12_left_5 rfl rfl ?_
  refine g_callVI C K (c_X12_take W9 hLx hkx   hU_89) hLx hkx (by decide) rfl v_12_162 rfl ⟨rfl, rfl⟩ ⟨Nat.le_of_ble_eq_true rfl, Nat.le_of_ble_eq_true rfl⟩ (Nat.le_of_ble_eq_true rfl) ⟨Nat.le_of_ble_eq_true rfl, Nat.le_of_ble_eq_true rfl⟩ dX12_left_6 rfl (st := []) (fun x_91 I_92 J_93 h_94 => ?_)
  obtain ⟨hUI_92, hFI_92, hGJ_93, rx_91⟩ := h_94
  have hF_95 := fq_tr hF_90 hFI_92 (by decide)
  have hG_96 := fq_tr hG hGJ_93 (by decide)
  refine g_istore_n C dX12_left_9 rfl (by decide) (lo2 := [(2, .int x_91), (0, .ref x), (1, .int a0)]) rfl ?_
  refine g_aload_n C 1 dX12_left_10 rfl rfl ?_
  refine g_iload_n C 2 dX12_left_11 rfl rfl ?_
  refine g_callVI C K (c_X12_isPerson W9 hLx hkx a0  hUI_92) hLx hkx (by decide) rfl v_12_238 rfl ⟨rfl, rfl⟩ ⟨Nat.le_of_ble_eq_true rfl, Nat.le_of_ble_eq_true rfl⟩ (Nat.le_of_ble_eq_true rfl) ⟨Nat.le_of_ble_eq_true rfl, Nat.le_of_ble_eq_true rfl⟩ dX12_left_12 rfl (st := []) (fun x_97 I_98 J_99 h_100 => ?_)
  obtain ⟨rfl, rfl, rx_97, ex_97⟩ := h_100
  refine g_if_eq C (tgt := 28) dX12_left_15 (by decide) (fun h_101 => ?_) (fun h_101 => ?_)
  · skip
    have r_102 := (⟨(rx_97).1, (eq_rg (h_101) rc_0).2⟩ : Rg 0 0 x_97)
    refine g_iconst C (v := (-1)) dX12_left_28 (by decide) ?_
    exact g_zret (ty := .int) (r := (-1)) B K rfl (rfl) ⟨hUI_92, hF_95, hG_96, rg_all _⟩ dX12_left_29
  · skip
    have n_103 : ¬ x_97 = 0 := h_101
    have r_104 := ne_lo (lo := 1) n_103 rx_97 rc_0 rfl (by decide)
    have r_105 := rg_i (rg_all a0) ((ex_97) n_103) (lo := 0) (hi := 6) (by decide) (by decide)
    refine g_iload_n C 0 dX12_left_18 rfl rfl ?_
    refine g_iconst C (v := 1) dX12_left_19 (by decide) ?_
    refine g_bipush C (v := 7) dX12_left_20 (by decide) ?_
    refine g_callSI C K (c_X12_isIn W9 x_91 1 7 (rg_w rc_1 (by decide) (by decide)) (rg_w rc_7 (by decide) (by decide)) hUI_92) s_12_149 rfl ⟨rfl, rfl⟩ ⟨Nat.le_of_ble_eq_true rfl, Nat.le_of_ble_eq_true rfl⟩ (Nat.le_of_ble_eq_true rfl) ⟨Nat.le_of_ble_eq_true rfl, Nat.le_of_ble_eq_true rfl⟩ dX12_left_22 rfl (st := []) (fun x_106 I_107 J_108 h_109 => ?_)
    obtain ⟨rfl, rfl, rx_106, ex_106⟩ := h_109
    refine g_if_ne C (tgt := 30) dX12_left_25 (by decide) (fun h_110 => ?_) (fun h_110 => ?_)
    · skip
      have n_111 : ¬ x_106 = 0 := h_110
      have r_112 := ne_lo (lo := 1) n_111 rx_106 rc_0 rfl (by decide)
      have r_113 := le_r (((ex_106.1) n_111)) rc_1 rx_91
      have r_114 := le_l (((ex_106.2) n_111)) r_113 rc_7
      refine g_iconst C (v := 0) dX12_left_30 (by decide) ?_
      refine g_istore_n C dX12_left_31 rfl (by decide) (lo2 := [(3, .int 0), (2, .int x_91), (0, .ref x), (1, .int a0)]) rfl ?_
      refine g_lo (is := [2, 3, 1, 0]) (lo2 := [(0, .ref x), (1, .int a0), (2, .int x_91), (3, .int 0)]) rfl ?_
      exact l_32 8 I_92 J_93 hUI_92 hF_95 hG_96 a0 (r_105) x_91 (r_114) 0 (rg_w rc_0 (by decide) (by decide)) (fq_at hFI_92 hLx hkx (by decide) (by decide) (kp_s hI_88)) (fun j hj => by rw [show (0 : Int32).toInt = 0 from by decide] at hj; omega) (ms_s (a := 0) (b := 7) (N := 8) (rg_w rc_0 (by decide) (by decide)) (by decide))
    · skip
      have r_115 := (⟨(rx_106).1, (eq_rg (h_110) rc_0).2⟩ : Rg 0 0 x_106)
      refine g_iconst C (v := (-1)) dX12_left_28 (by decide) ?_
      exact g_zret (ty := .int) (r := (-1)) B K rfl (rfl) ⟨hUI_92, hF_95, hG_96, rg_all _⟩ dX12_left_29
set_option maxRecDepth 100000 in
set_option maxHeartbeats 8000000 in
theorem c_X12_odds {l : Launch} {D : va_G} {cy : Nat → ClassId} {L : List Nat} {κ ln : Nat → Nat} {R : Nat → Nat → Option Nat} {I : Nat → Nat → Int32} {J : Nat → Nat → Int64} {ow : Nat → Nat × Nat} (W9 : ∀ a ∈ L, Shp L κ ln R ow a) {x : Nat} (hLx : x ∈ L) (hkx : κ x = 12) (a0 : Int32) (a1 : Int32) (a2 : Int32) (hU : Iw L κ R ow I) : CtI l yX12_odds cX12_odds 6 (some .int) { frames := 6, cells := 0, slots := 0, locals := 146 } D cy L κ ln R I J [.ref x, .int a0, .int a1, .int a2] (fun r I2 J2 => Iw L κ R ow I2 ∧ Fq L κ ow [1200, 1241, 83400, 83800] I I2 ∧ Fq L κ ow [] J J2 ∧ Rg (-2147483648) 2147483647 r) := by
  refine CtI.of (by decide +kernel) (Nat.le_of_ble_eq_true rfl) ?_
  intro p e s m below meth c B K
  have C := B.1
  have hF : Fq L κ ow [1200, 1241, 83400, 83800] I I := fq_rf
  have hG : Fq L κ ow [] J J := fq_rf
  refine g_lo (is := [0, 1, 2, 3]) (lo2 := [(0, .ref x), (1, .int a0), (2, .int a1), (3, .int a2)]) rfl ?_
  have l_35 : ∀ (n_35 : Nat) (I_1 : Nat → Nat → Int32) (J_2 : Nat → Nat → Int64) (hU_3 : Iw L κ R ow I_1) (hF_4 : Fq L κ ow [1200, 1241, 83400, 83800] I I_1) (hG_5 : Fq L κ ow [] J J_2) (v_6 : Int32) (rv_6 : Rg 0 6 v_6) (v_7 : Int32) (rv_7 : Rg 1 30 v_7) (v_8 : Int32) (v_9 : Int32) (v_10 : Int32) (rv_10 : Rg 0 30 v_10) (q_11 : I_1 x 0 = 0) (ga_12 : Ga_ R x I_1) (hm_13 : 30 < (v_10 : Int32).toInt + (n_35 : Int)), WG p l e { frames := 6, cells := 0, slots := 0, locals := 146 } s m ([.ref x, .int a0, .int a1, .int a2] : List Value).toArray below meth c 6 0 0 (MQ below (Qi_ D cy L κ ln R (fun r I2 J2 => Iw L κ R ow I2 ∧ Fq L κ ow [1200, 1241, 83400, 83800] I I2 ∧ Fq L κ ow [] J J2 ∧ Rg (-2147483648) 2147483647 r)) ([.ref x, .int a0, .int a1, .int a2] : List Value).toArray s 0 0 (Al_ L)) D cy (Al_ L) s.heap L κ ln R I_1 J_2 35 [(0, .ref x), (1, .int v_6), (2, .int v_7), (3, .int v_8), (4, .int v_9), (5, .int v_10)] [] := by
    intro n_35
    induction n_35 with
    | zero =>
      intro I_1 J_2 hU_3 hF_4 hG_5 v_6 rv_6 v_7 rv_7 v_8 v_9 v_10 rv_10 q_11 ga_12 hm_13
      exact ms_0 rv_10 hm_13
    | succ n_35 ih_35 =>
      intro I_1 J_2 hU_3 hF_4 hG_5 v_6 rv_6 v_7 rv_7 v_8 v_9 v_10 rv_10 q_11 ga_12 hm_13
      have j_63 : ∀ (I_14 : Nat → Nat → Int32) (J_15 : Nat → Nat → Int64) (hU_16 : Iw L κ R ow I_14) (hF_17 : Fq L κ ow [1200, 1241, 83400, 83800] I I_14) (hG_18 : Fq L κ ow [] J J_15) (v_19 : Int32) (rv_19 : Rg 0 6 v_19) (v_20 : Int32) (rv_20 : Rg 1 30 v_20) (v_21 : Int32) (v_22 : Int32) (v_23 : Int32) (rv_23 : Rg 0 29 v_23) (q_24 : I_14 x 0 = 0) (hm_25 : 30 < (v_23 : Int32).toInt + ((n_35 + 1 : Nat) : Int)) (ga_26 : Ga_ R x I_14), WG p l e { frames := 6, cells := 0, slots := 0, locals := 146 } s m ([.ref x, .int a0, .int a1, .int a2] : List Value).toArray below meth c 6 0 0 (MQ below (Qi_ D cy L κ ln R (fun r I2 J2 => Iw L κ R ow I2 ∧ Fq L κ ow [1200, 1241, 83400, 83800] I I2 ∧ Fq L κ ow [] J J2 ∧ Rg (-2147483648) 2147483647 r)) ([.ref x, .int a0, .int a1, .int a2] : List Value).toArray s 0 0 (Al_ L)) D cy (Al_ L) s.heap L κ ln R I_14 J_15 63 [(0, .ref x), (1, .int v_19), (2, .int v_20), (3, .int v_21), (4, .int v_22), (5, .int v_23)] [] := by
        intro I_14 J_15 hU_16 hF_17 hG_18 v_19 rv_19 v_20 rv_20 v_21 v_22 v_23 rv_23 q_24 hm_25 ga_26
        refine g_aload_n C 0 dX12_odds_63 rfl rfl ?_
        refine g_callVV C K (c_X12_takeBack W9 hLx hkx   hU_16  (ga_26)) hLx hkx (by decide) rfl v_12_332 rfl ⟨rfl, rfl⟩ ⟨Nat.le_of_ble_eq_true rfl, Nat.le_of_ble_eq_true rfl⟩ (Nat.le_of_ble_eq_true rfl) ⟨Nat.le_of_ble_eq_true rfl, Nat.le_of_ble_eq_true rfl⟩ dX12_odds_64 rfl (st := []) (fun I_28 J_29 h_30 => ?_)
        obtain ⟨hUI_28, hFI_28, hGJ_29, ex_27⟩ := h_30
        have hF_31 := fq_tr hF_17 hFI_28 (by decide)
        have hG_32 := fq_tr hG_18 hGJ_29 (by decide)
        obtain ⟨x_33, hx_33, rx_33, tx_33⟩ := ex_add (y := 1) 1 30 rv_23 rc_1 (by decide) (by decide) (by decide) (by decide)
        refine g_iinc C dX12_odds_67 (k := 5) (v := x_33) rfl hx_33 (by decide) (lo2 := [(5, .int x_33), (0, .ref x), (1, .int v_19), (2, .int v_20), (3, .int v_21), (4, .int v_22)]) rfl ?_
        refine g_goto C (tgt := 35) dX12_odds_70 (by decide) ?_
        refine g_lo (is := [1, 2, 3, 4, 5, 0]) (lo2 := [(0, .ref x), (1, .int v_19), (2, .int v_20), (3, .int v_21), (4, .int v_22), (5, .int x_33)]) rfl ?_
        exact ih_35 I_28 J_29 hUI_28 hF_31 hG_32 v_19 (rv_19) v_20 (rv_20) v_21 v_22 x_33 (rg_w rx_33 (by decide) (by decide)) (fq_at hFI_28 hLx hkx (by decide) (by decide) q_24) (ga_mv W9 hLx hkx ga_26 ex_27 hFI_28 (by decide)) (ms_1 hm_25 (ti_k tx_33 rc_1) (by decide))
      refine g_iload C 5 dX12_odds_35 rfl ?_
      refine g_iload_n C 2 dX12_odds_37 rfl rfl ?_
      refine g_icmp_ge C (tgt := 73) dX12_odds_38 (by decide) (fun h_34 => ?_) (fun h_34 => ?_)
      · skip
        have r_35 := le_r (h_34) rv_7 rv_10
        refine g_iload C 4 dX12_odds_73 rfl ?_
        exact g_zret (ty := .int) (r := v_9) B K rfl (rfl) ⟨hU_3, hF_4, hG_5, (rg_all v_9)⟩ dX12_odds_75
      · skip
        have r_36 := lt_l (hi := 29) (nle h_34) rv_10 rv_7 (by decide)
        refine g_aload_n C 0 dX12_odds_41 rfl rfl ?_
        refine g_bipush C (v := 10) dX12_odds_42 (by decide) ?_
        refine g_iload_n C 3 dX12_odds_44 rfl rfl ?_
        refine g_iload C 5 dX12_odds_45 rfl ?_
        obtain ⟨x_37, hx_37, rx_37⟩ := ex_any (z0 := v_8 + v_10)
        refine g_iadd C (v := x_37) dX12_odds_47 hx_37 ?_
        refine g_callVI C K (c_X12_drawMeals W9 hLx hkx 10 x_37 (rg_w rc_10 (by decide) (by decide)) hU_3) hLx hkx (by decide) rfl v_12_358 rfl ⟨rfl, rfl⟩ ⟨Nat.le_of_ble_eq_true rfl, Nat.le_of_ble_eq_true rfl⟩ (Nat.le_of_ble_eq_true rfl) ⟨Nat.le_of_ble_eq_true rfl, Nat.le_of_ble_eq_true rfl⟩ dX12_odds_48 rfl (st := []) (fun x_38 I_39 J_40 h_41 => ?_)
        obtain ⟨hUI_39, hFI_39, hGJ_40, rx_38, ex_38⟩ := h_41
        have hF_42 := fq_tr hF_4 hFI_39 (by decide)
        have hG_43 := fq_tr hG_5 hGJ_40 (by decide)
        refine g_pop C dX12_odds_51 rfl ?_
        refine g_aload_n C 0 dX12_odds_52 rfl rfl ?_
        refine g_iload_n C 1 dX12_odds_53 rfl rfl ?_
        refine g_callVI C K (c_X12_isDead W9 hLx hkx v_6 (rv_6) hUI_39) hLx hkx (by decide) rfl v_12_244 rfl ⟨rfl, rfl⟩ ⟨Nat.le_of_ble_eq_true rfl, Nat.le_of_ble_eq_true rfl⟩ (Nat.le_of_ble_eq_true rfl) ⟨Nat.le_of_ble_eq_true rfl, Nat.le_of_ble_eq_true rfl⟩ dX12_odds_54 rfl (st := []) (fun x_44 I_45 J_46 h_47 => ?_)
        obtain ⟨rfl, rfl, rx_44⟩ := h_47
        refine g_if_ne C (tgt := 63) dX12_odds_57 (by decide) (fun h_48 => ?_) (fun h_48 => ?_)
        · skip
          have n_49 : ¬ x_44 = 0 := h_48
          have r_50 := ne_lo (lo := 1) n_49 rx_44 rc_0 rfl (by decide)
          refine g_lo (is := [0, 1, 2, 3, 4, 5]) (lo2 := [(0, .ref x), (1, .int v_6), (2, .int v_7), (3, .int v_8), (4, .int v_9), (5, .int v_10)]) rfl ?_
          exact j_63 I_39 J_40 hUI_39 hF_42 hG_43 v_6 (rv_6) v_7 (rv_7) v_8 v_9 v_10 (r_36) (fq_at hFI_39 hLx hkx (by decide) (by decide) q_11) hm_13 (ga_mv W9 hLx hkx ga_12 ex_38 hFI_39 (by decide))
        · skip
          have r_51 := (⟨(rx_44).1, (eq_rg (h_48) rc_0).2⟩ : Rg 0 0 x_44)
          obtain ⟨x_52, hx_52, rx_52⟩ := ex_any (z0 := v_9 + 1)
          refine g_iinc C dX12_odds_60 (k := 4) (v := x_52) rfl hx_52 (by decide) (lo2 := [(4, .int x_52), (0, .ref x), (1, .int v_6), (2, .int v_7), (3, .int v_8), (5, .int v_10)]) rfl ?_
          refine g_lo (is := [1, 2, 3, 4, 0, 5]) (lo2 := [(0, .ref x), (1, .int v_6), (2, .int v_7), (3, .int v_8), (4, .int x_52), (5, .int v_10)]) rfl ?_
          exact j_63 I_39 J_40 hUI_39 hF_42 hG_43 v_6 (rv_6) v_7 (rv_7) v_8 x_52 v_10 (r_36) (fq_at hFI_39 hLx hkx (by decide) (by decide) q_11) hm_13 (ga_mv W9 hLx hkx ga_12 ex_38 hFI_39 (by decide))
  refine g_aload_n C 0 dX12_odds_0 rfl rfl ?_
  refine g_iconst C (v := 0) dX12_odds_1 (by decide) ?_
  refine h_putI C K hLx hkx f_12_82 p_12_0 dX12_odds_2 (fun I_53 hI_53 => ?_)
  have hU_54 := iw_put W9 hU hI_53 (ro_o hkx (by decide)) (lo := (-2147483648)) (hi := 2147483647) (rfl) (rg_all _) rfl
  have hF_55 := fq_puto hF hI_53 hkx (by decide) (by decide)
  refine g_aload_n C 0 dX12_odds_5 rfl rfl ?_
  refine g_iload_n C 1 dX12_odds_6 rfl rfl ?_
  refine g_callVI C K (c_X12_isPerson W9 hLx hkx a0  hU_54) hLx hkx (by decide) rfl v_12_238 rfl ⟨rfl, rfl⟩ ⟨Nat.le_of_ble_eq_true rfl, Nat.le_of_ble_eq_true rfl⟩ (Nat.le_of_ble_eq_true rfl) ⟨Nat.le_of_ble_eq_true rfl, Nat.le_of_ble_eq_true rfl⟩ dX12_odds_7 rfl (st := []) (fun x_56 I_57 J_58 h_59 => ?_)
  obtain ⟨rfl, rfl, rx_56, ex_56⟩ := h_59
  refine g_if_eq C (tgt := 23) dX12_odds_10 (by decide) (fun h_60 => ?_) (fun h_60 => ?_)
  · skip
    have r_61 := (⟨(rx_56).1, (eq_rg (h_60) rc_0).2⟩ : Rg 0 0 x_56)
    refine g_iconst C (v := (-1)) dX12_odds_23 (by decide) ?_
    exact g_zret (ty := .int) (r := (-1)) B K rfl (rfl) ⟨hU_54, hF_55, hG, rg_all _⟩ dX12_odds_24
  · skip
    have n_62 : ¬ x_56 = 0 := h_60
    have r_63 := ne_lo (lo := 1) n_62 rx_56 rc_0 rfl (by decide)
    have r_64 := rg_i (rg_all a0) ((ex_56) n_62) (lo := 0) (hi := 6) (by decide) (by decide)
    refine g_iload_n C 2 dX12_odds_13 rfl rfl ?_
    refine g_iconst C (v := 1) dX12_odds_14 (by decide) ?_
    refine g_bipush C (v := 30) dX12_odds_15 (by decide) ?_
    refine g_callSI C K (c_X12_isIn W9 a1 1 30 (rg_w rc_1 (by decide) (by decide)) (rg_w rc_30 (by decide) (by decide)) hU_54) s_12_149 rfl ⟨rfl, rfl⟩ ⟨Nat.le_of_ble_eq_true rfl, Nat.le_of_ble_eq_true rfl⟩ (Nat.le_of_ble_eq_true rfl) ⟨Nat.le_of_ble_eq_true rfl, Nat.le_of_ble_eq_true rfl⟩ dX12_odds_17 rfl (st := []) (fun x_65 I_66 J_67 h_68 => ?_)
    obtain ⟨rfl, rfl, rx_65, ex_65⟩ := h_68
    refine g_if_ne C (tgt := 25) dX12_odds_20 (by decide) (fun h_69 => ?_) (fun h_69 => ?_)
    · skip
      have n_70 : ¬ x_65 = 0 := h_69
      have r_71 := ne_lo (lo := 1) n_70 rx_65 rc_0 rfl (by decide)
      have r_72 := le_r (((ex_65.1) n_70)) rc_1 (rg_all a1)
      have r_73 := le_l (((ex_65.2) n_70)) r_72 rc_30
      refine g_aload_n C 0 dX12_odds_25 rfl rfl ?_
      refine g_callVV C K (c_X12_layAside W9 hLx hkx   hU_54) hLx hkx (by decide) rfl v_12_329 rfl ⟨rfl, rfl⟩ ⟨Nat.le_of_ble_eq_true rfl, Nat.le_of_ble_eq_true rfl⟩ (Nat.le_of_ble_eq_true rfl) ⟨Nat.le_of_ble_eq_true rfl, Nat.le_of_ble_eq_true rfl⟩ dX12_odds_26 rfl (st := []) (fun I_75 J_76 h_77 => ?_)
      obtain ⟨hUI_75, hFI_75, hGJ_76, ex_74⟩ := h_77
      have hF_78 := fq_tr hF_55 hFI_75 (by decide)
      have hG_79 := fq_tr hG hGJ_76 (by decide)
      refine g_iconst C (v := 0) dX12_odds_29 (by decide) ?_
      refine g_istore C dX12_odds_30 (by decide) (lo2 := [(4, .int 0), (0, .ref x), (1, .int a0), (2, .int a1), (3, .int a2)]) rfl ?_
      refine g_iconst C (v := 0) dX12_odds_32 (by decide) ?_
      refine g_istore C dX12_odds_33 (by decide) (lo2 := [(5, .int 0), (4, .int 0), (0, .ref x), (1, .int a0), (2, .int a1), (3, .int a2)]) rfl ?_
      refine g_lo (is := [2, 3, 4, 5, 1, 0]) (lo2 := [(0, .ref x), (1, .int a0), (2, .int a1), (3, .int a2), (4, .int 0), (5, .int 0)]) rfl ?_
      exact l_35 31 I_75 J_76 hUI_75 hF_78 hG_79 a0 (r_64) a1 (r_73) a2 0 0 (rg_w rc_0 (by decide) (by decide)) (fq_at hFI_75 hLx hkx (by decide) (by decide) (kp_s hI_53)) ex_74.2 (ms_s (a := 0) (b := 30) (N := 31) (rg_w rc_0 (by decide) (by decide)) (by decide))
    · skip
      have r_80 := (⟨(rx_65).1, (eq_rg (h_69) rc_0).2⟩ : Rg 0 0 x_65)
      refine g_iconst C (v := (-1)) dX12_odds_23 (by decide) ?_
      exact g_zret (ty := .int) (r := (-1)) B K rfl (rfl) ⟨hU_54, hF_55, hG, rg_all _⟩ dX12_odds_24
set_option maxRecDepth 100000 in
set_option maxHeartbeats 8000000 in
theorem c_X12_last {l : Launch} {D : va_G} {cy : Nat → ClassId} {L : List Nat} {κ ln : Nat → Nat} {R : Nat → Nat → Option Nat} {I : Nat → Nat → Int32} {J : Nat → Nat → Int64} {ow : Nat → Nat × Nat} (W9 : ∀ a ∈ L, Shp L κ ln R ow a) {x : Nat} (hLx : x ∈ L) (hkx : κ x = 12) (a0 : Int32) (hU : Iw L κ R ow I) : CtI l yX12_last cX12_last 6 (some .int) { frames := 2, cells := 0, slots := 0, locals := 43 } D cy L κ ln R I J [.ref x, .int a0] (fun r I2 J2 => Iw L κ R ow I2 ∧ Fq L κ ow [1200, 85400] I I2 ∧ Fq L κ ow [] J J2 ∧ Rg (-1) 3 r) := by
  refine CtI.of (by decide +kernel) (Nat.le_of_ble_eq_true rfl) ?_
  intro p e s m below meth c B K
  have C := B.1
  have hF : Fq L κ ow [1200, 85400] I I := fq_rf
  have hG : Fq L κ ow [] J J := fq_rf
  obtain ⟨b_1, hb_1, hb_1L, hb_1k, hb_1n, hb_1o⟩ := shp_a (W9 x hLx) hkx 14 14 389 rfl (by decide)
  obtain ⟨b_2, hb_2, hb_2L, hb_2k, hb_2n, hb_2o⟩ := shp_a (W9 x hLx) hkx 34 16 500 rfl (by decide)
  refine g_lo (is := [0, 1]) (lo2 := [(0, .ref x), (1, .int a0)]) rfl ?_
  have l_37 : ∀ (n_37 : Nat) (I_3 : Nat → Nat → Int32) (J_4 : Nat → Nat → Int64) (hU_5 : Iw L κ R ow I_3) (hF_6 : Fq L κ ow [1200, 85400] I I_3) (hG_7 : Fq L κ ow [] J J_4) (v_8 : Int32) (rv_8 : Rg 0 5 v_8) (v_9 : Int32) (rv_9 : Rg 0 379 v_9) (v_10 : Int32) (rv_10 : Rg 0 3 v_10) (v_11 : Int32) (rv_11 : Rg 1 389 v_11) (q_12 : I_3 x 0 = 0) (hm_13 : 389 < (v_11 : Int32).toInt + (n_37 : Int)), WG p l e { frames := 2, cells := 0, slots := 0, locals := 43 } s m ([.ref x, .int a0] : List Value).toArray below meth c 6 0 0 (MQ below (Qi_ D cy L κ ln R (fun r I2 J2 => Iw L κ R ow I2 ∧ Fq L κ ow [1200, 85400] I I2 ∧ Fq L κ ow [] J J2 ∧ Rg (-1) 3 r)) ([.ref x, .int a0] : List Value).toArray s 0 0 (Al_ L)) D cy (Al_ L) s.heap L κ ln R I_3 J_4 37 [(0, .ref x), (1, .int v_8), (2, .int v_9), (3, .int v_10), (4, .int v_11)] [] := by
    intro n_37
    induction n_37 with
    | zero =>
      intro I_3 J_4 hU_5 hF_6 hG_7 v_8 rv_8 v_9 rv_9 v_10 rv_10 v_11 rv_11 q_12 hm_13
      exact ms_0 rv_11 hm_13
    | succ n_37 ih_37 =>
      intro I_3 J_4 hU_5 hF_6 hG_7 v_8 rv_8 v_9 rv_9 v_10 rv_10 v_11 rv_11 q_12 hm_13
      have l_61 : ∀ (n_61 : Nat) (I_14 : Nat → Nat → Int32) (J_15 : Nat → Nat → Int64) (hU_16 : Iw L κ R ow I_14) (hF_17 : Fq L κ ow [1200, 85400] I I_14) (hG_18 : Fq L κ ow [] J J_15) (v_19 : Int32) (rv_19 : Rg 0 5 v_19) (v_20 : Int32) (rv_20 : Rg 1 379 v_20) (v_21 : Int32) (rv_21 : Rg 0 3 v_21) (v_22 : Int32) (rv_22 : Rg 1 388 v_22) (v_23 : Int32) (rv_23 : Rg 0 3 v_23) (q_24 : I_14 x 0 = 0) (hm_25 : 389 < (v_22 : Int32).toInt + ((n_37 + 1 : Nat) : Int)) (hj_26 : v_23 ≤ v_22) (hm_27 : (v_23 : Int32).toInt - 0 < (n_61 : Int)), WG p l e { frames := 2, cells := 0, slots := 0, locals := 43 } s m ([.ref x, .int a0] : List Value).toArray below meth c 6 0 0 (MQ below (Qi_ D cy L κ ln R (fun r I2 J2 => Iw L κ R ow I2 ∧ Fq L κ ow [1200, 85400] I I2 ∧ Fq L κ ow [] J J2 ∧ Rg (-1) 3 r)) ([.ref x, .int a0] : List Value).toArray s 0 0 (Al_ L)) D cy (Al_ L) s.heap L κ ln R I_14 J_15 61 [(0, .ref x), (1, .int v_19), (2, .int v_20), (3, .int v_21), (4, .int v_22), (5, .int v_23)] [] := by
        intro n_61
        induction n_61 with
        | zero =>
          intro I_14 J_15 hU_16 hF_17 hG_18 v_19 rv_19 v_20 rv_20 v_21 rv_21 v_22 rv_22 v_23 rv_23 q_24 hm_25 hj_26 hm_27
          exact md_0 rv_23 hm_27
        | succ n_61 ih_61 =>
          intro I_14 J_15 hU_16 hF_17 hG_18 v_19 rv_19 v_20 rv_20 v_21 rv_21 v_22 rv_22 v_23 rv_23 q_24 hm_25 hj_26 hm_27
          have j_93 : ∀ (I_28 : Nat → Nat → Int32) (J_29 : Nat → Nat → Int64) (hU_30 : Iw L κ R ow I_28) (hF_31 : Fq L κ ow [1200, 85400] I I_28) (hG_32 : Fq L κ ow [] J J_29) (v_33 : Int32) (rv_33 : Rg 0 5 v_33) (v_34 : Int32) (rv_34 : Rg 1 379 v_34) (v_35 : Int32) (rv_35 : Rg 0 3 v_35) (v_36 : Int32) (rv_36 : Rg 1 388 v_36) (v_37 : Int32) (rv_37 : Rg 1 3 v_37) (q_38 : I_28 x 0 = 0) (hm_39 : 389 < (v_36 : Int32).toInt + ((n_37 + 1 : Nat) : Int)) (hm_40 : (v_37 : Int32).toInt - 0 < ((n_61 + 1 : Nat) : Int)) (hj_41 : v_37 ≤ v_36), WG p l e { frames := 2, cells := 0, slots := 0, locals := 43 } s m ([.ref x, .int a0] : List Value).toArray below meth c 6 0 0 (MQ below (Qi_ D cy L κ ln R (fun r I2 J2 => Iw L κ R ow I2 ∧ Fq L κ ow [1200, 85400] I I2 ∧ Fq L κ ow [] J J2 ∧ Rg (-1) 3 r)) ([.ref x, .int a0] : List Value).toArray s 0 0 (Al_ L)) D cy (Al_ L) s.heap L κ ln R I_28 J_29 93 [(0, .ref x), (1, .int v_33), (2, .int v_34), (3, .int v_35), (4, .int v_36), (5, .int v_37)] [] := by
            intro I_28 J_29 hU_30 hF_31 hG_32 v_33 rv_33 v_34 rv_34 v_35 rv_35 v_36 rv_36 v_37 rv_37 q_38 hm_39 hm_40 hj_41
            obtain ⟨x_42, hx_42, rx_42, tx_42⟩ := ex_add (y := (-1)) 0 2 rv_37 rc_m1 (by decide) (by decide) (by decide) (by decide)
            refine g_iinc C dX12_last_93 (k := 5) (v := x_42) rfl hx_42 (by decide) (lo2 := [(5, .int x_42), (0, .ref x), (1, .int v_33), (2, .int v_34), (3, .int v_35), (4, .int v_36)]) rfl ?_
            refine g_goto C (tgt := 61) dX12_last_96 (by decide) ?_
            refine g_lo (is := [1, 2, 3, 4, 5, 0]) (lo2 := [(0, .ref x), (1, .int v_33), (2, .int v_34), (3, .int v_35), (4, .int v_36), (5, .int x_42)]) rfl ?_
            exact ih_61 I_28 J_29 hU_30 hF_31 hG_32 v_33 (rv_33) v_34 (rv_34) v_35 (rv_35) v_36 (rv_36) x_42 (rg_w rx_42 (by decide) (by decide)) q_38 hm_39 (Int32.le_iff_toInt_le.mpr (by have q1 := Int32.le_iff_toInt_le.mp (hj_41); have q2 := (ti_k tx_42 rc_m1); omega)) (md_1 hm_40 (ti_k tx_42 rc_m1) (by decide))
          refine g_iload C 5 dX12_last_61 rfl ?_
          refine g_if_le C (tgt := 99) dX12_last_63 (by decide) (fun h_43 => ?_) (fun h_43 => ?_)
          · skip
            have r_44 := le_l (h_43) rv_23 rc_0
            obtain ⟨x_45, hx_45, rx_45, tx_45⟩ := ex_add (y := 1) 2 389 rv_22 rc_1 (by decide) (by decide) (by decide) (by decide)
            refine g_iinc C dX12_last_99 (k := 4) (v := x_45) rfl hx_45 (by decide) (lo2 := [(4, .int x_45), (0, .ref x), (1, .int v_19), (2, .int v_20), (3, .int v_21), (5, .int v_23)]) rfl ?_
            refine g_goto C (tgt := 37) dX12_last_102 (by decide) ?_
            refine g_lo (is := [1, 2, 3, 4, 0]) (lo2 := [(0, .ref x), (1, .int v_19), (2, .int v_20), (3, .int v_21), (4, .int x_45)]) rfl ?_
            exact ih_37 I_14 J_15 hU_16 hF_17 hG_18 v_19 (rv_19) v_20 (rg_w rv_20 (by decide) (by decide)) v_21 (rv_21) x_45 (rg_w rx_45 (by decide) (by decide)) q_24 (ms_1 hm_25 (ti_k tx_45 rc_1) (by decide))
          · skip
            have r_46 := lt_r (lo := 1) (nle h_43) rc_0 rv_23 (by decide)
            refine g_aload_n C 0 dX12_last_66 rfl rfl ?_
            refine g_getR C K hLx hkx f_12_61 hb_2 dX12_last_67 ?_
            refine g_iload C 4 dX12_last_70 rfl ?_
            refine g_iload C 5 dX12_last_72 rfl ?_
            obtain ⟨x_47, hx_47, rx_47, tx_47⟩ := ex_suble 387 rv_22 r_46 (hj_26) (by decide) (by decide)
            refine g_isub C (v := x_47) dX12_last_74 hx_47 ?_
            obtain ⟨x_48, hx_48, rx_48⟩ := ex_getw (I := I_14) (a := b_2) (j := x_47.toNatClampNeg) (lo := 0) (hi := 1) hU_16.1 hb_2L (ro_a hb_2k (by decide) hb_2o hkx rfl) (rfl)
            refine h_zald C K hb_2L hb_2k (v := x_48) (x_47.toNatClampNeg) (rfl) (ix_0 rx_47 (by decide)) (ix_lt rx_47 (by decide) hb_2n (by decide)) hx_48 dX12_last_75 ?_
            refine g_if_eq C (tgt := 82) dX12_last_76 (by decide) (fun h_49 => ?_) (fun h_49 => ?_)
            · skip
              have r_50 := (⟨(rx_48).1, (eq_rg (h_49) rc_0).2⟩ : Rg 0 0 x_48)
              refine g_aload_n C 0 dX12_last_82 rfl rfl ?_
              refine g_getR C K hLx hkx f_12_61 hb_2 dX12_last_83 ?_
              refine g_iload C 4 dX12_last_86 rfl ?_
              refine g_iconst C (v := 1) dX12_last_88 (by decide) ?_
              refine h_zast C K hb_2L hb_2k (v_22.toNatClampNeg) (rfl) (ix_0 rv_22 (by decide)) (ix_lt rv_22 (by decide) hb_2n (by decide)) dX12_last_89 (fun I_51 hI_51 => ?_)
              have hU_52 := iw_put W9 hU_16 hI_51 (ro_a hb_2k (by decide) hb_2o hkx rfl) (lo := 0) (hi := 1) (rfl) (nar_zz _) rfl
              have hF_53 := fq_puta hF_17 hI_51 (ro_a hb_2k (by decide) hb_2o hkx rfl) (by decide) (by decide)
              refine g_iload C 5 dX12_last_90 rfl ?_
              refine g_istore_n C dX12_last_92 rfl (by decide) (lo2 := [(3, .int v_23), (0, .ref x), (1, .int v_19), (2, .int v_20), (4, .int v_22), (5, .int v_23)]) rfl ?_
              refine g_lo (is := [1, 2, 3, 0, 4, 5]) (lo2 := [(0, .ref x), (1, .int v_19), (2, .int v_20), (3, .int v_23), (4, .int v_22), (5, .int v_23)]) rfl ?_
              exact j_93 I_51 J_15 hU_52 hF_53 hG_18 v_19 (rv_19) v_20 (rv_20) v_23 (rg_w r_46 (by decide) (by decide)) v_22 (rv_22) v_23 (r_46) (kp_k (κ := κ) hI_51 (by rw [hkx, hb_2k]; decide) q_24) hm_25 hm_27 (hj_26)
            · skip
              have n_54 : ¬ x_48 = 0 := h_49
              have r_55 := ne_lo (lo := 1) n_54 rx_48 rc_0 rfl (by decide)
              refine g_goto C (tgt := 93) dX12_last_79 (by decide) ?_
              refine g_lo (is := [0, 1, 2, 3, 4, 5]) (lo2 := [(0, .ref x), (1, .int v_19), (2, .int v_20), (3, .int v_21), (4, .int v_22), (5, .int v_23)]) rfl ?_
              exact j_93 I_14 J_15 hU_16 hF_17 hG_18 v_19 (rv_19) v_20 (rv_20) v_21 (rv_21) v_22 (rv_22) v_23 (r_46) q_24 hm_25 hm_27 (hj_26)
      refine g_iload C 4 dX12_last_37 rfl ?_
      refine g_iload_n C 2 dX12_last_39 rfl rfl ?_
      refine g_icmp_gt C (tgt := 105) dX12_last_40 (by decide) (fun h_56 => ?_) (fun h_56 => ?_)
      · skip
        refine g_iload_n C 3 dX12_last_105 rfl rfl ?_
        exact g_zret (ty := .int) (r := v_10) B K rfl (rfl) ⟨hU_5, hF_6, hG_7, rg_w rv_10 (by decide) (by decide)⟩ dX12_last_106
      · skip
        have r_57 := le_l (nlt h_56) rv_11 rv_9
        have r_58 := le_r (nlt h_56) rv_11 rv_9
        refine g_aload_n C 0 dX12_last_43 rfl rfl ?_
        refine g_getR C K hLx hkx f_12_61 hb_2 dX12_last_44 ?_
        refine g_iload C 4 dX12_last_47 rfl ?_
        refine g_iconst C (v := 0) dX12_last_49 (by decide) ?_
        refine h_zast C K hb_2L hb_2k (v_11.toNatClampNeg) (rfl) (ix_0 r_57 (by decide)) (ix_lt r_57 (by decide) hb_2n (by decide)) dX12_last_50 (fun I_59 hI_59 => ?_)
        have hU_60 := iw_put W9 hU_5 hI_59 (ro_a hb_2k (by decide) hb_2o hkx rfl) (lo := 0) (hi := 1) (rfl) (nar_zz _) rfl
        have hF_61 := fq_puta hF_6 hI_59 (ro_a hb_2k (by decide) hb_2o hkx rfl) (by decide) (by decide)
        refine g_iconst C (v := 0) dX12_last_51 (by decide) ?_
        refine g_istore_n C dX12_last_52 rfl (by decide) (lo2 := [(3, .int 0), (0, .ref x), (1, .int v_8), (2, .int v_9), (4, .int v_11)]) rfl ?_
        refine g_iconst C (v := 3) dX12_last_53 (by decide) ?_
        refine g_iload C 4 dX12_last_54 rfl ?_
        refine g_callSI C K (c_X12_least W9 3 v_11  hU_60) s_12_265 rfl ⟨rfl, rfl⟩ ⟨Nat.le_of_ble_eq_true rfl, Nat.le_of_ble_eq_true rfl⟩ (Nat.le_of_ble_eq_true rfl) ⟨Nat.le_of_ble_eq_true rfl, Nat.le_of_ble_eq_true rfl⟩ dX12_last_56 rfl (st := []) (fun x_62 I_63 J_64 h_65 => ?_)
        obtain ⟨rfl, rfl, rx_62, ex_62⟩ := h_65
        have r_66 := ls_rg ex_62 rc_3 r_57 (lo := 1) (hi := 3) (by decide) (by decide)
        refine g_istore C dX12_last_59 (by decide) (lo2 := [(5, .int x_62), (3, .int 0), (0, .ref x), (1, .int v_8), (2, .int v_9), (4, .int v_11)]) rfl ?_
        refine g_lo (is := [2, 3, 4, 1, 5, 0]) (lo2 := [(0, .ref x), (1, .int v_8), (2, .int v_9), (3, .int 0), (4, .int v_11), (5, .int x_62)]) rfl ?_
        exact l_61 4 I_59 J_4 hU_60 hF_61 hG_7 v_8 (rv_8) v_9 (r_58) 0 (rg_w rc_0 (by decide) (by decide)) v_11 (rg_w r_57 (by decide) (by decide)) x_62 (rg_w r_66 (by decide) (by decide)) (kp_k (κ := κ) hI_59 (by rw [hkx, hb_2k]; decide) q_12) hm_13 (ex_62.2.1) (md_s (a := 0) (b := 3) (N := 4) (rg_w r_66 (by decide) (by decide)) (by decide))
  refine g_aload_n C 0 dX12_last_0 rfl rfl ?_
  refine g_iconst C (v := 0) dX12_last_1 (by decide) ?_
  refine h_putI C K hLx hkx f_12_82 p_12_0 dX12_last_2 (fun I_67 hI_67 => ?_)
  have hU_68 := iw_put W9 hU hI_67 (ro_o hkx (by decide)) (lo := (-2147483648)) (hi := 2147483647) (rfl) (rg_all _) rfl
  have hF_69 := fq_puto hF hI_67 hkx (by decide) (by decide)
  refine g_aload_n C 0 dX12_last_5 rfl rfl ?_
  refine g_iload_n C 1 dX12_last_6 rfl rfl ?_
  refine g_callVI C K (c_X12_isDish W9 hLx hkx a0  hU_68) hLx hkx (by decide) rfl v_12_250 rfl ⟨rfl, rfl⟩ ⟨Nat.le_of_ble_eq_true rfl, Nat.le_of_ble_eq_true rfl⟩ (Nat.le_of_ble_eq_true rfl) ⟨Nat.le_of_ble_eq_true rfl, Nat.le_of_ble_eq_true rfl⟩ dX12_last_7 rfl (st := []) (fun x_70 I_71 J_72 h_73 => ?_)
  obtain ⟨rfl, rfl, rx_70, ex_70⟩ := h_73
  refine g_if_ne C (tgt := 15) dX12_last_10 (by decide) (fun h_74 => ?_) (fun h_74 => ?_)
  · skip
    have n_75 : ¬ x_70 = 0 := h_74
    have r_76 := ne_lo (lo := 1) n_75 rx_70 rc_0 rfl (by decide)
    have r_77 := rg_i (rg_all a0) ((ex_70) n_75) (lo := 0) (hi := 5) (by decide) (by decide)
    refine g_aload_n C 0 dX12_last_15 rfl rfl ?_
    refine g_getR C K hLx hkx f_12_13 hb_1 dX12_last_16 ?_
    refine g_bipush C (v := 78) dX12_last_19 (by decide) ?_
    refine g_iload_n C 1 dX12_last_21 rfl rfl ?_
    obtain ⟨x_78, hx_78, rx_78, tx_78⟩ := ex_add 78 83 rc_78 r_77 (by decide) (by decide) (by decide) (by decide)
    refine g_iadd C (v := x_78) dX12_last_22 hx_78 ?_
    obtain ⟨x_79, hx_79, rx_79⟩ := ex_getw (I := I_67) (a := b_1) (j := x_78.toNatClampNeg) (lo := 0) (hi := 379) hU_68.1 hb_1L (ro_a hb_1k (by decide) hb_1o hkx rfl) (bn_834.trans (zq_78 (ix_k (lo := 78) (hi := 83) rx_78 (by decide) (by decide) (by decide))))
    refine h_iald C K hb_1L hb_1k (v := x_79) (x_78.toNatClampNeg) (rfl) (ix_0 rx_78 (by decide)) (ix_lt rx_78 (by decide) hb_1n (by decide)) hx_79 dX12_last_23 ?_
    refine g_istore_n C dX12_last_24 rfl (by decide) (lo2 := [(2, .int x_79), (0, .ref x), (1, .int a0)]) rfl ?_
    refine g_aload_n C 1 dX12_last_25 rfl rfl ?_
    refine g_getR C K hLx hkx f_12_61 hb_2 dX12_last_26 ?_
    refine g_iconst C (v := 0) dX12_last_29 (by decide) ?_
    refine g_iconst C (v := 1) dX12_last_30 (by decide) ?_
    refine h_zast C K hb_2L hb_2k (0) (by decide) (by decide) (by rw [hb_2n]; decide) dX12_last_31 (fun I_80 hI_80 => ?_)
    have hU_81 := iw_put W9 hU_68 hI_80 (ro_a hb_2k (by decide) hb_2o hkx rfl) (lo := 0) (hi := 1) (rfl) (nar_zz _) rfl
    have hF_82 := fq_puta hF_69 hI_80 (ro_a hb_2k (by decide) hb_2o hkx rfl) (by decide) (by decide)
    refine g_iconst C (v := 0) dX12_last_32 (by decide) ?_
    refine g_istore_n C dX12_last_33 rfl (by decide) (lo2 := [(3, .int 0), (2, .int x_79), (0, .ref x), (1, .int a0)]) rfl ?_
    refine g_iconst C (v := 1) dX12_last_34 (by decide) ?_
    refine g_istore C dX12_last_35 (by decide) (lo2 := [(4, .int 1), (3, .int 0), (2, .int x_79), (0, .ref x), (1, .int a0)]) rfl ?_
    refine g_lo (is := [3, 4, 2, 1, 0]) (lo2 := [(0, .ref x), (1, .int a0), (2, .int x_79), (3, .int 0), (4, .int 1)]) rfl ?_
    exact l_37 389 I_80 J hU_81 hF_82 hG a0 (r_77) x_79 (rx_79) 0 (rg_w rc_0 (by decide) (by decide)) 1 (rg_w rc_1 (by decide) (by decide)) (kp_k (κ := κ) hI_80 (by rw [hkx, hb_2k]; decide) (kp_s hI_67)) (ms_s (a := 1) (b := 389) (N := 389) (rg_w rc_1 (by decide) (by decide)) (by decide))
  · skip
    have r_83 := (⟨(rx_70).1, (eq_rg (h_74) rc_0).2⟩ : Rg 0 0 x_70)
    refine g_iconst C (v := (-1)) dX12_last_13 (by decide) ?_
    exact g_zret (ty := .int) (r := (-1)) B K rfl (rfl) ⟨hU_68, hF_69, hG, rg_w rc_m1 (by decide) (by decide)⟩ dX12_last_14
set_option maxRecDepth 100000 in
set_option maxHeartbeats 8000000 in
theorem c_X12_line {l : Launch} {D : va_G} {cy : Nat → ClassId} {L : List Nat} {κ ln : Nat → Nat} {R : Nat → Nat → Option Nat} {I : Nat → Nat → Int32} {J : Nat → Nat → Int64} {ow : Nat → Nat × Nat} (W9 : ∀ a ∈ L, Shp L κ ln R ow a) {x : Nat} (hLx : x ∈ L) (hkx : κ x = 12) (a0 : Int32) (a1 : Int32) (hU : Iw L κ R ow I) : CtI l yX12_line cX12_line 6 (some .int) { frames := 3, cells := 0, slots := 0, locals := 70 } D cy L κ ln R I J [.ref x, .int a0, .int a1] (fun r I2 J2 => Iw L κ R ow I2 ∧ Fq L κ ow [1200] I I2 ∧ Fq L κ ow [] J J2 ∧ Rg (-1) 6 r) := by
  refine CtI.of (by decide +kernel) (Nat.le_of_ble_eq_true rfl) ?_
  intro p e s m below meth c B K
  have C := B.1
  have hF : Fq L κ ow [1200] I I := fq_rf
  have hG : Fq L κ ow [] J J := fq_rf
  refine g_lo (is := [0, 1, 2]) (lo2 := [(0, .ref x), (1, .int a0), (2, .int a1)]) rfl ?_
  have l_35 : ∀ (n_35 : Nat) (I_1 : Nat → Nat → Int32) (J_2 : Nat → Nat → Int64) (hU_3 : Iw L κ R ow I_1) (hF_4 : Fq L κ ow [1200] I I_1) (hG_5 : Fq L κ ow [] J J_2) (v_6 : Int32) (rv_6 : Rg 0 6 v_6) (v_7 : Int32) (rv_7 : Rg 0 2147483647 v_7) (v_8 : Int32) (v_9 : Int32) (rv_9 : Rg (-1) 6 v_9) (v_10 : Int32) (rv_10 : Rg 0 2147483647 v_10) (q_11 : I_1 x 0 = 0) (hm_12 : 2147483647 < (v_10 : Int32).toInt + (n_35 : Int)), WG p l e { frames := 3, cells := 0, slots := 0, locals := 70 } s m ([.ref x, .int a0, .int a1] : List Value).toArray below meth c 6 0 0 (MQ below (Qi_ D cy L κ ln R (fun r I2 J2 => Iw L κ R ow I2 ∧ Fq L κ ow [1200] I I2 ∧ Fq L κ ow [] J J2 ∧ Rg (-1) 6 r)) ([.ref x, .int a0, .int a1] : List Value).toArray s 0 0 (Al_ L)) D cy (Al_ L) s.heap L κ ln R I_1 J_2 35 [(0, .ref x), (1, .int v_6), (2, .int v_7), (3, .int v_8), (4, .int v_9), (5, .int v_10)] [] := by
    intro n_35
    induction n_35 with
    | zero =>
      intro I_1 J_2 hU_3 hF_4 hG_5 v_6 rv_6 v_7 rv_7 v_8 v_9 rv_9 v_10 rv_10 q_11 hm_12
      exact ms_0 rv_10 hm_12
    | succ n_35 ih_35 =>
      intro I_1 J_2 hU_3 hF_4 hG_5 v_6 rv_6 v_7 rv_7 v_8 v_9 rv_9 v_10 rv_10 q_11 hm_12
      refine g_iload C 5 dX12_line_35 rfl ?_
      refine g_iload_n C 2 dX12_line_37 rfl rfl ?_
      refine g_icmp_ge C (tgt := 68) dX12_line_38 (by decide) (fun h_13 => ?_) (fun h_13 => ?_)
      · skip
        refine g_iload C 4 dX12_line_68 rfl ?_
        exact g_zret (ty := .int) (r := v_9) B K rfl (rfl) ⟨hU_3, hF_4, hG_5, rv_9⟩ dX12_line_70
      · skip
        have r_14 := lt_l (hi := 2147483646) (nle h_13) rv_10 rv_7 (by decide)
        have r_15 := lt_r (lo := 1) (nle h_13) rv_10 rv_7 (by decide)
        refine g_iload C 4 dX12_line_41 rfl ?_
        refine g_iconst C (v := (-1)) dX12_line_43 (by decide) ?_
        refine g_icmp_eq C (tgt := 68) dX12_line_44 (by decide) (fun h_16 => ?_) (fun h_16 => ?_)
        · skip
          have r_17 := (⟨(rv_9).1, (eq_rg (h_16) rc_m1).2⟩ : Rg (-1) (-1) v_9)
          refine g_iload C 4 dX12_line_68 rfl ?_
          exact g_zret (ty := .int) (r := v_9) B K rfl (rfl) ⟨hU_3, hF_4, hG_5, rg_w r_17 (by decide) (by decide)⟩ dX12_line_70
        · skip
          have n_18 : ¬ v_9 = (-1) := h_16
          have r_19 := ne_lo (lo := 0) n_18 rv_9 rc_m1 rfl (by decide)
          refine g_iload_n C 3 dX12_line_47 rfl rfl ?_
          refine g_iconst C (v := 1) dX12_line_48 (by decide) ?_
          refine g_iload C 4 dX12_line_49 rfl ?_
          obtain ⟨x_20, hx_20, rx_20⟩ := ex_shl (x := 1) (y := v_9) 6 64 rfl (r_19) (by decide)
          refine g_ishl C (v := x_20) dX12_line_51 hx_20 ?_
          obtain ⟨x_21, hx_21, rx_21⟩ := ex_any (z0 := v_8 ||| x_20)
          refine g_ior C (v := x_21) dX12_line_52 hx_21 ?_
          refine g_istore_n C dX12_line_53 rfl (by decide) (lo2 := [(3, .int x_21), (0, .ref x), (1, .int v_6), (2, .int v_7), (4, .int v_9), (5, .int v_10)]) rfl ?_
          refine g_aload_n C 1 dX12_line_54 rfl rfl ?_
          refine g_iload_n C 2 dX12_line_55 rfl rfl ?_
          refine g_iload_n C 0 dX12_line_56 rfl rfl ?_
          refine g_callVI C K (c_X12_heirBy W9 hLx hkx v_6 x_21 (rv_6) hU_3) hLx hkx (by decide) rfl v_12_262 rfl ⟨rfl, rfl⟩ ⟨Nat.le_of_ble_eq_true rfl, Nat.le_of_ble_eq_true rfl⟩ (Nat.le_of_ble_eq_true rfl) ⟨Nat.le_of_ble_eq_true rfl, Nat.le_of_ble_eq_true rfl⟩ dX12_line_57 rfl (st := []) (fun x_22 I_23 J_24 h_25 => ?_)
          obtain ⟨rfl, rfl, rx_22⟩ := h_25
          refine g_istore C dX12_line_60 (by decide) (lo2 := [(4, .int x_22), (3, .int x_21), (0, .ref x), (1, .int v_6), (2, .int v_7), (5, .int v_10)]) rfl ?_
          obtain ⟨x_26, hx_26, rx_26, tx_26⟩ := ex_add (y := 1) 1 2147483647 r_14 rc_1 (by decide) (by decide) (by decide) (by decide)
          refine g_iinc C dX12_line_62 (k := 5) (v := x_26) rfl hx_26 (by decide) (lo2 := [(5, .int x_26), (4, .int x_22), (3, .int x_21), (0, .ref x), (1, .int v_6), (2, .int v_7)]) rfl ?_
          refine g_goto C (tgt := 35) dX12_line_65 (by decide) ?_
          refine g_lo (is := [3, 4, 5, 2, 1, 0]) (lo2 := [(0, .ref x), (1, .int v_6), (2, .int v_7), (3, .int x_21), (4, .int x_22), (5, .int x_26)]) rfl ?_
          exact ih_35 I_1 J_2 hU_3 hF_4 hG_5 v_6 (rv_6) v_7 (rg_w r_15 (by decide) (by decide)) x_21 x_22 (rx_22) x_26 (rg_w rx_26 (by decide) (by decide)) q_11 (ms_1 hm_12 (ti_k tx_26 rc_1) (by decide))
  refine g_aload_n C 0 dX12_line_0 rfl rfl ?_
  refine g_iconst C (v := 0) dX12_line_1 (by decide) ?_
  refine h_putI C K hLx hkx f_12_82 p_12_0 dX12_line_2 (fun I_27 hI_27 => ?_)
  have hU_28 := iw_put W9 hU hI_27 (ro_o hkx (by decide)) (lo := (-2147483648)) (hi := 2147483647) (rfl) (rg_all _) rfl
  have hF_29 := fq_puto hF hI_27 hkx (by decide) (by decide)
  refine g_aload_n C 0 dX12_line_5 rfl rfl ?_
  refine g_iload_n C 1 dX12_line_6 rfl rfl ?_
  refine g_callVI C K (c_X12_isPerson W9 hLx hkx a0  hU_28) hLx hkx (by decide) rfl v_12_238 rfl ⟨rfl, rfl⟩ ⟨Nat.le_of_ble_eq_true rfl, Nat.le_of_ble_eq_true rfl⟩ (Nat.le_of_ble_eq_true rfl) ⟨Nat.le_of_ble_eq_true rfl, Nat.le_of_ble_eq_true rfl⟩ dX12_line_7 rfl (st := []) (fun x_30 I_31 J_32 h_33 => ?_)
  obtain ⟨rfl, rfl, rx_30, ex_30⟩ := h_33
  refine g_if_eq C (tgt := 17) dX12_line_10 (by decide) (fun h_34 => ?_) (fun h_34 => ?_)
  · skip
    have r_35 := (⟨(rx_30).1, (eq_rg (h_34) rc_0).2⟩ : Rg 0 0 x_30)
    refine g_iconst C (v := (-1)) dX12_line_17 (by decide) ?_
    exact g_zret (ty := .int) (r := (-1)) B K rfl (rfl) ⟨hU_28, hF_29, hG, rg_w rc_m1 (by decide) (by decide)⟩ dX12_line_18
  · skip
    have n_36 : ¬ x_30 = 0 := h_34
    have r_37 := ne_lo (lo := 1) n_36 rx_30 rc_0 rfl (by decide)
    have r_38 := rg_i (rg_all a0) ((ex_30) n_36) (lo := 0) (hi := 6) (by decide) (by decide)
    refine g_iload_n C 2 dX12_line_13 rfl rfl ?_
    refine g_if_ge C (tgt := 19) dX12_line_14 (by decide) (fun h_39 => ?_) (fun h_39 => ?_)
    · skip
      have r_40 := le_r (h_39) rc_0 (rg_all a1)
      refine g_aload_n C 0 dX12_line_19 rfl rfl ?_
      refine g_callVI C K (c_X12_outs W9 hLx hkx   hU_28) hLx hkx (by decide) rfl v_12_259 rfl ⟨rfl, rfl⟩ ⟨Nat.le_of_ble_eq_true rfl, Nat.le_of_ble_eq_true rfl⟩ (Nat.le_of_ble_eq_true rfl) ⟨Nat.le_of_ble_eq_true rfl, Nat.le_of_ble_eq_true rfl⟩ dX12_line_20 rfl (st := []) (fun x_41 I_42 J_43 h_44 => ?_)
      obtain ⟨rfl, rfl, rx_41⟩ := h_44
      refine g_istore_n C dX12_line_23 rfl (by decide) (lo2 := [(3, .int x_41), (0, .ref x), (1, .int a0), (2, .int a1)]) rfl ?_
      refine g_aload_n C 1 dX12_line_24 rfl rfl ?_
      refine g_iload_n C 2 dX12_line_25 rfl rfl ?_
      refine g_iload_n C 0 dX12_line_26 rfl rfl ?_
      refine g_callVI C K (c_X12_heirBy W9 hLx hkx a0 x_41 (r_38) hU_28) hLx hkx (by decide) rfl v_12_262 rfl ⟨rfl, rfl⟩ ⟨Nat.le_of_ble_eq_true rfl, Nat.le_of_ble_eq_true rfl⟩ (Nat.le_of_ble_eq_true rfl) ⟨Nat.le_of_ble_eq_true rfl, Nat.le_of_ble_eq_true rfl⟩ dX12_line_27 rfl (st := []) (fun x_45 I_46 J_47 h_48 => ?_)
      obtain ⟨rfl, rfl, rx_45⟩ := h_48
      refine g_istore C dX12_line_30 (by decide) (lo2 := [(4, .int x_45), (3, .int x_41), (0, .ref x), (1, .int a0), (2, .int a1)]) rfl ?_
      refine g_iconst C (v := 0) dX12_line_32 (by decide) ?_
      refine g_istore C dX12_line_33 (by decide) (lo2 := [(5, .int 0), (4, .int x_45), (3, .int x_41), (0, .ref x), (1, .int a0), (2, .int a1)]) rfl ?_
      refine g_lo (is := [3, 4, 5, 2, 1, 0]) (lo2 := [(0, .ref x), (1, .int a0), (2, .int a1), (3, .int x_41), (4, .int x_45), (5, .int 0)]) rfl ?_
      exact l_35 2147483648 I_27 J hU_28 hF_29 hG a0 (r_38) a1 (r_40) x_41 x_45 (rx_45) 0 (rg_w rc_0 (by decide) (by decide)) (kp_s hI_27) (ms_s (a := 0) (b := 2147483647) (N := 2147483648) (rg_w rc_0 (by decide) (by decide)) (by decide))
    · skip
      have r_49 := lt_l (hi := (-1)) (nle h_39) (rg_all a1) rc_0 (by decide)
      refine g_iconst C (v := (-1)) dX12_line_17 (by decide) ?_
      exact g_zret (ty := .int) (r := (-1)) B K rfl (rfl) ⟨hU_28, hF_29, hG, rg_w rc_m1 (by decide) (by decide)⟩ dX12_line_18
