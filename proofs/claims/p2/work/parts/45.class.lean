theorem dX11_count_0 : decode cX11_count 0 = .ok (.iload_n 1, 1) := by decide +kernel
theorem dX11_count_1 : decode cX11_count 1 = .ok (.tableswitch 75 0 4 #[35, 43, 51, 59, 67], 35) := by decide +kernel
theorem dX11_count_36 : decode cX11_count 36 = .ok (.aload_n 0, 1) := by decide +kernel
theorem dX11_count_37 : decode cX11_count 37 = .ok (.getfield 19, 3) := by decide +kernel
theorem dX11_count_40 : decode cX11_count 40 = .ok (.getfield 213, 3) := by decide +kernel
theorem dX11_count_43 : decode cX11_count 43 = .ok (.ireturn, 1) := by decide +kernel
theorem dX11_count_44 : decode cX11_count 44 = .ok (.aload_n 0, 1) := by decide +kernel
theorem dX11_count_45 : decode cX11_count 45 = .ok (.getfield 19, 3) := by decide +kernel
theorem dX11_count_48 : decode cX11_count 48 = .ok (.getfield 216, 3) := by decide +kernel
theorem dX11_count_51 : decode cX11_count 51 = .ok (.ireturn, 1) := by decide +kernel
theorem dX11_count_52 : decode cX11_count 52 = .ok (.aload_n 0, 1) := by decide +kernel
theorem dX11_count_53 : decode cX11_count 53 = .ok (.getfield 19, 3) := by decide +kernel
theorem dX11_count_56 : decode cX11_count 56 = .ok (.getfield 219, 3) := by decide +kernel
theorem dX11_count_59 : decode cX11_count 59 = .ok (.ireturn, 1) := by decide +kernel
theorem dX11_count_60 : decode cX11_count 60 = .ok (.aload_n 0, 1) := by decide +kernel
theorem dX11_count_61 : decode cX11_count 61 = .ok (.getfield 19, 3) := by decide +kernel
theorem dX11_count_64 : decode cX11_count 64 = .ok (.getfield 222, 3) := by decide +kernel
theorem dX11_count_67 : decode cX11_count 67 = .ok (.ireturn, 1) := by decide +kernel
theorem dX11_count_68 : decode cX11_count 68 = .ok (.aload_n 0, 1) := by decide +kernel
theorem dX11_count_69 : decode cX11_count 69 = .ok (.getfield 10, 3) := by decide +kernel
theorem dX11_count_72 : decode cX11_count 72 = .ok (.getfield 102, 3) := by decide +kernel
theorem dX11_count_75 : decode cX11_count 75 = .ok (.ireturn, 1) := by decide +kernel
theorem dX11_count_76 : decode cX11_count 76 = .ok (.iconst (-1), 1) := by decide +kernel
theorem dX11_count_77 : decode cX11_count 77 = .ok (.ireturn, 1) := by decide +kernel
theorem dX11_fault_0 : decode cX11_fault 0 = .ok (.aload_n 0, 1) := by decide +kernel
theorem dX11_fault_1 : decode cX11_fault 1 = .ok (.getfield 10, 3) := by decide +kernel
theorem dX11_fault_4 : decode cX11_fault 4 = .ok (.getfield 113, 3) := by decide +kernel
theorem dX11_fault_7 : decode cX11_fault 7 = .ok (.ireturn, 1) := by decide +kernel
theorem dX11_keptIfDone_0 : decode cX11_keptIfDone 0 = .ok (.iload_n 1, 1) := by decide +kernel
theorem dX11_keptIfDone_1 : decode cX11_keptIfDone 1 = .ok (.ifCond .ne 10, 3) := by decide +kernel
theorem dX11_keptIfDone_4 : decode cX11_keptIfDone 4 = .ok (.aload_n 0, 1) := by decide +kernel
theorem dX11_keptIfDone_5 : decode cX11_keptIfDone 5 = .ok (.getfield 38, 3) := by decide +kernel
theorem dX11_keptIfDone_8 : decode cX11_keptIfDone 8 = .ok (.invokevirtual 260, 3) := by decide +kernel
theorem dX11_keptIfDone_11 : decode cX11_keptIfDone 11 = .ok (.iload_n 1, 1) := by decide +kernel
theorem dX11_keptIfDone_12 : decode cX11_keptIfDone 12 = .ok (.ireturn, 1) := by decide +kernel
theorem dX11_now_0 : decode cX11_now 0 = .ok (.iload_n 1, 1) := by decide +kernel
theorem dX11_now_1 : decode cX11_now 1 = .ok (.tableswitch 111 0 7 #[47, 55, 63, 71, 79, 87, 95, 103], 47) := by decide +kernel
theorem dX11_now_48 : decode cX11_now 48 = .ok (.aload_n 0, 1) := by decide +kernel
theorem dX11_now_49 : decode cX11_now 49 = .ok (.getfield 28, 3) := by decide +kernel
theorem dX11_now_52 : decode cX11_now 52 = .ok (.getfield 195, 3) := by decide +kernel
theorem dX11_now_55 : decode cX11_now 55 = .ok (.ireturn, 1) := by decide +kernel
theorem dX11_now_56 : decode cX11_now 56 = .ok (.aload_n 0, 1) := by decide +kernel
theorem dX11_now_57 : decode cX11_now 57 = .ok (.getfield 28, 3) := by decide +kernel
theorem dX11_now_60 : decode cX11_now 60 = .ok (.getfield 151, 3) := by decide +kernel
theorem dX11_now_63 : decode cX11_now 63 = .ok (.ireturn, 1) := by decide +kernel
theorem dX11_now_64 : decode cX11_now 64 = .ok (.aload_n 0, 1) := by decide +kernel
theorem dX11_now_65 : decode cX11_now 65 = .ok (.getfield 28, 3) := by decide +kernel
theorem dX11_now_68 : decode cX11_now 68 = .ok (.getfield 154, 3) := by decide +kernel
theorem dX11_now_71 : decode cX11_now 71 = .ok (.ireturn, 1) := by decide +kernel
theorem dX11_now_72 : decode cX11_now 72 = .ok (.aload_n 0, 1) := by decide +kernel
theorem dX11_now_73 : decode cX11_now 73 = .ok (.getfield 28, 3) := by decide +kernel
theorem dX11_now_76 : decode cX11_now 76 = .ok (.getfield 198, 3) := by decide +kernel
theorem dX11_now_79 : decode cX11_now 79 = .ok (.ireturn, 1) := by decide +kernel
theorem dX11_now_80 : decode cX11_now 80 = .ok (.aload_n 0, 1) := by decide +kernel
theorem dX11_now_81 : decode cX11_now 81 = .ok (.getfield 28, 3) := by decide +kernel
theorem dX11_now_84 : decode cX11_now 84 = .ok (.getfield 201, 3) := by decide +kernel
theorem dX11_now_87 : decode cX11_now 87 = .ok (.ireturn, 1) := by decide +kernel
theorem dX11_now_88 : decode cX11_now 88 = .ok (.aload_n 0, 1) := by decide +kernel
theorem dX11_now_89 : decode cX11_now 89 = .ok (.getfield 28, 3) := by decide +kernel
theorem dX11_now_92 : decode cX11_now 92 = .ok (.invokevirtual 204, 3) := by decide +kernel
theorem dX11_now_95 : decode cX11_now 95 = .ok (.ireturn, 1) := by decide +kernel
theorem dX11_now_96 : decode cX11_now 96 = .ok (.aload_n 0, 1) := by decide +kernel
theorem dX11_now_97 : decode cX11_now 97 = .ok (.getfield 28, 3) := by decide +kernel
theorem dX11_now_100 : decode cX11_now 100 = .ok (.invokevirtual 207, 3) := by decide +kernel
theorem dX11_now_103 : decode cX11_now 103 = .ok (.ireturn, 1) := by decide +kernel
theorem dX11_now_104 : decode cX11_now 104 = .ok (.aload_n 0, 1) := by decide +kernel
theorem dX11_now_105 : decode cX11_now 105 = .ok (.getfield 28, 3) := by decide +kernel
theorem dX11_now_108 : decode cX11_now 108 = .ok (.getfield 210, 3) := by decide +kernel
theorem dX11_now_111 : decode cX11_now 111 = .ok (.ireturn, 1) := by decide +kernel
theorem dX11_now_112 : decode cX11_now 112 = .ok (.iconst (-1), 1) := by decide +kernel
theorem dX11_now_113 : decode cX11_now 113 = .ok (.ireturn, 1) := by decide +kernel
theorem dX1_allEaten_0 : decode cX1_allEaten 0 = .ok (.iconst 0, 1) := by decide +kernel
theorem dX1_allEaten_1 : decode cX1_allEaten 1 = .ok (.istore_n 1, 1) := by decide +kernel
theorem dX1_allEaten_2 : decode cX1_allEaten 2 = .ok (.iconst 0, 1) := by decide +kernel
theorem dX1_allEaten_3 : decode cX1_allEaten 3 = .ok (.istore_n 2, 1) := by decide +kernel
theorem dX1_allEaten_4 : decode cX1_allEaten 4 = .ok (.iload_n 2, 1) := by decide +kernel
theorem dX1_allEaten_5 : decode cX1_allEaten 5 = .ok (.aload_n 0, 1) := by decide +kernel
theorem dX1_allEaten_6 : decode cX1_allEaten 6 = .ok (.getfield 52, 3) := by decide +kernel
theorem dX1_allEaten_9 : decode cX1_allEaten 9 = .ok (.getfield 68, 3) := by decide +kernel
theorem dX1_allEaten_12 : decode cX1_allEaten 12 = .ok (.if_icmp .ge 18, 3) := by decide +kernel
theorem dX1_allEaten_15 : decode cX1_allEaten 15 = .ok (.iload_n 1, 1) := by decide +kernel
theorem dX1_allEaten_16 : decode cX1_allEaten 16 = .ok (.aload_n 0, 1) := by decide +kernel
theorem dX1_allEaten_17 : decode cX1_allEaten 17 = .ok (.getfield 21, 3) := by decide +kernel
theorem dX1_allEaten_20 : decode cX1_allEaten 20 = .ok (.iload_n 2, 1) := by decide +kernel
theorem dX1_allEaten_21 : decode cX1_allEaten 21 = .ok (.iaload, 1) := by decide +kernel
theorem dX1_allEaten_22 : decode cX1_allEaten 22 = .ok (.iadd, 1) := by decide +kernel
theorem dX1_allEaten_23 : decode cX1_allEaten 23 = .ok (.istore_n 1, 1) := by decide +kernel
theorem dX1_allEaten_24 : decode cX1_allEaten 24 = .ok (.iinc 2 1, 3) := by decide +kernel
theorem dX1_allEaten_27 : decode cX1_allEaten 27 = .ok (.goto (-23), 3) := by decide +kernel
theorem dX1_allEaten_30 : decode cX1_allEaten 30 = .ok (.iload_n 1, 1) := by decide +kernel
theorem dX1_allEaten_31 : decode cX1_allEaten 31 = .ok (.ireturn, 1) := by decide +kernel
theorem dX1_allHunger_0 : decode cX1_allHunger 0 = .ok (.iconst 0, 1) := by decide +kernel
theorem dX1_allHunger_1 : decode cX1_allHunger 1 = .ok (.istore_n 1, 1) := by decide +kernel
theorem dX1_allHunger_2 : decode cX1_allHunger 2 = .ok (.iconst 0, 1) := by decide +kernel
theorem dX1_allHunger_3 : decode cX1_allHunger 3 = .ok (.istore_n 2, 1) := by decide +kernel
theorem dX1_allHunger_4 : decode cX1_allHunger 4 = .ok (.iload_n 2, 1) := by decide +kernel
theorem dX1_allHunger_5 : decode cX1_allHunger 5 = .ok (.aload_n 0, 1) := by decide +kernel
theorem dX1_allHunger_6 : decode cX1_allHunger 6 = .ok (.getfield 52, 3) := by decide +kernel
theorem dX1_allHunger_9 : decode cX1_allHunger 9 = .ok (.getfield 68, 3) := by decide +kernel
theorem dX1_allHunger_12 : decode cX1_allHunger 12 = .ok (.if_icmp .ge 18, 3) := by decide +kernel
theorem dX1_allHunger_15 : decode cX1_allHunger 15 = .ok (.iload_n 1, 1) := by decide +kernel
theorem dX1_allHunger_16 : decode cX1_allHunger 16 = .ok (.aload_n 0, 1) := by decide +kernel
theorem dX1_allHunger_17 : decode cX1_allHunger 17 = .ok (.getfield 27, 3) := by decide +kernel
theorem dX1_allHunger_20 : decode cX1_allHunger 20 = .ok (.iload_n 2, 1) := by decide +kernel
theorem dX1_allHunger_21 : decode cX1_allHunger 21 = .ok (.iaload, 1) := by decide +kernel
theorem dX1_allHunger_22 : decode cX1_allHunger 22 = .ok (.iadd, 1) := by decide +kernel
theorem dX1_allHunger_23 : decode cX1_allHunger 23 = .ok (.istore_n 1, 1) := by decide +kernel
theorem dX1_allHunger_24 : decode cX1_allHunger 24 = .ok (.iinc 2 1, 3) := by decide +kernel
theorem dX1_allHunger_27 : decode cX1_allHunger 27 = .ok (.goto (-23), 3) := by decide +kernel
theorem dX1_allHunger_30 : decode cX1_allHunger 30 = .ok (.iload_n 1, 1) := by decide +kernel
theorem dX1_allHunger_31 : decode cX1_allHunger 31 = .ok (.ireturn, 1) := by decide +kernel
theorem dX1_lives_0 : decode cX1_lives 0 = .ok (.aload_n 0, 1) := by decide +kernel
theorem dX1_lives_1 : decode cX1_lives 1 = .ok (.getfield 30, 3) := by decide +kernel
theorem dX1_lives_4 : decode cX1_lives 4 = .ok (.iload_n 1, 1) := by decide +kernel
theorem dX1_lives_5 : decode cX1_lives 5 = .ok (.ishr, 1) := by decide +kernel
theorem dX1_lives_6 : decode cX1_lives 6 = .ok (.iconst 1, 1) := by decide +kernel
theorem dX1_lives_7 : decode cX1_lives 7 = .ok (.iand, 1) := by decide +kernel
theorem dX1_lives_8 : decode cX1_lives 8 = .ok (.ifCond .ne 7, 3) := by decide +kernel
theorem dX1_lives_11 : decode cX1_lives 11 = .ok (.iconst 1, 1) := by decide +kernel
theorem dX1_lives_12 : decode cX1_lives 12 = .ok (.goto 4, 3) := by decide +kernel
theorem dX1_lives_15 : decode cX1_lives 15 = .ok (.iconst 0, 1) := by decide +kernel
theorem dX1_lives_16 : decode cX1_lives 16 = .ok (.ireturn, 1) := by decide +kernel
theorem dX1_tryToRefuse_0 : decode cX1_tryToRefuse 0 = .ok (.aload_n 0, 1) := by decide +kernel
theorem dX1_tryToRefuse_1 : decode cX1_tryToRefuse 1 = .ok (.iload_n 1, 1) := by decide +kernel
theorem dX1_tryToRefuse_2 : decode cX1_tryToRefuse 2 = .ok (.invokevirtual 115, 3) := by decide +kernel
theorem dX1_tryToRefuse_5 : decode cX1_tryToRefuse 5 = .ok (.ifCond .ne 5, 3) := by decide +kernel
theorem dX1_tryToRefuse_8 : decode cX1_tryToRefuse 8 = .ok (.iconst 1, 1) := by decide +kernel
theorem dX1_tryToRefuse_9 : decode cX1_tryToRefuse 9 = .ok (.ireturn, 1) := by decide +kernel
theorem dX1_tryToRefuse_10 : decode cX1_tryToRefuse 10 = .ok (.aload_n 0, 1) := by decide +kernel
theorem dX1_tryToRefuse_11 : decode cX1_tryToRefuse 11 = .ok (.getfield 34, 3) := by decide +kernel
theorem dX1_tryToRefuse_14 : decode cX1_tryToRefuse 14 = .ok (.iload_n 1, 1) := by decide +kernel
theorem dX1_tryToRefuse_15 : decode cX1_tryToRefuse 15 = .ok (.ishr, 1) := by decide +kernel
theorem dX1_tryToRefuse_16 : decode cX1_tryToRefuse 16 = .ok (.iconst 1, 1) := by decide +kernel
theorem dX1_tryToRefuse_17 : decode cX1_tryToRefuse 17 = .ok (.iand, 1) := by decide +kernel
theorem dX1_tryToRefuse_18 : decode cX1_tryToRefuse 18 = .ok (.ifCond .eq 5, 3) := by decide +kernel
theorem dX1_tryToRefuse_21 : decode cX1_tryToRefuse 21 = .ok (.iconst 2, 1) := by decide +kernel
theorem dX1_tryToRefuse_22 : decode cX1_tryToRefuse 22 = .ok (.ireturn, 1) := by decide +kernel
theorem dX1_tryToRefuse_23 : decode cX1_tryToRefuse 23 = .ok (.aload_n 0, 1) := by decide +kernel
theorem dX1_tryToRefuse_24 : decode cX1_tryToRefuse 24 = .ok (.dup, 1) := by decide +kernel
theorem dX1_tryToRefuse_25 : decode cX1_tryToRefuse 25 = .ok (.getfield 34, 3) := by decide +kernel
theorem dX1_tryToRefuse_28 : decode cX1_tryToRefuse 28 = .ok (.iconst 1, 1) := by decide +kernel
theorem dX1_tryToRefuse_29 : decode cX1_tryToRefuse 29 = .ok (.iload_n 1, 1) := by decide +kernel
theorem dX1_tryToRefuse_30 : decode cX1_tryToRefuse 30 = .ok (.ishl, 1) := by decide +kernel
theorem dX1_tryToRefuse_31 : decode cX1_tryToRefuse 31 = .ok (.ior, 1) := by decide +kernel
theorem dX1_tryToRefuse_32 : decode cX1_tryToRefuse 32 = .ok (.putfield 34, 3) := by decide +kernel
theorem dX1_tryToRefuse_35 : decode cX1_tryToRefuse 35 = .ok (.iconst 0, 1) := by decide +kernel
theorem dX1_tryToRefuse_36 : decode cX1_tryToRefuse 36 = .ok (.ireturn, 1) := by decide +kernel
theorem dX5_keepNoted_0 : decode cX5_keepNoted 0 = .ok (.aload_n 0, 1) := by decide +kernel
theorem dX5_keepNoted_1 : decode cX5_keepNoted 1 = .ok (.aload_n 0, 1) := by decide +kernel
theorem dX5_keepNoted_2 : decode cX5_keepNoted 2 = .ok (.getfield 21, 3) := by decide +kernel
theorem dX5_keepNoted_5 : decode cX5_keepNoted 5 = .ok (.iconst 1, 1) := by decide +kernel
theorem dX5_keepNoted_6 : decode cX5_keepNoted 6 = .ok (.iadd, 1) := by decide +kernel
theorem dX5_keepNoted_7 : decode cX5_keepNoted 7 = .ok (.bipush 9, 2) := by decide +kernel
theorem dX5_keepNoted_9 : decode cX5_keepNoted 9 = .ok (.if_icmp .ge 12, 3) := by decide +kernel
theorem dX5_keepNoted_12 : decode cX5_keepNoted 12 = .ok (.aload_n 0, 1) := by decide +kernel
theorem dX5_keepNoted_13 : decode cX5_keepNoted 13 = .ok (.getfield 21, 3) := by decide +kernel
theorem dX5_keepNoted_16 : decode cX5_keepNoted 16 = .ok (.iconst 1, 1) := by decide +kernel
theorem dX5_keepNoted_17 : decode cX5_keepNoted 17 = .ok (.iadd, 1) := by decide +kernel
theorem dX5_keepNoted_18 : decode cX5_keepNoted 18 = .ok (.goto 4, 3) := by decide +kernel
theorem dX5_keepNoted_21 : decode cX5_keepNoted 21 = .ok (.iconst 0, 1) := by decide +kernel
theorem dX5_keepNoted_22 : decode cX5_keepNoted 22 = .ok (.putfield 21, 3) := by decide +kernel
theorem dX5_keepNoted_25 : decode cX5_keepNoted 25 = .ok (.aload_n 0, 1) := by decide +kernel
theorem dX5_keepNoted_26 : decode cX5_keepNoted 26 = .ok (.aload_n 0, 1) := by decide +kernel
theorem dX5_keepNoted_27 : decode cX5_keepNoted 27 = .ok (.getfield 17, 3) := by decide +kernel
theorem dX5_keepNoted_30 : decode cX5_keepNoted 30 = .ok (.iconst 1, 1) := by decide +kernel
theorem dX5_keepNoted_31 : decode cX5_keepNoted 31 = .ok (.iadd, 1) := by decide +kernel
theorem dX5_keepNoted_32 : decode cX5_keepNoted 32 = .ok (.bipush 8, 2) := by decide +kernel
theorem dX5_keepNoted_34 : decode cX5_keepNoted 34 = .ok (.invokestatic 31, 3) := by decide +kernel
theorem dX5_keepNoted_37 : decode cX5_keepNoted 37 = .ok (.putfield 17, 3) := by decide +kernel
theorem dX5_keepNoted_40 : decode cX5_keepNoted 40 = .ok (.return_, 1) := by decide +kernel
theorem dX5_note_0 : decode cX5_note 0 = .ok (.aload_n 0, 1) := by decide +kernel
theorem dX5_note_1 : decode cX5_note 1 = .ok (.getfield 13, 3) := by decide +kernel
theorem dX5_note_4 : decode cX5_note 4 = .ok (.aload_n 0, 1) := by decide +kernel
theorem dX5_note_5 : decode cX5_note 5 = .ok (.getfield 21, 3) := by decide +kernel
theorem dX5_note_8 : decode cX5_note 8 = .ok (.aaload, 1) := by decide +kernel
theorem dX5_note_9 : decode cX5_note 9 = .ok (.aload_n 1, 1) := by decide +kernel
theorem dX5_note_10 : decode cX5_note 10 = .ok (.invokevirtual 27, 3) := by decide +kernel
theorem dX5_note_13 : decode cX5_note 13 = .ok (.return_, 1) := by decide +kernel
theorem dX8_everybody_0 : decode cX8_everybody 0 = .ok (.iconst 1, 1) := by decide +kernel
theorem dX8_everybody_1 : decode cX8_everybody 1 = .ok (.aload_n 0, 1) := by decide +kernel
theorem dX8_everybody_2 : decode cX8_everybody 2 = .ok (.getfield 28, 3) := by decide +kernel
theorem dX8_everybody_5 : decode cX8_everybody 5 = .ok (.ishl, 1) := by decide +kernel
theorem dX8_everybody_6 : decode cX8_everybody 6 = .ok (.iconst 1, 1) := by decide +kernel
theorem dX8_everybody_7 : decode cX8_everybody 7 = .ok (.isub, 1) := by decide +kernel
theorem dX8_everybody_8 : decode cX8_everybody 8 = .ok (.ireturn, 1) := by decide +kernel
theorem dX8_hasDish_0 : decode cX8_hasDish 0 = .ok (.iload_n 1, 1) := by decide +kernel
theorem dX8_hasDish_1 : decode cX8_hasDish 1 = .ok (.ifCond .lt 15, 3) := by decide +kernel
theorem dX8_hasDish_4 : decode cX8_hasDish 4 = .ok (.iload_n 1, 1) := by decide +kernel
theorem dX8_hasDish_5 : decode cX8_hasDish 5 = .ok (.aload_n 0, 1) := by decide +kernel
theorem dX8_hasDish_6 : decode cX8_hasDish 6 = .ok (.getfield 32, 3) := by decide +kernel
theorem dX8_hasDish_9 : decode cX8_hasDish 9 = .ok (.if_icmp .ge 7, 3) := by decide +kernel
theorem dX8_hasDish_12 : decode cX8_hasDish 12 = .ok (.iconst 1, 1) := by decide +kernel
theorem dX8_hasDish_13 : decode cX8_hasDish 13 = .ok (.goto 4, 3) := by decide +kernel
theorem dX8_hasDish_16 : decode cX8_hasDish 16 = .ok (.iconst 0, 1) := by decide +kernel
theorem dX8_hasDish_17 : decode cX8_hasDish 17 = .ok (.ireturn, 1) := by decide +kernel
theorem dX8_hasPerson_0 : decode cX8_hasPerson 0 = .ok (.iload_n 1, 1) := by decide +kernel
theorem dX8_hasPerson_1 : decode cX8_hasPerson 1 = .ok (.ifCond .lt 15, 3) := by decide +kernel
theorem dX8_hasPerson_4 : decode cX8_hasPerson 4 = .ok (.iload_n 1, 1) := by decide +kernel
theorem dX8_hasPerson_5 : decode cX8_hasPerson 5 = .ok (.aload_n 0, 1) := by decide +kernel
theorem dX8_hasPerson_6 : decode cX8_hasPerson 6 = .ok (.getfield 28, 3) := by decide +kernel
theorem dX8_hasPerson_9 : decode cX8_hasPerson 9 = .ok (.if_icmp .ge 7, 3) := by decide +kernel
theorem dX8_hasPerson_12 : decode cX8_hasPerson 12 = .ok (.iconst 1, 1) := by decide +kernel
theorem dX8_hasPerson_13 : decode cX8_hasPerson 13 = .ok (.goto 4, 3) := by decide +kernel
theorem dX8_hasPerson_16 : decode cX8_hasPerson 16 = .ok (.iconst 0, 1) := by decide +kernel
theorem dX8_hasPerson_17 : decode cX8_hasPerson 17 = .ok (.ireturn, 1) := by decide +kernel
theorem dX9_readPerson_0 : decode cX9_readPerson 0 = .ok (.aload_n 0, 1) := by decide +kernel
theorem dX9_readPerson_1 : decode cX9_readPerson 1 = .ok (.getfield 12, 3) := by decide +kernel
theorem dX9_readPerson_4 : decode cX9_readPerson 4 = .ok (.getfield 85, 3) := by decide +kernel
theorem dX9_readPerson_7 : decode cX9_readPerson 7 = .ok (.bipush 7, 2) := by decide +kernel
theorem dX9_readPerson_9 : decode cX9_readPerson 9 = .ok (.if_icmp .lt 9, 3) := by decide +kernel
theorem dX9_readPerson_12 : decode cX9_readPerson 12 = .ok (.aload_n 1, 1) := by decide +kernel
theorem dX9_readPerson_13 : decode cX9_readPerson 13 = .ok (.iconst 4, 1) := by decide +kernel
theorem dX9_readPerson_14 : decode cX9_readPerson 14 = .ok (.invokevirtual 67, 3) := by decide +kernel
theorem dX9_readPerson_17 : decode cX9_readPerson 17 = .ok (.ireturn, 1) := by decide +kernel
theorem dX9_readPerson_18 : decode cX9_readPerson 18 = .ok (.aload_n 1, 1) := by decide +kernel
theorem dX9_readPerson_19 : decode cX9_readPerson 19 = .ok (.invokevirtual 82, 3) := by decide +kernel
theorem dX9_readPerson_22 : decode cX9_readPerson 22 = .ok (.aload_n 1, 1) := by decide +kernel
theorem dX9_readPerson_23 : decode cX9_readPerson 23 = .ok (.getfield 71, 3) := by decide +kernel
theorem dX9_readPerson_26 : decode cX9_readPerson 26 = .ok (.lstore_n 2, 1) := by decide +kernel
theorem dX9_readPerson_27 : decode cX9_readPerson 27 = .ok (.aload_n 0, 1) := by decide +kernel
theorem dX9_readPerson_28 : decode cX9_readPerson 28 = .ok (.aload_n 1, 1) := by decide +kernel
theorem dX9_readPerson_29 : decode cX9_readPerson 29 = .ok (.invokevirtual 88, 3) := by decide +kernel
theorem dX9_readPerson_32 : decode cX9_readPerson 32 = .ok (.ifCond .ne 5, 3) := by decide +kernel
theorem dX9_readPerson_35 : decode cX9_readPerson 35 = .ok (.iconst 0, 1) := by decide +kernel
theorem dX9_readPerson_36 : decode cX9_readPerson 36 = .ok (.ireturn, 1) := by decide +kernel
theorem dX9_readPerson_37 : decode cX9_readPerson 37 = .ok (.aload_n 1, 1) := by decide +kernel
theorem dX9_readPerson_38 : decode cX9_readPerson 38 = .ok (.iconst 0, 1) := by decide +kernel
theorem dX9_readPerson_39 : decode cX9_readPerson 39 = .ok (.bipush 20, 2) := by decide +kernel
theorem dX9_readPerson_41 : decode cX9_readPerson 41 = .ok (.invokevirtual 91, 3) := by decide +kernel
theorem dX9_readPerson_44 : decode cX9_readPerson 44 = .ok (.istore 4, 2) := by decide +kernel
theorem dX9_readPerson_46 : decode cX9_readPerson 46 = .ok (.iload 4, 2) := by decide +kernel
theorem dX9_readPerson_48 : decode cX9_readPerson 48 = .ok (.iconst (-1), 1) := by decide +kernel
theorem dX9_readPerson_49 : decode cX9_readPerson 49 = .ok (.if_icmp .ne 5, 3) := by decide +kernel
theorem dX9_readPerson_52 : decode cX9_readPerson 52 = .ok (.iconst 0, 1) := by decide +kernel
theorem dX9_readPerson_53 : decode cX9_readPerson 53 = .ok (.ireturn, 1) := by decide +kernel
theorem dX9_readPerson_54 : decode cX9_readPerson 54 = .ok (.iconst (-1), 1) := by decide +kernel
theorem dX9_readPerson_55 : decode cX9_readPerson 55 = .ok (.istore 5, 2) := by decide +kernel
theorem dX9_readPerson_57 : decode cX9_readPerson 57 = .ok (.aload_n 1, 1) := by decide +kernel
theorem dX9_readPerson_58 : decode cX9_readPerson 58 = .ok (.getfield 44, 3) := by decide +kernel
theorem dX9_readPerson_61 : decode cX9_readPerson 61 = .ok (.iconst 5, 1) := by decide +kernel
theorem dX9_readPerson_62 : decode cX9_readPerson 62 = .ok (.if_icmp .ne 32, 3) := by decide +kernel
theorem dX9_readPerson_65 : decode cX9_readPerson 65 = .ok (.aload_n 1, 1) := by decide +kernel
theorem dX9_readPerson_66 : decode cX9_readPerson 66 = .ok (.invokevirtual 82, 3) := by decide +kernel
theorem dX9_readPerson_69 : decode cX9_readPerson 69 = .ok (.aload_n 1, 1) := by decide +kernel
theorem dX9_readPerson_70 : decode cX9_readPerson 70 = .ok (.aload_n 0, 1) := by decide +kernel
theorem dX9_readPerson_71 : decode cX9_readPerson 71 = .ok (.getfield 12, 3) := by decide +kernel
theorem dX9_readPerson_74 : decode cX9_readPerson 74 = .ok (.aload_n 1, 1) := by decide +kernel
theorem dX9_readPerson_75 : decode cX9_readPerson 75 = .ok (.getfield 71, 3) := by decide +kernel
theorem dX9_readPerson_78 : decode cX9_readPerson 78 = .ok (.invokevirtual 75, 3) := by decide +kernel
theorem dX9_readPerson_81 : decode cX9_readPerson 81 = .ok (.invokevirtual 95, 3) := by decide +kernel
theorem dX9_readPerson_84 : decode cX9_readPerson 84 = .ok (.istore 5, 2) := by decide +kernel
theorem dX9_readPerson_86 : decode cX9_readPerson 86 = .ok (.iload 5, 2) := by decide +kernel
theorem dX9_readPerson_88 : decode cX9_readPerson 88 = .ok (.iconst (-1), 1) := by decide +kernel
theorem dX9_readPerson_89 : decode cX9_readPerson 89 = .ok (.if_icmp .ne 5, 3) := by decide +kernel
theorem dX9_readPerson_92 : decode cX9_readPerson 92 = .ok (.iconst 0, 1) := by decide +kernel
theorem dX9_readPerson_93 : decode cX9_readPerson 93 = .ok (.ireturn, 1) := by decide +kernel
theorem dX9_readPerson_94 : decode cX9_readPerson 94 = .ok (.aload_n 0, 1) := by decide +kernel
theorem dX9_readPerson_95 : decode cX9_readPerson 95 = .ok (.getfield 12, 3) := by decide +kernel
theorem dX9_readPerson_98 : decode cX9_readPerson 98 = .ok (.getfield 99, 3) := by decide +kernel
theorem dX9_readPerson_101 : decode cX9_readPerson 101 = .ok (.aload_n 0, 1) := by decide +kernel
theorem dX9_readPerson_102 : decode cX9_readPerson 102 = .ok (.getfield 12, 3) := by decide +kernel
theorem dX9_readPerson_105 : decode cX9_readPerson 105 = .ok (.getfield 85, 3) := by decide +kernel
theorem dX9_readPerson_108 : decode cX9_readPerson 108 = .ok (.lload_n 2, 1) := by decide +kernel
theorem dX9_readPerson_109 : decode cX9_readPerson 109 = .ok (.lastore, 1) := by decide +kernel
theorem dX9_readPerson_110 : decode cX9_readPerson 110 = .ok (.aload_n 0, 1) := by decide +kernel
theorem dX9_readPerson_111 : decode cX9_readPerson 111 = .ok (.getfield 12, 3) := by decide +kernel
theorem dX9_readPerson_114 : decode cX9_readPerson 114 = .ok (.getfield 103, 3) := by decide +kernel
theorem dX9_readPerson_117 : decode cX9_readPerson 117 = .ok (.aload_n 0, 1) := by decide +kernel
theorem dX9_readPerson_118 : decode cX9_readPerson 118 = .ok (.getfield 12, 3) := by decide +kernel
theorem dX9_readPerson_121 : decode cX9_readPerson 121 = .ok (.getfield 85, 3) := by decide +kernel
theorem dX9_readPerson_124 : decode cX9_readPerson 124 = .ok (.iload 4, 2) := by decide +kernel
theorem dX9_readPerson_126 : decode cX9_readPerson 126 = .ok (.iastore, 1) := by decide +kernel
theorem dX9_readPerson_127 : decode cX9_readPerson 127 = .ok (.aload_n 0, 1) := by decide +kernel
theorem dX9_readPerson_128 : decode cX9_readPerson 128 = .ok (.getfield 12, 3) := by decide +kernel
theorem dX9_readPerson_131 : decode cX9_readPerson 131 = .ok (.getfield 107, 3) := by decide +kernel
theorem dX9_readPerson_134 : decode cX9_readPerson 134 = .ok (.aload_n 0, 1) := by decide +kernel
theorem dX9_readPerson_135 : decode cX9_readPerson 135 = .ok (.getfield 12, 3) := by decide +kernel
theorem dX9_readPerson_138 : decode cX9_readPerson 138 = .ok (.getfield 85, 3) := by decide +kernel
theorem dX9_readPerson_141 : decode cX9_readPerson 141 = .ok (.iload 5, 2) := by decide +kernel
theorem dX9_readPerson_143 : decode cX9_readPerson 143 = .ok (.iastore, 1) := by decide +kernel
theorem dX9_readPerson_144 : decode cX9_readPerson 144 = .ok (.aload_n 0, 1) := by decide +kernel
theorem dX9_readPerson_145 : decode cX9_readPerson 145 = .ok (.getfield 12, 3) := by decide +kernel
theorem dX9_readPerson_148 : decode cX9_readPerson 148 = .ok (.dup, 1) := by decide +kernel
theorem dX9_readPerson_149 : decode cX9_readPerson 149 = .ok (.getfield 85, 3) := by decide +kernel
theorem dX9_readPerson_152 : decode cX9_readPerson 152 = .ok (.iconst 1, 1) := by decide +kernel
theorem dX9_readPerson_153 : decode cX9_readPerson 153 = .ok (.iadd, 1) := by decide +kernel
theorem dX9_readPerson_154 : decode cX9_readPerson 154 = .ok (.putfield 85, 3) := by decide +kernel
theorem dX9_readPerson_157 : decode cX9_readPerson 157 = .ok (.aload_n 1, 1) := by decide +kernel
theorem dX9_readPerson_158 : decode cX9_readPerson 158 = .ok (.bipush 59, 2) := by decide +kernel
theorem dX9_readPerson_160 : decode cX9_readPerson 160 = .ok (.invokevirtual 110, 3) := by decide +kernel
theorem dX9_readPerson_163 : decode cX9_readPerson 163 = .ok (.ireturn, 1) := by decide +kernel
theorem rc_5 : Rg 5 5 5 := ⟨by decide, by decide⟩
theorem rc_20 : Rg 20 20 20 := ⟨by decide, by decide⟩
set_option maxRecDepth 100000 in
set_option maxHeartbeats 8000000 in
theorem c_X9_readPerson {l : Launch} {D : va_G} {cy : Nat → ClassId} {L : List Nat} {κ ln : Nat → Nat} {R : Nat → Nat → Option Nat} {I : Nat → Nat → Int32} {J : Nat → Nat → Int64} {ow : Nat → Nat × Nat} (W9 : ∀ a ∈ L, Shp L κ ln R ow a) {x : Nat} (hLx : x ∈ L) (hkx : κ x = 9) {a0 : Nat} (hLa0 : a0 ∈ L) (hka0 : κ a0 = 10) (hU : Uv L κ ow I) : CtI l yX9_readPerson cX9_readPerson 6 (some .boolean) { frames := 2, cells := 0, slots := 0, locals := 44 } D cy L κ ln R I J [.ref x, .ref a0] (fun r I2 J2 => Uv L κ ow I2 ∧ Fq L κ ow [805, 1007, 1008, 1009, 1011, 1012, 58100, 58200] I I2 ∧ Fq L κ ow [1010, 58000] J J2 ∧ Rg 0 1 r) := by
  refine CtI.of (by decide +kernel) (Nat.le_of_ble_eq_true rfl) ?_
  intro p e s m below meth c B K
  have C := B.1
  have hF : Fq L κ ow [805, 1007, 1008, 1009, 1011, 1012, 58100, 58200] I I := fq_rf
  have hG : Fq L κ ow [1010, 58000] J J := fq_rf
  obtain ⟨b_406817, hb_406817, hb_406817L, hb_406817k⟩ := shp_o (W9 x hLx) hkx 0 8 rfl (by decide)
  obtain ⟨b_406818, hb_406818, hb_406818L, hb_406818k, hb_406818n, hb_406818o⟩ := shp_a (W9 b_406817 hb_406817L) hb_406817k 2 14 7 rfl (by decide)
  obtain ⟨b_406819, hb_406819, hb_406819L, hb_406819k, hb_406819n, hb_406819o⟩ := shp_a (W9 b_406817 hb_406817L) hb_406817k 0 15 7 rfl (by decide)
  obtain ⟨b_406820, hb_406820, hb_406820L, hb_406820k, hb_406820n, hb_406820o⟩ := shp_a (W9 b_406817 hb_406817L) hb_406817k 1 14 7 rfl (by decide)
  refine g_lo (is := [0, 1]) (lo2 := [(0, .ref x), (1, .ref a0)]) rfl ?_
  have j_94 : ∀ (I_406821 : Nat → Nat → Int32) (J_406822 : Nat → Nat → Int64) (hU_406823 : Uv L κ ow I_406821) (hF_406824 : Fq L κ ow [805, 1007, 1008, 1009, 1011, 1012, 58100, 58200] I I_406821) (hG_406825 : Fq L κ ow [1010, 58000] J J_406822) (y_406826 : Int64) (v_406827 : Int32) (nv_406827_m1 : ¬ v_406827 = (-1)) (v_406828 : Int32) (rv_406828 : Rg (-1) 6 v_406828) (v_406829 : Int32) (rv_406829 : Rg 0 6 v_406829) (q_406830 : I_406821 b_406817 5 = v_406829), WG p l e { frames := 2, cells := 0, slots := 0, locals := 44 } s m ([.ref x, .ref a0] : List Value).toArray below meth c 6 0 0 (MQ below (Qi_ D cy L κ ln R (fun r I2 J2 => Uv L κ ow I2 ∧ Fq L κ ow [805, 1007, 1008, 1009, 1011, 1012, 58100, 58200] I I2 ∧ Fq L κ ow [1010, 58000] J J2 ∧ Rg 0 1 r)) ([.ref x, .ref a0] : List Value).toArray s 0 0 (Al_ L)) D cy (Al_ L) s.heap L κ ln R I_406821 J_406822 94 [(0, .ref x), (1, .ref a0), (2, .long y_406826), (4, .int v_406827), (5, .int v_406828)] [] := by
    intro I_406821 J_406822 hU_406823 hF_406824 hG_406825 y_406826 v_406827 nv_406827_m1 v_406828 rv_406828 v_406829 rv_406829 q_406830
    refine g_aload_n C 0 dX9_readPerson_94 rfl rfl ?_
    refine g_getR C K hLx hkx f_9_12 hb_406817 dX9_readPerson_95 ?_
    refine g_getR C K hb_406817L hb_406817k f_9_99 hb_406819 dX9_readPerson_98 ?_
    refine g_aload_n C 0 dX9_readPerson_101 rfl rfl ?_
    refine g_getR C K hLx hkx f_9_12 hb_406817 dX9_readPerson_102 ?_
    refine g_getI C K hb_406817L hb_406817k f_9_85 (v := v_406829) q_406830 dX9_readPerson_105 ?_
    refine g_lload_n C 2 dX9_readPerson_108 rfl rfl ?_
    refine h_last C K hb_406819L hb_406819k (v_406829.toNatClampNeg) (rfl) (ix_0 rv_406829 (by decide)) (ix_lt rv_406829 (by decide) hb_406819n (by decide)) dX9_readPerson_109 (fun J_406831 hJ_406831 => ?_)
    have hG_406832 := fq_puta hG_406825 hJ_406831 (ro_a hb_406819k (by decide) hb_406819o hb_406817k rfl) (by decide) (by decide)
    refine g_aload_n C 0 dX9_readPerson_110 rfl rfl ?_
    refine g_getR C K hLx hkx f_9_12 hb_406817 dX9_readPerson_111 ?_
    refine g_getR C K hb_406817L hb_406817k f_9_103 hb_406820 dX9_readPerson_114 ?_
    refine g_aload_n C 0 dX9_readPerson_117 rfl rfl ?_
    refine g_getR C K hLx hkx f_9_12 hb_406817 dX9_readPerson_118 ?_
    refine g_getI C K hb_406817L hb_406817k f_9_85 (v := v_406829) q_406830 dX9_readPerson_121 ?_
    refine g_iload C 3 dX9_readPerson_124 rfl ?_
    refine h_iast C K hb_406820L hb_406820k (v_406829.toNatClampNeg) (rfl) (ix_0 rv_406829 (by decide)) (ix_lt rv_406829 (by decide) hb_406820n (by decide)) dX9_readPerson_126 (fun I_406833 hI_406833 => ?_)
    have hU_406834 := uv_put hU_406823 hI_406833 (ro_a hb_406820k (by decide) hb_406820o hb_406817k rfl) (lo := (-2147483648)) (hi := 2147483647) (rfl) ((rg_all v_406827))
    have hF_406835 := fq_puta hF_406824 hI_406833 (ro_a hb_406820k (by decide) hb_406820o hb_406817k rfl) (by decide) (by decide)
    refine g_aload_n C 0 dX9_readPerson_127 rfl rfl ?_
    refine g_getR C K hLx hkx f_9_12 hb_406817 dX9_readPerson_128 ?_
    refine g_getR C K hb_406817L hb_406817k f_9_107 hb_406818 dX9_readPerson_131 ?_
    refine g_aload_n C 0 dX9_readPerson_134 rfl rfl ?_
    refine g_getR C K hLx hkx f_9_12 hb_406817 dX9_readPerson_135 ?_
    refine g_getI C K hb_406817L hb_406817k f_9_85 (v := v_406829) (kp_k hI_406833 (by rw [hb_406817k, hb_406820k]; decide) q_406830) dX9_readPerson_138 ?_
    refine g_iload C 4 dX9_readPerson_141 rfl ?_
    refine h_iast C K hb_406818L hb_406818k (v_406829.toNatClampNeg) (rfl) (ix_0 rv_406829 (by decide)) (ix_lt rv_406829 (by decide) hb_406818n (by decide)) dX9_readPerson_143 (fun I_406836 hI_406836 => ?_)
    have hU_406837 := uv_put hU_406834 hI_406836 (ro_a hb_406818k (by decide) hb_406818o hb_406817k rfl) (lo := (-1)) (hi := 6) (rfl) (rv_406828)
    have hF_406838 := fq_puta hF_406835 hI_406836 (ro_a hb_406818k (by decide) hb_406818o hb_406817k rfl) (by decide) (by decide)
    refine g_aload_n C 0 dX9_readPerson_144 rfl rfl ?_
    refine g_getR C K hLx hkx f_9_12 hb_406817 dX9_readPerson_145 ?_
    refine g_dup C dX9_readPerson_148 rfl ?_
    refine g_getI C K hb_406817L hb_406817k f_9_85 (v := v_406829) (kp_k hI_406836 (by rw [hb_406817k, hb_406818k]; decide) (kp_k hI_406833 (by rw [hb_406817k, hb_406820k]; decide) q_406830)) dX9_readPerson_149 ?_
    refine g_iconst C (v := 1) dX9_readPerson_152 (by decide) ?_
    obtain ⟨x_406839, hx_406839, rx_406839, tx_406839⟩ := ex_add 1 7 rv_406829 rc_1 (by decide) (by decide) (by decide) (by decide)
    refine g_iadd C (v := x_406839) dX9_readPerson_153 hx_406839 ?_
    refine h_putI C K hb_406817L hb_406817k f_9_85 p_8_5 dX9_readPerson_154 (fun I_406840 hI_406840 => ?_)
    have hU_406841 := uv_put hU_406837 hI_406840 (ro_o hb_406817k (by decide)) (lo := 0) (hi := 7) rfl (rg_w rx_406839 (by decide) (by decide))
    have hF_406842 := fq_puto hF_406838 hI_406840 hb_406817k (by decide) (by decide)
    refine g_aload_n C 1 dX9_readPerson_157 rfl rfl ?_
    refine g_bipush C (v := 59) dX9_readPerson_158 (by decide) ?_
    refine g_callVI C K (c_X10_take W9 hLa0 hka0 59 (rg_w rc_59 (by decide) (by decide)) hU_406841) hLa0 hka0 (by decide) rfl v_9_110 rfl ⟨rfl, rfl⟩ ⟨Nat.le_of_ble_eq_true rfl, Nat.le_of_ble_eq_true rfl⟩ (Nat.le_of_ble_eq_true rfl) ⟨Nat.le_of_ble_eq_true rfl, Nat.le_of_ble_eq_true rfl⟩ dX9_readPerson_160 rfl (st := []) (fun x_406843 I_406844 J_406845 h_406846 => ?_)
    obtain ⟨hUI_406844, hFI_406844, hGJ_406845, rx_406843⟩ := h_406846
    have hF_406847 := fq_tr hF_406842 hFI_406844 (by decide)
    have hG_406848 := fq_tr hG_406832 hGJ_406845 (by decide)
    exact g_zret (ty := .boolean) (r := x_406843) B K rfl (nar_z (rx_406843)) ⟨hUI_406844, hF_406847, hG_406848, rx_406843⟩ dX9_readPerson_163
  refine g_aload_n C 0 dX9_readPerson_0 rfl rfl ?_
  refine g_getR C K hLx hkx f_9_12 hb_406817 dX9_readPerson_1 ?_
  obtain ⟨x_406849, hx_406849, rx_406849⟩ := ex_get (I := I) (a := b_406817) (j := 5) (lo := 0) (hi := 7) hU hb_406817L (ro_o hb_406817k (by decide)) rfl
  refine g_getI C K hb_406817L hb_406817k f_9_85 (v := x_406849) hx_406849 dX9_readPerson_4 ?_
  refine g_bipush C (v := 7) dX9_readPerson_7 (by decide) ?_
  refine g_icmp_lt C (tgt := 18) dX9_readPerson_9 (by decide) (fun h_406850 => ?_) (fun h_406850 => ?_)
  · skip
    have r_406851 := lt_l (hi := 6) (h_406850) rx_406849 rc_7 (by decide)
    refine g_aload_n C 1 dX9_readPerson_18 rfl rfl ?_
    refine g_callVV C K (c_X10_advance W9 hLa0 hka0   hU) hLa0 hka0 (by decide) rfl v_9_82 rfl ⟨rfl, rfl⟩ ⟨Nat.le_of_ble_eq_true rfl, Nat.le_of_ble_eq_true rfl⟩ (Nat.le_of_ble_eq_true rfl) ⟨Nat.le_of_ble_eq_true rfl, Nat.le_of_ble_eq_true rfl⟩ dX9_readPerson_19 rfl (st := []) (fun I_406853 J_406854 h_406855 => ?_)
    obtain ⟨hUI_406853, hFI_406853, hGJ_406854⟩ := h_406855
    have hF_406856 := fq_tr hF hFI_406853 (by decide)
    have hG_406857 := fq_tr hG hGJ_406854 (by decide)
    refine g_aload_n C 1 dX9_readPerson_22 rfl rfl ?_
    obtain ⟨y_406858, hy_406858⟩ : ∃ z, J_406854 a0 10 = z := ⟨_, rfl⟩
    refine g_getJ C K hLa0 hka0 f_9_71 (v := y_406858) hy_406858 dX9_readPerson_23 ?_
    refine g_lstore_n C dX9_readPerson_26 rfl (by decide) (lo2 := [(2, .long y_406858), (0, .ref x), (1, .ref a0)]) rfl ?_
    refine g_aload_n C 1 dX9_readPerson_27 rfl rfl ?_
    refine g_aload_n C 2 dX9_readPerson_28 rfl rfl ?_
    refine g_callVI C K (c_X9_newName W9 hLx hkx hLa0 hka0  hUI_406853) hLx hkx (by decide) rfl v_9_88 rfl ⟨rfl, rfl⟩ ⟨Nat.le_of_ble_eq_true rfl, Nat.le_of_ble_eq_true rfl⟩ (Nat.le_of_ble_eq_true rfl) ⟨Nat.le_of_ble_eq_true rfl, Nat.le_of_ble_eq_true rfl⟩ dX9_readPerson_29 rfl (st := []) (fun x_406859 I_406860 J_406861 h_406862 => ?_)
    obtain ⟨hUI_406860, hFI_406860, hGJ_406861, rx_406859⟩ := h_406862
    have hF_406863 := fq_tr hF_406856 hFI_406860 (by decide)
    have hG_406864 := fq_tr hG_406857 hGJ_406861 (by decide)
    refine g_if_ne C (tgt := 37) dX9_readPerson_32 (by decide) (fun h_406865 => ?_) (fun h_406865 => ?_)
    · skip
      have n_406866 : ¬ x_406859 = 0 := h_406865
      have r_406867 := ne_lo (lo := 1) n_406866 rx_406859 rc_0 rfl (by decide)
      refine g_aload_n C 2 dX9_readPerson_37 rfl rfl ?_
      refine g_iconst C (v := 0) dX9_readPerson_38 (by decide) ?_
      refine g_bipush C (v := 20) dX9_readPerson_39 (by decide) ?_
      refine g_callVI C K (c_X10_takeNumber W9 hLa0 hka0 0 20 (rg_w rc_0 (by decide) (by decide)) (rg_w rc_20 (by decide) (by decide)) hUI_406860) hLa0 hka0 (by decide) rfl v_9_91 rfl ⟨rfl, rfl⟩ ⟨Nat.le_of_ble_eq_true rfl, Nat.le_of_ble_eq_true rfl⟩ (Nat.le_of_ble_eq_true rfl) ⟨Nat.le_of_ble_eq_true rfl, Nat.le_of_ble_eq_true rfl⟩ dX9_readPerson_41 rfl (st := []) (fun x_406868 I_406869 J_406870 h_406871 => ?_)
      obtain ⟨hUI_406869, hFI_406869, hGJ_406870, rx_406868⟩ := h_406871
      have hF_406872 := fq_tr hF_406863 hFI_406869 (by decide)
      have hG_406873 := fq_tr hG_406864 hGJ_406870 (by decide)
      refine g_istore C dX9_readPerson_44 (by decide) (lo2 := [(4, .int x_406868), (2, .long y_406858), (0, .ref x), (1, .ref a0)]) rfl ?_
      refine g_iload C 0 dX9_readPerson_46 rfl ?_
      refine g_iconst C (v := (-1)) dX9_readPerson_48 (by decide) ?_
      refine g_icmp_ne C (tgt := 54) dX9_readPerson_49 (by decide) (fun h_406874 => ?_) (fun h_406874 => ?_)
      · skip
        have n_406875 : ¬ x_406868 = (-1) := h_406874
        refine g_iconst C (v := (-1)) dX9_readPerson_54 (by decide) ?_
        refine g_istore C dX9_readPerson_55 (by decide) (lo2 := [(5, .int (-1)), (4, .int x_406868), (2, .long y_406858), (0, .ref x), (1, .ref a0)]) rfl ?_
        refine g_aload_n C 4 dX9_readPerson_57 rfl rfl ?_
        obtain ⟨x_406876, hx_406876, rx_406876⟩ := ex_get (I := I_406869) (a := a0) (j := 8) (lo := (-2147483648)) (hi := 2147483647) hUI_406869 hLa0 (ro_o hka0 (by decide)) rfl
        refine g_getI C K hLa0 hka0 f_9_44 (v := x_406876) hx_406876 dX9_readPerson_58 ?_
        refine g_iconst C (v := 5) dX9_readPerson_61 (by decide) ?_
        refine g_icmp_ne C (tgt := 94) dX9_readPerson_62 (by decide) (fun h_406877 => ?_) (fun h_406877 => ?_)
        · skip
          have n_406878 : ¬ x_406876 = 5 := h_406877
          have q_406879 := (fq_at hFI_406869 hb_406817L hb_406817k (by decide) (by decide) (fq_at hFI_406860 hb_406817L hb_406817k (by decide) (by decide) (fq_at hFI_406853 hb_406817L hb_406817k (by decide) (by decide) hx_406849)))
          refine g_lo (is := [3, 4, 2, 1, 0]) (lo2 := [(0, .ref x), (1, .ref a0), (2, .long y_406858), (4, .int x_406868), (5, .int (-1))]) rfl ?_
          exact j_94 I_406869 J_406870 hUI_406869 hF_406872 hG_406873 y_406858 x_406868 (n_406875) (-1) (rg_w rc_m1 (by decide) (by decide)) x_406849 (r_406851) q_406879
        · skip
          have r_406880 := (⟨(eq_rg (h_406877) rc_5).1, (eq_rg (h_406877) rc_5).2⟩ : Rg 5 5 x_406876)
          refine g_aload_n C 4 dX9_readPerson_65 rfl rfl ?_
          refine g_callVV C K (c_X10_advance W9 hLa0 hka0   hUI_406869) hLa0 hka0 (by decide) rfl v_9_82 rfl ⟨rfl, rfl⟩ ⟨Nat.le_of_ble_eq_true rfl, Nat.le_of_ble_eq_true rfl⟩ (Nat.le_of_ble_eq_true rfl) ⟨Nat.le_of_ble_eq_true rfl, Nat.le_of_ble_eq_true rfl⟩ dX9_readPerson_66 rfl (st := []) (fun I_406882 J_406883 h_406884 => ?_)
          obtain ⟨hUI_406882, hFI_406882, hGJ_406883⟩ := h_406884
          have hF_406885 := fq_tr hF_406872 hFI_406882 (by decide)
          have hG_406886 := fq_tr hG_406873 hGJ_406883 (by decide)
          refine g_aload_n C 4 dX9_readPerson_69 rfl rfl ?_
          refine g_aload_n C 3 dX9_readPerson_70 rfl rfl ?_
          refine g_getR C K hLx hkx f_9_12 hb_406817 dX9_readPerson_71 ?_
          refine g_aload_n C 4 dX9_readPerson_74 rfl rfl ?_
          obtain ⟨y_406887, hy_406887⟩ : ∃ z, J_406883 a0 10 = z := ⟨_, rfl⟩
          refine g_getJ C K hLa0 hka0 f_9_71 (v := y_406887) hy_406887 dX9_readPerson_75 ?_
          refine g_callVI C K (c_X8_personNamed W9 hb_406817L hb_406817k y_406887  hUI_406882) hb_406817L hb_406817k (by decide) rfl v_9_75 rfl ⟨rfl, rfl⟩ ⟨Nat.le_of_ble_eq_true rfl, Nat.le_of_ble_eq_true rfl⟩ (Nat.le_of_ble_eq_true rfl) ⟨Nat.le_of_ble_eq_true rfl, Nat.le_of_ble_eq_true rfl⟩ dX9_readPerson_78 rfl (st := [.ref a0]) (fun x_406888 I_406889 J_406890 h_406891 => ?_)
          obtain ⟨rfl, rfl, rx_406888⟩ := h_406891
          refine g_callVI C K (c_X10_takeName W9 hLa0 hka0 x_406888 (rx_406888) hUI_406882) hLa0 hka0 (by decide) rfl v_9_95 rfl ⟨rfl, rfl⟩ ⟨Nat.le_of_ble_eq_true rfl, Nat.le_of_ble_eq_true rfl⟩ (Nat.le_of_ble_eq_true rfl) ⟨Nat.le_of_ble_eq_true rfl, Nat.le_of_ble_eq_true rfl⟩ dX9_readPerson_81 rfl (st := []) (fun x_406892 I_406893 J_406894 h_406895 => ?_)
          obtain ⟨hUI_406893, hFI_406893, hGJ_406894, rx_406892⟩ := h_406895
          have hF_406896 := fq_tr hF_406885 hFI_406893 (by decide)
          have hG_406897 := fq_tr hG_406886 hGJ_406894 (by decide)
          refine g_istore C dX9_readPerson_84 (by decide) (lo2 := [(5, .int x_406892), (4, .int x_406868), (2, .long y_406858), (0, .ref x), (1, .ref a0)]) rfl ?_
          refine g_iload C 0 dX9_readPerson_86 rfl ?_
          refine g_iconst C (v := (-1)) dX9_readPerson_88 (by decide) ?_
          refine g_icmp_ne C (tgt := 94) dX9_readPerson_89 (by decide) (fun h_406898 => ?_) (fun h_406898 => ?_)
          · skip
            have n_406899 : ¬ x_406892 = (-1) := h_406898
            have r_406900 := ne_lo (lo := 0) n_406899 rx_406892 rc_m1 rfl (by decide)
            have q_406901 := (fq_at hFI_406893 hb_406817L hb_406817k (by decide) (by decide) (fq_at hFI_406882 hb_406817L hb_406817k (by decide) (by decide) (fq_at hFI_406869 hb_406817L hb_406817k (by decide) (by decide) (fq_at hFI_406860 hb_406817L hb_406817k (by decide) (by decide) (fq_at hFI_406853 hb_406817L hb_406817k (by decide) (by decide) hx_406849)))))
            refine g_lo (is := [3, 4, 2, 1, 0]) (lo2 := [(0, .ref x), (1, .ref a0), (2, .long y_406858), (4, .int x_406868), (5, .int x_406892)]) rfl ?_
            exact j_94 I_406893 J_406894 hUI_406893 hF_406896 hG_406897 y_406858 x_406868 (n_406875) x_406892 (rg_w r_406900 (by decide) (by decide)) x_406849 (r_406851) q_406901
          · skip
            have r_406902 := (⟨(rx_406892).1, (eq_rg (h_406898) rc_m1).2⟩ : Rg (-1) (-1) x_406892)
            refine g_iconst C (v := 0) dX9_readPerson_92 (by decide) ?_
            exact g_zret (ty := .boolean) (r := 0) B K rfl (rfl) ⟨hUI_406893, hF_406896, hG_406897, rg_w rc_0 (by decide) (by decide)⟩ dX9_readPerson_93
      · skip
        have r_406903 := (⟨(eq_rg (h_406874) rc_m1).1, (eq_rg (h_406874) rc_m1).2⟩ : Rg (-1) (-1) x_406868)
        refine g_iconst C (v := 0) dX9_readPerson_52 (by decide) ?_
        exact g_zret (ty := .boolean) (r := 0) B K rfl (rfl) ⟨hUI_406869, hF_406872, hG_406873, rg_w rc_0 (by decide) (by decide)⟩ dX9_readPerson_53
    · skip
      have r_406904 := (⟨(rx_406859).1, (eq_rg (h_406865) rc_0).2⟩ : Rg 0 0 x_406859)
      refine g_iconst C (v := 0) dX9_readPerson_35 (by decide) ?_
      exact g_zret (ty := .boolean) (r := 0) B K rfl (rfl) ⟨hUI_406860, hF_406863, hG_406864, rg_w rc_0 (by decide) (by decide)⟩ dX9_readPerson_36
  · skip
    have r_406905 := le_r (nlt h_406850) rc_7 rx_406849
    refine g_aload_n C 1 dX9_readPerson_12 rfl rfl ?_
    refine g_iconst C (v := 4) dX9_readPerson_13 (by decide) ?_
    refine g_callVI C K (c_X10_fail W9 hLa0 hka0 4 (rg_w rc_4 (by decide) (by decide)) hU) hLa0 hka0 (by decide) rfl v_9_67 rfl ⟨rfl, rfl⟩ ⟨Nat.le_of_ble_eq_true rfl, Nat.le_of_ble_eq_true rfl⟩ (Nat.le_of_ble_eq_true rfl) ⟨Nat.le_of_ble_eq_true rfl, Nat.le_of_ble_eq_true rfl⟩ dX9_readPerson_14 rfl (st := []) (fun x_406906 I_406907 J_406908 h_406909 => ?_)
    obtain ⟨hUI_406907, hFI_406907, hGJ_406908, rx_406906⟩ := h_406909
    have hF_406910 := fq_tr hF hFI_406907 (by decide)
    have hG_406911 := fq_tr hG hGJ_406908 (by decide)
    exact g_zret (ty := .boolean) (r := x_406906) B K rfl (nar_z (rg_w rx_406906 (by decide) (by decide))) ⟨hUI_406907, hF_406910, hG_406911, rg_w rx_406906 (by decide) (by decide)⟩ dX9_readPerson_17
set_option maxRecDepth 100000 in
set_option maxHeartbeats 8000000 in
theorem c_X11_fault {l : Launch} {D : va_G} {cy : Nat → ClassId} {L : List Nat} {κ ln : Nat → Nat} {R : Nat → Nat → Option Nat} {I : Nat → Nat → Int32} {J : Nat → Nat → Int64} {ow : Nat → Nat × Nat} (W9 : ∀ a ∈ L, Shp L κ ln R ow a) {x : Nat} (hLx : x ∈ L) (hkx : κ x = 11) (hU : Uv L κ ow I) : CtI l yX11_fault cX11_fault 1 (some .int) { frames := 0, cells := 0, slots := 0, locals := 0 } D cy L κ ln R I J [.ref x] (fun r I2 J2 => I = I2 ∧ J = J2 ∧ Rg (-2147483648) 2147483647 r) := by
  refine CtI.of (by decide +kernel) (Nat.le_of_ble_eq_true rfl) ?_
  intro p e s m below meth c B K
  have C := B.1
  obtain ⟨b_406916, hb_406916, hb_406916L, hb_406916k⟩ := shp_o (W9 x hLx) hkx 0 10 rfl (by decide)
  refine g_lo (is := [0]) (lo2 := [(0, .ref x)]) rfl ?_
  refine g_aload_n C 0 dX11_fault_0 rfl rfl ?_
  refine g_getR C K hLx hkx f_11_10 hb_406916 dX11_fault_1 ?_
  obtain ⟨x_406917, hx_406917, rx_406917⟩ := ex_get (I := I) (a := b_406916) (j := 11) (lo := (-2147483648)) (hi := 2147483647) hU hb_406916L (ro_o hb_406916k (by decide)) rfl
  refine g_getI C K hb_406916L hb_406916k f_11_113 (v := x_406917) hx_406917 dX11_fault_4 ?_
  exact g_zret (ty := .int) (r := x_406917) B K rfl (rfl) ⟨rfl, rfl, rx_406917⟩ dX11_fault_7
set_option maxRecDepth 100000 in
set_option maxHeartbeats 8000000 in
theorem c_X8_hasDish {l : Launch} {D : va_G} {cy : Nat → ClassId} {L : List Nat} {κ ln : Nat → Nat} {R : Nat → Nat → Option Nat} {I : Nat → Nat → Int32} {J : Nat → Nat → Int64} {ow : Nat → Nat × Nat} (W9 : ∀ a ∈ L, Shp L κ ln R ow a) {x : Nat} (hLx : x ∈ L) (hkx : κ x = 8) (a0 : Int32) (hU : Uv L κ ow I) : CtI l yX8_hasDish cX8_hasDish 2 (some .boolean) { frames := 0, cells := 0, slots := 0, locals := 0 } D cy L κ ln R I J [.ref x, .int a0] (fun r I2 J2 => I = I2 ∧ J = J2 ∧ Rg 0 1 r ∧ (¬ r = 0 → Rg 0 5 a0)) := by
  refine CtI.of (by decide +kernel) (Nat.le_of_ble_eq_true rfl) ?_
  intro p e s m below meth c B K
  have C := B.1
  refine g_lo (is := [0, 1]) (lo2 := [(0, .ref x), (1, .int a0)]) rfl ?_
  refine g_iload_n C 1 dX8_hasDish_0 rfl rfl ?_
  refine g_if_lt C (tgt := 16) dX8_hasDish_1 (by decide) (fun h_406932 => ?_) (fun h_406932 => ?_)
  · skip
    have r_406933 := lt_l (hi := (-1)) (h_406932) (rg_all a0) rc_0 (by decide)
    refine g_iconst C (v := 0) dX8_hasDish_16 (by decide) ?_
    exact g_zret (ty := .boolean) (r := 0) B K rfl (rfl) ⟨rfl, rfl, rg_w rc_0 (by decide) (by decide), (fun q => absurd rfl q)⟩ dX8_hasDish_17
  · skip
    have r_406934 := le_r (nlt h_406932) rc_0 (rg_all a0)
    refine g_iload_n C 1 dX8_hasDish_4 rfl rfl ?_
    refine g_aload_n C 0 dX8_hasDish_5 rfl rfl ?_
    obtain ⟨x_406935, hx_406935, rx_406935⟩ := ex_get (I := I) (a := x) (j := 6) (lo := 0) (hi := 6) hU hLx (ro_o hkx (by decide)) rfl
    refine g_getI C K hLx hkx f_8_32 (v := x_406935) hx_406935 dX8_hasDish_6 ?_
    refine g_icmp_ge C (tgt := 16) dX8_hasDish_9 (by decide) (fun h_406936 => ?_) (fun h_406936 => ?_)
    · skip
      refine g_iconst C (v := 0) dX8_hasDish_16 (by decide) ?_
      exact g_zret (ty := .boolean) (r := 0) B K rfl (rfl) ⟨rfl, rfl, rg_w rc_0 (by decide) (by decide), (fun q => absurd rfl q)⟩ dX8_hasDish_17
    · skip
      have r_406937 := lt_l (hi := 5) (nle h_406936) r_406934 rx_406935 (by decide)
      have r_406938 := lt_r (lo := 1) (nle h_406936) r_406934 rx_406935 (by decide)
      refine g_iconst C (v := 1) dX8_hasDish_12 (by decide) ?_
      refine g_goto C (tgt := 17) dX8_hasDish_13 (by decide) ?_
      exact g_zret (ty := .boolean) (r := 1) B K rfl (rfl) ⟨rfl, rfl, rg_w rc_1 (by decide) (by decide), (fun _ => r_406937)⟩ dX8_hasDish_17
set_option maxRecDepth 100000 in
set_option maxHeartbeats 8000000 in
theorem c_X8_hasPerson {l : Launch} {D : va_G} {cy : Nat → ClassId} {L : List Nat} {κ ln : Nat → Nat} {R : Nat → Nat → Option Nat} {I : Nat → Nat → Int32} {J : Nat → Nat → Int64} {ow : Nat → Nat × Nat} (W9 : ∀ a ∈ L, Shp L κ ln R ow a) {x : Nat} (hLx : x ∈ L) (hkx : κ x = 8) (a0 : Int32) (hU : Uv L κ ow I) : CtI l yX8_hasPerson cX8_hasPerson 2 (some .boolean) { frames := 0, cells := 0, slots := 0, locals := 0 } D cy L κ ln R I J [.ref x, .int a0] (fun r I2 J2 => I = I2 ∧ J = J2 ∧ Rg 0 1 r ∧ (¬ r = 0 → Rg 0 6 a0)) := by
  refine CtI.of (by decide +kernel) (Nat.le_of_ble_eq_true rfl) ?_
  intro p e s m below meth c B K
  have C := B.1
  refine g_lo (is := [0, 1]) (lo2 := [(0, .ref x), (1, .int a0)]) rfl ?_
  refine g_iload_n C 1 dX8_hasPerson_0 rfl rfl ?_
  refine g_if_lt C (tgt := 16) dX8_hasPerson_1 (by decide) (fun h_406953 => ?_) (fun h_406953 => ?_)
  · skip
    have r_406954 := lt_l (hi := (-1)) (h_406953) (rg_all a0) rc_0 (by decide)
    refine g_iconst C (v := 0) dX8_hasPerson_16 (by decide) ?_
    exact g_zret (ty := .boolean) (r := 0) B K rfl (rfl) ⟨rfl, rfl, rg_w rc_0 (by decide) (by decide), (fun q => absurd rfl q)⟩ dX8_hasPerson_17
  · skip
    have r_406955 := le_r (nlt h_406953) rc_0 (rg_all a0)
    refine g_iload_n C 1 dX8_hasPerson_4 rfl rfl ?_
    refine g_aload_n C 0 dX8_hasPerson_5 rfl rfl ?_
    obtain ⟨x_406956, hx_406956, rx_406956⟩ := ex_get (I := I) (a := x) (j := 5) (lo := 0) (hi := 7) hU hLx (ro_o hkx (by decide)) rfl
    refine g_getI C K hLx hkx f_8_28 (v := x_406956) hx_406956 dX8_hasPerson_6 ?_
    refine g_icmp_ge C (tgt := 16) dX8_hasPerson_9 (by decide) (fun h_406957 => ?_) (fun h_406957 => ?_)
    · skip
      refine g_iconst C (v := 0) dX8_hasPerson_16 (by decide) ?_
      exact g_zret (ty := .boolean) (r := 0) B K rfl (rfl) ⟨rfl, rfl, rg_w rc_0 (by decide) (by decide), (fun q => absurd rfl q)⟩ dX8_hasPerson_17
    · skip
      have r_406958 := lt_l (hi := 6) (nle h_406957) r_406955 rx_406956 (by decide)
      have r_406959 := lt_r (lo := 1) (nle h_406957) r_406955 rx_406956 (by decide)
      refine g_iconst C (v := 1) dX8_hasPerson_12 (by decide) ?_
      refine g_goto C (tgt := 17) dX8_hasPerson_13 (by decide) ?_
      exact g_zret (ty := .boolean) (r := 1) B K rfl (rfl) ⟨rfl, rfl, rg_w rc_1 (by decide) (by decide), (fun _ => r_406958)⟩ dX8_hasPerson_17
set_option maxRecDepth 100000 in
set_option maxHeartbeats 8000000 in
theorem c_X8_everybody {l : Launch} {D : va_G} {cy : Nat → ClassId} {L : List Nat} {κ ln : Nat → Nat} {R : Nat → Nat → Option Nat} {I : Nat → Nat → Int32} {J : Nat → Nat → Int64} {ow : Nat → Nat × Nat} (W9 : ∀ a ∈ L, Shp L κ ln R ow a) {x : Nat} (hLx : x ∈ L) (hkx : κ x = 8) (hU : Uv L κ ow I) : CtI l yX8_everybody cX8_everybody 1 (some .int) { frames := 0, cells := 0, slots := 0, locals := 0 } D cy L κ ln R I J [.ref x] (fun r I2 J2 => I = I2 ∧ J = J2 ∧ Rg 0 127 r) := by
  refine CtI.of (by decide +kernel) (Nat.le_of_ble_eq_true rfl) ?_
  intro p e s m below meth c B K
  have C := B.1
  refine g_lo (is := [0]) (lo2 := [(0, .ref x)]) rfl ?_
  refine g_iconst C (v := 1) dX8_everybody_0 (by decide) ?_
  refine g_aload_n C 0 dX8_everybody_1 rfl rfl ?_
  obtain ⟨x_406966, hx_406966, rx_406966⟩ := ex_get (I := I) (a := x) (j := 5) (lo := 0) (hi := 7) hU hLx (ro_o hkx (by decide)) rfl
  refine g_getI C K hLx hkx f_8_28 (v := x_406966) hx_406966 dX8_everybody_2 ?_
  obtain ⟨x_406967, hx_406967, rx_406967⟩ := ex_shl (x := 1) (y := x_406966) 7 128 rfl (rx_406966) (by decide)
  refine g_ishl C (v := x_406967) dX8_everybody_5 hx_406967 ?_
  refine g_iconst C (v := 1) dX8_everybody_6 (by decide) ?_
  obtain ⟨x_406968, hx_406968, rx_406968, tx_406968⟩ := ex_sub 0 127 rx_406967 rc_1 (by decide) (by decide) (by decide) (by decide)
  refine g_isub C (v := x_406968) dX8_everybody_7 hx_406968 ?_
  exact g_zret (ty := .int) (r := x_406968) B K rfl (rfl) ⟨rfl, rfl, rx_406968⟩ dX8_everybody_8
set_option maxRecDepth 100000 in
set_option maxHeartbeats 8000000 in
theorem c_X1_allEaten {l : Launch} {D : va_G} {cy : Nat → ClassId} {L : List Nat} {κ ln : Nat → Nat} {R : Nat → Nat → Option Nat} {I : Nat → Nat → Int32} {J : Nat → Nat → Int64} {ow : Nat → Nat × Nat} (W9 : ∀ a ∈ L, Shp L κ ln R ow a) {x : Nat} (hLx : x ∈ L) (hkx : κ x = 1) (hU : Uv L κ ow I) : CtI l yX1_allEaten cX1_allEaten 3 (some .int) { frames := 0, cells := 0, slots := 0, locals := 0 } D cy L κ ln R I J [.ref x] (fun r I2 J2 => I = I2 ∧ J = J2 ∧ Rg (-2147483648) 2147483647 r) := by
  refine CtI.of (by decide +kernel) (Nat.le_of_ble_eq_true rfl) ?_
  intro p e s m below meth c B K
  have C := B.1
  obtain ⟨b_407033, hb_407033, hb_407033L, hb_407033k⟩ := shp_o (W9 x hLx) hkx 0 8 rfl (by decide)
  obtain ⟨b_407034, hb_407034, hb_407034L, hb_407034k, hb_407034n, hb_407034o⟩ := shp_a (W9 x hLx) hkx 4 14 7 rfl (by decide)
  refine g_lo (is := [0]) (lo2 := [(0, .ref x)]) rfl ?_
  have l_4 : ∀ (n_4 : Nat) (v_407035 : Int32) (v_407036 : Int32) (rv_407036 : Rg 0 7 v_407036) (hm_407037 : 7 < (v_407036 : Int32).toInt + (n_4 : Int)), WG p l e { frames := 0, cells := 0, slots := 0, locals := 0 } s m ([.ref x] : List Value).toArray below meth c 3 0 0 (MQ below (Qi_ D cy L κ ln R (fun r I2 J2 => I = I2 ∧ J = J2 ∧ Rg (-2147483648) 2147483647 r)) ([.ref x] : List Value).toArray s 0 0 (Al_ L)) D cy (Al_ L) s.heap L κ ln R I J 4 [(0, .ref x), (1, .int v_407035), (2, .int v_407036)] [] := by
    intro n_4
    induction n_4 with
    | zero =>
      intro v_407035 v_407036 rv_407036 hm_407037
      exact ms_0 rv_407036 hm_407037
    | succ n_4 ih_4 =>
      intro v_407035 v_407036 rv_407036 hm_407037
      refine g_iload_n C 2 dX1_allEaten_4 rfl rfl ?_
      refine g_aload_n C 0 dX1_allEaten_5 rfl rfl ?_
      refine g_getR C K hLx hkx f_1_52 hb_407033 dX1_allEaten_6 ?_
      obtain ⟨x_407038, hx_407038, rx_407038⟩ := ex_get (I := I) (a := b_407033) (j := 5) (lo := 0) (hi := 7) hU hb_407033L (ro_o hb_407033k (by decide)) rfl
      refine g_getI C K hb_407033L hb_407033k f_1_68 (v := x_407038) hx_407038 dX1_allEaten_9 ?_
      refine g_icmp_ge C (tgt := 30) dX1_allEaten_12 (by decide) (fun h_407039 => ?_) (fun h_407039 => ?_)
      · skip
        refine g_iload_n C 1 dX1_allEaten_30 rfl rfl ?_
        exact g_zret (ty := .int) (r := v_407035) B K rfl (rfl) ⟨rfl, rfl, (rg_all v_407035)⟩ dX1_allEaten_31
      · skip
        have r_407040 := lt_l (hi := 6) (nle h_407039) rv_407036 rx_407038 (by decide)
        have r_407041 := lt_r (lo := 1) (nle h_407039) rv_407036 rx_407038 (by decide)
        refine g_iload_n C 1 dX1_allEaten_15 rfl rfl ?_
        refine g_aload_n C 0 dX1_allEaten_16 rfl rfl ?_
        refine g_getR C K hLx hkx f_1_21 hb_407034 dX1_allEaten_17 ?_
        refine g_iload_n C 2 dX1_allEaten_20 rfl rfl ?_
        obtain ⟨x_407042, hx_407042, rx_407042⟩ := ex_get (I := I) (a := b_407034) (j := v_407036.toNatClampNeg) (lo := (-2147483648)) (hi := 2147483647) hU hb_407034L (ro_a hb_407034k (by decide) hb_407034o hkx rfl) (rfl)
        refine h_iald C K hb_407034L hb_407034k (v := x_407042) (v_407036.toNatClampNeg) (rfl) (ix_0 r_407040 (by decide)) (ix_lt r_407040 (by decide) hb_407034n (by decide)) hx_407042 dX1_allEaten_21 ?_
        obtain ⟨x_407043, hx_407043, rx_407043⟩ := ex_any (z0 := v_407035 + x_407042)
        refine g_iadd C (v := x_407043) dX1_allEaten_22 hx_407043 ?_
        refine g_istore_n C dX1_allEaten_23 rfl (by decide) (lo2 := [(1, .int x_407043), (0, .ref x), (2, .int v_407036)]) rfl ?_
        obtain ⟨x_407044, hx_407044, rx_407044, tx_407044⟩ := ex_add (y := 1) 1 7 r_407040 rc_1 (by decide) (by decide) (by decide) (by decide)
        refine g_iinc C dX1_allEaten_24 (k := 2) (v := x_407044) rfl hx_407044 (by decide) (lo2 := [(2, .int x_407044), (1, .int x_407043), (0, .ref x)]) rfl ?_
        refine g_goto C (tgt := 4) dX1_allEaten_27 (by decide) ?_
        refine g_lo (is := [2, 1, 0]) (lo2 := [(0, .ref x), (1, .int x_407043), (2, .int x_407044)]) rfl ?_
        exact ih_4 x_407043 x_407044 (rg_w rx_407044 (by decide) (by decide)) (ms_1 hm_407037 (ti_k tx_407044 rc_1) (by decide))
  refine g_iconst C (v := 0) dX1_allEaten_0 (by decide) ?_
  refine g_istore_n C dX1_allEaten_1 rfl (by decide) (lo2 := [(1, .int 0), (0, .ref x)]) rfl ?_
  refine g_iconst C (v := 0) dX1_allEaten_2 (by decide) ?_
  refine g_istore_n C dX1_allEaten_3 rfl (by decide) (lo2 := [(2, .int 0), (1, .int 0), (0, .ref x)]) rfl ?_
  refine g_lo (is := [2, 1, 0]) (lo2 := [(0, .ref x), (1, .int 0), (2, .int 0)]) rfl ?_
  exact l_4 8 0 0 (rg_w rc_0 (by decide) (by decide)) (ms_s (N := 8) (rg_w rc_0 (by decide) (by decide)) (by decide))
set_option maxRecDepth 100000 in
set_option maxHeartbeats 8000000 in
theorem c_X1_allHunger {l : Launch} {D : va_G} {cy : Nat → ClassId} {L : List Nat} {κ ln : Nat → Nat} {R : Nat → Nat → Option Nat} {I : Nat → Nat → Int32} {J : Nat → Nat → Int64} {ow : Nat → Nat × Nat} (W9 : ∀ a ∈ L, Shp L κ ln R ow a) {x : Nat} (hLx : x ∈ L) (hkx : κ x = 1) (hU : Uv L κ ow I) : CtI l yX1_allHunger cX1_allHunger 3 (some .int) { frames := 0, cells := 0, slots := 0, locals := 0 } D cy L κ ln R I J [.ref x] (fun r I2 J2 => I = I2 ∧ J = J2 ∧ Rg (-2147483648) 2147483647 r) := by
  refine CtI.of (by decide +kernel) (Nat.le_of_ble_eq_true rfl) ?_
  intro p e s m below meth c B K
  have C := B.1
  obtain ⟨b_407109, hb_407109, hb_407109L, hb_407109k⟩ := shp_o (W9 x hLx) hkx 0 8 rfl (by decide)
  obtain ⟨b_407110, hb_407110, hb_407110L, hb_407110k, hb_407110n, hb_407110o⟩ := shp_a (W9 x hLx) hkx 6 14 7 rfl (by decide)
  refine g_lo (is := [0]) (lo2 := [(0, .ref x)]) rfl ?_
  have l_4 : ∀ (n_4 : Nat) (v_407111 : Int32) (v_407112 : Int32) (rv_407112 : Rg 0 7 v_407112) (hm_407113 : 7 < (v_407112 : Int32).toInt + (n_4 : Int)), WG p l e { frames := 0, cells := 0, slots := 0, locals := 0 } s m ([.ref x] : List Value).toArray below meth c 3 0 0 (MQ below (Qi_ D cy L κ ln R (fun r I2 J2 => I = I2 ∧ J = J2 ∧ Rg (-2147483648) 2147483647 r)) ([.ref x] : List Value).toArray s 0 0 (Al_ L)) D cy (Al_ L) s.heap L κ ln R I J 4 [(0, .ref x), (1, .int v_407111), (2, .int v_407112)] [] := by
    intro n_4
    induction n_4 with
    | zero =>
      intro v_407111 v_407112 rv_407112 hm_407113
      exact ms_0 rv_407112 hm_407113
    | succ n_4 ih_4 =>
      intro v_407111 v_407112 rv_407112 hm_407113
      refine g_iload_n C 2 dX1_allHunger_4 rfl rfl ?_
      refine g_aload_n C 0 dX1_allHunger_5 rfl rfl ?_
      refine g_getR C K hLx hkx f_1_52 hb_407109 dX1_allHunger_6 ?_
      obtain ⟨x_407114, hx_407114, rx_407114⟩ := ex_get (I := I) (a := b_407109) (j := 5) (lo := 0) (hi := 7) hU hb_407109L (ro_o hb_407109k (by decide)) rfl
      refine g_getI C K hb_407109L hb_407109k f_1_68 (v := x_407114) hx_407114 dX1_allHunger_9 ?_
      refine g_icmp_ge C (tgt := 30) dX1_allHunger_12 (by decide) (fun h_407115 => ?_) (fun h_407115 => ?_)
      · skip
        refine g_iload_n C 1 dX1_allHunger_30 rfl rfl ?_
        exact g_zret (ty := .int) (r := v_407111) B K rfl (rfl) ⟨rfl, rfl, (rg_all v_407111)⟩ dX1_allHunger_31
      · skip
        have r_407116 := lt_l (hi := 6) (nle h_407115) rv_407112 rx_407114 (by decide)
        have r_407117 := lt_r (lo := 1) (nle h_407115) rv_407112 rx_407114 (by decide)
        refine g_iload_n C 1 dX1_allHunger_15 rfl rfl ?_
        refine g_aload_n C 0 dX1_allHunger_16 rfl rfl ?_
        refine g_getR C K hLx hkx f_1_27 hb_407110 dX1_allHunger_17 ?_
        refine g_iload_n C 2 dX1_allHunger_20 rfl rfl ?_
        obtain ⟨x_407118, hx_407118, rx_407118⟩ := ex_get (I := I) (a := b_407110) (j := v_407112.toNatClampNeg) (lo := (-2147483648)) (hi := 2147483647) hU hb_407110L (ro_a hb_407110k (by decide) hb_407110o hkx rfl) (rfl)
        refine h_iald C K hb_407110L hb_407110k (v := x_407118) (v_407112.toNatClampNeg) (rfl) (ix_0 r_407116 (by decide)) (ix_lt r_407116 (by decide) hb_407110n (by decide)) hx_407118 dX1_allHunger_21 ?_
        obtain ⟨x_407119, hx_407119, rx_407119⟩ := ex_any (z0 := v_407111 + x_407118)
        refine g_iadd C (v := x_407119) dX1_allHunger_22 hx_407119 ?_
        refine g_istore_n C dX1_allHunger_23 rfl (by decide) (lo2 := [(1, .int x_407119), (0, .ref x), (2, .int v_407112)]) rfl ?_
        obtain ⟨x_407120, hx_407120, rx_407120, tx_407120⟩ := ex_add (y := 1) 1 7 r_407116 rc_1 (by decide) (by decide) (by decide) (by decide)
        refine g_iinc C dX1_allHunger_24 (k := 2) (v := x_407120) rfl hx_407120 (by decide) (lo2 := [(2, .int x_407120), (1, .int x_407119), (0, .ref x)]) rfl ?_
        refine g_goto C (tgt := 4) dX1_allHunger_27 (by decide) ?_
        refine g_lo (is := [2, 1, 0]) (lo2 := [(0, .ref x), (1, .int x_407119), (2, .int x_407120)]) rfl ?_
        exact ih_4 x_407119 x_407120 (rg_w rx_407120 (by decide) (by decide)) (ms_1 hm_407113 (ti_k tx_407120 rc_1) (by decide))
  refine g_iconst C (v := 0) dX1_allHunger_0 (by decide) ?_
  refine g_istore_n C dX1_allHunger_1 rfl (by decide) (lo2 := [(1, .int 0), (0, .ref x)]) rfl ?_
  refine g_iconst C (v := 0) dX1_allHunger_2 (by decide) ?_
  refine g_istore_n C dX1_allHunger_3 rfl (by decide) (lo2 := [(2, .int 0), (1, .int 0), (0, .ref x)]) rfl ?_
  refine g_lo (is := [2, 1, 0]) (lo2 := [(0, .ref x), (1, .int 0), (2, .int 0)]) rfl ?_
  exact l_4 8 0 0 (rg_w rc_0 (by decide) (by decide)) (ms_s (N := 8) (rg_w rc_0 (by decide) (by decide)) (by decide))
set_option maxRecDepth 100000 in
set_option maxHeartbeats 8000000 in
theorem c_X11_now {l : Launch} {D : va_G} {cy : Nat → ClassId} {L : List Nat} {κ ln : Nat → Nat} {R : Nat → Nat → Option Nat} {I : Nat → Nat → Int32} {J : Nat → Nat → Int64} {ow : Nat → Nat × Nat} (W9 : ∀ a ∈ L, Shp L κ ln R ow a) {x : Nat} (hLx : x ∈ L) (hkx : κ x = 11) (a0 : Int32) (hU : Uv L κ ow I) : CtI l yX11_now cX11_now 2 (some .int) { frames := 1, cells := 0, slots := 0, locals := 22 } D cy L κ ln R I J [.ref x, .int a0] (fun r I2 J2 => I = I2 ∧ J = J2 ∧ Rg (-2147483648) 2147483647 r) := by
  refine CtI.of (by decide +kernel) (Nat.le_of_ble_eq_true rfl) ?_
  intro p e s m below meth c B K
  have C := B.1
  obtain ⟨b_407199, hb_407199, hb_407199L, hb_407199k⟩ := shp_o (W9 x hLx) hkx 2 1 rfl (by decide)
  refine g_lo (is := [0, 1]) (lo2 := [(0, .ref x), (1, .int a0)]) rfl ?_
  refine g_iload_n C 1 dX11_now_0 rfl rfl ?_
  by_cases c_407200 : a0.toInt = 0
  · skip
    have r_407201 := rg_of (a := 0) (b := 0) 0 c_407200 (by decide) (by decide)
    refine g_tableIn C (tgt := 48) dX11_now_1 (by omega) (by omega) (off := 47) (by rw [c_407200]; rfl) (by decide) ?_
    refine g_aload_n C 0 dX11_now_48 rfl rfl ?_
    refine g_getR C K hLx hkx f_11_28 hb_407199 dX11_now_49 ?_
    obtain ⟨x_407202, hx_407202, rx_407202⟩ := ex_get (I := I) (a := b_407199) (j := 9) (lo := (-2147483648)) (hi := 2147483647) hU hb_407199L (ro_o hb_407199k (by decide)) rfl
    refine g_getI C K hb_407199L hb_407199k f_11_195 (v := x_407202) hx_407202 dX11_now_52 ?_
    exact g_zret (ty := .int) (r := x_407202) B K rfl (rfl) ⟨rfl, rfl, rx_407202⟩ dX11_now_55
  by_cases c_407203 : a0.toInt = 1
  · skip
    have r_407204 := rg_of (a := 1) (b := 1) 1 c_407203 (by decide) (by decide)
    refine g_tableIn C (tgt := 56) dX11_now_1 (by omega) (by omega) (off := 55) (by rw [c_407203]; rfl) (by decide) ?_
    refine g_aload_n C 0 dX11_now_56 rfl rfl ?_
    refine g_getR C K hLx hkx f_11_28 hb_407199 dX11_now_57 ?_
    obtain ⟨x_407205, hx_407205, rx_407205⟩ := ex_get (I := I) (a := b_407199) (j := 7) (lo := (-2147483648)) (hi := 2147483647) hU hb_407199L (ro_o hb_407199k (by decide)) rfl
    refine g_getI C K hb_407199L hb_407199k f_11_151 (v := x_407205) hx_407205 dX11_now_60 ?_
    exact g_zret (ty := .int) (r := x_407205) B K rfl (rfl) ⟨rfl, rfl, rx_407205⟩ dX11_now_63
  by_cases c_407206 : a0.toInt = 2
  · skip
    have r_407207 := rg_of (a := 2) (b := 2) 2 c_407206 (by decide) (by decide)
    refine g_tableIn C (tgt := 64) dX11_now_1 (by omega) (by omega) (off := 63) (by rw [c_407206]; rfl) (by decide) ?_
    refine g_aload_n C 0 dX11_now_64 rfl rfl ?_
    refine g_getR C K hLx hkx f_11_28 hb_407199 dX11_now_65 ?_
    obtain ⟨x_407208, hx_407208, rx_407208⟩ := ex_get (I := I) (a := b_407199) (j := 8) (lo := (-2147483648)) (hi := 2147483647) hU hb_407199L (ro_o hb_407199k (by decide)) rfl
    refine g_getI C K hb_407199L hb_407199k f_11_154 (v := x_407208) hx_407208 dX11_now_68 ?_
    exact g_zret (ty := .int) (r := x_407208) B K rfl (rfl) ⟨rfl, rfl, rx_407208⟩ dX11_now_71
  by_cases c_407209 : a0.toInt = 3
  · skip
    have r_407210 := rg_of (a := 3) (b := 3) 3 c_407209 (by decide) (by decide)
    refine g_tableIn C (tgt := 72) dX11_now_1 (by omega) (by omega) (off := 71) (by rw [c_407209]; rfl) (by decide) ?_
    refine g_aload_n C 0 dX11_now_72 rfl rfl ?_
    refine g_getR C K hLx hkx f_11_28 hb_407199 dX11_now_73 ?_
    obtain ⟨x_407211, hx_407211, rx_407211⟩ := ex_get (I := I) (a := b_407199) (j := 10) (lo := (-2147483648)) (hi := 2147483647) hU hb_407199L (ro_o hb_407199k (by decide)) rfl
    refine g_getI C K hb_407199L hb_407199k f_11_198 (v := x_407211) hx_407211 dX11_now_76 ?_
    exact g_zret (ty := .int) (r := x_407211) B K rfl (rfl) ⟨rfl, rfl, rx_407211⟩ dX11_now_79
  by_cases c_407212 : a0.toInt = 4
  · skip
    have r_407213 := rg_of (a := 4) (b := 4) 4 c_407212 (by decide) (by decide)
    refine g_tableIn C (tgt := 80) dX11_now_1 (by omega) (by omega) (off := 79) (by rw [c_407212]; rfl) (by decide) ?_
    refine g_aload_n C 0 dX11_now_80 rfl rfl ?_
    refine g_getR C K hLx hkx f_11_28 hb_407199 dX11_now_81 ?_
    obtain ⟨x_407214, hx_407214, rx_407214⟩ := ex_get (I := I) (a := b_407199) (j := 11) (lo := (-2147483648)) (hi := 2147483647) hU hb_407199L (ro_o hb_407199k (by decide)) rfl
    refine g_getI C K hb_407199L hb_407199k f_11_201 (v := x_407214) hx_407214 dX11_now_84 ?_
    exact g_zret (ty := .int) (r := x_407214) B K rfl (rfl) ⟨rfl, rfl, rx_407214⟩ dX11_now_87
  by_cases c_407215 : a0.toInt = 5
  · skip
    have r_407216 := rg_of (a := 5) (b := 5) 5 c_407215 (by decide) (by decide)
    refine g_tableIn C (tgt := 88) dX11_now_1 (by omega) (by omega) (off := 87) (by rw [c_407215]; rfl) (by decide) ?_
    refine g_aload_n C 0 dX11_now_88 rfl rfl ?_
    refine g_getR C K hLx hkx f_11_28 hb_407199 dX11_now_89 ?_
    refine g_callVI C K (c_X1_allEaten W9 hb_407199L hb_407199k   hU) hb_407199L hb_407199k (by decide) rfl v_11_204 rfl ⟨rfl, rfl⟩ ⟨Nat.le_of_ble_eq_true rfl, Nat.le_of_ble_eq_true rfl⟩ (Nat.le_of_ble_eq_true rfl) ⟨Nat.le_of_ble_eq_true rfl, Nat.le_of_ble_eq_true rfl⟩ dX11_now_92 rfl (st := []) (fun x_407217 I_407218 J_407219 h_407220 => ?_)
    obtain ⟨rfl, rfl, rx_407217⟩ := h_407220
    exact g_zret (ty := .int) (r := x_407217) B K rfl (rfl) ⟨rfl, rfl, rx_407217⟩ dX11_now_95
  by_cases c_407221 : a0.toInt = 6
  · skip
    have r_407222 := rg_of (a := 6) (b := 6) 6 c_407221 (by decide) (by decide)
    refine g_tableIn C (tgt := 96) dX11_now_1 (by omega) (by omega) (off := 95) (by rw [c_407221]; rfl) (by decide) ?_
    refine g_aload_n C 0 dX11_now_96 rfl rfl ?_
    refine g_getR C K hLx hkx f_11_28 hb_407199 dX11_now_97 ?_
    refine g_callVI C K (c_X1_allHunger W9 hb_407199L hb_407199k   hU) hb_407199L hb_407199k (by decide) rfl v_11_207 rfl ⟨rfl, rfl⟩ ⟨Nat.le_of_ble_eq_true rfl, Nat.le_of_ble_eq_true rfl⟩ (Nat.le_of_ble_eq_true rfl) ⟨Nat.le_of_ble_eq_true rfl, Nat.le_of_ble_eq_true rfl⟩ dX11_now_100 rfl (st := []) (fun x_407223 I_407224 J_407225 h_407226 => ?_)
    obtain ⟨rfl, rfl, rx_407223⟩ := h_407226
    exact g_zret (ty := .int) (r := x_407223) B K rfl (rfl) ⟨rfl, rfl, rx_407223⟩ dX11_now_103
  by_cases c_407227 : a0.toInt = 7
  · skip
    have r_407228 := rg_of (a := 7) (b := 7) 7 c_407227 (by decide) (by decide)
    refine g_tableIn C (tgt := 104) dX11_now_1 (by omega) (by omega) (off := 103) (by rw [c_407227]; rfl) (by decide) ?_
    refine g_aload_n C 0 dX11_now_104 rfl rfl ?_
    refine g_getR C K hLx hkx f_11_28 hb_407199 dX11_now_105 ?_
    obtain ⟨x_407229, hx_407229, rx_407229⟩ := ex_get (I := I) (a := b_407199) (j := 12) (lo := (-2147483648)) (hi := 2147483647) hU hb_407199L (ro_o hb_407199k (by decide)) rfl
    refine g_getI C K hb_407199L hb_407199k f_11_210 (v := x_407229) hx_407229 dX11_now_108 ?_
    exact g_zret (ty := .int) (r := x_407229) B K rfl (rfl) ⟨rfl, rfl, rx_407229⟩ dX11_now_111
  obtain ⟨q_4072301, q_4072302⟩ := (rg_all a0)
  refine g_tableOut C (tgt := 112) dX11_now_1 (by omega) (by decide) ?_
  refine g_iconst C (v := (-1)) dX11_now_112 (by decide) ?_
  exact g_zret (ty := .int) (r := (-1)) B K rfl (rfl) ⟨rfl, rfl, rg_all _⟩ dX11_now_113
set_option maxRecDepth 100000 in
set_option maxHeartbeats 8000000 in
theorem c_X11_count {l : Launch} {D : va_G} {cy : Nat → ClassId} {L : List Nat} {κ ln : Nat → Nat} {R : Nat → Nat → Option Nat} {I : Nat → Nat → Int32} {J : Nat → Nat → Int64} {ow : Nat → Nat × Nat} (W9 : ∀ a ∈ L, Shp L κ ln R ow a) {x : Nat} (hLx : x ∈ L) (hkx : κ x = 11) (a0 : Int32) (hU : Uv L κ ow I) : CtI l yX11_count cX11_count 2 (some .int) { frames := 0, cells := 0, slots := 0, locals := 0 } D cy L κ ln R I J [.ref x, .int a0] (fun r I2 J2 => I = I2 ∧ J = J2 ∧ Rg (-2147483648) 2147483647 r) := by
  refine CtI.of (by decide +kernel) (Nat.le_of_ble_eq_true rfl) ?_
  intro p e s m below meth c B K
  have C := B.1
  obtain ⟨b_407273, hb_407273, hb_407273L, hb_407273k⟩ := shp_o (W9 x hLx) hkx 1 8 rfl (by decide)
  obtain ⟨b_407274, hb_407274, hb_407274L, hb_407274k⟩ := shp_o (W9 x hLx) hkx 0 10 rfl (by decide)
  refine g_lo (is := [0, 1]) (lo2 := [(0, .ref x), (1, .int a0)]) rfl ?_
  refine g_iload_n C 1 dX11_count_0 rfl rfl ?_
  by_cases c_407275 : a0.toInt = 0
  · skip
    have r_407276 := rg_of (a := 0) (b := 0) 0 c_407275 (by decide) (by decide)
    refine g_tableIn C (tgt := 36) dX11_count_1 (by omega) (by omega) (off := 35) (by rw [c_407275]; rfl) (by decide) ?_
    refine g_aload_n C 0 dX11_count_36 rfl rfl ?_
    refine g_getR C K hLx hkx f_11_19 hb_407273 dX11_count_37 ?_
    obtain ⟨x_407277, hx_407277, rx_407277⟩ := ex_get (I := I) (a := b_407273) (j := 5) (lo := 0) (hi := 7) hU hb_407273L (ro_o hb_407273k (by decide)) rfl
    refine g_getI C K hb_407273L hb_407273k f_11_213 (v := x_407277) hx_407277 dX11_count_40 ?_
    exact g_zret (ty := .int) (r := x_407277) B K rfl (rfl) ⟨rfl, rfl, rg_all _⟩ dX11_count_43
  by_cases c_407278 : a0.toInt = 1
  · skip
    have r_407279 := rg_of (a := 1) (b := 1) 1 c_407278 (by decide) (by decide)
    refine g_tableIn C (tgt := 44) dX11_count_1 (by omega) (by omega) (off := 43) (by rw [c_407278]; rfl) (by decide) ?_
    refine g_aload_n C 0 dX11_count_44 rfl rfl ?_
    refine g_getR C K hLx hkx f_11_19 hb_407273 dX11_count_45 ?_
    obtain ⟨x_407280, hx_407280, rx_407280⟩ := ex_get (I := I) (a := b_407273) (j := 6) (lo := 0) (hi := 6) hU hb_407273L (ro_o hb_407273k (by decide)) rfl
    refine g_getI C K hb_407273L hb_407273k f_11_216 (v := x_407280) hx_407280 dX11_count_48 ?_
    exact g_zret (ty := .int) (r := x_407280) B K rfl (rfl) ⟨rfl, rfl, rg_all _⟩ dX11_count_51
  by_cases c_407281 : a0.toInt = 2
  · skip
    have r_407282 := rg_of (a := 2) (b := 2) 2 c_407281 (by decide) (by decide)
    refine g_tableIn C (tgt := 52) dX11_count_1 (by omega) (by omega) (off := 51) (by rw [c_407281]; rfl) (by decide) ?_
    refine g_aload_n C 0 dX11_count_52 rfl rfl ?_
    refine g_getR C K hLx hkx f_11_19 hb_407273 dX11_count_53 ?_
    obtain ⟨x_407283, hx_407283, rx_407283⟩ := ex_get (I := I) (a := b_407273) (j := 7) (lo := (-2147483648)) (hi := 2147483647) hU hb_407273L (ro_o hb_407273k (by decide)) rfl
    refine g_getI C K hb_407273L hb_407273k f_11_219 (v := x_407283) hx_407283 dX11_count_56 ?_
    exact g_zret (ty := .int) (r := x_407283) B K rfl (rfl) ⟨rfl, rfl, rx_407283⟩ dX11_count_59
  by_cases c_407284 : a0.toInt = 3
  · skip
    have r_407285 := rg_of (a := 3) (b := 3) 3 c_407284 (by decide) (by decide)
    refine g_tableIn C (tgt := 60) dX11_count_1 (by omega) (by omega) (off := 59) (by rw [c_407284]; rfl) (by decide) ?_
    refine g_aload_n C 0 dX11_count_60 rfl rfl ?_
    refine g_getR C K hLx hkx f_11_19 hb_407273 dX11_count_61 ?_
    obtain ⟨x_407286, hx_407286, rx_407286⟩ := ex_get (I := I) (a := b_407273) (j := 8) (lo := (-2147483648)) (hi := 2147483647) hU hb_407273L (ro_o hb_407273k (by decide)) rfl
    refine g_getI C K hb_407273L hb_407273k f_11_222 (v := x_407286) hx_407286 dX11_count_64 ?_
    exact g_zret (ty := .int) (r := x_407286) B K rfl (rfl) ⟨rfl, rfl, rx_407286⟩ dX11_count_67
  by_cases c_407287 : a0.toInt = 4
  · skip
    have r_407288 := rg_of (a := 4) (b := 4) 4 c_407287 (by decide) (by decide)
    refine g_tableIn C (tgt := 68) dX11_count_1 (by omega) (by omega) (off := 67) (by rw [c_407287]; rfl) (by decide) ?_
    refine g_aload_n C 0 dX11_count_68 rfl rfl ?_
    refine g_getR C K hLx hkx f_11_10 hb_407274 dX11_count_69 ?_
    obtain ⟨x_407289, hx_407289, rx_407289⟩ := ex_get (I := I) (a := b_407274) (j := 5) (lo := 0) (hi := 940) hU hb_407274L (ro_o hb_407274k (by decide)) rfl
    refine g_getI C K hb_407274L hb_407274k f_11_102 (v := x_407289) hx_407289 dX11_count_72 ?_
    exact g_zret (ty := .int) (r := x_407289) B K rfl (rfl) ⟨rfl, rfl, rg_all _⟩ dX11_count_75
  obtain ⟨q_4072901, q_4072902⟩ := (rg_all a0)
  refine g_tableOut C (tgt := 76) dX11_count_1 (by omega) (by decide) ?_
  refine g_iconst C (v := (-1)) dX11_count_76 (by decide) ?_
  exact g_zret (ty := .int) (r := (-1)) B K rfl (rfl) ⟨rfl, rfl, rg_all _⟩ dX11_count_77
set_option maxRecDepth 100000 in
set_option maxHeartbeats 8000000 in
theorem c_X5_keepNoted {l : Launch} {D : va_G} {cy : Nat → ClassId} {L : List Nat} {κ ln : Nat → Nat} {R : Nat → Nat → Option Nat} {I : Nat → Nat → Int32} {J : Nat → Nat → Int64} {ow : Nat → Nat × Nat} (W9 : ∀ a ∈ L, Shp L κ ln R ow a) {x : Nat} (hLx : x ∈ L) (hkx : κ x = 5) (hU : Uv L κ ow I) : CtV l yX5_keepNoted cX5_keepNoted 1 none { frames := 1, cells := 0, slots := 0, locals := 60 } D cy L κ ln R I J [.ref x] (fun I2 J2 => Uv L κ ow I2 ∧ Fq L κ ow [501, 502] I I2 ∧ Fq L κ ow [] J J2) := by
  refine CtV.of (by decide +kernel) (Nat.le_of_ble_eq_true rfl) ?_
  intro p e s m below meth c B K
  have C := B.1
  have hF : Fq L κ ow [501, 502] I I := fq_rf
  have hG : Fq L κ ow [] J J := fq_rf
  refine g_lo (is := [0]) (lo2 := [(0, .ref x)]) rfl ?_
  refine g_aload_n C 0 dX5_keepNoted_0 rfl rfl ?_
  refine g_aload_n C 0 dX5_keepNoted_1 rfl rfl ?_
  obtain ⟨x_407337, hx_407337, rx_407337⟩ := ex_get (I := I) (a := x) (j := 2) (lo := 0) (hi := 8) hU hLx (ro_o hkx (by decide)) rfl
  refine g_getI C K hLx hkx f_5_21 (v := x_407337) hx_407337 dX5_keepNoted_2 ?_
  refine g_iconst C (v := 1) dX5_keepNoted_5 (by decide) ?_
  obtain ⟨x_407338, hx_407338, rx_407338, tx_407338⟩ := ex_add 1 9 rx_407337 rc_1 (by decide) (by decide) (by decide) (by decide)
  refine g_iadd C (v := x_407338) dX5_keepNoted_6 hx_407338 ?_
  refine g_bipush C (v := 9) dX5_keepNoted_7 (by decide) ?_
  refine g_icmp_ge C (tgt := 21) dX5_keepNoted_9 (by decide) (fun h_407339 => ?_) (fun h_407339 => ?_)
  · skip
    have r_407340 := le_r (h_407339) rc_9 rx_407338
    refine g_iconst C (v := 0) dX5_keepNoted_21 (by decide) ?_
    refine h_putI C K hLx hkx f_5_21 p_5_2 dX5_keepNoted_22 (fun I_407341 hI_407341 => ?_)
    have hU_407342 := uv_put hU hI_407341 (ro_o hkx (by decide)) (lo := 0) (hi := 8) rfl (rg_w rc_0 (by decide) (by decide))
    have hF_407343 := fq_puto hF hI_407341 hkx (by decide) (by decide)
    refine g_aload_n C 0 dX5_keepNoted_25 rfl rfl ?_
    refine g_aload_n C 0 dX5_keepNoted_26 rfl rfl ?_
    obtain ⟨x_407344, hx_407344, rx_407344⟩ := ex_get (I := I_407341) (a := x) (j := 1) (lo := 0) (hi := 8) hU_407342 hLx (ro_o hkx (by decide)) rfl
    refine g_getI C K hLx hkx f_5_17 (v := x_407344) hx_407344 dX5_keepNoted_27 ?_
    refine g_iconst C (v := 1) dX5_keepNoted_30 (by decide) ?_
    obtain ⟨x_407345, hx_407345, rx_407345, tx_407345⟩ := ex_add 1 9 rx_407344 rc_1 (by decide) (by decide) (by decide) (by decide)
    refine g_iadd C (v := x_407345) dX5_keepNoted_31 hx_407345 ?_
    refine g_bipush C (v := 8) dX5_keepNoted_32 (by decide) ?_
    obtain ⟨x_407346, hx_407346, rx_407346⟩ := ex_min 1 8 rx_407345 rc_8 (by decide) (by decide) (by decide)
    refine g_mmin C (v := x_407346) mw_5_31 w_min (Nat.le_of_ble_eq_true rfl) (Nat.le_of_ble_eq_true rfl) ⟨Nat.le_of_ble_eq_true rfl, Nat.le_of_ble_eq_true rfl⟩ (hx_407346) dX5_keepNoted_34 ?_
    refine h_putI C K hLx hkx f_5_17 p_5_1 dX5_keepNoted_37 (fun I_407347 hI_407347 => ?_)
    have hU_407348 := uv_put hU_407342 hI_407347 (ro_o hkx (by decide)) (lo := 0) (hi := 8) rfl (rg_w rx_407346 (by decide) (by decide))
    have hF_407349 := fq_puto hF_407343 hI_407347 hkx (by decide) (by decide)
    exact g_vret B K rfl ⟨hU_407348, hF_407349, hG⟩ dX5_keepNoted_40
  · skip
    have r_407350 := lt_l (hi := 8) (nle h_407339) rx_407338 rc_9 (by decide)
    refine g_aload_n C 0 dX5_keepNoted_12 rfl rfl ?_
    refine g_getI C K hLx hkx f_5_21 (v := x_407337) hx_407337 dX5_keepNoted_13 ?_
    refine g_iconst C (v := 1) dX5_keepNoted_16 (by decide) ?_
    refine g_iadd C (v := x_407338) dX5_keepNoted_17 hx_407338 ?_
    refine g_goto C (tgt := 22) dX5_keepNoted_18 (by decide) ?_
    refine h_putI C K hLx hkx f_5_21 p_5_2 dX5_keepNoted_22 (fun I_407351 hI_407351 => ?_)
    have hU_407352 := uv_put hU hI_407351 (ro_o hkx (by decide)) (lo := 0) (hi := 8) rfl (rg_w r_407350 (by decide) (by decide))
    have hF_407353 := fq_puto hF hI_407351 hkx (by decide) (by decide)
    refine g_aload_n C 0 dX5_keepNoted_25 rfl rfl ?_
    refine g_aload_n C 0 dX5_keepNoted_26 rfl rfl ?_
    obtain ⟨x_407354, hx_407354, rx_407354⟩ := ex_get (I := I_407351) (a := x) (j := 1) (lo := 0) (hi := 8) hU_407352 hLx (ro_o hkx (by decide)) rfl
    refine g_getI C K hLx hkx f_5_17 (v := x_407354) hx_407354 dX5_keepNoted_27 ?_
    refine g_iconst C (v := 1) dX5_keepNoted_30 (by decide) ?_
    obtain ⟨x_407355, hx_407355, rx_407355, tx_407355⟩ := ex_add 1 9 rx_407354 rc_1 (by decide) (by decide) (by decide) (by decide)
    refine g_iadd C (v := x_407355) dX5_keepNoted_31 hx_407355 ?_
    refine g_bipush C (v := 8) dX5_keepNoted_32 (by decide) ?_
    obtain ⟨x_407356, hx_407356, rx_407356⟩ := ex_min 1 8 rx_407355 rc_8 (by decide) (by decide) (by decide)
    refine g_mmin C (v := x_407356) mw_5_31 w_min (Nat.le_of_ble_eq_true rfl) (Nat.le_of_ble_eq_true rfl) ⟨Nat.le_of_ble_eq_true rfl, Nat.le_of_ble_eq_true rfl⟩ (hx_407356) dX5_keepNoted_34 ?_
    refine h_putI C K hLx hkx f_5_17 p_5_1 dX5_keepNoted_37 (fun I_407357 hI_407357 => ?_)
    have hU_407358 := uv_put hU_407352 hI_407357 (ro_o hkx (by decide)) (lo := 0) (hi := 8) rfl (rg_w rx_407356 (by decide) (by decide))
    have hF_407359 := fq_puto hF_407353 hI_407357 hkx (by decide) (by decide)
    exact g_vret B K rfl ⟨hU_407358, hF_407359, hG⟩ dX5_keepNoted_40
set_option maxRecDepth 100000 in
set_option maxHeartbeats 8000000 in
theorem c_X11_keptIfDone {l : Launch} {D : va_G} {cy : Nat → ClassId} {L : List Nat} {κ ln : Nat → Nat} {R : Nat → Nat → Option Nat} {I : Nat → Nat → Int32} {J : Nat → Nat → Int64} {ow : Nat → Nat × Nat} (W9 : ∀ a ∈ L, Shp L κ ln R ow a) {x : Nat} (hLx : x ∈ L) (hkx : κ x = 11) (a0 : Int32) (ra0 : Rg 0 3 a0) (hU : Uv L κ ow I) : CtI l yX11_keptIfDone cX11_keptIfDone 2 (some .int) { frames := 2, cells := 0, slots := 0, locals := 80 } D cy L κ ln R I J [.ref x, .int a0] (fun r I2 J2 => Uv L κ ow I2 ∧ Fq L κ ow [501, 502] I I2 ∧ Fq L κ ow [] J J2 ∧ Rg 0 3 r) := by
  refine CtI.of (by decide +kernel) (Nat.le_of_ble_eq_true rfl) ?_
  intro p e s m below meth c B K
  have C := B.1
  have hF : Fq L κ ow [501, 502] I I := fq_rf
  have hG : Fq L κ ow [] J J := fq_rf
  obtain ⟨b_407382, hb_407382, hb_407382L, hb_407382k⟩ := shp_o (W9 x hLx) hkx 4 5 rfl (by decide)
  refine g_lo (is := [0, 1]) (lo2 := [(0, .ref x), (1, .int a0)]) rfl ?_
  refine g_iload_n C 1 dX11_keptIfDone_0 rfl rfl ?_
  refine g_if_ne C (tgt := 11) dX11_keptIfDone_1 (by decide) (fun h_407383 => ?_) (fun h_407383 => ?_)
  · skip
    have n_407384 : ¬ a0 = 0 := h_407383
    have r_407385 := ne_lo (lo := 1) n_407384 ra0 rc_0 rfl (by decide)
    refine g_iload_n C 1 dX11_keptIfDone_11 rfl rfl ?_
    exact g_zret (ty := .int) (r := a0) B K rfl (rfl) ⟨hU, hF, hG, rg_w r_407385 (by decide) (by decide)⟩ dX11_keptIfDone_12
  · skip
    have r_407386 := (⟨(ra0).1, (eq_rg (h_407383) rc_0).2⟩ : Rg 0 0 a0)
    refine g_aload_n C 0 dX11_keptIfDone_4 rfl rfl ?_
    refine g_getR C K hLx hkx f_11_38 hb_407382 dX11_keptIfDone_5 ?_
    refine g_callVV C K (c_X5_keepNoted W9 hb_407382L hb_407382k   hU) hb_407382L hb_407382k (by decide) rfl v_11_260 rfl ⟨rfl, rfl⟩ ⟨Nat.le_of_ble_eq_true rfl, Nat.le_of_ble_eq_true rfl⟩ (Nat.le_of_ble_eq_true rfl) ⟨Nat.le_of_ble_eq_true rfl, Nat.le_of_ble_eq_true rfl⟩ dX11_keptIfDone_8 rfl (st := []) (fun I_407388 J_407389 h_407390 => ?_)
    obtain ⟨hUI_407388, hFI_407388, hGJ_407389⟩ := h_407390
    have hF_407391 := fq_tr hF hFI_407388 (by decide)
    have hG_407392 := fq_tr hG hGJ_407389 (by decide)
    refine g_iload_n C 1 dX11_keptIfDone_11 rfl rfl ?_
    exact g_zret (ty := .int) (r := a0) B K rfl (rfl) ⟨hUI_407388, hF_407391, hG_407392, rg_w r_407386 (by decide) (by decide)⟩ dX11_keptIfDone_12
set_option maxRecDepth 100000 in
set_option maxHeartbeats 8000000 in
theorem c_X1_lives {l : Launch} {D : va_G} {cy : Nat → ClassId} {L : List Nat} {κ ln : Nat → Nat} {R : Nat → Nat → Option Nat} {I : Nat → Nat → Int32} {J : Nat → Nat → Int64} {ow : Nat → Nat × Nat} (W9 : ∀ a ∈ L, Shp L κ ln R ow a) {x : Nat} (hLx : x ∈ L) (hkx : κ x = 1) (a0 : Int32) (ra0 : Rg (-1) 6 a0) (hU : Uv L κ ow I) : CtI l yX1_lives cX1_lives 2 (some .boolean) { frames := 0, cells := 0, slots := 0, locals := 0 } D cy L κ ln R I J [.ref x, .int a0] (fun r I2 J2 => I = I2 ∧ J = J2 ∧ Rg 0 1 r) := by
  refine CtI.of (by decide +kernel) (Nat.le_of_ble_eq_true rfl) ?_
  intro p e s m below meth c B K
  have C := B.1
  refine g_lo (is := [0, 1]) (lo2 := [(0, .ref x), (1, .int a0)]) rfl ?_
  refine g_aload_n C 0 dX1_lives_0 rfl rfl ?_
  obtain ⟨x_407407, hx_407407, rx_407407⟩ := ex_get (I := I) (a := x) (j := 7) (lo := (-2147483648)) (hi := 2147483647) hU hLx (ro_o hkx (by decide)) rfl
  refine g_getI C K hLx hkx f_1_30 (v := x_407407) hx_407407 dX1_lives_1 ?_
  refine g_iload_n C 1 dX1_lives_4 rfl rfl ?_
  obtain ⟨x_407408, hx_407408, rx_407408⟩ := ex_any (z0 := x_407407 >>> (a0 &&& 31))
  refine g_ishr C (v := x_407408) dX1_lives_5 hx_407408 ?_
  refine g_iconst C (v := 1) dX1_lives_6 (by decide) ?_
  obtain ⟨x_407409, hx_407409, rx_407409⟩ := ex_andr (x := x_407408) (y := 1) (b := 1) (rg_w rc_1 (by decide) (by decide))
  refine g_iand C (v := x_407409) dX1_lives_7 hx_407409 ?_
  refine g_if_ne C (tgt := 15) dX1_lives_8 (by decide) (fun h_407410 => ?_) (fun h_407410 => ?_)
  · skip
    have n_407411 : ¬ x_407409 = 0 := h_407410
    have r_407412 := ne_lo (lo := 1) n_407411 rx_407409 rc_0 rfl (by decide)
    refine g_iconst C (v := 0) dX1_lives_15 (by decide) ?_
    exact g_zret (ty := .boolean) (r := 0) B K rfl (rfl) ⟨rfl, rfl, rg_w rc_0 (by decide) (by decide)⟩ dX1_lives_16
  · skip
    have r_407413 := (⟨(rx_407409).1, (eq_rg (h_407410) rc_0).2⟩ : Rg 0 0 x_407409)
    refine g_iconst C (v := 1) dX1_lives_11 (by decide) ?_
    refine g_goto C (tgt := 16) dX1_lives_12 (by decide) ?_
    exact g_zret (ty := .boolean) (r := 1) B K rfl (rfl) ⟨rfl, rfl, rg_w rc_1 (by decide) (by decide)⟩ dX1_lives_16
set_option maxRecDepth 100000 in
set_option maxHeartbeats 8000000 in
theorem c_X5_note {l : Launch} {D : va_G} {cy : Nat → ClassId} {L : List Nat} {κ ln : Nat → Nat} {R : Nat → Nat → Option Nat} {I : Nat → Nat → Int32} {J : Nat → Nat → Int64} {ow : Nat → Nat × Nat} (W9 : ∀ a ∈ L, Shp L κ ln R ow a) {x : Nat} (hLx : x ∈ L) (hkx : κ x = 5) {a0 : Nat} (hLa0 : a0 ∈ L) (hka0 : κ a0 = 1) (hU : Uv L κ ow I) : CtV l yX5_note cX5_note 2 none { frames := 2, cells := 0, slots := 0, locals := 81 } D cy L κ ln R I J [.ref x, .ref a0] (fun I2 J2 => Uv L κ ow I2 ∧ Fq L κ ow [107, 108, 109, 110, 111, 112, 16100, 16200, 16300, 16400, 16500, 16600] I I2 ∧ Fq L κ ow [] J J2) := by
  refine CtV.of (by decide +kernel) (Nat.le_of_ble_eq_true rfl) ?_
  intro p e s m below meth c B K
  have C := B.1
  have hF : Fq L κ ow [107, 108, 109, 110, 111, 112, 16100, 16200, 16300, 16400, 16500, 16600] I I := fq_rf
  have hG : Fq L κ ow [] J J := fq_rf
  obtain ⟨b_407432, hb_407432, hb_407432L, hb_407432k, hb_407432n, hb_407432o⟩ := shp_a (W9 x hLx) hkx 0 17 9 rfl (by decide)
  refine g_lo (is := [0, 1]) (lo2 := [(0, .ref x), (1, .ref a0)]) rfl ?_
  refine g_aload_n C 0 dX5_note_0 rfl rfl ?_
  refine g_getR C K hLx hkx f_5_13 hb_407432 dX5_note_1 ?_
  refine g_aload_n C 0 dX5_note_4 rfl rfl ?_
  obtain ⟨x_407433, hx_407433, rx_407433⟩ := ex_get (I := I) (a := x) (j := 2) (lo := 0) (hi := 8) hU hLx (ro_o hkx (by decide)) rfl
  refine g_getI C K hLx hkx f_5_21 (v := x_407433) hx_407433 dX5_note_5 ?_
  obtain ⟨b_407434, hb_407434, hb_407434L, hb_407434k⟩ := (W9 b_407432 hb_407432L).2.1 hb_407432k (x_407433.toNatClampNeg) (ix_lt rx_407433 (by decide) hb_407432n (by decide))
  refine h_aaldC C K hb_407432L hb_407432k (x_407433.toNatClampNeg) (rfl) (ix_0 rx_407433 (by decide)) (ix_lt rx_407433 (by decide) hb_407432n (by decide)) hb_407434 dX5_note_8 ?_
  refine g_aload_n C 1 dX5_note_9 rfl rfl ?_
  refine g_callVV C K (c_X1_become W9 hb_407434L hb_407434k hLa0 hka0  hU) hb_407434L hb_407434k (by decide) rfl v_5_27 rfl ⟨rfl, rfl⟩ ⟨Nat.le_of_ble_eq_true rfl, Nat.le_of_ble_eq_true rfl⟩ (Nat.le_of_ble_eq_true rfl) ⟨Nat.le_of_ble_eq_true rfl, Nat.le_of_ble_eq_true rfl⟩ dX5_note_10 rfl (st := []) (fun I_407436 J_407437 h_407438 => ?_)
  obtain ⟨hUI_407436, hFI_407436, hGJ_407437⟩ := h_407438
  have hF_407439 := fq_tr hF hFI_407436 (by decide)
  have hG_407440 := fq_tr hG hGJ_407437 (by decide)
  exact g_vret B K rfl ⟨hUI_407436, hF_407439, hG_407440⟩ dX5_note_13
set_option maxRecDepth 100000 in
set_option maxHeartbeats 8000000 in
theorem c_X1_tryToRefuse {l : Launch} {D : va_G} {cy : Nat → ClassId} {L : List Nat} {κ ln : Nat → Nat} {R : Nat → Nat → Option Nat} {I : Nat → Nat → Int32} {J : Nat → Nat → Int64} {ow : Nat → Nat × Nat} (W9 : ∀ a ∈ L, Shp L κ ln R ow a) {x : Nat} (hLx : x ∈ L) (hkx : κ x = 1) (a0 : Int32) (ra0 : Rg (-1) 6 a0) (hU : Uv L κ ow I) : CtI l yX1_tryToRefuse cX1_tryToRefuse 2 (some .int) { frames := 1, cells := 0, slots := 0, locals := 21 } D cy L κ ln R I J [.ref x, .int a0] (fun r I2 J2 => Uv L κ ow I2 ∧ Fq L κ ow [108] I I2 ∧ Fq L κ ow [] J J2 ∧ Rg 0 2 r) := by
  refine CtI.of (by decide +kernel) (Nat.le_of_ble_eq_true rfl) ?_
  intro p e s m below meth c B K
  have C := B.1
  have hF : Fq L κ ow [108] I I := fq_rf
  have hG : Fq L κ ow [] J J := fq_rf
  refine g_lo (is := [0, 1]) (lo2 := [(0, .ref x), (1, .int a0)]) rfl ?_
  refine g_aload_n C 0 dX1_tryToRefuse_0 rfl rfl ?_
  refine g_iload_n C 1 dX1_tryToRefuse_1 rfl rfl ?_
  refine g_callVI C K (c_X1_lives W9 hLx hkx a0 (ra0) hU) hLx hkx (by decide) rfl v_1_115 rfl ⟨rfl, rfl⟩ ⟨Nat.le_of_ble_eq_true rfl, Nat.le_of_ble_eq_true rfl⟩ (Nat.le_of_ble_eq_true rfl) ⟨Nat.le_of_ble_eq_true rfl, Nat.le_of_ble_eq_true rfl⟩ dX1_tryToRefuse_2 rfl (st := []) (fun x_407481 I_407482 J_407483 h_407484 => ?_)
  obtain ⟨rfl, rfl, rx_407481⟩ := h_407484
  refine g_if_ne C (tgt := 10) dX1_tryToRefuse_5 (by decide) (fun h_407485 => ?_) (fun h_407485 => ?_)
  · skip
    have n_407486 : ¬ x_407481 = 0 := h_407485
    have r_407487 := ne_lo (lo := 1) n_407486 rx_407481 rc_0 rfl (by decide)
    refine g_aload_n C 0 dX1_tryToRefuse_10 rfl rfl ?_
    obtain ⟨x_407488, hx_407488, rx_407488⟩ := ex_get (I := I) (a := x) (j := 8) (lo := (-2147483648)) (hi := 2147483647) hU hLx (ro_o hkx (by decide)) rfl
    refine g_getI C K hLx hkx f_1_34 (v := x_407488) hx_407488 dX1_tryToRefuse_11 ?_
    refine g_iload_n C 1 dX1_tryToRefuse_14 rfl rfl ?_
    obtain ⟨x_407489, hx_407489, rx_407489⟩ := ex_any (z0 := x_407488 >>> (a0 &&& 31))
    refine g_ishr C (v := x_407489) dX1_tryToRefuse_15 hx_407489 ?_
    refine g_iconst C (v := 1) dX1_tryToRefuse_16 (by decide) ?_
    obtain ⟨x_407490, hx_407490, rx_407490⟩ := ex_andr (x := x_407489) (y := 1) (b := 1) (rg_w rc_1 (by decide) (by decide))
    refine g_iand C (v := x_407490) dX1_tryToRefuse_17 hx_407490 ?_
    refine g_if_eq C (tgt := 23) dX1_tryToRefuse_18 (by decide) (fun h_407491 => ?_) (fun h_407491 => ?_)
    · skip
      have r_407492 := (⟨(rx_407490).1, (eq_rg (h_407491) rc_0).2⟩ : Rg 0 0 x_407490)
      refine g_aload_n C 0 dX1_tryToRefuse_23 rfl rfl ?_
      refine g_dup C dX1_tryToRefuse_24 rfl ?_
      refine g_getI C K hLx hkx f_1_34 (v := x_407488) hx_407488 dX1_tryToRefuse_25 ?_
      refine g_iconst C (v := 1) dX1_tryToRefuse_28 (by decide) ?_
      refine g_iload_n C 1 dX1_tryToRefuse_29 rfl rfl ?_
      obtain ⟨x_407493, hx_407493, rx_407493⟩ := ex_any (z0 := 1 <<< (a0 &&& 31))
      refine g_ishl C (v := x_407493) dX1_tryToRefuse_30 hx_407493 ?_
      obtain ⟨x_407494, hx_407494, rx_407494⟩ := ex_any (z0 := x_407488 ||| x_407493)
      refine g_ior C (v := x_407494) dX1_tryToRefuse_31 hx_407494 ?_
      refine h_putI C K hLx hkx f_1_34 p_1_8 dX1_tryToRefuse_32 (fun I_407495 hI_407495 => ?_)
      have hU_407496 := uv_put hU hI_407495 (ro_o hkx (by decide)) (lo := (-2147483648)) (hi := 2147483647) rfl (rx_407494)
      have hF_407497 := fq_puto hF hI_407495 hkx (by decide) (by decide)
      refine g_iconst C (v := 0) dX1_tryToRefuse_35 (by decide) ?_
      exact g_zret (ty := .int) (r := 0) B K rfl (rfl) ⟨hU_407496, hF_407497, hG, rg_w rc_0 (by decide) (by decide)⟩ dX1_tryToRefuse_36
    · skip
      have n_407498 : ¬ x_407490 = 0 := h_407491
      have r_407499 := ne_lo (lo := 1) n_407498 rx_407490 rc_0 rfl (by decide)
      refine g_iconst C (v := 2) dX1_tryToRefuse_21 (by decide) ?_
      exact g_zret (ty := .int) (r := 2) B K rfl (rfl) ⟨hU, hF, hG, rg_w rc_2 (by decide) (by decide)⟩ dX1_tryToRefuse_22
  · skip
    have r_407500 := (⟨(rx_407481).1, (eq_rg (h_407485) rc_0).2⟩ : Rg 0 0 x_407481)
    refine g_iconst C (v := 1) dX1_tryToRefuse_8 (by decide) ?_
    exact g_zret (ty := .int) (r := 1) B K rfl (rfl) ⟨hU, hF, hG, rg_w rc_1 (by decide) (by decide)⟩ dX1_tryToRefuse_9
