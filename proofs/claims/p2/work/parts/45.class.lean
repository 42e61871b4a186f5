theorem dX11_count_0 : decode cX11_count 0 = .ok (.iload_n 1, 1) := by decide +kernel
theorem dX11_count_1 : decode cX11_count 1 = .ok (.tableswitch 75 0 4 #[35, 43, 51, 59, 67], 35) := by decide +kernel
theorem dX11_count_36 : decode cX11_count 36 = .ok (.aload_n 0, 1) := by decide +kernel
theorem dX11_count_37 : decode cX11_count 37 = .ok (.getfield 19, 3) := by decide +kernel
theorem dX11_count_40 : decode cX11_count 40 = .ok (.getfield 213, 3) := by decide +kernel
theorem dX11_count_43 : decode cX11_count 43 = .ok (.ireturn, 1) := by decide +kernel
theorem dX11_count_44 : decode cX11_count 44 = .ok (.aload_n 0, 1) := by decide +kernel
theorem dX11_count_45 : decode cX11_count 45 = .ok (.getfield 19, 3) := by decide +kernel
theorem dX11_count_48 : decode cX11_count 48 = .ok (.getfield 216, 3) := by decide +kernel
theorem dX11_count_51 : decode cX11_count 51 = .ok (.ireturn, 1) := by decide +kernel
theorem dX11_count_52 : decode cX11_count 52 = .ok (.aload_n 0, 1) := by decide +kernel
theorem dX11_count_53 : decode cX11_count 53 = .ok (.getfield 19, 3) := by decide +kernel
theorem dX11_count_56 : decode cX11_count 56 = .ok (.getfield 219, 3) := by decide +kernel
theorem dX11_count_59 : decode cX11_count 59 = .ok (.ireturn, 1) := by decide +kernel
theorem dX11_count_60 : decode cX11_count 60 = .ok (.aload_n 0, 1) := by decide +kernel
theorem dX11_count_61 : decode cX11_count 61 = .ok (.getfield 19, 3) := by decide +kernel
theorem dX11_count_64 : decode cX11_count 64 = .ok (.getfield 222, 3) := by decide +kernel
theorem dX11_count_67 : decode cX11_count 67 = .ok (.ireturn, 1) := by decide +kernel
theorem dX11_count_68 : decode cX11_count 68 = .ok (.aload_n 0, 1) := by decide +kernel
theorem dX11_count_69 : decode cX11_count 69 = .ok (.getfield 10, 3) := by decide +kernel
theorem dX11_count_72 : decode cX11_count 72 = .ok (.getfield 102, 3) := by decide +kernel
theorem dX11_count_75 : decode cX11_count 75 = .ok (.ireturn, 1) := by decide +kernel
theorem dX11_count_76 : decode cX11_count 76 = .ok (.iconst (-1), 1) := by decide +kernel
theorem dX11_count_77 : decode cX11_count 77 = .ok (.ireturn, 1) := by decide +kernel
theorem dX11_fault_0 : decode cX11_fault 0 = .ok (.aload_n 0, 1) := by decide +kernel
theorem dX11_fault_1 : decode cX11_fault 1 = .ok (.getfield 10, 3) := by decide +kernel
theorem dX11_fault_4 : decode cX11_fault 4 = .ok (.getfield 113, 3) := by decide +kernel
theorem dX11_fault_7 : decode cX11_fault 7 = .ok (.ireturn, 1) := by decide +kernel
theorem dX11_keptIfDone_0 : decode cX11_keptIfDone 0 = .ok (.iload_n 1, 1) := by decide +kernel
theorem dX11_keptIfDone_1 : decode cX11_keptIfDone 1 = .ok (.ifCond .ne 10, 3) := by decide +kernel
theorem dX11_keptIfDone_4 : decode cX11_keptIfDone 4 = .ok (.aload_n 0, 1) := by decide +kernel
theorem dX11_keptIfDone_5 : decode cX11_keptIfDone 5 = .ok (.getfield 38, 3) := by decide +kernel
theorem dX11_keptIfDone_8 : decode cX11_keptIfDone 8 = .ok (.invokevirtual 260, 3) := by decide +kernel
theorem dX11_keptIfDone_11 : decode cX11_keptIfDone 11 = .ok (.iload_n 1, 1) := by decide +kernel
theorem dX11_keptIfDone_12 : decode cX11_keptIfDone 12 = .ok (.ireturn, 1) := by decide +kernel
theorem dX11_now_0 : decode cX11_now 0 = .ok (.iload_n 1, 1) := by decide +kernel
theorem dX11_now_1 : decode cX11_now 1 = .ok (.tableswitch 111 0 7 #[47, 55, 63, 71, 79, 87, 95, 103], 47) := by decide +kernel
theorem dX11_now_48 : decode cX11_now 48 = .ok (.aload_n 0, 1) := by decide +kernel
theorem dX11_now_49 : decode cX11_now 49 = .ok (.getfield 28, 3) := by decide +kernel
theorem dX11_now_52 : decode cX11_now 52 = .ok (.getfield 195, 3) := by decide +kernel
theorem dX11_now_55 : decode cX11_now 55 = .ok (.ireturn, 1) := by decide +kernel
theorem dX11_now_56 : decode cX11_now 56 = .ok (.aload_n 0, 1) := by decide +kernel
theorem dX11_now_57 : decode cX11_now 57 = .ok (.getfield 28, 3) := by decide +kernel
theorem dX11_now_60 : decode cX11_now 60 = .ok (.getfield 151, 3) := by decide +kernel
theorem dX11_now_63 : decode cX11_now 63 = .ok (.ireturn, 1) := by decide +kernel
theorem dX11_now_64 : decode cX11_now 64 = .ok (.aload_n 0, 1) := by decide +kernel
theorem dX11_now_65 : decode cX11_now 65 = .ok (.getfield 28, 3) := by decide +kernel
theorem dX11_now_68 : decode cX11_now 68 = .ok (.getfield 154, 3) := by decide +kernel
theorem dX11_now_71 : decode cX11_now 71 = .ok (.ireturn, 1) := by decide +kernel
theorem dX11_now_72 : decode cX11_now 72 = .ok (.aload_n 0, 1) := by decide +kernel
theorem dX11_now_73 : decode cX11_now 73 = .ok (.getfield 28, 3) := by decide +kernel
theorem dX11_now_76 : decode cX11_now 76 = .ok (.getfield 198, 3) := by decide +kernel
theorem dX11_now_79 : decode cX11_now 79 = .ok (.ireturn, 1) := by decide +kernel
theorem dX11_now_80 : decode cX11_now 80 = .ok (.aload_n 0, 1) := by decide +kernel
theorem dX11_now_81 : decode cX11_now 81 = .ok (.getfield 28, 3) := by decide +kernel
theorem dX11_now_84 : decode cX11_now 84 = .ok (.getfield 201, 3) := by decide +kernel
theorem dX11_now_87 : decode cX11_now 87 = .ok (.ireturn, 1) := by decide +kernel
theorem dX11_now_88 : decode cX11_now 88 = .ok (.aload_n 0, 1) := by decide +kernel
theorem dX11_now_89 : decode cX11_now 89 = .ok (.getfield 28, 3) := by decide +kernel
theorem dX11_now_92 : decode cX11_now 92 = .ok (.invokevirtual 204, 3) := by decide +kernel
theorem dX11_now_95 : decode cX11_now 95 = .ok (.ireturn, 1) := by decide +kernel
theorem dX11_now_96 : decode cX11_now 96 = .ok (.aload_n 0, 1) := by decide +kernel
theorem dX11_now_97 : decode cX11_now 97 = .ok (.getfield 28, 3) := by decide +kernel
theorem dX11_now_100 : decode cX11_now 100 = .ok (.invokevirtual 207, 3) := by decide +kernel
theorem dX11_now_103 : decode cX11_now 103 = .ok (.ireturn, 1) := by decide +kernel
theorem dX11_now_104 : decode cX11_now 104 = .ok (.aload_n 0, 1) := by decide +kernel
theorem dX11_now_105 : decode cX11_now 105 = .ok (.getfield 28, 3) := by decide +kernel
theorem dX11_now_108 : decode cX11_now 108 = .ok (.getfield 210, 3) := by decide +kernel
theorem dX11_now_111 : decode cX11_now 111 = .ok (.ireturn, 1) := by decide +kernel
theorem dX11_now_112 : decode cX11_now 112 = .ok (.iconst (-1), 1) := by decide +kernel
theorem dX11_now_113 : decode cX11_now 113 = .ok (.ireturn, 1) := by decide +kernel
theorem dX1_allEaten_0 : decode cX1_allEaten 0 = .ok (.iconst 0, 1) := by decide +kernel
theorem dX1_allEaten_1 : decode cX1_allEaten 1 = .ok (.istore_n 1, 1) := by decide +kernel
theorem dX1_allEaten_2 : decode cX1_allEaten 2 = .ok (.iconst 0, 1) := by decide +kernel
theorem dX1_allEaten_3 : decode cX1_allEaten 3 = .ok (.istore_n 2, 1) := by decide +kernel
theorem dX1_allEaten_4 : decode cX1_allEaten 4 = .ok (.iload_n 2, 1) := by decide +kernel
theorem dX1_allEaten_5 : decode cX1_allEaten 5 = .ok (.aload_n 0, 1) := by decide +kernel
theorem dX1_allEaten_6 : decode cX1_allEaten 6 = .ok (.getfield 52, 3) := by decide +kernel
theorem dX1_allEaten_9 : decode cX1_allEaten 9 = .ok (.getfield 68, 3) := by decide +kernel
theorem dX1_allEaten_12 : decode cX1_allEaten 12 = .ok (.if_icmp .ge 18, 3) := by decide +kernel
theorem dX1_allEaten_15 : decode cX1_allEaten 15 = .ok (.iload_n 1, 1) := by decide +kernel
theorem dX1_allEaten_16 : decode cX1_allEaten 16 = .ok (.aload_n 0, 1) := by decide +kernel
theorem dX1_allEaten_17 : decode cX1_allEaten 17 = .ok (.getfield 21, 3) := by decide +kernel
theorem dX1_allEaten_20 : decode cX1_allEaten 20 = .ok (.iload_n 2, 1) := by decide +kernel
theorem dX1_allEaten_21 : decode cX1_allEaten 21 = .ok (.iaload, 1) := by decide +kernel
theorem dX1_allEaten_22 : decode cX1_allEaten 22 = .ok (.iadd, 1) := by decide +kernel
theorem dX1_allEaten_23 : decode cX1_allEaten 23 = .ok (.istore_n 1, 1) := by decide +kernel
theorem dX1_allEaten_24 : decode cX1_allEaten 24 = .ok (.iinc 2 1, 3) := by decide +kernel
theorem dX1_allEaten_27 : decode cX1_allEaten 27 = .ok (.goto (-23), 3) := by decide +kernel
theorem dX1_allEaten_30 : decode cX1_allEaten 30 = .ok (.iload_n 1, 1) := by decide +kernel
theorem dX1_allEaten_31 : decode cX1_allEaten 31 = .ok (.ireturn, 1) := by decide +kernel
theorem dX1_allHunger_0 : decode cX1_allHunger 0 = .ok (.iconst 0, 1) := by decide +kernel
theorem dX1_allHunger_1 : decode cX1_allHunger 1 = .ok (.istore_n 1, 1) := by decide +kernel
theorem dX1_allHunger_2 : decode cX1_allHunger 2 = .ok (.iconst 0, 1) := by decide +kernel
theorem dX1_allHunger_3 : decode cX1_allHunger 3 = .ok (.istore_n 2, 1) := by decide +kernel
theorem dX1_allHunger_4 : decode cX1_allHunger 4 = .ok (.iload_n 2, 1) := by decide +kernel
theorem dX1_allHunger_5 : decode cX1_allHunger 5 = .ok (.aload_n 0, 1) := by decide +kernel
theorem dX1_allHunger_6 : decode cX1_allHunger 6 = .ok (.getfield 52, 3) := by decide +kernel
theorem dX1_allHunger_9 : decode cX1_allHunger 9 = .ok (.getfield 68, 3) := by decide +kernel
theorem dX1_allHunger_12 : decode cX1_allHunger 12 = .ok (.if_icmp .ge 18, 3) := by decide +kernel
theorem dX1_allHunger_15 : decode cX1_allHunger 15 = .ok (.iload_n 1, 1) := by decide +kernel
theorem dX1_allHunger_16 : decode cX1_allHunger 16 = .ok (.aload_n 0, 1) := by decide +kernel
theorem dX1_allHunger_17 : decode cX1_allHunger 17 = .ok (.getfield 27, 3) := by decide +kernel
theorem dX1_allHunger_20 : decode cX1_allHunger 20 = .ok (.iload_n 2, 1) := by decide +kernel
theorem dX1_allHunger_21 : decode cX1_allHunger 21 = .ok (.iaload, 1) := by decide +kernel
theorem dX1_allHunger_22 : decode cX1_allHunger 22 = .ok (.iadd, 1) := by decide +kernel
theorem dX1_allHunger_23 : decode cX1_allHunger 23 = .ok (.istore_n 1, 1) := by decide +kernel
theorem dX1_allHunger_24 : decode cX1_allHunger 24 = .ok (.iinc 2 1, 3) := by decide +kernel
theorem dX1_allHunger_27 : decode cX1_allHunger 27 = .ok (.goto (-23), 3) := by decide +kernel
theorem dX1_allHunger_30 : decode cX1_allHunger 30 = .ok (.iload_n 1, 1) := by decide +kernel
theorem dX1_allHunger_31 : decode cX1_allHunger 31 = .ok (.ireturn, 1) := by decide +kernel
theorem dX1_lives_0 : decode cX1_lives 0 = .ok (.aload_n 0, 1) := by decide +kernel
theorem dX1_lives_1 : decode cX1_lives 1 = .ok (.getfield 30, 3) := by decide +kernel
theorem dX1_lives_4 : decode cX1_lives 4 = .ok (.iload_n 1, 1) := by decide +kernel
theorem dX1_lives_5 : decode cX1_lives 5 = .ok (.ishr, 1) := by decide +kernel
theorem dX1_lives_6 : decode cX1_lives 6 = .ok (.iconst 1, 1) := by decide +kernel
theorem dX1_lives_7 : decode cX1_lives 7 = .ok (.iand, 1) := by decide +kernel
theorem dX1_lives_8 : decode cX1_lives 8 = .ok (.ifCond .ne 7, 3) := by decide +kernel
theorem dX1_lives_11 : decode cX1_lives 11 = .ok (.iconst 1, 1) := by decide +kernel
theorem dX1_lives_12 : decode cX1_lives 12 = .ok (.goto 4, 3) := by decide +kernel
theorem dX1_lives_15 : decode cX1_lives 15 = .ok (.iconst 0, 1) := by decide +kernel
theorem dX1_lives_16 : decode cX1_lives 16 = .ok (.ireturn, 1) := by decide +kernel
theorem dX1_tryToRefuse_0 : decode cX1_tryToRefuse 0 = .ok (.aload_n 0, 1) := by decide +kernel
theorem dX1_tryToRefuse_1 : decode cX1_tryToRefuse 1 = .ok (.iload_n 1, 1) := by decide +kernel
theorem dX1_tryToRefuse_2 : decode cX1_tryToRefuse 2 = .ok (.invokevirtual 115, 3) := by decide +kernel
theorem dX1_tryToRefuse_5 : decode cX1_tryToRefuse 5 = .ok (.ifCond .ne 5, 3) := by decide +kernel
theorem dX1_tryToRefuse_8 : decode cX1_tryToRefuse 8 = .ok (.iconst 1, 1) := by decide +kernel
theorem dX1_tryToRefuse_9 : decode cX1_tryToRefuse 9 = .ok (.ireturn, 1) := by decide +kernel
theorem dX1_tryToRefuse_10 : decode cX1_tryToRefuse 10 = .ok (.aload_n 0, 1) := by decide +kernel
theorem dX1_tryToRefuse_11 : decode cX1_tryToRefuse 11 = .ok (.getfield 34, 3) := by decide +kernel
theorem dX1_tryToRefuse_14 : decode cX1_tryToRefuse 14 = .ok (.iload_n 1, 1) := by decide +kernel
theorem dX1_tryToRefuse_15 : decode cX1_tryToRefuse 15 = .ok (.ishr, 1) := by decide +kernel
theorem dX1_tryToRefuse_16 : decode cX1_tryToRefuse 16 = .ok (.iconst 1, 1) := by decide +kernel
theorem dX1_tryToRefuse_17 : decode cX1_tryToRefuse 17 = .ok (.iand, 1) := by decide +kernel
theorem dX1_tryToRefuse_18 : decode cX1_tryToRefuse 18 = .ok (.ifCond .eq 5, 3) := by decide +kernel
theorem dX1_tryToRefuse_21 : decode cX1_tryToRefuse 21 = .ok (.iconst 2, 1) := by decide +kernel
theorem dX1_tryToRefuse_22 : decode cX1_tryToRefuse 22 = .ok (.ireturn, 1) := by decide +kernel
theorem dX1_tryToRefuse_23 : decode cX1_tryToRefuse 23 = .ok (.aload_n 0, 1) := by decide +kernel
theorem dX1_tryToRefuse_24 : decode cX1_tryToRefuse 24 = .ok (.dup, 1) := by decide +kernel
theorem dX1_tryToRefuse_25 : decode cX1_tryToRefuse 25 = .ok (.getfield 34, 3) := by decide +kernel
theorem dX1_tryToRefuse_28 : decode cX1_tryToRefuse 28 = .ok (.iconst 1, 1) := by decide +kernel
theorem dX1_tryToRefuse_29 : decode cX1_tryToRefuse 29 = .ok (.iload_n 1, 1) := by decide +kernel
theorem dX1_tryToRefuse_30 : decode cX1_tryToRefuse 30 = .ok (.ishl, 1) := by decide +kernel
theorem dX1_tryToRefuse_31 : decode cX1_tryToRefuse 31 = .ok (.ior, 1) := by decide +kernel
theorem dX1_tryToRefuse_32 : decode cX1_tryToRefuse 32 = .ok (.putfield 34, 3) := by decide +kernel
theorem dX1_tryToRefuse_35 : decode cX1_tryToRefuse 35 = .ok (.iconst 0, 1) := by decide +kernel
theorem dX1_tryToRefuse_36 : decode cX1_tryToRefuse 36 = .ok (.ireturn, 1) := by decide +kernel
theorem dX5_keepNoted_0 : decode cX5_keepNoted 0 = .ok (.aload_n 0, 1) := by decide +kernel
theorem dX5_keepNoted_1 : decode cX5_keepNoted 1 = .ok (.aload_n 0, 1) := by decide +kernel
theorem dX5_keepNoted_2 : decode cX5_keepNoted 2 = .ok (.getfield 21, 3) := by decide +kernel
theorem dX5_keepNoted_5 : decode cX5_keepNoted 5 = .ok (.iconst 1, 1) := by decide +kernel
theorem dX5_keepNoted_6 : decode cX5_keepNoted 6 = .ok (.iadd, 1) := by decide +kernel
theorem dX5_keepNoted_7 : decode cX5_keepNoted 7 = .ok (.bipush 9, 2) := by decide +kernel
theorem dX5_keepNoted_9 : decode cX5_keepNoted 9 = .ok (.if_icmp .ge 12, 3) := by decide +kernel
theorem dX5_keepNoted_12 : decode cX5_keepNoted 12 = .ok (.aload_n 0, 1) := by decide +kernel
theorem dX5_keepNoted_13 : decode cX5_keepNoted 13 = .ok (.getfield 21, 3) := by decide +kernel
theorem dX5_keepNoted_16 : decode cX5_keepNoted 16 = .ok (.iconst 1, 1) := by decide +kernel
theorem dX5_keepNoted_17 : decode cX5_keepNoted 17 = .ok (.iadd, 1) := by decide +kernel
theorem dX5_keepNoted_18 : decode cX5_keepNoted 18 = .ok (.goto 4, 3) := by decide +kernel
theorem dX5_keepNoted_21 : decode cX5_keepNoted 21 = .ok (.iconst 0, 1) := by decide +kernel
theorem dX5_keepNoted_22 : decode cX5_keepNoted 22 = .ok (.putfield 21, 3) := by decide +kernel
theorem dX5_keepNoted_25 : decode cX5_keepNoted 25 = .ok (.aload_n 0, 1) := by decide +kernel
theorem dX5_keepNoted_26 : decode cX5_keepNoted 26 = .ok (.aload_n 0, 1) := by decide +kernel
theorem dX5_keepNoted_27 : decode cX5_keepNoted 27 = .ok (.getfield 17, 3) := by decide +kernel
theorem dX5_keepNoted_30 : decode cX5_keepNoted 30 = .ok (.iconst 1, 1) := by decide +kernel
theorem dX5_keepNoted_31 : decode cX5_keepNoted 31 = .ok (.iadd, 1) := by decide +kernel
theorem dX5_keepNoted_32 : decode cX5_keepNoted 32 = .ok (.bipush 8, 2) := by decide +kernel
theorem dX5_keepNoted_34 : decode cX5_keepNoted 34 = .ok (.invokestatic 31, 3) := by decide +kernel
theorem dX5_keepNoted_37 : decode cX5_keepNoted 37 = .ok (.putfield 17, 3) := by decide +kernel
theorem dX5_keepNoted_40 : decode cX5_keepNoted 40 = .ok (.return_, 1) := by decide +kernel
theorem dX5_note_0 : decode cX5_note 0 = .ok (.aload_n 0, 1) := by decide +kernel
theorem dX5_note_1 : decode cX5_note 1 = .ok (.getfield 13, 3) := by decide +kernel
theorem dX5_note_4 : decode cX5_note 4 = .ok (.aload_n 0, 1) := by decide +kernel
theorem dX5_note_5 : decode cX5_note 5 = .ok (.getfield 21, 3) := by decide +kernel
theorem dX5_note_8 : decode cX5_note 8 = .ok (.aaload, 1) := by decide +kernel
theorem dX5_note_9 : decode cX5_note 9 = .ok (.aload_n 1, 1) := by decide +kernel
theorem dX5_note_10 : decode cX5_note 10 = .ok (.invokevirtual 27, 3) := by decide +kernel
theorem dX5_note_13 : decode cX5_note 13 = .ok (.return_, 1) := by decide +kernel
theorem dX8_everybody_0 : decode cX8_everybody 0 = .ok (.iconst 1, 1) := by decide +kernel
theorem dX8_everybody_1 : decode cX8_everybody 1 = .ok (.aload_n 0, 1) := by decide +kernel
theorem dX8_everybody_2 : decode cX8_everybody 2 = .ok (.getfield 28, 3) := by decide +kernel
theorem dX8_everybody_5 : decode cX8_everybody 5 = .ok (.ishl, 1) := by decide +kernel
theorem dX8_everybody_6 : decode cX8_everybody 6 = .ok (.iconst 1, 1) := by decide +kernel
theorem dX8_everybody_7 : decode cX8_everybody 7 = .ok (.isub, 1) := by decide +kernel
theorem dX8_everybody_8 : decode cX8_everybody 8 = .ok (.ireturn, 1) := by decide +kernel
theorem dX8_hasDish_0 : decode cX8_hasDish 0 = .ok (.iload_n 1, 1) := by decide +kernel
theorem dX8_hasDish_1 : decode cX8_hasDish 1 = .ok (.ifCond .lt 15, 3) := by decide +kernel
theorem dX8_hasDish_4 : decode cX8_hasDish 4 = .ok (.iload_n 1, 1) := by decide +kernel
theorem dX8_hasDish_5 : decode cX8_hasDish 5 = .ok (.aload_n 0, 1) := by decide +kernel
theorem dX8_hasDish_6 : decode cX8_hasDish 6 = .ok (.getfield 32, 3) := by decide +kernel
theorem dX8_hasDish_9 : decode cX8_hasDish 9 = .ok (.if_icmp .ge 7, 3) := by decide +kernel
theorem dX8_hasDish_12 : decode cX8_hasDish 12 = .ok (.iconst 1, 1) := by decide +kernel
theorem dX8_hasDish_13 : decode cX8_hasDish 13 = .ok (.goto 4, 3) := by decide +kernel
theorem dX8_hasDish_16 : decode cX8_hasDish 16 = .ok (.iconst 0, 1) := by decide +kernel
theorem dX8_hasDish_17 : decode cX8_hasDish 17 = .ok (.ireturn, 1) := by decide +kernel
theorem dX8_hasPerson_0 : decode cX8_hasPerson 0 = .ok (.iload_n 1, 1) := by decide +kernel
theorem dX8_hasPerson_1 : decode cX8_hasPerson 1 = .ok (.ifCond .lt 15, 3) := by decide +kernel
theorem dX8_hasPerson_4 : decode cX8_hasPerson 4 = .ok (.iload_n 1, 1) := by decide +kernel
theorem dX8_hasPerson_5 : decode cX8_hasPerson 5 = .ok (.aload_n 0, 1) := by decide +kernel
theorem dX8_hasPerson_6 : decode cX8_hasPerson 6 = .ok (.getfield 28, 3) := by decide +kernel
theorem dX8_hasPerson_9 : decode cX8_hasPerson 9 = .ok (.if_icmp .ge 7, 3) := by decide +kernel
theorem dX8_hasPerson_12 : decode cX8_hasPerson 12 = .ok (.iconst 1, 1) := by decide +kernel
theorem dX8_hasPerson_13 : decode cX8_hasPerson 13 = .ok (.goto 4, 3) := by decide +kernel
theorem dX8_hasPerson_16 : decode cX8_hasPerson 16 = .ok (.iconst 0, 1) := by decide +kernel
theorem dX8_hasPerson_17 : decode cX8_hasPerson 17 = .ok (.ireturn, 1) := by decide +kernel
theorem dX9_readPerson_0 : decode cX9_readPerson 0 = .ok (.aload_n 0, 1) := by decide +kernel
theorem dX9_readPerson_1 : decode cX9_readPerson 1 = .ok (.getfield 12, 3) := by decide +kernel
theorem dX9_readPerson_4 : decode cX9_readPerson 4 = .ok (.getfield 85, 3) := by decide +kernel
theorem dX9_readPerson_7 : decode cX9_readPerson 7 = .ok (.bipush 7, 2) := by decide +kernel
theorem dX9_readPerson_9 : decode cX9_readPerson 9 = .ok (.if_icmp .lt 9, 3) := by decide +kernel
theorem dX9_readPerson_12 : decode cX9_readPerson 12 = .ok (.aload_n 1, 1) := by decide +kernel
theorem dX9_readPerson_13 : decode cX9_readPerson 13 = .ok (.iconst 4, 1) := by decide +kernel
theorem dX9_readPerson_14 : decode cX9_readPerson 14 = .ok (.invokevirtual 67, 3) := by decide +kernel
theorem dX9_readPerson_17 : decode cX9_readPerson 17 = .ok (.ireturn, 1) := by decide +kernel
theorem dX9_readPerson_18 : decode cX9_readPerson 18 = .ok (.aload_n 1, 1) := by decide +kernel
theorem dX9_readPerson_19 : decode cX9_readPerson 19 = .ok (.invokevirtual 82, 3) := by decide +kernel
theorem dX9_readPerson_22 : decode cX9_readPerson 22 = .ok (.aload_n 1, 1) := by decide +kernel
theorem dX9_readPerson_23 : decode cX9_readPerson 23 = .ok (.getfield 71, 3) := by decide +kernel
theorem dX9_readPerson_26 : decode cX9_readPerson 26 = .ok (.lstore_n 2, 1) := by decide +kernel
theorem dX9_readPerson_27 : decode cX9_readPerson 27 = .ok (.aload_n 0, 1) := by decide +kernel
theorem dX9_readPerson_28 : decode cX9_readPerson 28 = .ok (.aload_n 1, 1) := by decide +kernel
theorem dX9_readPerson_29 : decode cX9_readPerson 29 = .ok (.invokevirtual 88, 3) := by decide +kernel
theorem dX9_readPerson_32 : decode cX9_readPerson 32 = .ok (.ifCond .ne 5, 3) := by decide +kernel
theorem dX9_readPerson_35 : decode cX9_readPerson 35 = .ok (.iconst 0, 1) := by decide +kernel
theorem dX9_readPerson_36 : decode cX9_readPerson 36 = .ok (.ireturn, 1) := by decide +kernel
theorem dX9_readPerson_37 : decode cX9_readPerson 37 = .ok (.aload_n 1, 1) := by decide +kernel
theorem dX9_readPerson_38 : decode cX9_readPerson 38 = .ok (.iconst 0, 1) := by decide +kernel
theorem dX9_readPerson_39 : decode cX9_readPerson 39 = .ok (.bipush 20, 2) := by decide +kernel
theorem dX9_readPerson_41 : decode cX9_readPerson 41 = .ok (.invokevirtual 91, 3) := by decide +kernel
theorem dX9_readPerson_44 : decode cX9_readPerson 44 = .ok (.istore 4, 2) := by decide +kernel
theorem dX9_readPerson_46 : decode cX9_readPerson 46 = .ok (.iload 4, 2) := by decide +kernel
theorem dX9_readPerson_48 : decode cX9_readPerson 48 = .ok (.iconst (-1), 1) := by decide +kernel
theorem dX9_readPerson_49 : decode cX9_readPerson 49 = .ok (.if_icmp .ne 5, 3) := by decide +kernel
theorem dX9_readPerson_52 : decode cX9_readPerson 52 = .ok (.iconst 0, 1) := by decide +kernel
theorem dX9_readPerson_53 : decode cX9_readPerson 53 = .ok (.ireturn, 1) := by decide +kernel
theorem dX9_readPerson_54 : decode cX9_readPerson 54 = .ok (.iconst (-1), 1) := by decide +kernel
theorem dX9_readPerson_55 : decode cX9_readPerson 55 = .ok (.istore 5, 2) := by decide +kernel
theorem dX9_readPerson_57 : decode cX9_readPerson 57 = .ok (.aload_n 1, 1) := by decide +kernel
theorem dX9_readPerson_58 : decode cX9_readPerson 58 = .ok (.getfield 44, 3) := by decide +kernel
theorem dX9_readPerson_61 : decode cX9_readPerson 61 = .ok (.iconst 5, 1) := by decide +kernel
theorem dX9_readPerson_62 : decode cX9_readPerson 62 = .ok (.if_icmp .ne 32, 3) := by decide +kernel
theorem dX9_readPerson_65 : decode cX9_readPerson 65 = .ok (.aload_n 1, 1) := by decide +kernel
theorem dX9_readPerson_66 : decode cX9_readPerson 66 = .ok (.invokevirtual 82, 3) := by decide +kernel
theorem dX9_readPerson_69 : decode cX9_readPerson 69 = .ok (.aload_n 1, 1) := by decide +kernel
theorem dX9_readPerson_70 : decode cX9_readPerson 70 = .ok (.aload_n 0, 1) := by decide +kernel
theorem dX9_readPerson_71 : decode cX9_readPerson 71 = .ok (.getfield 12, 3) := by decide +kernel
theorem dX9_readPerson_74 : decode cX9_readPerson 74 = .ok (.aload_n 1, 1) := by decide +kernel
theorem dX9_readPerson_75 : decode cX9_readPerson 75 = .ok (.getfield 71, 3) := by decide +kernel
theorem dX9_readPerson_78 : decode cX9_readPerson 78 = .ok (.invokevirtual 75, 3) := by decide +kernel
theorem dX9_readPerson_81 : decode cX9_readPerson 81 = .ok (.invokevirtual 95, 3) := by decide +kernel
theorem dX9_readPerson_84 : decode cX9_readPerson 84 = .ok (.istore 5, 2) := by decide +kernel
theorem dX9_readPerson_86 : decode cX9_readPerson 86 = .ok (.iload 5, 2) := by decide +kernel
theorem dX9_readPerson_88 : decode cX9_readPerson 88 = .ok (.iconst (-1), 1) := by decide +kernel
theorem dX9_readPerson_89 : decode cX9_readPerson 89 = .ok (.if_icmp .ne 5, 3) := by decide +kernel
theorem dX9_readPerson_92 : decode cX9_readPerson 92 = .ok (.iconst 0, 1) := by decide +kernel
theorem dX9_readPerson_93 : decode cX9_readPerson 93 = .ok (.ireturn, 1) := by decide +kernel
theorem dX9_readPerson_94 : decode cX9_readPerson 94 = .ok (.aload_n 0, 1) := by decide +kernel
theorem dX9_readPerson_95 : decode cX9_readPerson 95 = .ok (.getfield 12, 3) := by decide +kernel
theorem dX9_readPerson_98 : decode cX9_readPerson 98 = .ok (.getfield 99, 3) := by decide +kernel
theorem dX9_readPerson_101 : decode cX9_readPerson 101 = .ok (.aload_n 0, 1) := by decide +kernel
theorem dX9_readPerson_102 : decode cX9_readPerson 102 = .ok (.getfield 12, 3) := by decide +kernel
theorem dX9_readPerson_105 : decode cX9_readPerson 105 = .ok (.getfield 85, 3) := by decide +kernel
theorem dX9_readPerson_108 : decode cX9_readPerson 108 = .ok (.lload_n 2, 1) := by decide +kernel
theorem dX9_readPerson_109 : decode cX9_readPerson 109 = .ok (.lastore, 1) := by decide +kernel
theorem dX9_readPerson_110 : decode cX9_readPerson 110 = .ok (.aload_n 0, 1) := by decide +kernel
theorem dX9_readPerson_111 : decode cX9_readPerson 111 = .ok (.getfield 12, 3) := by decide +kernel
theorem dX9_readPerson_114 : decode cX9_readPerson 114 = .ok (.getfield 103, 3) := by decide +kernel
theorem dX9_readPerson_117 : decode cX9_readPerson 117 = .ok (.aload_n 0, 1) := by decide +kernel
theorem dX9_readPerson_118 : decode cX9_readPerson 118 = .ok (.getfield 12, 3) := by decide +kernel
theorem dX9_readPerson_121 : decode cX9_readPerson 121 = .ok (.getfield 85, 3) := by decide +kernel
theorem dX9_readPerson_124 : decode cX9_readPerson 124 = .ok (.iload 4, 2) := by decide +kernel
theorem dX9_readPerson_126 : decode cX9_readPerson 126 = .ok (.iastore, 1) := by decide +kernel
theorem dX9_readPerson_127 : decode cX9_readPerson 127 = .ok (.aload_n 0, 1) := by decide +kernel
theorem dX9_readPerson_128 : decode cX9_readPerson 128 = .ok (.getfield 12, 3) := by decide +kernel
theorem dX9_readPerson_131 : decode cX9_readPerson 131 = .ok (.getfield 107, 3) := by decide +kernel
theorem dX9_readPerson_134 : decode cX9_readPerson 134 = .ok (.aload_n 0, 1) := by decide +kernel
theorem dX9_readPerson_135 : decode cX9_readPerson 135 = .ok (.getfield 12, 3) := by decide +kernel
theorem dX9_readPerson_138 : decode cX9_readPerson 138 = .ok (.getfield 85, 3) := by decide +kernel
theorem dX9_readPerson_141 : decode cX9_readPerson 141 = .ok (.iload 5, 2) := by decide +kernel
theorem dX9_readPerson_143 : decode cX9_readPerson 143 = .ok (.iastore, 1) := by decide +kernel
theorem dX9_readPerson_144 : decode cX9_readPerson 144 = .ok (.aload_n 0, 1) := by decide +kernel
theorem dX9_readPerson_145 : decode cX9_readPerson 145 = .ok (.getfield 12, 3) := by decide +kernel
theorem dX9_readPerson_148 : decode cX9_readPerson 148 = .ok (.dup, 1) := by decide +kernel
theorem dX9_readPerson_149 : decode cX9_readPerson 149 = .ok (.getfield 85, 3) := by decide +kernel
theorem dX9_readPerson_152 : decode cX9_readPerson 152 = .ok (.iconst 1, 1) := by decide +kernel
theorem dX9_readPerson_153 : decode cX9_readPerson 153 = .ok (.iadd, 1) := by decide +kernel
theorem dX9_readPerson_154 : decode cX9_readPerson 154 = .ok (.putfield 85, 3) := by decide +kernel
theorem dX9_readPerson_157 : decode cX9_readPerson 157 = .ok (.aload_n 1, 1) := by decide +kernel
theorem dX9_readPerson_158 : decode cX9_readPerson 158 = .ok (.bipush 59, 2) := by decide +kernel
theorem dX9_readPerson_160 : decode cX9_readPerson 160 = .ok (.invokevirtual 110, 3) := by decide +kernel
theorem dX9_readPerson_163 : decode cX9_readPerson 163 = .ok (.ireturn, 1) := by decide +kernel
theorem rc_5 : Rg 5 5 5 := ⟨by decide, by decide⟩
theorem rc_20 : Rg 20 20 20 := ⟨by decide, by decide⟩
set_option maxRecDepth 100000 in
set_option maxHeartbeats 8000000 in
theorem c_X9_readPerson {l : Launch} {D : va_G} {cy : Nat → ClassId} {L : List Nat} {κ ln : Nat → Nat} {R : Nat → Nat → Option Nat} {I : Nat → Nat → Int32} {J : Nat → Nat → Int64} {ow : Nat → Nat × Nat} (W9 : ∀ a ∈ L, Shp L κ ln R ow a) {x : Nat} (hLx : x ∈ L) (hkx : κ x = 9) {a0 : Nat} (hLa0 : a0 ∈ L) (hka0 : κ a0 = 10) (hU : Uv L κ ow I) : CtI l yX9_readPerson cX9_readPerson 6 (some .boolean) { frames := 2, cells := 0, slots := 0, locals := 44 } D cy L κ ln R I J [.ref x, .ref a0] (fun r I2 J2 => Uv L κ ow I2 ∧ Fq L κ ow [805, 1007, 1008, 1009, 1011, 1012, 58100, 58200] I I2 ∧ Fq L κ ow [1010, 58000] J J2 ∧ Rg 0 1 r) := by
  refine CtI.of (by decide +kernel) (Nat.le_of_ble_eq_true rfl) ?_
  intro p e s m below meth c B K
  have C := B.1
  have hF : Fq L κ ow [805, 1007, 1008, 1009, 1011, 1012, 58100, 58200] I I := fq_rf
  have hG : Fq L κ ow [1010, 58000] J J := fq_rf
  obtain ⟨b_406914, hb_406914, hb_406914L, hb_406914k⟩ := shp_o (W9 x hLx) hkx 0 8 rfl (by decide)
  obtain ⟨b_406915, hb_406915, hb_406915L, hb_406915k, hb_406915n, hb_406915o⟩ := shp_a (W9 b_406914 hb_406914L) hb_406914k 1 14 7 rfl (by decide)
  obtain ⟨b_406916, hb_406916, hb_406916L, hb_406916k, hb_406916n, hb_406916o⟩ := shp_a (W9 b_406914 hb_406914L) hb_406914k 0 15 7 rfl (by decide)
  obtain ⟨b_406917, hb_406917, hb_406917L, hb_406917k, hb_406917n, hb_406917o⟩ := shp_a (W9 b_406914 hb_406914L) hb_406914k 2 14 7 rfl (by decide)
  refine g_lo (is := [0, 1]) (lo2 := [(0, .ref x), (1, .ref a0)]) rfl ?_
  have j_94 : ∀ (I_406918 : Nat → Nat → Int32) (J_406919 : Nat → Nat → Int64) (hU_406920 : Uv L κ ow I_406918) (hF_406921 : Fq L κ ow [805, 1007, 1008, 1009, 1011, 1012, 58100, 58200] I I_406918) (hG_406922 : Fq L κ ow [1010, 58000] J J_406919) (y_406923 : Int64) (v_406924 : Int32) (nv_406924_m1 : ¬ v_406924 = (-1)) (v_406925 : Int32) (rv_406925 : Rg (-1) 6 v_406925) (v_406926 : Int32) (rv_406926 : Rg 0 6 v_406926) (q_406927 : I_406918 b_406914 5 = v_406926), WG p l e { frames := 2, cells := 0, slots := 0, locals := 44 } s m ([.ref x, .ref a0] : List Value).toArray below meth c 6 0 0 (MQ below (Qi_ D cy L κ ln R (fun r I2 J2 => Uv L κ ow I2 ∧ Fq L κ ow [805, 1007, 1008, 1009, 1011, 1012, 58100, 58200] I I2 ∧ Fq L κ ow [1010, 58000] J J2 ∧ Rg 0 1 r)) ([.ref x, .ref a0] : List Value).toArray s 0 0 (Al_ L)) D cy (Al_ L) s.heap L κ ln R I_406918 J_406919 94 [(0, .ref x), (1, .ref a0), (2, .long y_406923), (4, .int v_406924), (5, .int v_406925)] [] := by
    intro I_406918 J_406919 hU_406920 hF_406921 hG_406922 y_406923 v_406924 nv_406924_m1 v_406925 rv_406925 v_406926 rv_406926 q_406927
    refine g_aload_n C 0 dX9_readPerson_94 rfl rfl ?_
    refine g_getR C K hLx hkx f_9_12 hb_406914 dX9_readPerson_95 ?_
    refine g_getR C K hb_406914L hb_406914k f_9_99 hb_406916 dX9_readPerson_98 ?_
    refine g_aload_n C 0 dX9_readPerson_101 rfl rfl ?_
    refine g_getR C K hLx hkx f_9_12 hb_406914 dX9_readPerson_102 ?_
    refine g_getI C K hb_406914L hb_406914k f_9_85 (v := v_406926) q_406927 dX9_readPerson_105 ?_
    refine g_lload_n C 2 dX9_readPerson_108 rfl rfl ?_
    refine h_last C K hb_406916L hb_406916k (v_406926.toNatClampNeg) (rfl) (ix_0 rv_406926 (by decide)) (ix_lt rv_406926 (by decide) hb_406916n (by decide)) dX9_readPerson_109 (fun J_406928 hJ_406928 => ?_)
    have hG_406929 := fq_puta hG_406922 hJ_406928 (ro_a hb_406916k (by decide) hb_406916o hb_406914k rfl) (by decide) (by decide)
    refine g_aload_n C 0 dX9_readPerson_110 rfl rfl ?_
    refine g_getR C K hLx hkx f_9_12 hb_406914 dX9_readPerson_111 ?_
    refine g_getR C K hb_406914L hb_406914k f_9_103 hb_406915 dX9_readPerson_114 ?_
    refine g_aload_n C 0 dX9_readPerson_117 rfl rfl ?_
    refine g_getR C K hLx hkx f_9_12 hb_406914 dX9_readPerson_118 ?_
    refine g_getI C K hb_406914L hb_406914k f_9_85 (v := v_406926) q_406927 dX9_readPerson_121 ?_
    refine g_iload C 3 dX9_readPerson_124 rfl ?_
    refine h_iast C K hb_406915L hb_406915k (v_406926.toNatClampNeg) (rfl) (ix_0 rv_406926 (by decide)) (ix_lt rv_406926 (by decide) hb_406915n (by decide)) dX9_readPerson_126 (fun I_406930 hI_406930 => ?_)
    have hU_406931 := uv_put hU_406920 hI_406930 (ro_a hb_406915k (by decide) hb_406915o hb_406914k rfl) (lo := (-2147483648)) (hi := 2147483647) (rfl) ((rg_all v_406924))
    have hF_406932 := fq_puta hF_406921 hI_406930 (ro_a hb_406915k (by decide) hb_406915o hb_406914k rfl) (by decide) (by decide)
    refine g_aload_n C 0 dX9_readPerson_127 rfl rfl ?_
    refine g_getR C K hLx hkx f_9_12 hb_406914 dX9_readPerson_128 ?_
    refine g_getR C K hb_406914L hb_406914k f_9_107 hb_406917 dX9_readPerson_131 ?_
    refine g_aload_n C 0 dX9_readPerson_134 rfl rfl ?_
    refine g_getR C K hLx hkx f_9_12 hb_406914 dX9_readPerson_135 ?_
    refine g_getI C K hb_406914L hb_406914k f_9_85 (v := v_406926) (kp_k (κ := κ) hI_406930 (by rw [hb_406914k, hb_406915k]; decide) q_406927) dX9_readPerson_138 ?_
    refine g_iload C 4 dX9_readPerson_141 rfl ?_
    refine h_iast C K hb_406917L hb_406917k (v_406926.toNatClampNeg) (rfl) (ix_0 rv_406926 (by decide)) (ix_lt rv_406926 (by decide) hb_406917n (by decide)) dX9_readPerson_143 (fun I_406933 hI_406933 => ?_)
    have hU_406934 := uv_put hU_406931 hI_406933 (ro_a hb_406917k (by decide) hb_406917o hb_406914k rfl) (lo := (-1)) (hi := 6) (rfl) (rv_406925)
    have hF_406935 := fq_puta hF_406932 hI_406933 (ro_a hb_406917k (by decide) hb_406917o hb_406914k rfl) (by decide) (by decide)
    refine g_aload_n C 0 dX9_readPerson_144 rfl rfl ?_
    refine g_getR C K hLx hkx f_9_12 hb_406914 dX9_readPerson_145 ?_
    refine g_dup C dX9_readPerson_148 rfl ?_
    refine g_getI C K hb_406914L hb_406914k f_9_85 (v := v_406926) (kp_k (κ := κ) hI_406933 (by rw [hb_406914k, hb_406917k]; decide) (kp_k (κ := κ) hI_406930 (by rw [hb_406914k, hb_406915k]; decide) q_406927)) dX9_readPerson_149 ?_
    refine g_iconst C (v := 1) dX9_readPerson_152 (by decide) ?_
    obtain ⟨x_406936, hx_406936, rx_406936, tx_406936⟩ := ex_add 1 7 rv_406926 rc_1 (by decide) (by decide) (by decide) (by decide)
    refine g_iadd C (v := x_406936) dX9_readPerson_153 hx_406936 ?_
    refine h_putI C K hb_406914L hb_406914k f_9_85 p_8_5 dX9_readPerson_154 (fun I_406937 hI_406937 => ?_)
    have hU_406938 := uv_put hU_406934 hI_406937 (ro_o hb_406914k (by decide)) (lo := 0) (hi := 7) rfl (rg_w rx_406936 (by decide) (by decide))
    have hF_406939 := fq_puto hF_406935 hI_406937 hb_406914k (by decide) (by decide)
    refine g_aload_n C 1 dX9_readPerson_157 rfl rfl ?_
    refine g_bipush C (v := 59) dX9_readPerson_158 (by decide) ?_
    refine g_callVI C K (c_X10_take W9 hLa0 hka0 59 (rg_w rc_59 (by decide) (by decide)) hU_406938) hLa0 hka0 (by decide) rfl v_9_110 rfl ⟨rfl, rfl⟩ ⟨Nat.le_of_ble_eq_true rfl, Nat.le_of_ble_eq_true rfl⟩ (Nat.le_of_ble_eq_true rfl) ⟨Nat.le_of_ble_eq_true rfl, Nat.le_of_ble_eq_true rfl⟩ dX9_readPerson_160 rfl (st := []) (fun x_406940 I_406941 J_406942 h_406943 => ?_)
    obtain ⟨hUI_406941, hFI_406941, hGJ_406942, rx_406940⟩ := h_406943
    have hF_406944 := fq_tr hF_406939 hFI_406941 (by decide)
    have hG_406945 := fq_tr hG_406929 hGJ_406942 (by decide)
    exact g_zret (ty := .boolean) (r := x_406940) B K rfl (nar_z (rx_406940)) ⟨hUI_406941, hF_406944, hG_406945, rx_406940⟩ dX9_readPerson_163
  refine g_aload_n C 0 dX9_readPerson_0 rfl rfl ?_
  refine g_getR C K hLx hkx f_9_12 hb_406914 dX9_readPerson_1 ?_
  obtain ⟨x_406946, hx_406946, rx_406946⟩ := ex_get (I := I) (a := b_406914) (j := 5) (lo := 0) (hi := 7) hU hb_406914L (ro_o hb_406914k (by decide)) rfl
  refine g_getI C K hb_406914L hb_406914k f_9_85 (v := x_406946) hx_406946 dX9_readPerson_4 ?_
  refine g_bipush C (v := 7) dX9_readPerson_7 (by decide) ?_
  refine g_icmp_lt C (tgt := 18) dX9_readPerson_9 (by decide) (fun h_406947 => ?_) (fun h_406947 => ?_)
  · skip
    have r_406948 := lt_l (hi := 6) (h_406947) rx_406946 rc_7 (by decide)
    refine g_aload_n C 1 dX9_readPerson_18 rfl rfl ?_
    refine g_callVV C K (c_X10_advance W9 hLa0 hka0   hU) hLa0 hka0 (by decide) rfl v_9_82 rfl ⟨rfl, rfl⟩ ⟨Nat.le_of_ble_eq_true rfl, Nat.le_of_ble_eq_true rfl⟩ (Nat.le_of_ble_eq_true rfl) ⟨Nat.le_of_ble_eq_true rfl, Nat.le_of_ble_eq_true rfl⟩ dX9_readPerson_19 rfl (st := []) (fun I_406950 J_406951 h_406952 => ?_)
    obtain ⟨hUI_406950, hFI_406950, hGJ_406951⟩ := h_406952
    have hF_406953 := fq_tr hF hFI_406950 (by decide)
    have hG_406954 := fq_tr hG hGJ_406951 (by decide)
    refine g_aload_n C 1 dX9_readPerson_22 rfl rfl ?_
    obtain ⟨y_406955, hy_406955⟩ : ∃ z, J_406951 a0 10 = z := ⟨_, rfl⟩
    refine g_getJ C K hLa0 hka0 f_9_71 (v := y_406955) hy_406955 dX9_readPerson_23 ?_
    refine g_lstore_n C dX9_readPerson_26 rfl (by decide) (lo2 := [(2, .long y_406955), (0, .ref x), (1, .ref a0)]) rfl ?_
    refine g_aload_n C 1 dX9_readPerson_27 rfl rfl ?_
    refine g_aload_n C 2 dX9_readPerson_28 rfl rfl ?_
    refine g_callVI C K (c_X9_newName W9 hLx hkx hLa0 hka0  hUI_406950) hLx hkx (by decide) rfl v_9_88 rfl ⟨rfl, rfl⟩ ⟨Nat.le_of_ble_eq_true rfl, Nat.le_of_ble_eq_true rfl⟩ (Nat.le_of_ble_eq_true rfl) ⟨Nat.le_of_ble_eq_true rfl, Nat.le_of_ble_eq_true rfl⟩ dX9_readPerson_29 rfl (st := []) (fun x_406956 I_406957 J_406958 h_406959 => ?_)
    obtain ⟨hUI_406957, hFI_406957, hGJ_406958, rx_406956⟩ := h_406959
    have hF_406960 := fq_tr hF_406953 hFI_406957 (by decide)
    have hG_406961 := fq_tr hG_406954 hGJ_406958 (by decide)
    refine g_if_ne C (tgt := 37) dX9_readPerson_32 (by decide) (fun h_406962 => ?_) (fun h_406962 => ?_)
    · skip
      have n_406963 : ¬ x_406956 = 0 := h_406962
      have r_406964 := ne_lo (lo := 1) n_406963 rx_406956 rc_0 rfl (by decide)
      refine g_aload_n C 2 dX9_readPerson_37 rfl rfl ?_
      refine g_iconst C (v := 0) dX9_readPerson_38 (by decide) ?_
      refine g_bipush C (v := 20) dX9_readPerson_39 (by decide) ?_
      refine g_callVI C K (c_X10_takeNumber W9 hLa0 hka0 0 20 (rg_w rc_0 (by decide) (by decide)) (rg_w rc_20 (by decide) (by decide)) hUI_406957) hLa0 hka0 (by decide) rfl v_9_91 rfl ⟨rfl, rfl⟩ ⟨Nat.le_of_ble_eq_true rfl, Nat.le_of_ble_eq_true rfl⟩ (Nat.le_of_ble_eq_true rfl) ⟨Nat.le_of_ble_eq_true rfl, Nat.le_of_ble_eq_true rfl⟩ dX9_readPerson_41 rfl (st := []) (fun x_406965 I_406966 J_406967 h_406968 => ?_)
      obtain ⟨hUI_406966, hFI_406966, hGJ_406967, rx_406965⟩ := h_406968
      have hF_406969 := fq_tr hF_406960 hFI_406966 (by decide)
      have hG_406970 := fq_tr hG_406961 hGJ_406967 (by decide)
      refine g_istore C dX9_readPerson_44 (by decide) (lo2 := [(4, .int x_406965), (2, .long y_406955), (0, .ref x), (1, .ref a0)]) rfl ?_
      refine g_iload C 0 dX9_readPerson_46 rfl ?_
      refine g_iconst C (v := (-1)) dX9_readPerson_48 (by decide) ?_
      refine g_icmp_ne C (tgt := 54) dX9_readPerson_49 (by decide) (fun h_406971 => ?_) (fun h_406971 => ?_)
      · skip
        have n_406972 : ¬ x_406965 = (-1) := h_406971
        refine g_iconst C (v := (-1)) dX9_readPerson_54 (by decide) ?_
        refine g_istore C dX9_readPerson_55 (by decide) (lo2 := [(5, .int (-1)), (4, .int x_406965), (2, .long y_406955), (0, .ref x), (1, .ref a0)]) rfl ?_
        refine g_aload_n C 4 dX9_readPerson_57 rfl rfl ?_
        obtain ⟨x_406973, hx_406973, rx_406973⟩ := ex_get (I := I_406966) (a := a0) (j := 8) (lo := (-2147483648)) (hi := 2147483647) hUI_406966 hLa0 (ro_o hka0 (by decide)) rfl
        refine g_getI C K hLa0 hka0 f_9_44 (v := x_406973) hx_406973 dX9_readPerson_58 ?_
        refine g_iconst C (v := 5) dX9_readPerson_61 (by decide) ?_
        refine g_icmp_ne C (tgt := 94) dX9_readPerson_62 (by decide) (fun h_406974 => ?_) (fun h_406974 => ?_)
        · skip
          have n_406975 : ¬ x_406973 = 5 := h_406974
          have q_406976 := (fq_at hFI_406966 hb_406914L hb_406914k (by decide) (by decide) (fq_at hFI_406957 hb_406914L hb_406914k (by decide) (by decide) (fq_at hFI_406950 hb_406914L hb_406914k (by decide) (by decide) hx_406946)))
          refine g_lo (is := [3, 4, 2, 1, 0]) (lo2 := [(0, .ref x), (1, .ref a0), (2, .long y_406955), (4, .int x_406965), (5, .int (-1))]) rfl ?_
          exact j_94 I_406966 J_406967 hUI_406966 hF_406969 hG_406970 y_406955 x_406965 (n_406972) (-1) (rg_w rc_m1 (by decide) (by decide)) x_406946 (r_406948) q_406976
        · skip
          have r_406977 := (⟨(eq_rg (h_406974) rc_5).1, (eq_rg (h_406974) rc_5).2⟩ : Rg 5 5 x_406973)
          refine g_aload_n C 4 dX9_readPerson_65 rfl rfl ?_
          refine g_callVV C K (c_X10_advance W9 hLa0 hka0   hUI_406966) hLa0 hka0 (by decide) rfl v_9_82 rfl ⟨rfl, rfl⟩ ⟨Nat.le_of_ble_eq_true rfl, Nat.le_of_ble_eq_true rfl⟩ (Nat.le_of_ble_eq_true rfl) ⟨Nat.le_of_ble_eq_true rfl, Nat.le_of_ble_eq_true rfl⟩ dX9_readPerson_66 rfl (st := []) (fun I_406979 J_406980 h_406981 => ?_)
          obtain ⟨hUI_406979, hFI_406979, hGJ_406980⟩ := h_406981
          have hF_406982 := fq_tr hF_406969 hFI_406979 (by decide)
          have hG_406983 := fq_tr hG_406970 hGJ_406980 (by decide)
          refine g_aload_n C 4 dX9_readPerson_69 rfl rfl ?_
          refine g_aload_n C 3 dX9_readPerson_70 rfl rfl ?_
          refine g_getR C K hLx hkx f_9_12 hb_406914 dX9_readPerson_71 ?_
          refine g_aload_n C 4 dX9_readPerson_74 rfl rfl ?_
          obtain ⟨y_406984, hy_406984⟩ : ∃ z, J_406980 a0 10 = z := ⟨_, rfl⟩
          refine g_getJ C K hLa0 hka0 f_9_71 (v := y_406984) hy_406984 dX9_readPerson_75 ?_
          refine g_callVI C K (c_X8_personNamed W9 hb_406914L hb_406914k y_406984  hUI_406979) hb_406914L hb_406914k (by decide) rfl v_9_75 rfl ⟨rfl, rfl⟩ ⟨Nat.le_of_ble_eq_true rfl, Nat.le_of_ble_eq_true rfl⟩ (Nat.le_of_ble_eq_true rfl) ⟨Nat.le_of_ble_eq_true rfl, Nat.le_of_ble_eq_true rfl⟩ dX9_readPerson_78 rfl (st := [.ref a0]) (fun x_406985 I_406986 J_406987 h_406988 => ?_)
          obtain ⟨rfl, rfl, rx_406985⟩ := h_406988
          refine g_callVI C K (c_X10_takeName W9 hLa0 hka0 x_406985 (rx_406985) hUI_406979) hLa0 hka0 (by decide) rfl v_9_95 rfl ⟨rfl, rfl⟩ ⟨Nat.le_of_ble_eq_true rfl, Nat.le_of_ble_eq_true rfl⟩ (Nat.le_of_ble_eq_true rfl) ⟨Nat.le_of_ble_eq_true rfl, Nat.le_of_ble_eq_true rfl⟩ dX9_readPerson_81 rfl (st := []) (fun x_406989 I_406990 J_406991 h_406992 => ?_)
          obtain ⟨hUI_406990, hFI_406990, hGJ_406991, rx_406989⟩ := h_406992
          have hF_406993 := fq_tr hF_406982 hFI_406990 (by decide)
          have hG_406994 := fq_tr hG_406983 hGJ_406991 (by decide)
          refine g_istore C dX9_readPerson_84 (by decide) (lo2 := [(5, .int x_406989), (4, .int x_406965), (2, .long y_406955), (0, .ref x), (1, .ref a0)]) rfl ?_
          refine g_iload C 0 dX9_readPerson_86 rfl ?_
          refine g_iconst C (v := (-1)) dX9_readPerson_88 (by decide) ?_
          refine g_icmp_ne C (tgt := 94) dX9_readPerson_89 (by decide) (fun h_406995 => ?_) (fun h_406995 => ?_)
          · skip
            have n_406996 : ¬ x_406989 = (-1) := h_406995
            have r_406997 := ne_lo (lo := 0) n_406996 rx_406989 rc_m1 rfl (by decide)
            have q_406998 := (fq_at hFI_406990 hb_406914L hb_406914k (by decide) (by decide) (fq_at hFI_406979 hb_406914L hb_406914k (by decide) (by decide) (fq_at hFI_406966 hb_406914L hb_406914k (by decide) (by decide) (fq_at hFI_406957 hb_406914L hb_406914k (by decide) (by decide) (fq_at hFI_406950 hb_406914L hb_406914k (by decide) (by decide) hx_406946)))))
            refine g_lo (is := [3, 4, 2, 1, 0]) (lo2 := [(0, .ref x), (1, .ref a0), (2, .long y_406955), (4, .int x_406965), (5, .int x_406989)]) rfl ?_
            exact j_94 I_406990 J_406991 hUI_406990 hF_406993 hG_406994 y_406955 x_406965 (n_406972) x_406989 (rg_w r_406997 (by decide) (by decide)) x_406946 (r_406948) q_406998
          · skip
            have r_406999 := (⟨(rx_406989).1, (eq_rg (h_406995) rc_m1).2⟩ : Rg (-1) (-1) x_406989)
            refine g_iconst C (v := 0) dX9_readPerson_92 (by decide) ?_
            exact g_zret (ty := .boolean) (r := 0) B K rfl (rfl) ⟨hUI_406990, hF_406993, hG_406994, rg_w rc_0 (by decide) (by decide)⟩ dX9_readPerson_93
      · skip
        have r_407000 := (⟨(eq_rg (h_406971) rc_m1).1, (eq_rg (h_406971) rc_m1).2⟩ : Rg (-1) (-1) x_406965)
        refine g_iconst C (v := 0) dX9_readPerson_52 (by decide) ?_
        exact g_zret (ty := .boolean) (r := 0) B K rfl (rfl) ⟨hUI_406966, hF_406969, hG_406970, rg_w rc_0 (by decide) (by decide)⟩ dX9_readPerson_53
    · skip
      have r_407001 := (⟨(rx_406956).1, (eq_rg (h_406962) rc_0).2⟩ : Rg 0 0 x_406956)
      refine g_iconst C (v := 0) dX9_readPerson_35 (by decide) ?_
      exact g_zret (ty := .boolean) (r := 0) B K rfl (rfl) ⟨hUI_406957, hF_406960, hG_406961, rg_w rc_0 (by decide) (by decide)⟩ dX9_readPerson_36
  · skip
    have r_407002 := le_r (nlt h_406947) rc_7 rx_406946
    refine g_aload_n C 1 dX9_readPerson_12 rfl rfl ?_
    refine g_iconst C (v := 4) dX9_readPerson_13 (by decide) ?_
    refine g_callVI C K (c_X10_fail W9 hLa0 hka0 4 (rg_w rc_4 (by decide) (by decide)) hU) hLa0 hka0 (by decide) rfl v_9_67 rfl ⟨rfl, rfl⟩ ⟨Nat.le_of_ble_eq_true rfl, Nat.le_of_ble_eq_true rfl⟩ (Nat.le_of_ble_eq_true rfl) ⟨Nat.le_of_ble_eq_true rfl, Nat.le_of_ble_eq_true rfl⟩ dX9_readPerson_14 rfl (st := []) (fun x_407003 I_407004 J_407005 h_407006 => ?_)
    obtain ⟨hUI_407004, hFI_407004, hGJ_407005, rx_407003⟩ := h_407006
    have hF_407007 := fq_tr hF hFI_407004 (by decide)
    have hG_407008 := fq_tr hG hGJ_407005 (by decide)
    exact g_zret (ty := .boolean) (r := x_407003) B K rfl (nar_z (rg_w rx_407003 (by decide) (by decide))) ⟨hUI_407004, hF_407007, hG_407008, rg_w rx_407003 (by decide) (by decide)⟩ dX9_readPerson_17
set_option maxRecDepth 100000 in
set_option maxHeartbeats 8000000 in
theorem c_X11_fault {l : Launch} {D : va_G} {cy : Nat → ClassId} {L : List Nat} {κ ln : Nat → Nat} {R : Nat → Nat → Option Nat} {I : Nat → Nat → Int32} {J : Nat → Nat → Int64} {ow : Nat → Nat × Nat} (W9 : ∀ a ∈ L, Shp L κ ln R ow a) {x : Nat} (hLx : x ∈ L) (hkx : κ x = 11) (hU : Uv L κ ow I) : CtI l yX11_fault cX11_fault 1 (some .int) { frames := 0, cells := 0, slots := 0, locals := 0 } D cy L κ ln R I J [.ref x] (fun r I2 J2 => I = I2 ∧ J = J2 ∧ Rg (-2147483648) 2147483647 r) := by
  refine CtI.of (by decide +kernel) (Nat.le_of_ble_eq_true rfl) ?_
  intro p e s m below meth c B K
  have C := B.1
  obtain ⟨b_407013, hb_407013, hb_407013L, hb_407013k⟩ := shp_o (W9 x hLx) hkx 0 10 rfl (by decide)
  refine g_lo (is := [0]) (lo2 := [(0, .ref x)]) rfl ?_
  refine g_aload_n C 0 dX11_fault_0 rfl rfl ?_
  refine g_getR C K hLx hkx f_11_10 hb_407013 dX11_fault_1 ?_
  obtain ⟨x_407014, hx_407014, rx_407014⟩ := ex_get (I := I) (a := b_407013) (j := 11) (lo := (-2147483648)) (hi := 2147483647) hU hb_407013L (ro_o hb_407013k (by decide)) rfl
  refine g_getI C K hb_407013L hb_407013k f_11_113 (v := x_407014) hx_407014 dX11_fault_4 ?_
  exact g_zret (ty := .int) (r := x_407014) B K rfl (rfl) ⟨rfl, rfl, rx_407014⟩ dX11_fault_7
set_option maxRecDepth 100000 in
set_option maxHeartbeats 8000000 in
theorem c_X8_hasDish {l : Launch} {D : va_G} {cy : Nat → ClassId} {L : List Nat} {κ ln : Nat → Nat} {R : Nat → Nat → Option Nat} {I : Nat → Nat → Int32} {J : Nat → Nat → Int64} {ow : Nat → Nat × Nat} (W9 : ∀ a ∈ L, Shp L κ ln R ow a) {x : Nat} (hLx : x ∈ L) (hkx : κ x = 8) (a0 : Int32) (hU : Uv L κ ow I) : CtI l yX8_hasDish cX8_hasDish 2 (some .boolean) { frames := 0, cells := 0, slots := 0, locals := 0 } D cy L κ ln R I J [.ref x, .int a0] (fun r I2 J2 => I = I2 ∧ J = J2 ∧ Rg 0 1 r ∧ (¬ r = 0 → Rg 0 5 a0)) := by
  refine CtI.of (by decide +kernel) (Nat.le_of_ble_eq_true rfl) ?_
  intro p e s m below meth c B K
  have C := B.1
  refine g_lo (is := [0, 1]) (lo2 := [(0, .ref x), (1, .int a0)]) rfl ?_
  refine g_iload_n C 1 dX8_hasDish_0 rfl rfl ?_
  refine g_if_lt C (tgt := 16) dX8_hasDish_1 (by decide) (fun h_407029 => ?_) (fun h_407029 => ?_)
  · skip
    have r_407030 := lt_l (hi := (-1)) (h_407029) (rg_all a0) rc_0 (by decide)
    refine g_iconst C (v := 0) dX8_hasDish_16 (by decide) ?_
    exact g_zret (ty := .boolean) (r := 0) B K rfl (rfl) ⟨rfl, rfl, rg_w rc_0 (by decide) (by decide), (fun q => absurd rfl q)⟩ dX8_hasDish_17
  · skip
    have r_407031 := le_r (nlt h_407029) rc_0 (rg_all a0)
    refine g_iload_n C 1 dX8_hasDish_4 rfl rfl ?_
    refine g_aload_n C 0 dX8_hasDish_5 rfl rfl ?_
    obtain ⟨x_407032, hx_407032, rx_407032⟩ := ex_get (I := I) (a := x) (j := 6) (lo := 0) (hi := 6) hU hLx (ro_o hkx (by decide)) rfl
    refine g_getI C K hLx hkx f_8_32 (v := x_407032) hx_407032 dX8_hasDish_6 ?_
    refine g_icmp_ge C (tgt := 16) dX8_hasDish_9 (by decide) (fun h_407033 => ?_) (fun h_407033 => ?_)
    · skip
      refine g_iconst C (v := 0) dX8_hasDish_16 (by decide) ?_
      exact g_zret (ty := .boolean) (r := 0) B K rfl (rfl) ⟨rfl, rfl, rg_w rc_0 (by decide) (by decide), (fun q => absurd rfl q)⟩ dX8_hasDish_17
    · skip
      have r_407034 := lt_l (hi := 5) (nle h_407033) r_407031 rx_407032 (by decide)
      have r_407035 := lt_r (lo := 1) (nle h_407033) r_407031 rx_407032 (by decide)
      refine g_iconst C (v := 1) dX8_hasDish_12 (by decide) ?_
      refine g_goto C (tgt := 17) dX8_hasDish_13 (by decide) ?_
      exact g_zret (ty := .boolean) (r := 1) B K rfl (rfl) ⟨rfl, rfl, rg_w rc_1 (by decide) (by decide), (fun _ => r_407034)⟩ dX8_hasDish_17
set_option maxRecDepth 100000 in
set_option maxHeartbeats 8000000 in
theorem c_X8_hasPerson {l : Launch} {D : va_G} {cy : Nat → ClassId} {L : List Nat} {κ ln : Nat → Nat} {R : Nat → Nat → Option Nat} {I : Nat → Nat → Int32} {J : Nat → Nat → Int64} {ow : Nat → Nat × Nat} (W9 : ∀ a ∈ L, Shp L κ ln R ow a) {x : Nat} (hLx : x ∈ L) (hkx : κ x = 8) (a0 : Int32) (hU : Uv L κ ow I) : CtI l yX8_hasPerson cX8_hasPerson 2 (some .boolean) { frames := 0, cells := 0, slots := 0, locals := 0 } D cy L κ ln R I J [.ref x, .int a0] (fun r I2 J2 => I = I2 ∧ J = J2 ∧ Rg 0 1 r ∧ (¬ r = 0 → Rg 0 6 a0)) := by
  refine CtI.of (by decide +kernel) (Nat.le_of_ble_eq_true rfl) ?_
  intro p e s m below meth c B K
  have C := B.1
  refine g_lo (is := [0, 1]) (lo2 := [(0, .ref x), (1, .int a0)]) rfl ?_
  refine g_iload_n C 1 dX8_hasPerson_0 rfl rfl ?_
  refine g_if_lt C (tgt := 16) dX8_hasPerson_1 (by decide) (fun h_407050 => ?_) (fun h_407050 => ?_)
  · skip
    have r_407051 := lt_l (hi := (-1)) (h_407050) (rg_all a0) rc_0 (by decide)
    refine g_iconst C (v := 0) dX8_hasPerson_16 (by decide) ?_
    exact g_zret (ty := .boolean) (r := 0) B K rfl (rfl) ⟨rfl, rfl, rg_w rc_0 (by decide) (by decide), (fun q => absurd rfl q)⟩ dX8_hasPerson_17
  · skip
    have r_407052 := le_r (nlt h_407050) rc_0 (rg_all a0)
    refine g_iload_n C 1 dX8_hasPerson_4 rfl rfl ?_
    refine g_aload_n C 0 dX8_hasPerson_5 rfl rfl ?_
    obtain ⟨x_407053, hx_407053, rx_407053⟩ := ex_get (I := I) (a := x) (j := 5) (lo := 0) (hi := 7) hU hLx (ro_o hkx (by decide)) rfl
    refine g_getI C K hLx hkx f_8_28 (v := x_407053) hx_407053 dX8_hasPerson_6 ?_
    refine g_icmp_ge C (tgt := 16) dX8_hasPerson_9 (by decide) (fun h_407054 => ?_) (fun h_407054 => ?_)
    · skip
      refine g_iconst C (v := 0) dX8_hasPerson_16 (by decide) ?_
      exact g_zret (ty := .boolean) (r := 0) B K rfl (rfl) ⟨rfl, rfl, rg_w rc_0 (by decide) (by decide), (fun q => absurd rfl q)⟩ dX8_hasPerson_17
    · skip
      have r_407055 := lt_l (hi := 6) (nle h_407054) r_407052 rx_407053 (by decide)
      have r_407056 := lt_r (lo := 1) (nle h_407054) r_407052 rx_407053 (by decide)
      refine g_iconst C (v := 1) dX8_hasPerson_12 (by decide) ?_
      refine g_goto C (tgt := 17) dX8_hasPerson_13 (by decide) ?_
      exact g_zret (ty := .boolean) (r := 1) B K rfl (rfl) ⟨rfl, rfl, rg_w rc_1 (by decide) (by decide), (fun _ => r_407055)⟩ dX8_hasPerson_17
set_option maxRecDepth 100000 in
set_option maxHeartbeats 8000000 in
theorem c_X8_everybody {l : Launch} {D : va_G} {cy : Nat → ClassId} {L : List Nat} {κ ln : Nat → Nat} {R : Nat → Nat → Option Nat} {I : Nat → Nat → Int32} {J : Nat → Nat → Int64} {ow : Nat → Nat × Nat} (W9 : ∀ a ∈ L, Shp L κ ln R ow a) {x : Nat} (hLx : x ∈ L) (hkx : κ x = 8) (hU : Uv L κ ow I) : CtI l yX8_everybody cX8_everybody 1 (some .int) { frames := 0, cells := 0, slots := 0, locals := 0 } D cy L κ ln R I J [.ref x] (fun r I2 J2 => I = I2 ∧ J = J2 ∧ Rg 0 127 r) := by
  refine CtI.of (by decide +kernel) (Nat.le_of_ble_eq_true rfl) ?_
  intro p e s m below meth c B K
  have C := B.1
  refine g_lo (is := [0]) (lo2 := [(0, .ref x)]) rfl ?_
  refine g_iconst C (v := 1) dX8_everybody_0 (by decide) ?_
  refine g_aload_n C 0 dX8_everybody_1 rfl rfl ?_
  obtain ⟨x_407063, hx_407063, rx_407063⟩ := ex_get (I := I) (a := x) (j := 5) (lo := 0) (hi := 7) hU hLx (ro_o hkx (by decide)) rfl
  refine g_getI C K hLx hkx f_8_28 (v := x_407063) hx_407063 dX8_everybody_2 ?_
  obtain ⟨x_407064, hx_407064, rx_407064⟩ := ex_shl (x := 1) (y := x_407063) 7 128 rfl (rx_407063) (by decide)
  refine g_ishl C (v := x_407064) dX8_everybody_5 hx_407064 ?_
  refine g_iconst C (v := 1) dX8_everybody_6 (by decide) ?_
  obtain ⟨x_407065, hx_407065, rx_407065, tx_407065⟩ := ex_sub 0 127 rx_407064 rc_1 (by decide) (by decide) (by decide) (by decide)
  refine g_isub C (v := x_407065) dX8_everybody_7 hx_407065 ?_
  exact g_zret (ty := .int) (r := x_407065) B K rfl (rfl) ⟨rfl, rfl, rx_407065⟩ dX8_everybody_8
set_option maxRecDepth 100000 in
set_option maxHeartbeats 8000000 in
theorem c_X1_allEaten {l : Launch} {D : va_G} {cy : Nat → ClassId} {L : List Nat} {κ ln : Nat → Nat} {R : Nat → Nat → Option Nat} {I : Nat → Nat → Int32} {J : Nat → Nat → Int64} {ow : Nat → Nat × Nat} (W9 : ∀ a ∈ L, Shp L κ ln R ow a) {x : Nat} (hLx : x ∈ L) (hkx : κ x = 1) (hU : Uv L κ ow I) : CtI l yX1_allEaten cX1_allEaten 3 (some .int) { frames := 0, cells := 0, slots := 0, locals := 0 } D cy L κ ln R I J [.ref x] (fun r I2 J2 => I = I2 ∧ J = J2 ∧ Rg (-2147483648) 2147483647 r) := by
  refine CtI.of (by decide +kernel) (Nat.le_of_ble_eq_true rfl) ?_
  intro p e s m below meth c B K
  have C := B.1
  obtain ⟨b_407130, hb_407130, hb_407130L, hb_407130k⟩ := shp_o (W9 x hLx) hkx 0 8 rfl (by decide)
  obtain ⟨b_407131, hb_407131, hb_407131L, hb_407131k, hb_407131n, hb_407131o⟩ := shp_a (W9 x hLx) hkx 4 14 7 rfl (by decide)
  refine g_lo (is := [0]) (lo2 := [(0, .ref x)]) rfl ?_
  have l_4 : ∀ (n_4 : Nat) (v_407132 : Int32) (v_407133 : Int32) (rv_407133 : Rg 0 7 v_407133) (hm_407134 : 7 < (v_407133 : Int32).toInt + (n_4 : Int)), WG p l e { frames := 0, cells := 0, slots := 0, locals := 0 } s m ([.ref x] : List Value).toArray below meth c 3 0 0 (MQ below (Qi_ D cy L κ ln R (fun r I2 J2 => I = I2 ∧ J = J2 ∧ Rg (-2147483648) 2147483647 r)) ([.ref x] : List Value).toArray s 0 0 (Al_ L)) D cy (Al_ L) s.heap L κ ln R I J 4 [(0, .ref x), (1, .int v_407132), (2, .int v_407133)] [] := by
    intro n_4
    induction n_4 with
    | zero =>
      intro v_407132 v_407133 rv_407133 hm_407134
      exact ms_0 rv_407133 hm_407134
    | succ n_4 ih_4 =>
      intro v_407132 v_407133 rv_407133 hm_407134
      refine g_iload_n C 2 dX1_allEaten_4 rfl rfl ?_
      refine g_aload_n C 0 dX1_allEaten_5 rfl rfl ?_
      refine g_getR C K hLx hkx f_1_52 hb_407130 dX1_allEaten_6 ?_
      obtain ⟨x_407135, hx_407135, rx_407135⟩ := ex_get (I := I) (a := b_407130) (j := 5) (lo := 0) (hi := 7) hU hb_407130L (ro_o hb_407130k (by decide)) rfl
      refine g_getI C K hb_407130L hb_407130k f_1_68 (v := x_407135) hx_407135 dX1_allEaten_9 ?_
      refine g_icmp_ge C (tgt := 30) dX1_allEaten_12 (by decide) (fun h_407136 => ?_) (fun h_407136 => ?_)
      · skip
        refine g_iload_n C 1 dX1_allEaten_30 rfl rfl ?_
        exact g_zret (ty := .int) (r := v_407132) B K rfl (rfl) ⟨rfl, rfl, (rg_all v_407132)⟩ dX1_allEaten_31
      · skip
        have r_407137 := lt_l (hi := 6) (nle h_407136) rv_407133 rx_407135 (by decide)
        have r_407138 := lt_r (lo := 1) (nle h_407136) rv_407133 rx_407135 (by decide)
        refine g_iload_n C 1 dX1_allEaten_15 rfl rfl ?_
        refine g_aload_n C 0 dX1_allEaten_16 rfl rfl ?_
        refine g_getR C K hLx hkx f_1_21 hb_407131 dX1_allEaten_17 ?_
        refine g_iload_n C 2 dX1_allEaten_20 rfl rfl ?_
        obtain ⟨x_407139, hx_407139, rx_407139⟩ := ex_get (I := I) (a := b_407131) (j := v_407133.toNatClampNeg) (lo := (-2147483648)) (hi := 2147483647) hU hb_407131L (ro_a hb_407131k (by decide) hb_407131o hkx rfl) (rfl)
        refine h_iald C K hb_407131L hb_407131k (v := x_407139) (v_407133.toNatClampNeg) (rfl) (ix_0 r_407137 (by decide)) (ix_lt r_407137 (by decide) hb_407131n (by decide)) hx_407139 dX1_allEaten_21 ?_
        obtain ⟨x_407140, hx_407140, rx_407140⟩ := ex_any (z0 := v_407132 + x_407139)
        refine g_iadd C (v := x_407140) dX1_allEaten_22 hx_407140 ?_
        refine g_istore_n C dX1_allEaten_23 rfl (by decide) (lo2 := [(1, .int x_407140), (0, .ref x), (2, .int v_407133)]) rfl ?_
        obtain ⟨x_407141, hx_407141, rx_407141, tx_407141⟩ := ex_add (y := 1) 1 7 r_407137 rc_1 (by decide) (by decide) (by decide) (by decide)
        refine g_iinc C dX1_allEaten_24 (k := 2) (v := x_407141) rfl hx_407141 (by decide) (lo2 := [(2, .int x_407141), (1, .int x_407140), (0, .ref x)]) rfl ?_
        refine g_goto C (tgt := 4) dX1_allEaten_27 (by decide) ?_
        refine g_lo (is := [2, 1, 0]) (lo2 := [(0, .ref x), (1, .int x_407140), (2, .int x_407141)]) rfl ?_
        exact ih_4 x_407140 x_407141 (rg_w rx_407141 (by decide) (by decide)) (ms_1 hm_407134 (ti_k tx_407141 rc_1) (by decide))
  refine g_iconst C (v := 0) dX1_allEaten_0 (by decide) ?_
  refine g_istore_n C dX1_allEaten_1 rfl (by decide) (lo2 := [(1, .int 0), (0, .ref x)]) rfl ?_
  refine g_iconst C (v := 0) dX1_allEaten_2 (by decide) ?_
  refine g_istore_n C dX1_allEaten_3 rfl (by decide) (lo2 := [(2, .int 0), (1, .int 0), (0, .ref x)]) rfl ?_
  refine g_lo (is := [2, 1, 0]) (lo2 := [(0, .ref x), (1, .int 0), (2, .int 0)]) rfl ?_
  exact l_4 8 0 0 (rg_w rc_0 (by decide) (by decide)) (ms_s (a := 0) (b := 7) (N := 8) (rg_w rc_0 (by decide) (by decide)) (by decide))
set_option maxRecDepth 100000 in
set_option maxHeartbeats 8000000 in
theorem c_X1_allHunger {l : Launch} {D : va_G} {cy : Nat → ClassId} {L : List Nat} {κ ln : Nat → Nat} {R : Nat → Nat → Option Nat} {I : Nat → Nat → Int32} {J : Nat → Nat → Int64} {ow : Nat → Nat × Nat} (W9 : ∀ a ∈ L, Shp L κ ln R ow a) {x : Nat} (hLx : x ∈ L) (hkx : κ x = 1) (hU : Uv L κ ow I) : CtI l yX1_allHunger cX1_allHunger 3 (some .int) { frames := 0, cells := 0, slots := 0, locals := 0 } D cy L κ ln R I J [.ref x] (fun r I2 J2 => I = I2 ∧ J = J2 ∧ Rg (-2147483648) 2147483647 r) := by
  refine CtI.of (by decide +kernel) (Nat.le_of_ble_eq_true rfl) ?_
  intro p e s m below meth c B K
  have C := B.1
  obtain ⟨b_407206, hb_407206, hb_407206L, hb_407206k⟩ := shp_o (W9 x hLx) hkx 0 8 rfl (by decide)
  obtain ⟨b_407207, hb_407207, hb_407207L, hb_407207k, hb_407207n, hb_407207o⟩ := shp_a (W9 x hLx) hkx 6 14 7 rfl (by decide)
  refine g_lo (is := [0]) (lo2 := [(0, .ref x)]) rfl ?_
  have l_4 : ∀ (n_4 : Nat) (v_407208 : Int32) (v_407209 : Int32) (rv_407209 : Rg 0 7 v_407209) (hm_407210 : 7 < (v_407209 : Int32).toInt + (n_4 : Int)), WG p l e { frames := 0, cells := 0, slots := 0, locals := 0 } s m ([.ref x] : List Value).toArray below meth c 3 0 0 (MQ below (Qi_ D cy L κ ln R (fun r I2 J2 => I = I2 ∧ J = J2 ∧ Rg (-2147483648) 2147483647 r)) ([.ref x] : List Value).toArray s 0 0 (Al_ L)) D cy (Al_ L) s.heap L κ ln R I J 4 [(0, .ref x), (1, .int v_407208), (2, .int v_407209)] [] := by
    intro n_4
    induction n_4 with
    | zero =>
      intro v_407208 v_407209 rv_407209 hm_407210
      exact ms_0 rv_407209 hm_407210
    | succ n_4 ih_4 =>
      intro v_407208 v_407209 rv_407209 hm_407210
      refine g_iload_n C 2 dX1_allHunger_4 rfl rfl ?_
      refine g_aload_n C 0 dX1_allHunger_5 rfl rfl ?_
      refine g_getR C K hLx hkx f_1_52 hb_407206 dX1_allHunger_6 ?_
      obtain ⟨x_407211, hx_407211, rx_407211⟩ := ex_get (I := I) (a := b_407206) (j := 5) (lo := 0) (hi := 7) hU hb_407206L (ro_o hb_407206k (by decide)) rfl
      refine g_getI C K hb_407206L hb_407206k f_1_68 (v := x_407211) hx_407211 dX1_allHunger_9 ?_
      refine g_icmp_ge C (tgt := 30) dX1_allHunger_12 (by decide) (fun h_407212 => ?_) (fun h_407212 => ?_)
      · skip
        refine g_iload_n C 1 dX1_allHunger_30 rfl rfl ?_
        exact g_zret (ty := .int) (r := v_407208) B K rfl (rfl) ⟨rfl, rfl, (rg_all v_407208)⟩ dX1_allHunger_31
      · skip
        have r_407213 := lt_l (hi := 6) (nle h_407212) rv_407209 rx_407211 (by decide)
        have r_407214 := lt_r (lo := 1) (nle h_407212) rv_407209 rx_407211 (by decide)
        refine g_iload_n C 1 dX1_allHunger_15 rfl rfl ?_
        refine g_aload_n C 0 dX1_allHunger_16 rfl rfl ?_
        refine g_getR C K hLx hkx f_1_27 hb_407207 dX1_allHunger_17 ?_
        refine g_iload_n C 2 dX1_allHunger_20 rfl rfl ?_
        obtain ⟨x_407215, hx_407215, rx_407215⟩ := ex_get (I := I) (a := b_407207) (j := v_407209.toNatClampNeg) (lo := (-2147483648)) (hi := 2147483647) hU hb_407207L (ro_a hb_407207k (by decide) hb_407207o hkx rfl) (rfl)
        refine h_iald C K hb_407207L hb_407207k (v := x_407215) (v_407209.toNatClampNeg) (rfl) (ix_0 r_407213 (by decide)) (ix_lt r_407213 (by decide) hb_407207n (by decide)) hx_407215 dX1_allHunger_21 ?_
        obtain ⟨x_407216, hx_407216, rx_407216⟩ := ex_any (z0 := v_407208 + x_407215)
        refine g_iadd C (v := x_407216) dX1_allHunger_22 hx_407216 ?_
        refine g_istore_n C dX1_allHunger_23 rfl (by decide) (lo2 := [(1, .int x_407216), (0, .ref x), (2, .int v_407209)]) rfl ?_
        obtain ⟨x_407217, hx_407217, rx_407217, tx_407217⟩ := ex_add (y := 1) 1 7 r_407213 rc_1 (by decide) (by decide) (by decide) (by decide)
        refine g_iinc C dX1_allHunger_24 (k := 2) (v := x_407217) rfl hx_407217 (by decide) (lo2 := [(2, .int x_407217), (1, .int x_407216), (0, .ref x)]) rfl ?_
        refine g_goto C (tgt := 4) dX1_allHunger_27 (by decide) ?_
        refine g_lo (is := [2, 1, 0]) (lo2 := [(0, .ref x), (1, .int x_407216), (2, .int x_407217)]) rfl ?_
        exact ih_4 x_407216 x_407217 (rg_w rx_407217 (by decide) (by decide)) (ms_1 hm_407210 (ti_k tx_407217 rc_1) (by decide))
  refine g_iconst C (v := 0) dX1_allHunger_0 (by decide) ?_
  refine g_istore_n C dX1_allHunger_1 rfl (by decide) (lo2 := [(1, .int 0), (0, .ref x)]) rfl ?_
  refine g_iconst C (v := 0) dX1_allHunger_2 (by decide) ?_
  refine g_istore_n C dX1_allHunger_3 rfl (by decide) (lo2 := [(2, .int 0), (1, .int 0), (0, .ref x)]) rfl ?_
  refine g_lo (is := [2, 1, 0]) (lo2 := [(0, .ref x), (1, .int 0), (2, .int 0)]) rfl ?_
  exact l_4 8 0 0 (rg_w rc_0 (by decide) (by decide)) (ms_s (a := 0) (b := 7) (N := 8) (rg_w rc_0 (by decide) (by decide)) (by decide))
set_option maxRecDepth 100000 in
set_option maxHeartbeats 8000000 in
theorem c_X11_now {l : Launch} {D : va_G} {cy : Nat → ClassId} {L : List Nat} {κ ln : Nat → Nat} {R : Nat → Nat → Option Nat} {I : Nat → Nat → Int32} {J : Nat → Nat → Int64} {ow : Nat → Nat × Nat} (W9 : ∀ a ∈ L, Shp L κ ln R ow a) {x : Nat} (hLx : x ∈ L) (hkx : κ x = 11) (a0 : Int32) (hU : Uv L κ ow I) : CtI l yX11_now cX11_now 2 (some .int) { frames := 1, cells := 0, slots := 0, locals := 22 } D cy L κ ln R I J [.ref x, .int a0] (fun r I2 J2 => I = I2 ∧ J = J2 ∧ Rg (-2147483648) 2147483647 r) := by
  refine CtI.of (by decide +kernel) (Nat.le_of_ble_eq_true rfl) ?_
  intro p e s m below meth c B K
  have C := B.1
  obtain ⟨b_407296, hb_407296, hb_407296L, hb_407296k⟩ := shp_o (W9 x hLx) hkx 2 1 rfl (by decide)
  refine g_lo (is := [0, 1]) (lo2 := [(0, .ref x), (1, .int a0)]) rfl ?_
  refine g_iload_n C 1 dX11_now_0 rfl rfl ?_
  by_cases c_407297 : a0.toInt = 0
  · skip
    have r_407298 := rg_of (a := 0) (b := 0) 0 c_407297 (by decide) (by decide)
    refine g_tableIn C (tgt := 48) dX11_now_1 (by omega) (by omega) (off := 47) (by rw [c_407297]; rfl) (by decide) ?_
    refine g_aload_n C 0 dX11_now_48 rfl rfl ?_
    refine g_getR C K hLx hkx f_11_28 hb_407296 dX11_now_49 ?_
    obtain ⟨x_407299, hx_407299, rx_407299⟩ := ex_get (I := I) (a := b_407296) (j := 9) (lo := (-2147483648)) (hi := 2147483647) hU hb_407296L (ro_o hb_407296k (by decide)) rfl
    refine g_getI C K hb_407296L hb_407296k f_11_195 (v := x_407299) hx_407299 dX11_now_52 ?_
    exact g_zret (ty := .int) (r := x_407299) B K rfl (rfl) ⟨rfl, rfl, rx_407299⟩ dX11_now_55
  by_cases c_407300 : a0.toInt = 1
  · skip
    have r_407301 := rg_of (a := 1) (b := 1) 1 c_407300 (by decide) (by decide)
    refine g_tableIn C (tgt := 56) dX11_now_1 (by omega) (by omega) (off := 55) (by rw [c_407300]; rfl) (by decide) ?_
    refine g_aload_n C 0 dX11_now_56 rfl rfl ?_
    refine g_getR C K hLx hkx f_11_28 hb_407296 dX11_now_57 ?_
    obtain ⟨x_407302, hx_407302, rx_407302⟩ := ex_get (I := I) (a := b_407296) (j := 7) (lo := (-2147483648)) (hi := 2147483647) hU hb_407296L (ro_o hb_407296k (by decide)) rfl
    refine g_getI C K hb_407296L hb_407296k f_11_151 (v := x_407302) hx_407302 dX11_now_60 ?_
    exact g_zret (ty := .int) (r := x_407302) B K rfl (rfl) ⟨rfl, rfl, rx_407302⟩ dX11_now_63
  by_cases c_407303 : a0.toInt = 2
  · skip
    have r_407304 := rg_of (a := 2) (b := 2) 2 c_407303 (by decide) (by decide)
    refine g_tableIn C (tgt := 64) dX11_now_1 (by omega) (by omega) (off := 63) (by rw [c_407303]; rfl) (by decide) ?_
    refine g_aload_n C 0 dX11_now_64 rfl rfl ?_
    refine g_getR C K hLx hkx f_11_28 hb_407296 dX11_now_65 ?_
    obtain ⟨x_407305, hx_407305, rx_407305⟩ := ex_get (I := I) (a := b_407296) (j := 8) (lo := (-2147483648)) (hi := 2147483647) hU hb_407296L (ro_o hb_407296k (by decide)) rfl
    refine g_getI C K hb_407296L hb_407296k f_11_154 (v := x_407305) hx_407305 dX11_now_68 ?_
    exact g_zret (ty := .int) (r := x_407305) B K rfl (rfl) ⟨rfl, rfl, rx_407305⟩ dX11_now_71
  by_cases c_407306 : a0.toInt = 3
  · skip
    have r_407307 := rg_of (a := 3) (b := 3) 3 c_407306 (by decide) (by decide)
    refine g_tableIn C (tgt := 72) dX11_now_1 (by omega) (by omega) (off := 71) (by rw [c_407306]; rfl) (by decide) ?_
    refine g_aload_n C 0 dX11_now_72 rfl rfl ?_
    refine g_getR C K hLx hkx f_11_28 hb_407296 dX11_now_73 ?_
    obtain ⟨x_407308, hx_407308, rx_407308⟩ := ex_get (I := I) (a := b_407296) (j := 10) (lo := (-2147483648)) (hi := 2147483647) hU hb_407296L (ro_o hb_407296k (by decide)) rfl
    refine g_getI C K hb_407296L hb_407296k f_11_198 (v := x_407308) hx_407308 dX11_now_76 ?_
    exact g_zret (ty := .int) (r := x_407308) B K rfl (rfl) ⟨rfl, rfl, rx_407308⟩ dX11_now_79
  by_cases c_407309 : a0.toInt = 4
  · skip
    have r_407310 := rg_of (a := 4) (b := 4) 4 c_407309 (by decide) (by decide)
    refine g_tableIn C (tgt := 80) dX11_now_1 (by omega) (by omega) (off := 79) (by rw [c_407309]; rfl) (by decide) ?_
    refine g_aload_n C 0 dX11_now_80 rfl rfl ?_
    refine g_getR C K hLx hkx f_11_28 hb_407296 dX11_now_81 ?_
    obtain ⟨x_407311, hx_407311, rx_407311⟩ := ex_get (I := I) (a := b_407296) (j := 11) (lo := (-2147483648)) (hi := 2147483647) hU hb_407296L (ro_o hb_407296k (by decide)) rfl
    refine g_getI C K hb_407296L hb_407296k f_11_201 (v := x_407311) hx_407311 dX11_now_84 ?_
    exact g_zret (ty := .int) (r := x_407311) B K rfl (rfl) ⟨rfl, rfl, rx_407311⟩ dX11_now_87
  by_cases c_407312 : a0.toInt = 5
  · skip
    have r_407313 := rg_of (a := 5) (b := 5) 5 c_407312 (by decide) (by decide)
    refine g_tableIn C (tgt := 88) dX11_now_1 (by omega) (by omega) (off := 87) (by rw [c_407312]; rfl) (by decide) ?_
    refine g_aload_n C 0 dX11_now_88 rfl rfl ?_
    refine g_getR C K hLx hkx f_11_28 hb_407296 dX11_now_89 ?_
    refine g_callVI C K (c_X1_allEaten W9 hb_407296L hb_407296k   hU) hb_407296L hb_407296k (by decide) rfl v_11_204 rfl ⟨rfl, rfl⟩ ⟨Nat.le_of_ble_eq_true rfl, Nat.le_of_ble_eq_true rfl⟩ (Nat.le_of_ble_eq_true rfl) ⟨Nat.le_of_ble_eq_true rfl, Nat.le_of_ble_eq_true rfl⟩ dX11_now_92 rfl (st := []) (fun x_407314 I_407315 J_407316 h_407317 => ?_)
    obtain ⟨rfl, rfl, rx_407314⟩ := h_407317
    exact g_zret (ty := .int) (r := x_407314) B K rfl (rfl) ⟨rfl, rfl, rx_407314⟩ dX11_now_95
  by_cases c_407318 : a0.toInt = 6
  · skip
    have r_407319 := rg_of (a := 6) (b := 6) 6 c_407318 (by decide) (by decide)
    refine g_tableIn C (tgt := 96) dX11_now_1 (by omega) (by omega) (off := 95) (by rw [c_407318]; rfl) (by decide) ?_
    refine g_aload_n C 0 dX11_now_96 rfl rfl ?_
    refine g_getR C K hLx hkx f_11_28 hb_407296 dX11_now_97 ?_
    refine g_callVI C K (c_X1_allHunger W9 hb_407296L hb_407296k   hU) hb_407296L hb_407296k (by decide) rfl v_11_207 rfl ⟨rfl, rfl⟩ ⟨Nat.le_of_ble_eq_true rfl, Nat.le_of_ble_eq_true rfl⟩ (Nat.le_of_ble_eq_true rfl) ⟨Nat.le_of_ble_eq_true rfl, Nat.le_of_ble_eq_true rfl⟩ dX11_now_100 rfl (st := []) (fun x_407320 I_407321 J_407322 h_407323 => ?_)
    obtain ⟨rfl, rfl, rx_407320⟩ := h_407323
    exact g_zret (ty := .int) (r := x_407320) B K rfl (rfl) ⟨rfl, rfl, rx_407320⟩ dX11_now_103
  by_cases c_407324 : a0.toInt = 7
  · skip
    have r_407325 := rg_of (a := 7) (b := 7) 7 c_407324 (by decide) (by decide)
    refine g_tableIn C (tgt := 104) dX11_now_1 (by omega) (by omega) (off := 103) (by rw [c_407324]; rfl) (by decide) ?_
    refine g_aload_n C 0 dX11_now_104 rfl rfl ?_
    refine g_getR C K hLx hkx f_11_28 hb_407296 dX11_now_105 ?_
    obtain ⟨x_407326, hx_407326, rx_407326⟩ := ex_get (I := I) (a := b_407296) (j := 12) (lo := (-2147483648)) (hi := 2147483647) hU hb_407296L (ro_o hb_407296k (by decide)) rfl
    refine g_getI C K hb_407296L hb_407296k f_11_210 (v := x_407326) hx_407326 dX11_now_108 ?_
    exact g_zret (ty := .int) (r := x_407326) B K rfl (rfl) ⟨rfl, rfl, rx_407326⟩ dX11_now_111
  obtain ⟨q_4073271, q_4073272⟩ := (rg_all a0)
  refine g_tableOut C (tgt := 112) dX11_now_1 (by omega) (by decide) ?_
  refine g_iconst C (v := (-1)) dX11_now_112 (by decide) ?_
  exact g_zret (ty := .int) (r := (-1)) B K rfl (rfl) ⟨rfl, rfl, rg_all _⟩ dX11_now_113
set_option maxRecDepth 100000 in
set_option maxHeartbeats 8000000 in
theorem c_X11_count {l : Launch} {D : va_G} {cy : Nat → ClassId} {L : List Nat} {κ ln : Nat → Nat} {R : Nat → Nat → Option Nat} {I : Nat → Nat → Int32} {J : Nat → Nat → Int64} {ow : Nat → Nat × Nat} (W9 : ∀ a ∈ L, Shp L κ ln R ow a) {x : Nat} (hLx : x ∈ L) (hkx : κ x = 11) (a0 : Int32) (hU : Uv L κ ow I) : CtI l yX11_count cX11_count 2 (some .int) { frames := 0, cells := 0, slots := 0, locals := 0 } D cy L κ ln R I J [.ref x, .int a0] (fun r I2 J2 => I = I2 ∧ J = J2 ∧ Rg (-2147483648) 2147483647 r) := by
  refine CtI.of (by decide +kernel) (Nat.le_of_ble_eq_true rfl) ?_
  intro p e s m below meth c B K
  have C := B.1
  obtain ⟨b_407370, hb_407370, hb_407370L, hb_407370k⟩ := shp_o (W9 x hLx) hkx 1 8 rfl (by decide)
  obtain ⟨b_407371, hb_407371, hb_407371L, hb_407371k⟩ := shp_o (W9 x hLx) hkx 0 10 rfl (by decide)
  refine g_lo (is := [0, 1]) (lo2 := [(0, .ref x), (1, .int a0)]) rfl ?_
  refine g_iload_n C 1 dX11_count_0 rfl rfl ?_
  by_cases c_407372 : a0.toInt = 0
  · skip
    have r_407373 := rg_of (a := 0) (b := 0) 0 c_407372 (by decide) (by decide)
    refine g_tableIn C (tgt := 36) dX11_count_1 (by omega) (by omega) (off := 35) (by rw [c_407372]; rfl) (by decide) ?_
    refine g_aload_n C 0 dX11_count_36 rfl rfl ?_
    refine g_getR C K hLx hkx f_11_19 hb_407370 dX11_count_37 ?_
    obtain ⟨x_407374, hx_407374, rx_407374⟩ := ex_get (I := I) (a := b_407370) (j := 5) (lo := 0) (hi := 7) hU hb_407370L (ro_o hb_407370k (by decide)) rfl
    refine g_getI C K hb_407370L hb_407370k f_11_213 (v := x_407374) hx_407374 dX11_count_40 ?_
    exact g_zret (ty := .int) (r := x_407374) B K rfl (rfl) ⟨rfl, rfl, rg_all _⟩ dX11_count_43
  by_cases c_407375 : a0.toInt = 1
  · skip
    have r_407376 := rg_of (a := 1) (b := 1) 1 c_407375 (by decide) (by decide)
    refine g_tableIn C (tgt := 44) dX11_count_1 (by omega) (by omega) (off := 43) (by rw [c_407375]; rfl) (by decide) ?_
    refine g_aload_n C 0 dX11_count_44 rfl rfl ?_
    refine g_getR C K hLx hkx f_11_19 hb_407370 dX11_count_45 ?_
    obtain ⟨x_407377, hx_407377, rx_407377⟩ := ex_get (I := I) (a := b_407370) (j := 6) (lo := 0) (hi := 6) hU hb_407370L (ro_o hb_407370k (by decide)) rfl
    refine g_getI C K hb_407370L hb_407370k f_11_216 (v := x_407377) hx_407377 dX11_count_48 ?_
    exact g_zret (ty := .int) (r := x_407377) B K rfl (rfl) ⟨rfl, rfl, rg_all _⟩ dX11_count_51
  by_cases c_407378 : a0.toInt = 2
  · skip
    have r_407379 := rg_of (a := 2) (b := 2) 2 c_407378 (by decide) (by decide)
    refine g_tableIn C (tgt := 52) dX11_count_1 (by omega) (by omega) (off := 51) (by rw [c_407378]; rfl) (by decide) ?_
    refine g_aload_n C 0 dX11_count_52 rfl rfl ?_
    refine g_getR C K hLx hkx f_11_19 hb_407370 dX11_count_53 ?_
    obtain ⟨x_407380, hx_407380, rx_407380⟩ := ex_get (I := I) (a := b_407370) (j := 7) (lo := (-2147483648)) (hi := 2147483647) hU hb_407370L (ro_o hb_407370k (by decide)) rfl
    refine g_getI C K hb_407370L hb_407370k f_11_219 (v := x_407380) hx_407380 dX11_count_56 ?_
    exact g_zret (ty := .int) (r := x_407380) B K rfl (rfl) ⟨rfl, rfl, rx_407380⟩ dX11_count_59
  by_cases c_407381 : a0.toInt = 3
  · skip
    have r_407382 := rg_of (a := 3) (b := 3) 3 c_407381 (by decide) (by decide)
    refine g_tableIn C (tgt := 60) dX11_count_1 (by omega) (by omega) (off := 59) (by rw [c_407381]; rfl) (by decide) ?_
    refine g_aload_n C 0 dX11_count_60 rfl rfl ?_
    refine g_getR C K hLx hkx f_11_19 hb_407370 dX11_count_61 ?_
    obtain ⟨x_407383, hx_407383, rx_407383⟩ := ex_get (I := I) (a := b_407370) (j := 8) (lo := (-2147483648)) (hi := 2147483647) hU hb_407370L (ro_o hb_407370k (by decide)) rfl
    refine g_getI C K hb_407370L hb_407370k f_11_222 (v := x_407383) hx_407383 dX11_count_64 ?_
    exact g_zret (ty := .int) (r := x_407383) B K rfl (rfl) ⟨rfl, rfl, rx_407383⟩ dX11_count_67
  by_cases c_407384 : a0.toInt = 4
  · skip
    have r_407385 := rg_of (a := 4) (b := 4) 4 c_407384 (by decide) (by decide)
    refine g_tableIn C (tgt := 68) dX11_count_1 (by omega) (by omega) (off := 67) (by rw [c_407384]; rfl) (by decide) ?_
    refine g_aload_n C 0 dX11_count_68 rfl rfl ?_
    refine g_getR C K hLx hkx f_11_10 hb_407371 dX11_count_69 ?_
    obtain ⟨x_407386, hx_407386, rx_407386⟩ := ex_get (I := I) (a := b_407371) (j := 5) (lo := 0) (hi := 940) hU hb_407371L (ro_o hb_407371k (by decide)) rfl
    refine g_getI C K hb_407371L hb_407371k f_11_102 (v := x_407386) hx_407386 dX11_count_72 ?_
    exact g_zret (ty := .int) (r := x_407386) B K rfl (rfl) ⟨rfl, rfl, rg_all _⟩ dX11_count_75
  obtain ⟨q_4073871, q_4073872⟩ := (rg_all a0)
  refine g_tableOut C (tgt := 76) dX11_count_1 (by omega) (by decide) ?_
  refine g_iconst C (v := (-1)) dX11_count_76 (by decide) ?_
  exact g_zret (ty := .int) (r := (-1)) B K rfl (rfl) ⟨rfl, rfl, rg_all _⟩ dX11_count_77
set_option maxRecDepth 100000 in
set_option maxHeartbeats 8000000 in
theorem c_X5_keepNoted {l : Launch} {D : va_G} {cy : Nat → ClassId} {L : List Nat} {κ ln : Nat → Nat} {R : Nat → Nat → Option Nat} {I : Nat → Nat → Int32} {J : Nat → Nat → Int64} {ow : Nat → Nat × Nat} (W9 : ∀ a ∈ L, Shp L κ ln R ow a) {x : Nat} (hLx : x ∈ L) (hkx : κ x = 5) (hU : Uv L κ ow I) : CtV l yX5_keepNoted cX5_keepNoted 1 none { frames := 1, cells := 0, slots := 0, locals := 60 } D cy L κ ln R I J [.ref x] (fun I2 J2 => Uv L κ ow I2 ∧ Fq L κ ow [501, 502] I I2 ∧ Fq L κ ow [] J J2) := by
  refine CtV.of (by decide +kernel) (Nat.le_of_ble_eq_true rfl) ?_
  intro p e s m below meth c B K
  have C := B.1
  have hF : Fq L κ ow [501, 502] I I := fq_rf
  have hG : Fq L κ ow [] J J := fq_rf
  refine g_lo (is := [0]) (lo2 := [(0, .ref x)]) rfl ?_
  refine g_aload_n C 0 dX5_keepNoted_0 rfl rfl ?_
  refine g_aload_n C 0 dX5_keepNoted_1 rfl rfl ?_
  obtain ⟨x_407434, hx_407434, rx_407434⟩ := ex_get (I := I) (a := x) (j := 2) (lo := 0) (hi := 8) hU hLx (ro_o hkx (by decide)) rfl
  refine g_getI C K hLx hkx f_5_21 (v := x_407434) hx_407434 dX5_keepNoted_2 ?_
  refine g_iconst C (v := 1) dX5_keepNoted_5 (by decide) ?_
  obtain ⟨x_407435, hx_407435, rx_407435, tx_407435⟩ := ex_add 1 9 rx_407434 rc_1 (by decide) (by decide) (by decide) (by decide)
  refine g_iadd C (v := x_407435) dX5_keepNoted_6 hx_407435 ?_
  refine g_bipush C (v := 9) dX5_keepNoted_7 (by decide) ?_
  refine g_icmp_ge C (tgt := 21) dX5_keepNoted_9 (by decide) (fun h_407436 => ?_) (fun h_407436 => ?_)
  · skip
    have r_407437 := le_r (h_407436) rc_9 rx_407435
    refine g_iconst C (v := 0) dX5_keepNoted_21 (by decide) ?_
    refine h_putI C K hLx hkx f_5_21 p_5_2 dX5_keepNoted_22 (fun I_407438 hI_407438 => ?_)
    have hU_407439 := uv_put hU hI_407438 (ro_o hkx (by decide)) (lo := 0) (hi := 8) rfl (rg_w rc_0 (by decide) (by decide))
    have hF_407440 := fq_puto hF hI_407438 hkx (by decide) (by decide)
    refine g_aload_n C 0 dX5_keepNoted_25 rfl rfl ?_
    refine g_aload_n C 0 dX5_keepNoted_26 rfl rfl ?_
    obtain ⟨x_407441, hx_407441, rx_407441⟩ := ex_get (I := I_407438) (a := x) (j := 1) (lo := 0) (hi := 8) hU_407439 hLx (ro_o hkx (by decide)) rfl
    refine g_getI C K hLx hkx f_5_17 (v := x_407441) hx_407441 dX5_keepNoted_27 ?_
    refine g_iconst C (v := 1) dX5_keepNoted_30 (by decide) ?_
    obtain ⟨x_407442, hx_407442, rx_407442, tx_407442⟩ := ex_add 1 9 rx_407441 rc_1 (by decide) (by decide) (by decide) (by decide)
    refine g_iadd C (v := x_407442) dX5_keepNoted_31 hx_407442 ?_
    refine g_bipush C (v := 8) dX5_keepNoted_32 (by decide) ?_
    obtain ⟨x_407443, hx_407443, rx_407443⟩ := ex_min 1 8 rx_407442 rc_8 (by decide) (by decide) (by decide)
    refine g_mmin C (v := x_407443) mw_5_31 w_min (Nat.le_of_ble_eq_true rfl) (Nat.le_of_ble_eq_true rfl) ⟨Nat.le_of_ble_eq_true rfl, Nat.le_of_ble_eq_true rfl⟩ (hx_407443) dX5_keepNoted_34 ?_
    refine h_putI C K hLx hkx f_5_17 p_5_1 dX5_keepNoted_37 (fun I_407444 hI_407444 => ?_)
    have hU_407445 := uv_put hU_407439 hI_407444 (ro_o hkx (by decide)) (lo := 0) (hi := 8) rfl (rg_w rx_407443 (by decide) (by decide))
    have hF_407446 := fq_puto hF_407440 hI_407444 hkx (by decide) (by decide)
    exact g_vret B K rfl ⟨hU_407445, hF_407446, hG⟩ dX5_keepNoted_40
  · skip
    have r_407447 := lt_l (hi := 8) (nle h_407436) rx_407435 rc_9 (by decide)
    refine g_aload_n C 0 dX5_keepNoted_12 rfl rfl ?_
    refine g_getI C K hLx hkx f_5_21 (v := x_407434) hx_407434 dX5_keepNoted_13 ?_
    refine g_iconst C (v := 1) dX5_keepNoted_16 (by decide) ?_
    refine g_iadd C (v := x_407435) dX5_keepNoted_17 hx_407435 ?_
    refine g_goto C (tgt := 22) dX5_keepNoted_18 (by decide) ?_
    refine h_putI C K hLx hkx f_5_21 p_5_2 dX5_keepNoted_22 (fun I_407448 hI_407448 => ?_)
    have hU_407449 := uv_put hU hI_407448 (ro_o hkx (by decide)) (lo := 0) (hi := 8) rfl (rg_w r_407447 (by decide) (by decide))
    have hF_407450 := fq_puto hF hI_407448 hkx (by decide) (by decide)
    refine g_aload_n C 0 dX5_keepNoted_25 rfl rfl ?_
    refine g_aload_n C 0 dX5_keepNoted_26 rfl rfl ?_
    obtain ⟨x_407451, hx_407451, rx_407451⟩ := ex_get (I := I_407448) (a := x) (j := 1) (lo := 0) (hi := 8) hU_407449 hLx (ro_o hkx (by decide)) rfl
    refine g_getI C K hLx hkx f_5_17 (v := x_407451) hx_407451 dX5_keepNoted_27 ?_
    refine g_iconst C (v := 1) dX5_keepNoted_30 (by decide) ?_
    obtain ⟨x_407452, hx_407452, rx_407452, tx_407452⟩ := ex_add 1 9 rx_407451 rc_1 (by decide) (by decide) (by decide) (by decide)
    refine g_iadd C (v := x_407452) dX5_keepNoted_31 hx_407452 ?_
    refine g_bipush C (v := 8) dX5_keepNoted_32 (by decide) ?_
    obtain ⟨x_407453, hx_407453, rx_407453⟩ := ex_min 1 8 rx_407452 rc_8 (by decide) (by decide) (by decide)
    refine g_mmin C (v := x_407453) mw_5_31 w_min (Nat.le_of_ble_eq_true rfl) (Nat.le_of_ble_eq_true rfl) ⟨Nat.le_of_ble_eq_true rfl, Nat.le_of_ble_eq_true rfl⟩ (hx_407453) dX5_keepNoted_34 ?_
    refine h_putI C K hLx hkx f_5_17 p_5_1 dX5_keepNoted_37 (fun I_407454 hI_407454 => ?_)
    have hU_407455 := uv_put hU_407449 hI_407454 (ro_o hkx (by decide)) (lo := 0) (hi := 8) rfl (rg_w rx_407453 (by decide) (by decide))
    have hF_407456 := fq_puto hF_407450 hI_407454 hkx (by decide) (by decide)
    exact g_vret B K rfl ⟨hU_407455, hF_407456, hG⟩ dX5_keepNoted_40
set_option maxRecDepth 100000 in
set_option maxHeartbeats 8000000 in
theorem c_X11_keptIfDone {l : Launch} {D : va_G} {cy : Nat → ClassId} {L : List Nat} {κ ln : Nat → Nat} {R : Nat → Nat → Option Nat} {I : Nat → Nat → Int32} {J : Nat → Nat → Int64} {ow : Nat → Nat × Nat} (W9 : ∀ a ∈ L, Shp L κ ln R ow a) {x : Nat} (hLx : x ∈ L) (hkx : κ x = 11) (a0 : Int32) (ra0 : Rg 0 3 a0) (hU : Uv L κ ow I) : CtI l yX11_keptIfDone cX11_keptIfDone 2 (some .int) { frames := 2, cells := 0, slots := 0, locals := 80 } D cy L κ ln R I J [.ref x, .int a0] (fun r I2 J2 => Uv L κ ow I2 ∧ Fq L κ ow [501, 502] I I2 ∧ Fq L κ ow [] J J2 ∧ Rg 0 3 r) := by
  refine CtI.of (by decide +kernel) (Nat.le_of_ble_eq_true rfl) ?_
  intro p e s m below meth c B K
  have C := B.1
  have hF : Fq L κ ow [501, 502] I I := fq_rf
  have hG : Fq L κ ow [] J J := fq_rf
  obtain ⟨b_407479, hb_407479, hb_407479L, hb_407479k⟩ := shp_o (W9 x hLx) hkx 4 5 rfl (by decide)
  refine g_lo (is := [0, 1]) (lo2 := [(0, .ref x), (1, .int a0)]) rfl ?_
  refine g_iload_n C 1 dX11_keptIfDone_0 rfl rfl ?_
  refine g_if_ne C (tgt := 11) dX11_keptIfDone_1 (by decide) (fun h_407480 => ?_) (fun h_407480 => ?_)
  · skip
    have n_407481 : ¬ a0 = 0 := h_407480
    have r_407482 := ne_lo (lo := 1) n_407481 ra0 rc_0 rfl (by decide)
    refine g_iload_n C 1 dX11_keptIfDone_11 rfl rfl ?_
    exact g_zret (ty := .int) (r := a0) B K rfl (rfl) ⟨hU, hF, hG, rg_w r_407482 (by decide) (by decide)⟩ dX11_keptIfDone_12
  · skip
    have r_407483 := (⟨(ra0).1, (eq_rg (h_407480) rc_0).2⟩ : Rg 0 0 a0)
    refine g_aload_n C 0 dX11_keptIfDone_4 rfl rfl ?_
    refine g_getR C K hLx hkx f_11_38 hb_407479 dX11_keptIfDone_5 ?_
    refine g_callVV C K (c_X5_keepNoted W9 hb_407479L hb_407479k   hU) hb_407479L hb_407479k (by decide) rfl v_11_260 rfl ⟨rfl, rfl⟩ ⟨Nat.le_of_ble_eq_true rfl, Nat.le_of_ble_eq_true rfl⟩ (Nat.le_of_ble_eq_true rfl) ⟨Nat.le_of_ble_eq_true rfl, Nat.le_of_ble_eq_true rfl⟩ dX11_keptIfDone_8 rfl (st := []) (fun I_407485 J_407486 h_407487 => ?_)
    obtain ⟨hUI_407485, hFI_407485, hGJ_407486⟩ := h_407487
    have hF_407488 := fq_tr hF hFI_407485 (by decide)
    have hG_407489 := fq_tr hG hGJ_407486 (by decide)
    refine g_iload_n C 1 dX11_keptIfDone_11 rfl rfl ?_
    exact g_zret (ty := .int) (r := a0) B K rfl (rfl) ⟨hUI_407485, hF_407488, hG_407489, rg_w r_407483 (by decide) (by decide)⟩ dX11_keptIfDone_12
set_option maxRecDepth 100000 in
set_option maxHeartbeats 8000000 in
theorem c_X1_lives {l : Launch} {D : va_G} {cy : Nat → ClassId} {L : List Nat} {κ ln : Nat → Nat} {R : Nat → Nat → Option Nat} {I : Nat → Nat → Int32} {J : Nat → Nat → Int64} {ow : Nat → Nat × Nat} (W9 : ∀ a ∈ L, Shp L κ ln R ow a) {x : Nat} (hLx : x ∈ L) (hkx : κ x = 1) (a0 : Int32) (ra0 : Rg (-1) 6 a0) (hU : Uv L κ ow I) : CtI l yX1_lives cX1_lives 2 (some .boolean) { frames := 0, cells := 0, slots := 0, locals := 0 } D cy L κ ln R I J [.ref x, .int a0] (fun r I2 J2 => I = I2 ∧ J = J2 ∧ Rg 0 1 r) := by
  refine CtI.of (by decide +kernel) (Nat.le_of_ble_eq_true rfl) ?_
  intro p e s m below meth c B K
  have C := B.1
  refine g_lo (is := [0, 1]) (lo2 := [(0, .ref x), (1, .int a0)]) rfl ?_
  refine g_aload_n C 0 dX1_lives_0 rfl rfl ?_
  obtain ⟨x_407504, hx_407504, rx_407504⟩ := ex_get (I := I) (a := x) (j := 7) (lo := (-2147483648)) (hi := 2147483647) hU hLx (ro_o hkx (by decide)) rfl
  refine g_getI C K hLx hkx f_1_30 (v := x_407504) hx_407504 dX1_lives_1 ?_
  refine g_iload_n C 1 dX1_lives_4 rfl rfl ?_
  obtain ⟨x_407505, hx_407505, rx_407505⟩ := ex_any (z0 := x_407504 >>> (a0 &&& 31))
  refine g_ishr C (v := x_407505) dX1_lives_5 hx_407505 ?_
  refine g_iconst C (v := 1) dX1_lives_6 (by decide) ?_
  obtain ⟨x_407506, hx_407506, rx_407506⟩ := ex_andr (x := x_407505) (y := 1) (b := 1) (rg_w rc_1 (by decide) (by decide))
  refine g_iand C (v := x_407506) dX1_lives_7 hx_407506 ?_
  refine g_if_ne C (tgt := 15) dX1_lives_8 (by decide) (fun h_407507 => ?_) (fun h_407507 => ?_)
  · skip
    have n_407508 : ¬ x_407506 = 0 := h_407507
    have r_407509 := ne_lo (lo := 1) n_407508 rx_407506 rc_0 rfl (by decide)
    refine g_iconst C (v := 0) dX1_lives_15 (by decide) ?_
    exact g_zret (ty := .boolean) (r := 0) B K rfl (rfl) ⟨rfl, rfl, rg_w rc_0 (by decide) (by decide)⟩ dX1_lives_16
  · skip
    have r_407510 := (⟨(rx_407506).1, (eq_rg (h_407507) rc_0).2⟩ : Rg 0 0 x_407506)
    refine g_iconst C (v := 1) dX1_lives_11 (by decide) ?_
    refine g_goto C (tgt := 16) dX1_lives_12 (by decide) ?_
    exact g_zret (ty := .boolean) (r := 1) B K rfl (rfl) ⟨rfl, rfl, rg_w rc_1 (by decide) (by decide)⟩ dX1_lives_16
set_option maxRecDepth 100000 in
set_option maxHeartbeats 8000000 in
theorem c_X5_note {l : Launch} {D : va_G} {cy : Nat → ClassId} {L : List Nat} {κ ln : Nat → Nat} {R : Nat → Nat → Option Nat} {I : Nat → Nat → Int32} {J : Nat → Nat → Int64} {ow : Nat → Nat × Nat} (W9 : ∀ a ∈ L, Shp L κ ln R ow a) {x : Nat} (hLx : x ∈ L) (hkx : κ x = 5) {a0 : Nat} (hLa0 : a0 ∈ L) (hka0 : κ a0 = 1) (hU : Uv L κ ow I) : CtV l yX5_note cX5_note 2 none { frames := 2, cells := 0, slots := 0, locals := 81 } D cy L κ ln R I J [.ref x, .ref a0] (fun I2 J2 => Uv L κ ow I2 ∧ Fq L κ ow [107, 108, 109, 110, 111, 112, 16100, 16200, 16300, 16400, 16500, 16600] I I2 ∧ Fq L κ ow [] J J2) := by
  refine CtV.of (by decide +kernel) (Nat.le_of_ble_eq_true rfl) ?_
  intro p e s m below meth c B K
  have C := B.1
  have hF : Fq L κ ow [107, 108, 109, 110, 111, 112, 16100, 16200, 16300, 16400, 16500, 16600] I I := fq_rf
  have hG : Fq L κ ow [] J J := fq_rf
  obtain ⟨b_407529, hb_407529, hb_407529L, hb_407529k, hb_407529n, hb_407529o⟩ := shp_a (W9 x hLx) hkx 0 17 9 rfl (by decide)
  refine g_lo (is := [0, 1]) (lo2 := [(0, .ref x), (1, .ref a0)]) rfl ?_
  refine g_aload_n C 0 dX5_note_0 rfl rfl ?_
  refine g_getR C K hLx hkx f_5_13 hb_407529 dX5_note_1 ?_
  refine g_aload_n C 0 dX5_note_4 rfl rfl ?_
  obtain ⟨x_407530, hx_407530, rx_407530⟩ := ex_get (I := I) (a := x) (j := 2) (lo := 0) (hi := 8) hU hLx (ro_o hkx (by decide)) rfl
  refine g_getI C K hLx hkx f_5_21 (v := x_407530) hx_407530 dX5_note_5 ?_
  obtain ⟨b_407531, hb_407531, hb_407531L, hb_407531k⟩ := (W9 b_407529 hb_407529L).2.1 hb_407529k (x_407530.toNatClampNeg) (ix_lt rx_407530 (by decide) hb_407529n (by decide))
  refine h_aaldC C K hb_407529L hb_407529k (x_407530.toNatClampNeg) (rfl) (ix_0 rx_407530 (by decide)) (ix_lt rx_407530 (by decide) hb_407529n (by decide)) hb_407531 dX5_note_8 ?_
  refine g_aload_n C 1 dX5_note_9 rfl rfl ?_
  refine g_callVV C K (c_X1_become W9 hb_407531L hb_407531k hLa0 hka0  hU) hb_407531L hb_407531k (by decide) rfl v_5_27 rfl ⟨rfl, rfl⟩ ⟨Nat.le_of_ble_eq_true rfl, Nat.le_of_ble_eq_true rfl⟩ (Nat.le_of_ble_eq_true rfl) ⟨Nat.le_of_ble_eq_true rfl, Nat.le_of_ble_eq_true rfl⟩ dX5_note_10 rfl (st := []) (fun I_407533 J_407534 h_407535 => ?_)
  obtain ⟨hUI_407533, hFI_407533, hGJ_407534⟩ := h_407535
  have hF_407536 := fq_tr hF hFI_407533 (by decide)
  have hG_407537 := fq_tr hG hGJ_407534 (by decide)
  exact g_vret B K rfl ⟨hUI_407533, hF_407536, hG_407537⟩ dX5_note_13
set_option maxRecDepth 100000 in
set_option maxHeartbeats 8000000 in
theorem c_X1_tryToRefuse {l : Launch} {D : va_G} {cy : Nat → ClassId} {L : List Nat} {κ ln : Nat → Nat} {R : Nat → Nat → Option Nat} {I : Nat → Nat → Int32} {J : Nat → Nat → Int64} {ow : Nat → Nat × Nat} (W9 : ∀ a ∈ L, Shp L κ ln R ow a) {x : Nat} (hLx : x ∈ L) (hkx : κ x = 1) (a0 : Int32) (ra0 : Rg (-1) 6 a0) (hU : Uv L κ ow I) : CtI l yX1_tryToRefuse cX1_tryToRefuse 2 (some .int) { frames := 1, cells := 0, slots := 0, locals := 21 } D cy L κ ln R I J [.ref x, .int a0] (fun r I2 J2 => Uv L κ ow I2 ∧ Fq L κ ow [108] I I2 ∧ Fq L κ ow [] J J2 ∧ Rg 0 2 r) := by
  refine CtI.of (by decide +kernel) (Nat.le_of_ble_eq_true rfl) ?_
  intro p e s m below meth c B K
  have C := B.1
  have hF : Fq L κ ow [108] I I := fq_rf
  have hG : Fq L κ ow [] J J := fq_rf
  refine g_lo (is := [0, 1]) (lo2 := [(0, .ref x), (1, .int a0)]) rfl ?_
  refine g_aload_n C 0 dX1_tryToRefuse_0 rfl rfl ?_
  refine g_iload_n C 1 dX1_tryToRefuse_1 rfl rfl ?_
  refine g_callVI C K (c_X1_lives W9 hLx hkx a0 (ra0) hU) hLx hkx (by decide) rfl v_1_115 rfl ⟨rfl, rfl⟩ ⟨Nat.le_of_ble_eq_true rfl, Nat.le_of_ble_eq_true rfl⟩ (Nat.le_of_ble_eq_true rfl) ⟨Nat.le_of_ble_eq_true rfl, Nat.le_of_ble_eq_true rfl⟩ dX1_tryToRefuse_2 rfl (st := []) (fun x_407578 I_407579 J_407580 h_407581 => ?_)
  obtain ⟨rfl, rfl, rx_407578⟩ := h_407581
  refine g_if_ne C (tgt := 10) dX1_tryToRefuse_5 (by decide) (fun h_407582 => ?_) (fun h_407582 => ?_)
  · skip
    have n_407583 : ¬ x_407578 = 0 := h_407582
    have r_407584 := ne_lo (lo := 1) n_407583 rx_407578 rc_0 rfl (by decide)
    refine g_aload_n C 0 dX1_tryToRefuse_10 rfl rfl ?_
    obtain ⟨x_407585, hx_407585, rx_407585⟩ := ex_get (I := I) (a := x) (j := 8) (lo := (-2147483648)) (hi := 2147483647) hU hLx (ro_o hkx (by decide)) rfl
    refine g_getI C K hLx hkx f_1_34 (v := x_407585) hx_407585 dX1_tryToRefuse_11 ?_
    refine g_iload_n C 1 dX1_tryToRefuse_14 rfl rfl ?_
    obtain ⟨x_407586, hx_407586, rx_407586⟩ := ex_any (z0 := x_407585 >>> (a0 &&& 31))
    refine g_ishr C (v := x_407586) dX1_tryToRefuse_15 hx_407586 ?_
    refine g_iconst C (v := 1) dX1_tryToRefuse_16 (by decide) ?_
    obtain ⟨x_407587, hx_407587, rx_407587⟩ := ex_andr (x := x_407586) (y := 1) (b := 1) (rg_w rc_1 (by decide) (by decide))
    refine g_iand C (v := x_407587) dX1_tryToRefuse_17 hx_407587 ?_
    refine g_if_eq C (tgt := 23) dX1_tryToRefuse_18 (by decide) (fun h_407588 => ?_) (fun h_407588 => ?_)
    · skip
      have r_407589 := (⟨(rx_407587).1, (eq_rg (h_407588) rc_0).2⟩ : Rg 0 0 x_407587)
      refine g_aload_n C 0 dX1_tryToRefuse_23 rfl rfl ?_
      refine g_dup C dX1_tryToRefuse_24 rfl ?_
      refine g_getI C K hLx hkx f_1_34 (v := x_407585) hx_407585 dX1_tryToRefuse_25 ?_
      refine g_iconst C (v := 1) dX1_tryToRefuse_28 (by decide) ?_
      refine g_iload_n C 1 dX1_tryToRefuse_29 rfl rfl ?_
      obtain ⟨x_407590, hx_407590, rx_407590⟩ := ex_any (z0 := 1 <<< (a0 &&& 31))
      refine g_ishl C (v := x_407590) dX1_tryToRefuse_30 hx_407590 ?_
      obtain ⟨x_407591, hx_407591, rx_407591⟩ := ex_any (z0 := x_407585 ||| x_407590)
      refine g_ior C (v := x_407591) dX1_tryToRefuse_31 hx_407591 ?_
      refine h_putI C K hLx hkx f_1_34 p_1_8 dX1_tryToRefuse_32 (fun I_407592 hI_407592 => ?_)
      have hU_407593 := uv_put hU hI_407592 (ro_o hkx (by decide)) (lo := (-2147483648)) (hi := 2147483647) rfl (rx_407591)
      have hF_407594 := fq_puto hF hI_407592 hkx (by decide) (by decide)
      refine g_iconst C (v := 0) dX1_tryToRefuse_35 (by decide) ?_
      exact g_zret (ty := .int) (r := 0) B K rfl (rfl) ⟨hU_407593, hF_407594, hG, rg_w rc_0 (by decide) (by decide)⟩ dX1_tryToRefuse_36
    · skip
      have n_407595 : ¬ x_407587 = 0 := h_407588
      have r_407596 := ne_lo (lo := 1) n_407595 rx_407587 rc_0 rfl (by decide)
      refine g_iconst C (v := 2) dX1_tryToRefuse_21 (by decide) ?_
      exact g_zret (ty := .int) (r := 2) B K rfl (rfl) ⟨hU, hF, hG, rg_w rc_2 (by decide) (by decide)⟩ dX1_tryToRefuse_22
  · skip
    have r_407597 := (⟨(rx_407578).1, (eq_rg (h_407582) rc_0).2⟩ : Rg 0 0 x_407578)
    refine g_iconst C (v := 1) dX1_tryToRefuse_8 (by decide) ?_
    exact g_zret (ty := .int) (r := 1) B K rfl (rfl) ⟨hU, hF, hG, rg_w rc_1 (by decide) (by decide)⟩ dX1_tryToRefuse_9
