theorem dX11_ask_0 : decode cX11_ask 0 = .ok (.aload_n 0, 1) := by decide +kernel
theorem dX11_ask_1 : decode cX11_ask 1 = .ok (.getfield 83, 3) := by decide +kernel
theorem dX11_ask_4 : decode cX11_ask 4 = .ok (.getfield 285, 3) := by decide +kernel
theorem dX11_ask_7 : decode cX11_ask 7 = .ok (.ireturn, 1) := by decide +kernel
theorem dX11_hungriest_0 : decode cX11_hungriest 0 = .ok (.iconst (-1), 1) := by decide +kernel
theorem dX11_hungriest_1 : decode cX11_hungriest 1 = .ok (.istore_n 1, 1) := by decide +kernel
theorem dX11_hungriest_2 : decode cX11_hungriest 2 = .ok (.iconst 0, 1) := by decide +kernel
theorem dX11_hungriest_3 : decode cX11_hungriest 3 = .ok (.istore_n 2, 1) := by decide +kernel
theorem dX11_hungriest_4 : decode cX11_hungriest 4 = .ok (.iload_n 2, 1) := by decide +kernel
theorem dX11_hungriest_5 : decode cX11_hungriest 5 = .ok (.aload_n 0, 1) := by decide +kernel
theorem dX11_hungriest_6 : decode cX11_hungriest 6 = .ok (.getfield 19, 3) := by decide +kernel
theorem dX11_hungriest_9 : decode cX11_hungriest 9 = .ok (.getfield 213, 3) := by decide +kernel
theorem dX11_hungriest_12 : decode cX11_hungriest 12 = .ok (.if_icmp .ge 48, 3) := by decide +kernel
theorem dX11_hungriest_15 : decode cX11_hungriest 15 = .ok (.aload_n 0, 1) := by decide +kernel
theorem dX11_hungriest_16 : decode cX11_hungriest 16 = .ok (.getfield 28, 3) := by decide +kernel
theorem dX11_hungriest_19 : decode cX11_hungriest 19 = .ok (.iload_n 2, 1) := by decide +kernel
theorem dX11_hungriest_20 : decode cX11_hungriest 20 = .ok (.invokevirtual 301, 3) := by decide +kernel
theorem dX11_hungriest_23 : decode cX11_hungriest 23 = .ok (.ifCond .eq 31, 3) := by decide +kernel
theorem dX11_hungriest_26 : decode cX11_hungriest 26 = .ok (.iload_n 1, 1) := by decide +kernel
theorem dX11_hungriest_27 : decode cX11_hungriest 27 = .ok (.iconst (-1), 1) := by decide +kernel
theorem dX11_hungriest_28 : decode cX11_hungriest 28 = .ok (.if_icmp .eq 24, 3) := by decide +kernel
theorem dX11_hungriest_31 : decode cX11_hungriest 31 = .ok (.aload_n 0, 1) := by decide +kernel
theorem dX11_hungriest_32 : decode cX11_hungriest 32 = .ok (.getfield 28, 3) := by decide +kernel
theorem dX11_hungriest_35 : decode cX11_hungriest 35 = .ok (.getfield 163, 3) := by decide +kernel
theorem dX11_hungriest_38 : decode cX11_hungriest 38 = .ok (.iload_n 2, 1) := by decide +kernel
theorem dX11_hungriest_39 : decode cX11_hungriest 39 = .ok (.iaload, 1) := by decide +kernel
theorem dX11_hungriest_40 : decode cX11_hungriest 40 = .ok (.aload_n 0, 1) := by decide +kernel
theorem dX11_hungriest_41 : decode cX11_hungriest 41 = .ok (.getfield 28, 3) := by decide +kernel
theorem dX11_hungriest_44 : decode cX11_hungriest 44 = .ok (.getfield 163, 3) := by decide +kernel
theorem dX11_hungriest_47 : decode cX11_hungriest 47 = .ok (.iload_n 1, 1) := by decide +kernel
theorem dX11_hungriest_48 : decode cX11_hungriest 48 = .ok (.iaload, 1) := by decide +kernel
theorem dX11_hungriest_49 : decode cX11_hungriest 49 = .ok (.if_icmp .le 5, 3) := by decide +kernel
theorem dX11_hungriest_52 : decode cX11_hungriest 52 = .ok (.iload_n 2, 1) := by decide +kernel
theorem dX11_hungriest_53 : decode cX11_hungriest 53 = .ok (.istore_n 1, 1) := by decide +kernel
theorem dX11_hungriest_54 : decode cX11_hungriest 54 = .ok (.iinc 2 1, 3) := by decide +kernel
theorem dX11_hungriest_57 : decode cX11_hungriest 57 = .ok (.goto (-53), 3) := by decide +kernel
theorem dX11_hungriest_60 : decode cX11_hungriest 60 = .ok (.iload_n 1, 1) := by decide +kernel
theorem dX11_hungriest_61 : decode cX11_hungriest 61 = .ok (.ireturn, 1) := by decide +kernel
theorem dX11_kin_0 : decode cX11_kin 0 = .ok (.aload_n 0, 1) := by decide +kernel
theorem dX11_kin_1 : decode cX11_kin 1 = .ok (.getfield 19, 3) := by decide +kernel
theorem dX11_kin_4 : decode cX11_kin 4 = .ok (.iload_n 1, 1) := by decide +kernel
theorem dX11_kin_5 : decode cX11_kin 5 = .ok (.invokevirtual 133, 3) := by decide +kernel
theorem dX11_kin_8 : decode cX11_kin 8 = .ok (.ifCond .eq 26, 3) := by decide +kernel
theorem dX11_kin_11 : decode cX11_kin 11 = .ok (.aload_n 0, 1) := by decide +kernel
theorem dX11_kin_12 : decode cX11_kin 12 = .ok (.getfield 19, 3) := by decide +kernel
theorem dX11_kin_15 : decode cX11_kin 15 = .ok (.iload_n 2, 1) := by decide +kernel
theorem dX11_kin_16 : decode cX11_kin 16 = .ok (.invokevirtual 133, 3) := by decide +kernel
theorem dX11_kin_19 : decode cX11_kin 19 = .ok (.ifCond .eq 15, 3) := by decide +kernel
theorem dX11_kin_22 : decode cX11_kin 22 = .ok (.aload_n 0, 1) := by decide +kernel
theorem dX11_kin_23 : decode cX11_kin 23 = .ok (.getfield 19, 3) := by decide +kernel
theorem dX11_kin_26 : decode cX11_kin 26 = .ok (.iload_n 1, 1) := by decide +kernel
theorem dX11_kin_27 : decode cX11_kin 27 = .ok (.iload_n 2, 1) := by decide +kernel
theorem dX11_kin_28 : decode cX11_kin 28 = .ok (.invokevirtual 298, 3) := by decide +kernel
theorem dX11_kin_31 : decode cX11_kin 31 = .ok (.goto 4, 3) := by decide +kernel
theorem dX11_kin_34 : decode cX11_kin 34 = .ok (.iconst (-1), 1) := by decide +kernel
theorem dX11_kin_35 : decode cX11_kin 35 = .ok (.ireturn, 1) := by decide +kernel
theorem dX11_last_0 : decode cX11_last 0 = .ok (.aload_n 0, 1) := by decide +kernel
theorem dX11_last_1 : decode cX11_last 1 = .ok (.getfield 19, 3) := by decide +kernel
theorem dX11_last_4 : decode cX11_last 4 = .ok (.iload_n 1, 1) := by decide +kernel
theorem dX11_last_5 : decode cX11_last 5 = .ok (.invokevirtual 175, 3) := by decide +kernel
theorem dX11_last_8 : decode cX11_last 8 = .ok (.ifCond .ne 5, 3) := by decide +kernel
theorem dX11_last_11 : decode cX11_last 11 = .ok (.iconst (-1), 1) := by decide +kernel
theorem dX11_last_12 : decode cX11_last 12 = .ok (.ireturn, 1) := by decide +kernel
theorem dX11_last_13 : decode cX11_last 13 = .ok (.aload_n 0, 1) := by decide +kernel
theorem dX11_last_14 : decode cX11_last 14 = .ok (.getfield 28, 3) := by decide +kernel
theorem dX11_last_17 : decode cX11_last 17 = .ok (.getfield 182, 3) := by decide +kernel
theorem dX11_last_20 : decode cX11_last 20 = .ok (.iload_n 1, 1) := by decide +kernel
theorem dX11_last_21 : decode cX11_last 21 = .ok (.iaload, 1) := by decide +kernel
theorem dX11_last_22 : decode cX11_last 22 = .ok (.ifCond .ne 7, 3) := by decide +kernel
theorem dX11_last_25 : decode cX11_last 25 = .ok (.iconst 0, 1) := by decide +kernel
theorem dX11_last_26 : decode cX11_last 26 = .ok (.goto 16, 3) := by decide +kernel
theorem dX11_last_29 : decode cX11_last 29 = .ok (.aload_n 0, 1) := by decide +kernel
theorem dX11_last_30 : decode cX11_last 30 = .ok (.getfield 28, 3) := by decide +kernel
theorem dX11_last_33 : decode cX11_last 33 = .ok (.getfield 182, 3) := by decide +kernel
theorem dX11_last_36 : decode cX11_last 36 = .ok (.iload_n 1, 1) := by decide +kernel
theorem dX11_last_37 : decode cX11_last 37 = .ok (.iaload, 1) := by decide +kernel
theorem dX11_last_38 : decode cX11_last 38 = .ok (.iconst 3, 1) := by decide +kernel
theorem dX11_last_39 : decode cX11_last 39 = .ok (.iadd, 1) := by decide +kernel
theorem dX11_last_40 : decode cX11_last 40 = .ok (.iconst 4, 1) := by decide +kernel
theorem dX11_last_41 : decode cX11_last 41 = .ok (.irem, 1) := by decide +kernel
theorem dX11_last_42 : decode cX11_last 42 = .ok (.ireturn, 1) := by decide +kernel
theorem dX11_left_0 : decode cX11_left 0 = .ok (.aload_n 0, 1) := by decide +kernel
theorem dX11_left_1 : decode cX11_left 1 = .ok (.getfield 19, 3) := by decide +kernel
theorem dX11_left_4 : decode cX11_left 4 = .ok (.iload_n 1, 1) := by decide +kernel
theorem dX11_left_5 : decode cX11_left 5 = .ok (.invokevirtual 133, 3) := by decide +kernel
theorem dX11_left_8 : decode cX11_left 8 = .ok (.ifCond .eq 30, 3) := by decide +kernel
theorem dX11_left_11 : decode cX11_left 11 = .ok (.aload_n 0, 1) := by decide +kernel
theorem dX11_left_12 : decode cX11_left 12 = .ok (.getfield 10, 3) := by decide +kernel
theorem dX11_left_15 : decode cX11_left 15 = .ok (.getfield 102, 3) := by decide +kernel
theorem dX11_left_18 : decode cX11_left 18 = .ok (.iconst 1, 1) := by decide +kernel
theorem dX11_left_19 : decode cX11_left 19 = .ok (.if_icmp .lt 19, 3) := by decide +kernel
theorem dX11_left_22 : decode cX11_left 22 = .ok (.aload_n 0, 1) := by decide +kernel
theorem dX11_left_23 : decode cX11_left 23 = .ok (.getfield 10, 3) := by decide +kernel
theorem dX11_left_26 : decode cX11_left 26 = .ok (.getfield 102, 3) := by decide +kernel
theorem dX11_left_29 : decode cX11_left 29 = .ok (.bipush 7, 2) := by decide +kernel
theorem dX11_left_31 : decode cX11_left 31 = .ok (.if_icmp .gt 7, 3) := by decide +kernel
theorem dX11_left_34 : decode cX11_left 34 = .ok (.iconst 1, 1) := by decide +kernel
theorem dX11_left_35 : decode cX11_left 35 = .ok (.goto 4, 3) := by decide +kernel
theorem dX11_left_38 : decode cX11_left 38 = .ok (.iconst 0, 1) := by decide +kernel
theorem dX11_left_39 : decode cX11_left 39 = .ok (.istore_n 2, 1) := by decide +kernel
theorem dX11_left_40 : decode cX11_left 40 = .ok (.aload_n 0, 1) := by decide +kernel
theorem dX11_left_41 : decode cX11_left 41 = .ok (.getfield 32, 3) := by decide +kernel
theorem dX11_left_44 : decode cX11_left 44 = .ok (.aload_n 0, 1) := by decide +kernel
theorem dX11_left_45 : decode cX11_left 45 = .ok (.getfield 28, 3) := by decide +kernel
theorem dX11_left_48 : decode cX11_left 48 = .ok (.invokevirtual 126, 3) := by decide +kernel
theorem dX11_left_51 : decode cX11_left 51 = .ok (.iconst 0, 1) := by decide +kernel
theorem dX11_left_52 : decode cX11_left 52 = .ok (.istore_n 3, 1) := by decide +kernel
theorem dX11_left_53 : decode cX11_left 53 = .ok (.iload_n 3, 1) := by decide +kernel
theorem dX11_left_54 : decode cX11_left 54 = .ok (.aload_n 0, 1) := by decide +kernel
theorem dX11_left_55 : decode cX11_left 55 = .ok (.getfield 10, 3) := by decide +kernel
theorem dX11_left_58 : decode cX11_left 58 = .ok (.getfield 102, 3) := by decide +kernel
theorem dX11_left_61 : decode cX11_left 61 = .ok (.if_icmp .ge 47, 3) := by decide +kernel
theorem dX11_left_64 : decode cX11_left 64 = .ok (.iload_n 2, 1) := by decide +kernel
theorem dX11_left_65 : decode cX11_left 65 = .ok (.ifCond .eq 43, 3) := by decide +kernel
theorem dX11_left_68 : decode cX11_left 68 = .ok (.aload_n 0, 1) := by decide +kernel
theorem dX11_left_69 : decode cX11_left 69 = .ok (.getfield 10, 3) := by decide +kernel
theorem dX11_left_72 : decode cX11_left 72 = .ok (.iload_n 3, 1) := by decide +kernel
theorem dX11_left_73 : decode cX11_left 73 = .ok (.invokevirtual 275, 3) := by decide +kernel
theorem dX11_left_76 : decode cX11_left 76 = .ok (.istore 4, 2) := by decide +kernel
theorem dX11_left_78 : decode cX11_left 78 = .ok (.aload_n 0, 1) := by decide +kernel
theorem dX11_left_79 : decode cX11_left 79 = .ok (.getfield 19, 3) := by decide +kernel
theorem dX11_left_82 : decode cX11_left 82 = .ok (.iload 4, 2) := by decide +kernel
theorem dX11_left_84 : decode cX11_left 84 = .ok (.invokevirtual 133, 3) := by decide +kernel
theorem dX11_left_87 : decode cX11_left 87 = .ok (.istore_n 2, 1) := by decide +kernel
theorem dX11_left_88 : decode cX11_left 88 = .ok (.iload_n 2, 1) := by decide +kernel
theorem dX11_left_89 : decode cX11_left 89 = .ok (.ifCond .eq 13, 3) := by decide +kernel
theorem dX11_left_92 : decode cX11_left 92 = .ok (.aload_n 0, 1) := by decide +kernel
theorem dX11_left_93 : decode cX11_left 93 = .ok (.getfield 32, 3) := by decide +kernel
theorem dX11_left_96 : decode cX11_left 96 = .ok (.iload 4, 2) := by decide +kernel
theorem dX11_left_98 : decode cX11_left 98 = .ok (.invokevirtual 247, 3) := by decide +kernel
theorem dX11_left_101 : decode cX11_left 101 = .ok (.pop, 1) := by decide +kernel
theorem dX11_left_102 : decode cX11_left 102 = .ok (.iinc 3 1, 3) := by decide +kernel
theorem dX11_left_105 : decode cX11_left 105 = .ok (.goto (-52), 3) := by decide +kernel
theorem dX11_left_108 : decode cX11_left 108 = .ok (.aload_n 0, 1) := by decide +kernel
theorem dX11_left_109 : decode cX11_left 109 = .ok (.getfield 10, 3) := by decide +kernel
theorem dX11_left_112 : decode cX11_left 112 = .ok (.iconst 0, 1) := by decide +kernel
theorem dX11_left_113 : decode cX11_left 113 = .ok (.putfield 102, 3) := by decide +kernel
theorem dX11_left_116 : decode cX11_left 116 = .ok (.iload_n 2, 1) := by decide +kernel
theorem dX11_left_117 : decode cX11_left 117 = .ok (.ifCond .eq 15, 3) := by decide +kernel
theorem dX11_left_120 : decode cX11_left 120 = .ok (.aload_n 0, 1) := by decide +kernel
theorem dX11_left_121 : decode cX11_left 121 = .ok (.getfield 32, 3) := by decide +kernel
theorem dX11_left_124 : decode cX11_left 124 = .ok (.getfield 166, 3) := by decide +kernel
theorem dX11_left_127 : decode cX11_left 127 = .ok (.iload_n 1, 1) := by decide +kernel
theorem dX11_left_128 : decode cX11_left 128 = .ok (.iaload, 1) := by decide +kernel
theorem dX11_left_129 : decode cX11_left 129 = .ok (.goto 4, 3) := by decide +kernel
theorem dX11_left_132 : decode cX11_left 132 = .ok (.iconst (-1), 1) := by decide +kernel
theorem dX11_left_133 : decode cX11_left 133 = .ok (.ireturn, 1) := by decide +kernel
theorem dX11_seatAt_0 : decode cX11_seatAt 0 = .ok (.iload_n 1, 1) := by decide +kernel
theorem dX11_seatAt_1 : decode cX11_seatAt 1 = .ok (.ifCond .lt 26, 3) := by decide +kernel
theorem dX11_seatAt_4 : decode cX11_seatAt 4 = .ok (.iload_n 1, 1) := by decide +kernel
theorem dX11_seatAt_5 : decode cX11_seatAt 5 = .ok (.aload_n 0, 1) := by decide +kernel
theorem dX11_seatAt_6 : decode cX11_seatAt 6 = .ok (.getfield 76, 3) := by decide +kernel
theorem dX11_seatAt_9 : decode cX11_seatAt 9 = .ok (.getfield 294, 3) := by decide +kernel
theorem dX11_seatAt_12 : decode cX11_seatAt 12 = .ok (.if_icmp .ge 15, 3) := by decide +kernel
theorem dX11_seatAt_15 : decode cX11_seatAt 15 = .ok (.aload_n 0, 1) := by decide +kernel
theorem dX11_seatAt_16 : decode cX11_seatAt 16 = .ok (.getfield 76, 3) := by decide +kernel
theorem dX11_seatAt_19 : decode cX11_seatAt 19 = .ok (.getfield 295, 3) := by decide +kernel
theorem dX11_seatAt_22 : decode cX11_seatAt 22 = .ok (.iload_n 1, 1) := by decide +kernel
theorem dX11_seatAt_23 : decode cX11_seatAt 23 = .ok (.iaload, 1) := by decide +kernel
theorem dX11_seatAt_24 : decode cX11_seatAt 24 = .ok (.goto 4, 3) := by decide +kernel
theorem dX11_seatAt_27 : decode cX11_seatAt 27 = .ok (.iconst (-1), 1) := by decide +kernel
theorem dX11_seatAt_28 : decode cX11_seatAt 28 = .ok (.ireturn, 1) := by decide +kernel
theorem dX11_seats_0 : decode cX11_seats 0 = .ok (.aload_n 0, 1) := by decide +kernel
theorem dX11_seats_1 : decode cX11_seats 1 = .ok (.getfield 76, 3) := by decide +kernel
theorem dX11_seats_4 : decode cX11_seats 4 = .ok (.aload_n 0, 1) := by decide +kernel
theorem dX11_seats_5 : decode cX11_seats 5 = .ok (.getfield 28, 3) := by decide +kernel
theorem dX11_seats_8 : decode cX11_seats 8 = .ok (.invokevirtual 291, 3) := by decide +kernel
theorem dX11_seats_11 : decode cX11_seats 11 = .ok (.ireturn, 1) := by decide +kernel
theorem dX11_share_0 : decode cX11_share 0 = .ok (.aload_n 0, 1) := by decide +kernel
theorem dX11_share_1 : decode cX11_share 1 = .ok (.getfield 19, 3) := by decide +kernel
theorem dX11_share_4 : decode cX11_share 4 = .ok (.iload_n 1, 1) := by decide +kernel
theorem dX11_share_5 : decode cX11_share 5 = .ok (.invokevirtual 175, 3) := by decide +kernel
theorem dX11_share_8 : decode cX11_share 8 = .ok (.ifCond .eq 32, 3) := by decide +kernel
theorem dX11_share_11 : decode cX11_share 11 = .ok (.aload_n 0, 1) := by decide +kernel
theorem dX11_share_12 : decode cX11_share 12 = .ok (.getfield 19, 3) := by decide +kernel
theorem dX11_share_15 : decode cX11_share 15 = .ok (.iload_n 3, 1) := by decide +kernel
theorem dX11_share_16 : decode cX11_share 16 = .ok (.invokevirtual 133, 3) := by decide +kernel
theorem dX11_share_19 : decode cX11_share 19 = .ok (.ifCond .eq 21, 3) := by decide +kernel
theorem dX11_share_22 : decode cX11_share 22 = .ok (.iload_n 2, 1) := by decide +kernel
theorem dX11_share_23 : decode cX11_share 23 = .ok (.aload_n 0, 1) := by decide +kernel
theorem dX11_share_24 : decode cX11_share 24 = .ok (.getfield 19, 3) := by decide +kernel
theorem dX11_share_27 : decode cX11_share 27 = .ok (.invokevirtual 188, 3) := by decide +kernel
theorem dX11_share_30 : decode cX11_share 30 = .ok (.iconst (-1), 1) := by decide +kernel
theorem dX11_share_31 : decode cX11_share 31 = .ok (.ixor, 1) := by decide +kernel
theorem dX11_share_32 : decode cX11_share 32 = .ok (.iand, 1) := by decide +kernel
theorem dX11_share_33 : decode cX11_share 33 = .ok (.ifCond .ne 7, 3) := by decide +kernel
theorem dX11_share_36 : decode cX11_share 36 = .ok (.iconst 1, 1) := by decide +kernel
theorem dX11_share_37 : decode cX11_share 37 = .ok (.goto 4, 3) := by decide +kernel
theorem dX11_share_40 : decode cX11_share 40 = .ok (.iconst 0, 1) := by decide +kernel
theorem dX11_share_41 : decode cX11_share 41 = .ok (.istore 4, 2) := by decide +kernel
theorem dX11_share_43 : decode cX11_share 43 = .ok (.iload 4, 2) := by decide +kernel
theorem dX11_share_45 : decode cX11_share 45 = .ok (.ifCond .eq 11, 3) := by decide +kernel
theorem dX11_share_48 : decode cX11_share 48 = .ok (.iload_n 2, 1) := by decide +kernel
theorem dX11_share_49 : decode cX11_share 49 = .ok (.iload_n 3, 1) := by decide +kernel
theorem dX11_share_50 : decode cX11_share 50 = .ok (.ishr, 1) := by decide +kernel
theorem dX11_share_51 : decode cX11_share 51 = .ok (.iconst 1, 1) := by decide +kernel
theorem dX11_share_52 : decode cX11_share 52 = .ok (.iand, 1) := by decide +kernel
theorem dX11_share_53 : decode cX11_share 53 = .ok (.ifCond .ne 5, 3) := by decide +kernel
theorem dX11_share_56 : decode cX11_share 56 = .ok (.iconst (-1), 1) := by decide +kernel
theorem dX11_share_57 : decode cX11_share 57 = .ok (.ireturn, 1) := by decide +kernel
theorem dX11_share_58 : decode cX11_share 58 = .ok (.aload_n 0, 1) := by decide +kernel
theorem dX11_share_59 : decode cX11_share 59 = .ok (.getfield 19, 3) := by decide +kernel
theorem dX11_share_62 : decode cX11_share 62 = .ok (.aload_n 0, 1) := by decide +kernel
theorem dX11_share_63 : decode cX11_share 63 = .ok (.getfield 28, 3) := by decide +kernel
theorem dX11_share_66 : decode cX11_share 66 = .ok (.getfield 182, 3) := by decide +kernel
theorem dX11_share_69 : decode cX11_share 69 = .ok (.iload_n 1, 1) := by decide +kernel
theorem dX11_share_70 : decode cX11_share 70 = .ok (.iaload, 1) := by decide +kernel
theorem dX11_share_71 : decode cX11_share 71 = .ok (.iload_n 2, 1) := by decide +kernel
theorem dX11_share_72 : decode cX11_share 72 = .ok (.iload_n 3, 1) := by decide +kernel
theorem dX11_share_73 : decode cX11_share 73 = .ok (.invokevirtual 288, 3) := by decide +kernel
theorem dX11_share_76 : decode cX11_share 76 = .ok (.ireturn, 1) := by decide +kernel
theorem dX6_isChild_0 : decode cX6_isChild 0 = .ok (.iload_n 2, 1) := by decide +kernel
theorem dX6_isChild_1 : decode cX6_isChild 1 = .ok (.iconst (-1), 1) := by decide +kernel
theorem dX6_isChild_2 : decode cX6_isChild 2 = .ok (.if_icmp .eq 17, 3) := by decide +kernel
theorem dX6_isChild_5 : decode cX6_isChild 5 = .ok (.aload_n 0, 1) := by decide +kernel
theorem dX6_isChild_6 : decode cX6_isChild 6 = .ok (.getfield 45, 3) := by decide +kernel
theorem dX6_isChild_9 : decode cX6_isChild 9 = .ok (.iload_n 1, 1) := by decide +kernel
theorem dX6_isChild_10 : decode cX6_isChild 10 = .ok (.iaload, 1) := by decide +kernel
theorem dX6_isChild_11 : decode cX6_isChild 11 = .ok (.iload_n 2, 1) := by decide +kernel
theorem dX6_isChild_12 : decode cX6_isChild 12 = .ok (.if_icmp .ne 7, 3) := by decide +kernel
theorem dX6_isChild_15 : decode cX6_isChild 15 = .ok (.iconst 1, 1) := by decide +kernel
theorem dX6_isChild_16 : decode cX6_isChild 16 = .ok (.goto 4, 3) := by decide +kernel
theorem dX6_isChild_19 : decode cX6_isChild 19 = .ok (.iconst 0, 1) := by decide +kernel
theorem dX6_isChild_20 : decode cX6_isChild 20 = .ok (.ireturn, 1) := by decide +kernel
theorem dX6_leastFor_0 : decode cX6_leastFor 0 = .ok (.iconst 0, 1) := by decide +kernel
theorem dX6_leastFor_1 : decode cX6_leastFor 1 = .ok (.istore 4, 2) := by decide +kernel
theorem dX6_leastFor_3 : decode cX6_leastFor 3 = .ok (.iload 4, 2) := by decide +kernel
theorem dX6_leastFor_5 : decode cX6_leastFor 5 = .ok (.aload_n 0, 1) := by decide +kernel
theorem dX6_leastFor_6 : decode cX6_leastFor 6 = .ok (.getfield 33, 3) := by decide +kernel
theorem dX6_leastFor_9 : decode cX6_leastFor 9 = .ok (.if_icmp .ge 47, 3) := by decide +kernel
theorem dX6_leastFor_12 : decode cX6_leastFor 12 = .ok (.iload_n 1, 1) := by decide +kernel
theorem dX6_leastFor_13 : decode cX6_leastFor 13 = .ok (.iconst 1, 1) := by decide +kernel
theorem dX6_leastFor_14 : decode cX6_leastFor 14 = .ok (.iload 4, 2) := by decide +kernel
theorem dX6_leastFor_16 : decode cX6_leastFor 16 = .ok (.ishl, 1) := by decide +kernel
theorem dX6_leastFor_17 : decode cX6_leastFor 17 = .ok (.iconst (-1), 1) := by decide +kernel
theorem dX6_leastFor_18 : decode cX6_leastFor 18 = .ok (.ixor, 1) := by decide +kernel
theorem dX6_leastFor_19 : decode cX6_leastFor 19 = .ok (.iand, 1) := by decide +kernel
theorem dX6_leastFor_20 : decode cX6_leastFor 20 = .ok (.istore 5, 2) := by decide +kernel
theorem dX6_leastFor_22 : decode cX6_leastFor 22 = .ok (.iload 5, 2) := by decide +kernel
theorem dX6_leastFor_24 : decode cX6_leastFor 24 = .ok (.iload_n 1, 1) := by decide +kernel
theorem dX6_leastFor_25 : decode cX6_leastFor 25 = .ok (.if_icmp .eq 25, 3) := by decide +kernel
theorem dX6_leastFor_28 : decode cX6_leastFor 28 = .ok (.aload_n 0, 1) := by decide +kernel
theorem dX6_leastFor_29 : decode cX6_leastFor 29 = .ok (.iload 4, 2) := by decide +kernel
theorem dX6_leastFor_31 : decode cX6_leastFor 31 = .ok (.iload_n 2, 1) := by decide +kernel
theorem dX6_leastFor_32 : decode cX6_leastFor 32 = .ok (.invokestatic 42, 3) := by decide +kernel
theorem dX6_leastFor_35 : decode cX6_leastFor 35 = .ok (.aload_n 0, 1) := by decide +kernel
theorem dX6_leastFor_36 : decode cX6_leastFor 36 = .ok (.iload_n 1, 1) := by decide +kernel
theorem dX6_leastFor_37 : decode cX6_leastFor 37 = .ok (.iload 5, 2) := by decide +kernel
theorem dX6_leastFor_39 : decode cX6_leastFor 39 = .ok (.invokestatic 29, 3) := by decide +kernel
theorem dX6_leastFor_42 : decode cX6_leastFor 42 = .ok (.iadd, 1) := by decide +kernel
theorem dX6_leastFor_43 : decode cX6_leastFor 43 = .ok (.iload_n 3, 1) := by decide +kernel
theorem dX6_leastFor_44 : decode cX6_leastFor 44 = .ok (.if_icmp .ne 6, 3) := by decide +kernel
theorem dX6_leastFor_47 : decode cX6_leastFor 47 = .ok (.iload 4, 2) := by decide +kernel
theorem dX6_leastFor_49 : decode cX6_leastFor 49 = .ok (.ireturn, 1) := by decide +kernel
theorem dX6_leastFor_50 : decode cX6_leastFor 50 = .ok (.iinc 4 1, 3) := by decide +kernel
theorem dX6_leastFor_53 : decode cX6_leastFor 53 = .ok (.goto (-50), 3) := by decide +kernel
theorem dX6_leastFor_56 : decode cX6_leastFor 56 = .ok (.iconst (-1), 1) := by decide +kernel
theorem dX6_leastFor_57 : decode cX6_leastFor 57 = .ok (.ireturn, 1) := by decide +kernel
theorem dX6_parentsAmong_0 : decode cX6_parentsAmong 0 = .ok (.iconst 0, 1) := by decide +kernel
theorem dX6_parentsAmong_1 : decode cX6_parentsAmong 1 = .ok (.istore_n 3, 1) := by decide +kernel
theorem dX6_parentsAmong_2 : decode cX6_parentsAmong 2 = .ok (.iconst 0, 1) := by decide +kernel
theorem dX6_parentsAmong_3 : decode cX6_parentsAmong 3 = .ok (.istore 4, 2) := by decide +kernel
theorem dX6_parentsAmong_5 : decode cX6_parentsAmong 5 = .ok (.iload 4, 2) := by decide +kernel
theorem dX6_parentsAmong_7 : decode cX6_parentsAmong 7 = .ok (.aload_n 0, 1) := by decide +kernel
theorem dX6_parentsAmong_8 : decode cX6_parentsAmong 8 = .ok (.getfield 33, 3) := by decide +kernel
theorem dX6_parentsAmong_11 : decode cX6_parentsAmong 11 = .ok (.if_icmp .ge 32, 3) := by decide +kernel
theorem dX6_parentsAmong_14 : decode cX6_parentsAmong 14 = .ok (.iload_n 1, 1) := by decide +kernel
theorem dX6_parentsAmong_15 : decode cX6_parentsAmong 15 = .ok (.iload 4, 2) := by decide +kernel
theorem dX6_parentsAmong_17 : decode cX6_parentsAmong 17 = .ok (.ishr, 1) := by decide +kernel
theorem dX6_parentsAmong_18 : decode cX6_parentsAmong 18 = .ok (.iconst 1, 1) := by decide +kernel
theorem dX6_parentsAmong_19 : decode cX6_parentsAmong 19 = .ok (.iand, 1) := by decide +kernel
theorem dX6_parentsAmong_20 : decode cX6_parentsAmong 20 = .ok (.ifCond .eq 17, 3) := by decide +kernel
theorem dX6_parentsAmong_23 : decode cX6_parentsAmong 23 = .ok (.aload_n 0, 1) := by decide +kernel
theorem dX6_parentsAmong_24 : decode cX6_parentsAmong 24 = .ok (.iload 4, 2) := by decide +kernel
theorem dX6_parentsAmong_26 : decode cX6_parentsAmong 26 = .ok (.invokevirtual 48, 3) := by decide +kernel
theorem dX6_parentsAmong_29 : decode cX6_parentsAmong 29 = .ok (.iload_n 2, 1) := by decide +kernel
theorem dX6_parentsAmong_30 : decode cX6_parentsAmong 30 = .ok (.iand, 1) := by decide +kernel
theorem dX6_parentsAmong_31 : decode cX6_parentsAmong 31 = .ok (.ifCond .eq 6, 3) := by decide +kernel
theorem dX6_parentsAmong_34 : decode cX6_parentsAmong 34 = .ok (.iinc 3 1, 3) := by decide +kernel
theorem dX6_parentsAmong_37 : decode cX6_parentsAmong 37 = .ok (.iinc 4 1, 3) := by decide +kernel
theorem dX6_parentsAmong_40 : decode cX6_parentsAmong 40 = .ok (.goto (-35), 3) := by decide +kernel
theorem dX6_parentsAmong_43 : decode cX6_parentsAmong 43 = .ok (.iload_n 3, 1) := by decide +kernel
theorem dX6_parentsAmong_44 : decode cX6_parentsAmong 44 = .ok (.ireturn, 1) := by decide +kernel
theorem dX6_seat_0 : decode cX6_seat 0 = .ok (.aload_n 1, 1) := by decide +kernel
theorem dX6_seat_1 : decode cX6_seat 1 = .ok (.getfield 19, 3) := by decide +kernel
theorem dX6_seat_4 : decode cX6_seat 4 = .ok (.astore_n 2, 1) := by decide +kernel
theorem dX6_seat_5 : decode cX6_seat 5 = .ok (.aload_n 1, 1) := by decide +kernel
theorem dX6_seat_6 : decode cX6_seat 6 = .ok (.invokevirtual 25, 3) := by decide +kernel
theorem dX6_seat_9 : decode cX6_seat 9 = .ok (.istore_n 3, 1) := by decide +kernel
theorem dX6_seat_10 : decode cX6_seat 10 = .ok (.aload_n 2, 1) := by decide +kernel
theorem dX6_seat_11 : decode cX6_seat 11 = .ok (.iload_n 3, 1) := by decide +kernel
theorem dX6_seat_12 : decode cX6_seat 12 = .ok (.iload_n 3, 1) := by decide +kernel
theorem dX6_seat_13 : decode cX6_seat 13 = .ok (.invokestatic 29, 3) := by decide +kernel
theorem dX6_seat_16 : decode cX6_seat 16 = .ok (.istore 4, 2) := by decide +kernel
theorem dX6_seat_18 : decode cX6_seat 18 = .ok (.iconst 0, 1) := by decide +kernel
theorem dX6_seat_19 : decode cX6_seat 19 = .ok (.istore 5, 2) := by decide +kernel
theorem dX6_seat_21 : decode cX6_seat 21 = .ok (.iconst (-1), 1) := by decide +kernel
theorem dX6_seat_22 : decode cX6_seat 22 = .ok (.istore 6, 2) := by decide +kernel
theorem dX6_seat_24 : decode cX6_seat 24 = .ok (.aload_n 0, 1) := by decide +kernel
theorem dX6_seat_25 : decode cX6_seat 25 = .ok (.iconst 0, 1) := by decide +kernel
theorem dX6_seat_26 : decode cX6_seat 26 = .ok (.putfield 15, 3) := by decide +kernel
theorem dX6_seat_29 : decode cX6_seat 29 = .ok (.iconst 0, 1) := by decide +kernel
theorem dX6_seat_30 : decode cX6_seat 30 = .ok (.istore 7, 2) := by decide +kernel
theorem dX6_seat_32 : decode cX6_seat 32 = .ok (.iload 7, 2) := by decide +kernel
theorem dX6_seat_34 : decode cX6_seat 34 = .ok (.aload_n 2, 1) := by decide +kernel
theorem dX6_seat_35 : decode cX6_seat 35 = .ok (.getfield 33, 3) := by decide +kernel
theorem dX6_seat_38 : decode cX6_seat 38 = .ok (.if_icmp .ge 92, 3) := by decide +kernel
theorem dX6_seat_41 : decode cX6_seat 41 = .ok (.iload_n 3, 1) := by decide +kernel
theorem dX6_seat_42 : decode cX6_seat 42 = .ok (.ifCond .eq 88, 3) := by decide +kernel
theorem dX6_seat_45 : decode cX6_seat 45 = .ok (.aload_n 2, 1) := by decide +kernel
theorem dX6_seat_46 : decode cX6_seat 46 = .ok (.iload_n 3, 1) := by decide +kernel
theorem dX6_seat_47 : decode cX6_seat 47 = .ok (.iload 6, 2) := by decide +kernel
theorem dX6_seat_49 : decode cX6_seat 49 = .ok (.iload 4, 2) := by decide +kernel
theorem dX6_seat_51 : decode cX6_seat 51 = .ok (.iload 5, 2) := by decide +kernel
theorem dX6_seat_53 : decode cX6_seat 53 = .ok (.isub, 1) := by decide +kernel
theorem dX6_seat_54 : decode cX6_seat 54 = .ok (.invokestatic 38, 3) := by decide +kernel
theorem dX6_seat_57 : decode cX6_seat 57 = .ok (.istore 8, 2) := by decide +kernel
theorem dX6_seat_59 : decode cX6_seat 59 = .ok (.iload 8, 2) := by decide +kernel
theorem dX6_seat_61 : decode cX6_seat 61 = .ok (.iconst (-1), 1) := by decide +kernel
theorem dX6_seat_62 : decode cX6_seat 62 = .ok (.if_icmp .eq 12, 3) := by decide +kernel
theorem dX6_seat_65 : decode cX6_seat 65 = .ok (.aload_n 0, 1) := by decide +kernel
theorem dX6_seat_66 : decode cX6_seat 66 = .ok (.getfield 15, 3) := by decide +kernel
theorem dX6_seat_69 : decode cX6_seat 69 = .ok (.bipush 7, 2) := by decide +kernel
theorem dX6_seat_71 : decode cX6_seat 71 = .ok (.if_icmp .lt 6, 3) := by decide +kernel
theorem dX6_seat_74 : decode cX6_seat 74 = .ok (.iload 5, 2) := by decide +kernel
theorem dX6_seat_76 : decode cX6_seat 76 = .ok (.ireturn, 1) := by decide +kernel
theorem dX6_seat_77 : decode cX6_seat 77 = .ok (.iload 5, 2) := by decide +kernel
theorem dX6_seat_79 : decode cX6_seat 79 = .ok (.aload_n 2, 1) := by decide +kernel
theorem dX6_seat_80 : decode cX6_seat 80 = .ok (.iload 8, 2) := by decide +kernel
theorem dX6_seat_82 : decode cX6_seat 82 = .ok (.iload 6, 2) := by decide +kernel
theorem dX6_seat_84 : decode cX6_seat 84 = .ok (.invokestatic 42, 3) := by decide +kernel
theorem dX6_seat_87 : decode cX6_seat 87 = .ok (.iadd, 1) := by decide +kernel
theorem dX6_seat_88 : decode cX6_seat 88 = .ok (.istore 5, 2) := by decide +kernel
theorem dX6_seat_90 : decode cX6_seat 90 = .ok (.aload_n 0, 1) := by decide +kernel
theorem dX6_seat_91 : decode cX6_seat 91 = .ok (.getfield 9, 3) := by decide +kernel
theorem dX6_seat_94 : decode cX6_seat 94 = .ok (.aload_n 0, 1) := by decide +kernel
theorem dX6_seat_95 : decode cX6_seat 95 = .ok (.getfield 15, 3) := by decide +kernel
theorem dX6_seat_98 : decode cX6_seat 98 = .ok (.iload 8, 2) := by decide +kernel
theorem dX6_seat_100 : decode cX6_seat 100 = .ok (.iastore, 1) := by decide +kernel
theorem dX6_seat_101 : decode cX6_seat 101 = .ok (.aload_n 0, 1) := by decide +kernel
theorem dX6_seat_102 : decode cX6_seat 102 = .ok (.dup, 1) := by decide +kernel
theorem dX6_seat_103 : decode cX6_seat 103 = .ok (.getfield 15, 3) := by decide +kernel
theorem dX6_seat_106 : decode cX6_seat 106 = .ok (.iconst 1, 1) := by decide +kernel
theorem dX6_seat_107 : decode cX6_seat 107 = .ok (.iadd, 1) := by decide +kernel
theorem dX6_seat_108 : decode cX6_seat 108 = .ok (.putfield 15, 3) := by decide +kernel
theorem dX6_seat_111 : decode cX6_seat 111 = .ok (.iload_n 3, 1) := by decide +kernel
theorem dX6_seat_112 : decode cX6_seat 112 = .ok (.iconst 1, 1) := by decide +kernel
theorem dX6_seat_113 : decode cX6_seat 113 = .ok (.iload 8, 2) := by decide +kernel
theorem dX6_seat_115 : decode cX6_seat 115 = .ok (.ishl, 1) := by decide +kernel
theorem dX6_seat_116 : decode cX6_seat 116 = .ok (.iconst (-1), 1) := by decide +kernel
theorem dX6_seat_117 : decode cX6_seat 117 = .ok (.ixor, 1) := by decide +kernel
theorem dX6_seat_118 : decode cX6_seat 118 = .ok (.iand, 1) := by decide +kernel
theorem dX6_seat_119 : decode cX6_seat 119 = .ok (.istore_n 3, 1) := by decide +kernel
theorem dX6_seat_120 : decode cX6_seat 120 = .ok (.iload 8, 2) := by decide +kernel
theorem dX6_seat_122 : decode cX6_seat 122 = .ok (.istore 6, 2) := by decide +kernel
theorem dX6_seat_124 : decode cX6_seat 124 = .ok (.iinc 7 1, 3) := by decide +kernel
theorem dX6_seat_127 : decode cX6_seat 127 = .ok (.goto (-95), 3) := by decide +kernel
theorem dX6_seat_130 : decode cX6_seat 130 = .ok (.iload 5, 2) := by decide +kernel
theorem dX6_seat_132 : decode cX6_seat 132 = .ok (.ireturn, 1) := by decide +kernel
theorem dX8_shareOf_0 : decode cX8_shareOf 0 = .ok (.iconst 0, 1) := by decide +kernel
theorem dX8_shareOf_1 : decode cX8_shareOf 1 = .ok (.istore 4, 2) := by decide +kernel
theorem dX8_shareOf_3 : decode cX8_shareOf 3 = .ok (.iconst 0, 1) := by decide +kernel
theorem dX8_shareOf_4 : decode cX8_shareOf 4 = .ok (.istore 5, 2) := by decide +kernel
theorem dX8_shareOf_6 : decode cX8_shareOf 6 = .ok (.iload 5, 2) := by decide +kernel
theorem dX8_shareOf_8 : decode cX8_shareOf 8 = .ok (.aload_n 0, 1) := by decide +kernel
theorem dX8_shareOf_9 : decode cX8_shareOf 9 = .ok (.getfield 28, 3) := by decide +kernel
theorem dX8_shareOf_12 : decode cX8_shareOf 12 = .ok (.if_icmp .ge 28, 3) := by decide +kernel
theorem dX8_shareOf_15 : decode cX8_shareOf 15 = .ok (.iload 4, 2) := by decide +kernel
theorem dX8_shareOf_17 : decode cX8_shareOf 17 = .ok (.iload_n 2, 1) := by decide +kernel
theorem dX8_shareOf_18 : decode cX8_shareOf 18 = .ok (.iload 5, 2) := by decide +kernel
theorem dX8_shareOf_20 : decode cX8_shareOf 20 = .ok (.ishr, 1) := by decide +kernel
theorem dX8_shareOf_21 : decode cX8_shareOf 21 = .ok (.iconst 1, 1) := by decide +kernel
theorem dX8_shareOf_22 : decode cX8_shareOf 22 = .ok (.iand, 1) := by decide +kernel
theorem dX8_shareOf_23 : decode cX8_shareOf 23 = .ok (.aload_n 0, 1) := by decide +kernel
theorem dX8_shareOf_24 : decode cX8_shareOf 24 = .ok (.getfield 15, 3) := by decide +kernel
theorem dX8_shareOf_27 : decode cX8_shareOf 27 = .ok (.iload 5, 2) := by decide +kernel
theorem dX8_shareOf_29 : decode cX8_shareOf 29 = .ok (.iaload, 1) := by decide +kernel
theorem dX8_shareOf_30 : decode cX8_shareOf 30 = .ok (.imul, 1) := by decide +kernel
theorem dX8_shareOf_31 : decode cX8_shareOf 31 = .ok (.iadd, 1) := by decide +kernel
theorem dX8_shareOf_32 : decode cX8_shareOf 32 = .ok (.istore 4, 2) := by decide +kernel
theorem dX8_shareOf_34 : decode cX8_shareOf 34 = .ok (.iinc 5 1, 3) := by decide +kernel
theorem dX8_shareOf_37 : decode cX8_shareOf 37 = .ok (.goto (-31), 3) := by decide +kernel
theorem dX8_shareOf_40 : decode cX8_shareOf 40 = .ok (.iload 4, 2) := by decide +kernel
theorem dX8_shareOf_42 : decode cX8_shareOf 42 = .ok (.ifCond .gt 5, 3) := by decide +kernel
theorem dX8_shareOf_45 : decode cX8_shareOf 45 = .ok (.iconst 0, 1) := by decide +kernel
theorem dX8_shareOf_46 : decode cX8_shareOf 46 = .ok (.ireturn, 1) := by decide +kernel
theorem dX8_shareOf_47 : decode cX8_shareOf 47 = .ok (.iload_n 1, 1) := by decide +kernel
theorem dX8_shareOf_48 : decode cX8_shareOf 48 = .ok (.istore 5, 2) := by decide +kernel
theorem dX8_shareOf_50 : decode cX8_shareOf 50 = .ok (.iconst 0, 1) := by decide +kernel
theorem dX8_shareOf_51 : decode cX8_shareOf 51 = .ok (.istore 6, 2) := by decide +kernel
theorem dX8_shareOf_53 : decode cX8_shareOf 53 = .ok (.iload_n 1, 1) := by decide +kernel
theorem dX8_shareOf_54 : decode cX8_shareOf 54 = .ok (.aload_n 0, 1) := by decide +kernel
theorem dX8_shareOf_55 : decode cX8_shareOf 55 = .ok (.getfield 15, 3) := by decide +kernel
theorem dX8_shareOf_58 : decode cX8_shareOf 58 = .ok (.iload_n 3, 1) := by decide +kernel
theorem dX8_shareOf_59 : decode cX8_shareOf 59 = .ok (.iaload, 1) := by decide +kernel
theorem dX8_shareOf_60 : decode cX8_shareOf 60 = .ok (.imul, 1) := by decide +kernel
theorem dX8_shareOf_61 : decode cX8_shareOf 61 = .ok (.iload 4, 2) := by decide +kernel
theorem dX8_shareOf_63 : decode cX8_shareOf 63 = .ok (.irem, 1) := by decide +kernel
theorem dX8_shareOf_64 : decode cX8_shareOf 64 = .ok (.istore 7, 2) := by decide +kernel
theorem dX8_shareOf_66 : decode cX8_shareOf 66 = .ok (.iconst 0, 1) := by decide +kernel
theorem dX8_shareOf_67 : decode cX8_shareOf 67 = .ok (.istore 8, 2) := by decide +kernel
theorem dX8_shareOf_69 : decode cX8_shareOf 69 = .ok (.iload 8, 2) := by decide +kernel
theorem dX8_shareOf_71 : decode cX8_shareOf 71 = .ok (.aload_n 0, 1) := by decide +kernel
theorem dX8_shareOf_72 : decode cX8_shareOf 72 = .ok (.getfield 28, 3) := by decide +kernel
theorem dX8_shareOf_75 : decode cX8_shareOf 75 = .ok (.if_icmp .ge 72, 3) := by decide +kernel
theorem dX8_shareOf_78 : decode cX8_shareOf 78 = .ok (.iload_n 2, 1) := by decide +kernel
theorem dX8_shareOf_79 : decode cX8_shareOf 79 = .ok (.iload 8, 2) := by decide +kernel
theorem dX8_shareOf_81 : decode cX8_shareOf 81 = .ok (.ishr, 1) := by decide +kernel
theorem dX8_shareOf_82 : decode cX8_shareOf 82 = .ok (.iconst 1, 1) := by decide +kernel
theorem dX8_shareOf_83 : decode cX8_shareOf 83 = .ok (.iand, 1) := by decide +kernel
theorem dX8_shareOf_84 : decode cX8_shareOf 84 = .ok (.ifCond .eq 57, 3) := by decide +kernel
theorem dX8_shareOf_87 : decode cX8_shareOf 87 = .ok (.iload_n 1, 1) := by decide +kernel
theorem dX8_shareOf_88 : decode cX8_shareOf 88 = .ok (.aload_n 0, 1) := by decide +kernel
theorem dX8_shareOf_89 : decode cX8_shareOf 89 = .ok (.getfield 15, 3) := by decide +kernel
theorem dX8_shareOf_92 : decode cX8_shareOf 92 = .ok (.iload 8, 2) := by decide +kernel
theorem dX8_shareOf_94 : decode cX8_shareOf 94 = .ok (.iaload, 1) := by decide +kernel
theorem dX8_shareOf_95 : decode cX8_shareOf 95 = .ok (.imul, 1) := by decide +kernel
theorem dX8_shareOf_96 : decode cX8_shareOf 96 = .ok (.iload 4, 2) := by decide +kernel
theorem dX8_shareOf_98 : decode cX8_shareOf 98 = .ok (.irem, 1) := by decide +kernel
theorem dX8_shareOf_99 : decode cX8_shareOf 99 = .ok (.istore 9, 2) := by decide +kernel
theorem dX8_shareOf_101 : decode cX8_shareOf 101 = .ok (.iload 5, 2) := by decide +kernel
theorem dX8_shareOf_103 : decode cX8_shareOf 103 = .ok (.iload_n 1, 1) := by decide +kernel
theorem dX8_shareOf_104 : decode cX8_shareOf 104 = .ok (.aload_n 0, 1) := by decide +kernel
theorem dX8_shareOf_105 : decode cX8_shareOf 105 = .ok (.getfield 15, 3) := by decide +kernel
theorem dX8_shareOf_108 : decode cX8_shareOf 108 = .ok (.iload 8, 2) := by decide +kernel
theorem dX8_shareOf_110 : decode cX8_shareOf 110 = .ok (.iaload, 1) := by decide +kernel
theorem dX8_shareOf_111 : decode cX8_shareOf 111 = .ok (.imul, 1) := by decide +kernel
theorem dX8_shareOf_112 : decode cX8_shareOf 112 = .ok (.iload 4, 2) := by decide +kernel
theorem dX8_shareOf_114 : decode cX8_shareOf 114 = .ok (.idiv, 1) := by decide +kernel
theorem dX8_shareOf_115 : decode cX8_shareOf 115 = .ok (.isub, 1) := by decide +kernel
theorem dX8_shareOf_116 : decode cX8_shareOf 116 = .ok (.istore 5, 2) := by decide +kernel
theorem dX8_shareOf_118 : decode cX8_shareOf 118 = .ok (.iload 9, 2) := by decide +kernel
theorem dX8_shareOf_120 : decode cX8_shareOf 120 = .ok (.iload 7, 2) := by decide +kernel
theorem dX8_shareOf_122 : decode cX8_shareOf 122 = .ok (.if_icmp .gt 16, 3) := by decide +kernel
theorem dX8_shareOf_125 : decode cX8_shareOf 125 = .ok (.iload 9, 2) := by decide +kernel
theorem dX8_shareOf_127 : decode cX8_shareOf 127 = .ok (.iload 7, 2) := by decide +kernel
theorem dX8_shareOf_129 : decode cX8_shareOf 129 = .ok (.if_icmp .ne 12, 3) := by decide +kernel
theorem dX8_shareOf_132 : decode cX8_shareOf 132 = .ok (.iload 8, 2) := by decide +kernel
theorem dX8_shareOf_134 : decode cX8_shareOf 134 = .ok (.iload_n 3, 1) := by decide +kernel
theorem dX8_shareOf_135 : decode cX8_shareOf 135 = .ok (.if_icmp .ge 6, 3) := by decide +kernel
theorem dX8_shareOf_138 : decode cX8_shareOf 138 = .ok (.iinc 6 1, 3) := by decide +kernel
theorem dX8_shareOf_141 : decode cX8_shareOf 141 = .ok (.iinc 8 1, 3) := by decide +kernel
theorem dX8_shareOf_144 : decode cX8_shareOf 144 = .ok (.goto (-75), 3) := by decide +kernel
theorem dX8_shareOf_147 : decode cX8_shareOf 147 = .ok (.iload_n 1, 1) := by decide +kernel
theorem dX8_shareOf_148 : decode cX8_shareOf 148 = .ok (.aload_n 0, 1) := by decide +kernel
theorem dX8_shareOf_149 : decode cX8_shareOf 149 = .ok (.getfield 15, 3) := by decide +kernel
theorem dX8_shareOf_152 : decode cX8_shareOf 152 = .ok (.iload_n 3, 1) := by decide +kernel
theorem dX8_shareOf_153 : decode cX8_shareOf 153 = .ok (.iaload, 1) := by decide +kernel
theorem dX8_shareOf_154 : decode cX8_shareOf 154 = .ok (.imul, 1) := by decide +kernel
theorem dX8_shareOf_155 : decode cX8_shareOf 155 = .ok (.iload 4, 2) := by decide +kernel
theorem dX8_shareOf_157 : decode cX8_shareOf 157 = .ok (.idiv, 1) := by decide +kernel
theorem dX8_shareOf_158 : decode cX8_shareOf 158 = .ok (.iload 6, 2) := by decide +kernel
theorem dX8_shareOf_160 : decode cX8_shareOf 160 = .ok (.iload 5, 2) := by decide +kernel
theorem dX8_shareOf_162 : decode cX8_shareOf 162 = .ok (.if_icmp .ge 7, 3) := by decide +kernel
theorem dX8_shareOf_165 : decode cX8_shareOf 165 = .ok (.iconst 1, 1) := by decide +kernel
theorem dX8_shareOf_166 : decode cX8_shareOf 166 = .ok (.goto 4, 3) := by decide +kernel
theorem dX8_shareOf_169 : decode cX8_shareOf 169 = .ok (.iconst 0, 1) := by decide +kernel
theorem dX8_shareOf_170 : decode cX8_shareOf 170 = .ok (.iadd, 1) := by decide +kernel
theorem dX8_shareOf_171 : decode cX8_shareOf 171 = .ok (.ireturn, 1) := by decide +kernel
theorem dX8_stepsBetween_0 : decode cX8_stepsBetween 0 = .ok (.iload_n 1, 1) := by decide +kernel
theorem dX8_stepsBetween_1 : decode cX8_stepsBetween 1 = .ok (.istore_n 3, 1) := by decide +kernel
theorem dX8_stepsBetween_2 : decode cX8_stepsBetween 2 = .ok (.iload_n 2, 1) := by decide +kernel
theorem dX8_stepsBetween_3 : decode cX8_stepsBetween 3 = .ok (.istore 4, 2) := by decide +kernel
theorem dX8_stepsBetween_5 : decode cX8_stepsBetween 5 = .ok (.iconst 0, 1) := by decide +kernel
theorem dX8_stepsBetween_6 : decode cX8_stepsBetween 6 = .ok (.istore 5, 2) := by decide +kernel
theorem dX8_stepsBetween_8 : decode cX8_stepsBetween 8 = .ok (.iload_n 3, 1) := by decide +kernel
theorem dX8_stepsBetween_9 : decode cX8_stepsBetween 9 = .ok (.iload 4, 2) := by decide +kernel
theorem dX8_stepsBetween_11 : decode cX8_stepsBetween 11 = .ok (.if_icmp .eq 56, 3) := by decide +kernel
theorem dX8_stepsBetween_14 : decode cX8_stepsBetween 14 = .ok (.iload 5, 2) := by decide +kernel
theorem dX8_stepsBetween_16 : decode cX8_stepsBetween 16 = .ok (.bipush 14, 2) := by decide +kernel
theorem dX8_stepsBetween_18 : decode cX8_stepsBetween 18 = .ok (.if_icmp .ge 49, 3) := by decide +kernel
theorem dX8_stepsBetween_21 : decode cX8_stepsBetween 21 = .ok (.iload_n 3, 1) := by decide +kernel
theorem dX8_stepsBetween_22 : decode cX8_stepsBetween 22 = .ok (.iload 4, 2) := by decide +kernel
theorem dX8_stepsBetween_24 : decode cX8_stepsBetween 24 = .ok (.invokestatic 47, 3) := by decide +kernel
theorem dX8_stepsBetween_27 : decode cX8_stepsBetween 27 = .ok (.istore 6, 2) := by decide +kernel
theorem dX8_stepsBetween_29 : decode cX8_stepsBetween 29 = .ok (.iload_n 3, 1) := by decide +kernel
theorem dX8_stepsBetween_30 : decode cX8_stepsBetween 30 = .ok (.iload 4, 2) := by decide +kernel
theorem dX8_stepsBetween_32 : decode cX8_stepsBetween 32 = .ok (.invokestatic 53, 3) := by decide +kernel
theorem dX8_stepsBetween_35 : decode cX8_stepsBetween 35 = .ok (.istore 4, 2) := by decide +kernel
theorem dX8_stepsBetween_37 : decode cX8_stepsBetween 37 = .ok (.iload 6, 2) := by decide +kernel
theorem dX8_stepsBetween_39 : decode cX8_stepsBetween 39 = .ok (.ifCond .lt 13, 3) := by decide +kernel
theorem dX8_stepsBetween_42 : decode cX8_stepsBetween 42 = .ok (.aload_n 0, 1) := by decide +kernel
theorem dX8_stepsBetween_43 : decode cX8_stepsBetween 43 = .ok (.getfield 19, 3) := by decide +kernel
theorem dX8_stepsBetween_46 : decode cX8_stepsBetween 46 = .ok (.iload 6, 2) := by decide +kernel
theorem dX8_stepsBetween_48 : decode cX8_stepsBetween 48 = .ok (.iaload, 1) := by decide +kernel
theorem dX8_stepsBetween_49 : decode cX8_stepsBetween 49 = .ok (.goto 4, 3) := by decide +kernel
theorem dX8_stepsBetween_53 : decode cX8_stepsBetween 53 = .ok (.istore_n 3, 1) := by decide +kernel
theorem dX8_stepsBetween_54 : decode cX8_stepsBetween 54 = .ok (.iload_n 3, 1) := by decide +kernel
theorem dX8_stepsBetween_55 : decode cX8_stepsBetween 55 = .ok (.iconst (-1), 1) := by decide +kernel
theorem dX8_stepsBetween_56 : decode cX8_stepsBetween 56 = .ok (.if_icmp .ne 5, 3) := by decide +kernel
theorem dX8_stepsBetween_59 : decode cX8_stepsBetween 59 = .ok (.iconst (-1), 1) := by decide +kernel
theorem dX8_stepsBetween_60 : decode cX8_stepsBetween 60 = .ok (.ireturn, 1) := by decide +kernel
theorem dX8_stepsBetween_61 : decode cX8_stepsBetween 61 = .ok (.iinc 5 1, 3) := by decide +kernel
theorem dX8_stepsBetween_64 : decode cX8_stepsBetween 64 = .ok (.goto (-56), 3) := by decide +kernel
theorem dX8_stepsBetween_67 : decode cX8_stepsBetween 67 = .ok (.iload 5, 2) := by decide +kernel
theorem dX8_stepsBetween_69 : decode cX8_stepsBetween 69 = .ok (.ireturn, 1) := by decide +kernel
theorem rc_14 : Rg 14 14 14 := ⟨by decide, by decide⟩
set_option maxRecDepth 100000 in
set_option maxHeartbeats 8000000 in
theorem c_X11_ask {l : Launch} {D : va_G} {cy : Nat → ClassId} {L : List Nat} {κ ln : Nat → Nat} {R : Nat → Nat → Option Nat} {I : Nat → Nat → Int32} {J : Nat → Nat → Int64} {ow : Nat → Nat × Nat} (W9 : ∀ a ∈ L, Shp L κ ln R ow a) {x : Nat} (hLx : x ∈ L) (hkx : κ x = 11) (hU : Iv L κ R ow I) : CtI l yX11_ask cX11_ask 1 (some .int) { frames := 0, cells := 0, slots := 0, locals := 0 } D cy L κ ln R I J [.ref x] (fun r I2 J2 => I = I2 ∧ J = J2 ∧ Rg (-2147483648) 2147483647 r) := by
  refine CtI.of (by decide +kernel) (Nat.le_of_ble_eq_true rfl) ?_
  intro p e s m below meth c B K
  have C := B.1
  obtain ⟨b_492487, hb_492487, hb_492487L, hb_492487k⟩ := shp_o (W9 x hLx) hkx 11 2 rfl (by decide)
  refine g_lo (is := [0]) (lo2 := [(0, .ref x)]) rfl ?_
  refine g_aload_n C 0 dX11_ask_0 rfl rfl ?_
  refine g_getR C K hLx hkx f_11_83 hb_492487 dX11_ask_1 ?_
  obtain ⟨x_492488, hx_492488, rx_492488⟩ := ex_get (I := I) (a := b_492487) (j := 2) (lo := (-2147483648)) (hi := 2147483647) hU.1 hb_492487L (ro_o hb_492487k (by decide)) rfl
  refine g_getI C K hb_492487L hb_492487k f_11_285 (v := x_492488) hx_492488 dX11_ask_4 ?_
  exact g_zret (ty := .int) (r := x_492488) B K rfl (rfl) ⟨rfl, rfl, rx_492488⟩ dX11_ask_7
set_option maxRecDepth 100000 in
set_option maxHeartbeats 8000000 in
theorem c_X8_shareOf {l : Launch} {D : va_G} {cy : Nat → ClassId} {L : List Nat} {κ ln : Nat → Nat} {R : Nat → Nat → Option Nat} {I : Nat → Nat → Int32} {J : Nat → Nat → Int64} {ow : Nat → Nat × Nat} (W9 : ∀ a ∈ L, Shp L κ ln R ow a) {x : Nat} (hLx : x ∈ L) (hkx : κ x = 8) (a0 : Int32) (a1 : Int32) (a2 : Int32) (ra2 : Rg 0 6 a2) (hU : Iv L κ R ow I) : CtI l yX8_shareOf cX8_shareOf 10 (some .int) { frames := 0, cells := 0, slots := 0, locals := 0 } D cy L κ ln R I J [.ref x, .int a0, .int a1, .int a2] (fun r I2 J2 => I = I2 ∧ J = J2 ∧ Rg (-2147483648) 2147483647 r) := by
  refine CtI.of (by decide +kernel) (Nat.le_of_ble_eq_true rfl) ?_
  intro p e s m below meth c B K
  have C := B.1
  obtain ⟨b_494257, hb_494257, hb_494257L, hb_494257k, hb_494257n, hb_494257o⟩ := shp_a (W9 x hLx) hkx 1 14 7 rfl (by decide)
  refine g_lo (is := [0, 1, 2, 3]) (lo2 := [(0, .ref x), (1, .int a0), (2, .int a1), (3, .int a2)]) rfl ?_
  have l_69 : ∀ (n_69 : Nat) (v_494258 : Int32) (v_494259 : Int32) (v_494260 : Int32) (rv_494260 : Rg 0 6 v_494260) (v_494261 : Int32) (rv_494261 : Rg 1 2147483647 v_494261) (v_494262 : Int32) (v_494263 : Int32) (v_494264 : Int32) (v_494265 : Int32) (rv_494265 : Rg 0 7 v_494265) (v_494266 : Int32) (rv_494266 : Rg 0 7 v_494266) (q_494267 : I x 5 = v_494266) (hm_494268 : 7 < (v_494265 : Int32).toInt + (n_69 : Int)), WG p l e { frames := 0, cells := 0, slots := 0, locals := 0 } s m ([.ref x, .int a0, .int a1, .int a2] : List Value).toArray below meth c 10 0 0 (MQ below (Qi_ D cy L κ ln R (fun r I2 J2 => I = I2 ∧ J = J2 ∧ Rg (-2147483648) 2147483647 r)) ([.ref x, .int a0, .int a1, .int a2] : List Value).toArray s 0 0 (Al_ L)) D cy (Al_ L) s.heap L κ ln R I J 69 [(0, .ref x), (1, .int v_494258), (2, .int v_494259), (3, .int v_494260), (4, .int v_494261), (5, .int v_494262), (6, .int v_494263), (7, .int v_494264), (8, .int v_494265)] [] := by
    intro n_69
    induction n_69 with
    | zero =>
      intro v_494258 v_494259 v_494260 rv_494260 v_494261 rv_494261 v_494262 v_494263 v_494264 v_494265 rv_494265 v_494266 rv_494266 q_494267 hm_494268
      exact ms_0 rv_494265 hm_494268
    | succ n_69 ih_69 =>
      intro v_494258 v_494259 v_494260 rv_494260 v_494261 rv_494261 v_494262 v_494263 v_494264 v_494265 rv_494265 v_494266 rv_494266 q_494267 hm_494268
      have j_141 : ∀ (v_494269 : Int32) (v_494270 : Int32) (v_494271 : Int32) (rv_494271 : Rg 0 6 v_494271) (v_494272 : Int32) (rv_494272 : Rg 1 2147483647 v_494272) (v_494273 : Int32) (v_494274 : Int32) (v_494275 : Int32) (v_494276 : Int32) (rv_494276 : Rg 0 6 v_494276) (v_494277 : Int32) (rv_494277 : Rg 1 7 v_494277) (q_494278 : I x 5 = v_494277) (hm_494279 : 7 < (v_494276 : Int32).toInt + ((n_69 + 1 : Nat) : Int)), WG p l e { frames := 0, cells := 0, slots := 0, locals := 0 } s m ([.ref x, .int a0, .int a1, .int a2] : List Value).toArray below meth c 10 0 0 (MQ below (Qi_ D cy L κ ln R (fun r I2 J2 => I = I2 ∧ J = J2 ∧ Rg (-2147483648) 2147483647 r)) ([.ref x, .int a0, .int a1, .int a2] : List Value).toArray s 0 0 (Al_ L)) D cy (Al_ L) s.heap L κ ln R I J 141 [(0, .ref x), (1, .int v_494269), (2, .int v_494270), (3, .int v_494271), (4, .int v_494272), (5, .int v_494273), (6, .int v_494274), (7, .int v_494275), (8, .int v_494276)] [] := by
        intro v_494269 v_494270 v_494271 rv_494271 v_494272 rv_494272 v_494273 v_494274 v_494275 v_494276 rv_494276 v_494277 rv_494277 q_494278 hm_494279
        obtain ⟨x_494280, hx_494280, rx_494280, tx_494280⟩ := ex_add (y := 1) 1 7 rv_494276 rc_1 (by decide) (by decide) (by decide) (by decide)
        refine g_iinc C dX8_shareOf_141 (k := 8) (v := x_494280) rfl hx_494280 (by decide) (lo2 := [(8, .int x_494280), (0, .ref x), (1, .int v_494269), (2, .int v_494270), (3, .int v_494271), (4, .int v_494272), (5, .int v_494273), (6, .int v_494274), (7, .int v_494275)]) rfl ?_
        refine g_goto C (tgt := 69) dX8_shareOf_144 (by decide) ?_
        refine g_lo (is := [1, 2, 3, 4, 5, 6, 7, 8, 0]) (lo2 := [(0, .ref x), (1, .int v_494269), (2, .int v_494270), (3, .int v_494271), (4, .int v_494272), (5, .int v_494273), (6, .int v_494274), (7, .int v_494275), (8, .int x_494280)]) rfl ?_
        exact ih_69 v_494269 v_494270 v_494271 (rv_494271) v_494272 (rv_494272) v_494273 v_494274 v_494275 x_494280 (rg_w rx_494280 (by decide) (by decide)) v_494277 (rg_w rv_494277 (by decide) (by decide)) q_494278 (ms_1 hm_494279 (ti_k tx_494280 rc_1) (by decide))
      have j_138 : ∀ (v_494281 : Int32) (v_494282 : Int32) (v_494283 : Int32) (rv_494283 : Rg 0 6 v_494283) (v_494284 : Int32) (rv_494284 : Rg 1 2147483647 v_494284) (v_494285 : Int32) (v_494286 : Int32) (v_494287 : Int32) (v_494288 : Int32) (rv_494288 : Rg 0 6 v_494288) (v_494289 : Int32) (v_494290 : Int32) (rv_494290 : Rg 1 7 v_494290) (q_494291 : I x 5 = v_494290) (hm_494292 : 7 < (v_494288 : Int32).toInt + ((n_69 + 1 : Nat) : Int)), WG p l e { frames := 0, cells := 0, slots := 0, locals := 0 } s m ([.ref x, .int a0, .int a1, .int a2] : List Value).toArray below meth c 10 0 0 (MQ below (Qi_ D cy L κ ln R (fun r I2 J2 => I = I2 ∧ J = J2 ∧ Rg (-2147483648) 2147483647 r)) ([.ref x, .int a0, .int a1, .int a2] : List Value).toArray s 0 0 (Al_ L)) D cy (Al_ L) s.heap L κ ln R I J 138 [(0, .ref x), (1, .int v_494281), (2, .int v_494282), (3, .int v_494283), (4, .int v_494284), (5, .int v_494285), (6, .int v_494286), (7, .int v_494287), (8, .int v_494288), (9, .int v_494289)] [] := by
        intro v_494281 v_494282 v_494283 rv_494283 v_494284 rv_494284 v_494285 v_494286 v_494287 v_494288 rv_494288 v_494289 v_494290 rv_494290 q_494291 hm_494292
        obtain ⟨x_494293, hx_494293, rx_494293⟩ := ex_any (z0 := v_494286 + 1)
        refine g_iinc C dX8_shareOf_138 (k := 6) (v := x_494293) rfl hx_494293 (by decide) (lo2 := [(6, .int x_494293), (0, .ref x), (1, .int v_494281), (2, .int v_494282), (3, .int v_494283), (4, .int v_494284), (5, .int v_494285), (7, .int v_494287), (8, .int v_494288), (9, .int v_494289)]) rfl ?_
        refine g_lo (is := [1, 2, 3, 4, 5, 6, 0, 7, 8]) (lo2 := [(0, .ref x), (1, .int v_494281), (2, .int v_494282), (3, .int v_494283), (4, .int v_494284), (5, .int v_494285), (6, .int x_494293), (7, .int v_494287), (8, .int v_494288)]) rfl ?_
        exact j_141 v_494281 v_494282 v_494283 (rv_494283) v_494284 (rv_494284) v_494285 x_494293 v_494287 v_494288 (rv_494288) v_494290 (rv_494290) q_494291 hm_494292
      refine g_iload C 8 dX8_shareOf_69 rfl ?_
      refine g_aload_n C 0 dX8_shareOf_71 rfl rfl ?_
      refine g_getI C K hLx hkx f_8_28 (v := v_494266) q_494267 dX8_shareOf_72 ?_
      refine g_icmp_ge C (tgt := 147) dX8_shareOf_75 (by decide) (fun h_494294 => ?_) (fun h_494294 => ?_)
      · skip
        refine g_iload_n C 1 dX8_shareOf_147 rfl rfl ?_
        refine g_aload_n C 0 dX8_shareOf_148 rfl rfl ?_
        refine g_getR C K hLx hkx f_8_15 hb_494257 dX8_shareOf_149 ?_
        refine g_iload_n C 3 dX8_shareOf_152 rfl rfl ?_
        obtain ⟨x_494295, hx_494295, rx_494295⟩ := ex_get (I := I) (a := b_494257) (j := v_494260.toNatClampNeg) (lo := (-2147483648)) (hi := 2147483647) hU.1 hb_494257L (ro_a hb_494257k (by decide) hb_494257o hkx rfl) (rfl)
        refine h_iald C K hb_494257L hb_494257k (v := x_494295) (v_494260.toNatClampNeg) (rfl) (ix_0 rv_494260 (by decide)) (ix_lt rv_494260 (by decide) hb_494257n (by decide)) hx_494295 dX8_shareOf_153 ?_
        obtain ⟨x_494296, hx_494296, rx_494296⟩ := ex_any (z0 := v_494258 * x_494295)
        refine g_imul C (v := x_494296) dX8_shareOf_154 hx_494296 ?_
        refine g_iload C 4 dX8_shareOf_155 rfl ?_
        obtain ⟨x_494297, hx_494297, rx_494297⟩ := ex_any (z0 := x_494296 / v_494261)
        refine g_idiv C (v := x_494297) dX8_shareOf_157 (rg_ne0 rv_494261 (by decide)) hx_494297 ?_
        refine g_iload C 6 dX8_shareOf_158 rfl ?_
        refine g_iload C 5 dX8_shareOf_160 rfl ?_
        refine g_icmp_ge C (tgt := 169) dX8_shareOf_162 (by decide) (fun h_494298 => ?_) (fun h_494298 => ?_)
        · skip
          refine g_iconst C (v := 0) dX8_shareOf_169 (by decide) ?_
          obtain ⟨x_494299, hx_494299, rx_494299, tx_494299⟩ := ex_add (-2147483648) 2147483647 rx_494297 rc_0 (by decide) (by decide) (by decide) (by decide)
          refine g_iadd C (v := x_494299) dX8_shareOf_170 hx_494299 ?_
          exact g_zret (ty := .int) (r := x_494299) B K rfl (rfl) ⟨rfl, rfl, rx_494299⟩ dX8_shareOf_171
        · skip
          have r_494300 := lt_l (hi := 2147483646) (nle h_494298) (rg_all v_494263) (rg_all v_494262) (by decide)
          have r_494301 := lt_r (lo := (-2147483647)) (nle h_494298) (rg_all v_494263) (rg_all v_494262) (by decide)
          refine g_iconst C (v := 1) dX8_shareOf_165 (by decide) ?_
          refine g_goto C (tgt := 170) dX8_shareOf_166 (by decide) ?_
          obtain ⟨x_494302, hx_494302, rx_494302⟩ := ex_any (z0 := x_494297 + 1)
          refine g_iadd C (v := x_494302) dX8_shareOf_170 hx_494302 ?_
          exact g_zret (ty := .int) (r := x_494302) B K rfl (rfl) ⟨rfl, rfl, rx_494302⟩ dX8_shareOf_171
      · skip
        have r_494303 := lt_l (hi := 6) (nle h_494294) rv_494265 rv_494266 (by decide)
        have r_494304 := lt_r (lo := 1) (nle h_494294) rv_494265 rv_494266 (by decide)
        refine g_iload_n C 2 dX8_shareOf_78 rfl rfl ?_
        refine g_iload C 8 dX8_shareOf_79 rfl ?_
        obtain ⟨x_494305, hx_494305, rx_494305⟩ := ex_any (z0 := v_494259 >>> (v_494265 &&& 31))
        refine g_ishr C (v := x_494305) dX8_shareOf_81 hx_494305 ?_
        refine g_iconst C (v := 1) dX8_shareOf_82 (by decide) ?_
        obtain ⟨x_494306, hx_494306, rx_494306⟩ := ex_andr (x := x_494305) (y := 1) (b := 1) (rg_w rc_1 (by decide) (by decide))
        refine g_iand C (v := x_494306) dX8_shareOf_83 hx_494306 ?_
        refine g_if_eq C (tgt := 141) dX8_shareOf_84 (by decide) (fun h_494307 => ?_) (fun h_494307 => ?_)
        · skip
          have r_494308 := (⟨(rx_494306).1, (eq_rg (h_494307) rc_0).2⟩ : Rg 0 0 x_494306)
          refine g_lo (is := [0, 1, 2, 3, 4, 5, 6, 7, 8]) (lo2 := [(0, .ref x), (1, .int v_494258), (2, .int v_494259), (3, .int v_494260), (4, .int v_494261), (5, .int v_494262), (6, .int v_494263), (7, .int v_494264), (8, .int v_494265)]) rfl ?_
          exact j_141 v_494258 v_494259 v_494260 (rv_494260) v_494261 (rv_494261) v_494262 v_494263 v_494264 v_494265 (r_494303) v_494266 (r_494304) q_494267 hm_494268
        · skip
          have n_494309 : ¬ x_494306 = 0 := h_494307
          have r_494310 := ne_lo (lo := 1) n_494309 rx_494306 rc_0 rfl (by decide)
          refine g_iload_n C 1 dX8_shareOf_87 rfl rfl ?_
          refine g_aload_n C 0 dX8_shareOf_88 rfl rfl ?_
          refine g_getR C K hLx hkx f_8_15 hb_494257 dX8_shareOf_89 ?_
          refine g_iload C 8 dX8_shareOf_92 rfl ?_
          obtain ⟨x_494311, hx_494311, rx_494311⟩ := ex_get (I := I) (a := b_494257) (j := v_494265.toNatClampNeg) (lo := (-2147483648)) (hi := 2147483647) hU.1 hb_494257L (ro_a hb_494257k (by decide) hb_494257o hkx rfl) (rfl)
          refine h_iald C K hb_494257L hb_494257k (v := x_494311) (v_494265.toNatClampNeg) (rfl) (ix_0 r_494303 (by decide)) (ix_lt r_494303 (by decide) hb_494257n (by decide)) hx_494311 dX8_shareOf_94 ?_
          obtain ⟨x_494312, hx_494312, rx_494312⟩ := ex_any (z0 := v_494258 * x_494311)
          refine g_imul C (v := x_494312) dX8_shareOf_95 hx_494312 ?_
          refine g_iload C 4 dX8_shareOf_96 rfl ?_
          obtain ⟨x_494313, hx_494313, rx_494313⟩ := ex_any (z0 := x_494312 - x_494312 / v_494261 * v_494261)
          refine g_irem C (v := x_494313) dX8_shareOf_98 (rg_ne0 rv_494261 (by decide)) hx_494313 ?_
          refine g_istore C dX8_shareOf_99 (by decide) (lo2 := [(9, .int x_494313), (0, .ref x), (1, .int v_494258), (2, .int v_494259), (3, .int v_494260), (4, .int v_494261), (5, .int v_494262), (6, .int v_494263), (7, .int v_494264), (8, .int v_494265)]) rfl ?_
          refine g_iload C 6 dX8_shareOf_101 rfl ?_
          refine g_iload_n C 2 dX8_shareOf_103 rfl rfl ?_
          refine g_aload_n C 1 dX8_shareOf_104 rfl rfl ?_
          refine g_getR C K hLx hkx f_8_15 hb_494257 dX8_shareOf_105 ?_
          refine g_iload C 9 dX8_shareOf_108 rfl ?_
          refine h_iald C K hb_494257L hb_494257k (v := x_494311) (v_494265.toNatClampNeg) (rfl) (ix_0 r_494303 (by decide)) (ix_lt r_494303 (by decide) hb_494257n (by decide)) hx_494311 dX8_shareOf_110 ?_
          refine g_imul C (v := x_494312) dX8_shareOf_111 hx_494312 ?_
          refine g_iload C 5 dX8_shareOf_112 rfl ?_
          obtain ⟨x_494315, hx_494315, rx_494315⟩ := ex_any (z0 := x_494312 / v_494261)
          refine g_idiv C (v := x_494315) dX8_shareOf_114 (rg_ne0 rv_494261 (by decide)) hx_494315 ?_
          obtain ⟨x_494316, hx_494316, rx_494316⟩ := ex_any (z0 := v_494262 - x_494315)
          refine g_isub C (v := x_494316) dX8_shareOf_115 hx_494316 ?_
          refine g_istore C dX8_shareOf_116 (by decide) (lo2 := [(5, .int x_494316), (9, .int x_494313), (0, .ref x), (1, .int v_494258), (2, .int v_494259), (3, .int v_494260), (4, .int v_494261), (6, .int v_494263), (7, .int v_494264), (8, .int v_494265)]) rfl ?_
          refine g_iload C 1 dX8_shareOf_118 rfl ?_
          refine g_iload C 8 dX8_shareOf_120 rfl ?_
          refine g_icmp_gt C (tgt := 138) dX8_shareOf_122 (by decide) (fun h_494317 => ?_) (fun h_494317 => ?_)
          · skip
            have r_494318 := lt_l (hi := 2147483646) (h_494317) (rg_all v_494264) rx_494313 (by decide)
            have r_494319 := lt_r (lo := (-2147483647)) (h_494317) (rg_all v_494264) rx_494313 (by decide)
            refine g_lo (is := [2, 3, 4, 5, 6, 0, 7, 8, 9, 1]) (lo2 := [(0, .ref x), (1, .int v_494258), (2, .int v_494259), (3, .int v_494260), (4, .int v_494261), (5, .int x_494316), (6, .int v_494263), (7, .int v_494264), (8, .int v_494265), (9, .int x_494313)]) rfl ?_
            exact j_138 v_494258 v_494259 v_494260 (rv_494260) v_494261 (rv_494261) x_494316 v_494263 v_494264 v_494265 (r_494303) x_494313 v_494266 (r_494304) q_494267 hm_494268
          · skip
            refine g_iload C 1 dX8_shareOf_125 rfl ?_
            refine g_iload C 8 dX8_shareOf_127 rfl ?_
            refine g_icmp_ne C (tgt := 141) dX8_shareOf_129 (by decide) (fun h_494320 => ?_) (fun h_494320 => ?_)
            · skip
              refine g_lo (is := [2, 3, 4, 5, 6, 0, 7, 8, 9]) (lo2 := [(0, .ref x), (1, .int v_494258), (2, .int v_494259), (3, .int v_494260), (4, .int v_494261), (5, .int x_494316), (6, .int v_494263), (7, .int v_494264), (8, .int v_494265)]) rfl ?_
              exact j_141 v_494258 v_494259 v_494260 (rv_494260) v_494261 (rv_494261) x_494316 v_494263 v_494264 v_494265 (r_494303) v_494266 (r_494304) q_494267 hm_494268
            · skip
              refine g_iload C 9 dX8_shareOf_132 rfl ?_
              refine g_iload_n C 5 dX8_shareOf_134 rfl rfl ?_
              refine g_icmp_ge C (tgt := 141) dX8_shareOf_135 (by decide) (fun h_494321 => ?_) (fun h_494321 => ?_)
              · skip
                refine g_lo (is := [2, 3, 4, 5, 6, 0, 7, 8, 9]) (lo2 := [(0, .ref x), (1, .int v_494258), (2, .int v_494259), (3, .int v_494260), (4, .int v_494261), (5, .int x_494316), (6, .int v_494263), (7, .int v_494264), (8, .int v_494265)]) rfl ?_
                exact j_141 v_494258 v_494259 v_494260 (rv_494260) v_494261 (rv_494261) x_494316 v_494263 v_494264 v_494265 (r_494303) v_494266 (r_494304) q_494267 hm_494268
              · skip
                have r_494322 := lt_l (hi := 5) (nle h_494321) r_494303 rv_494260 (by decide)
                have r_494323 := lt_r (lo := 1) (nle h_494321) r_494303 rv_494260 (by decide)
                refine g_lo (is := [2, 3, 4, 5, 6, 0, 7, 8, 9, 1]) (lo2 := [(0, .ref x), (1, .int v_494258), (2, .int v_494259), (3, .int v_494260), (4, .int v_494261), (5, .int x_494316), (6, .int v_494263), (7, .int v_494264), (8, .int v_494265), (9, .int x_494313)]) rfl ?_
                exact j_138 v_494258 v_494259 v_494260 (rg_w r_494323 (by decide) (by decide)) v_494261 (rv_494261) x_494316 v_494263 v_494264 v_494265 (rg_w r_494322 (by decide) (by decide)) x_494313 v_494266 (r_494304) q_494267 hm_494268
  have l_6 : ∀ (n_6 : Nat) (v_494324 : Int32) (v_494325 : Int32) (v_494326 : Int32) (rv_494326 : Rg 0 6 v_494326) (v_494327 : Int32) (v_494328 : Int32) (rv_494328 : Rg 0 7 v_494328) (hm_494329 : 7 < (v_494328 : Int32).toInt + (n_6 : Int)), WG p l e { frames := 0, cells := 0, slots := 0, locals := 0 } s m ([.ref x, .int a0, .int a1, .int a2] : List Value).toArray below meth c 10 0 0 (MQ below (Qi_ D cy L κ ln R (fun r I2 J2 => I = I2 ∧ J = J2 ∧ Rg (-2147483648) 2147483647 r)) ([.ref x, .int a0, .int a1, .int a2] : List Value).toArray s 0 0 (Al_ L)) D cy (Al_ L) s.heap L κ ln R I J 6 [(0, .ref x), (1, .int v_494324), (2, .int v_494325), (3, .int v_494326), (4, .int v_494327), (5, .int v_494328)] [] := by
    intro n_6
    induction n_6 with
    | zero =>
      intro v_494324 v_494325 v_494326 rv_494326 v_494327 v_494328 rv_494328 hm_494329
      exact ms_0 rv_494328 hm_494329
    | succ n_6 ih_6 =>
      intro v_494324 v_494325 v_494326 rv_494326 v_494327 v_494328 rv_494328 hm_494329
      refine g_iload C 5 dX8_shareOf_6 rfl ?_
      refine g_aload_n C 0 dX8_shareOf_8 rfl rfl ?_
      obtain ⟨x_494330, hx_494330, rx_494330⟩ := ex_get (I := I) (a := x) (j := 5) (lo := 0) (hi := 7) hU.1 hLx (ro_o hkx (by decide)) rfl
      refine g_getI C K hLx hkx f_8_28 (v := x_494330) hx_494330 dX8_shareOf_9 ?_
      refine g_icmp_ge C (tgt := 40) dX8_shareOf_12 (by decide) (fun h_494331 => ?_) (fun h_494331 => ?_)
      · skip
        refine g_iload C 4 dX8_shareOf_40 rfl ?_
        refine g_if_gt C (tgt := 47) dX8_shareOf_42 (by decide) (fun h_494332 => ?_) (fun h_494332 => ?_)
        · skip
          have r_494333 := lt_r (lo := 1) (h_494332) rc_0 (rg_all v_494327) (by decide)
          refine g_iload_n C 1 dX8_shareOf_47 rfl rfl ?_
          refine g_istore C dX8_shareOf_48 (by decide) (lo2 := [(5, .int v_494324), (0, .ref x), (1, .int v_494324), (2, .int v_494325), (3, .int v_494326), (4, .int v_494327)]) rfl ?_
          refine g_iconst C (v := 0) dX8_shareOf_50 (by decide) ?_
          refine g_istore C dX8_shareOf_51 (by decide) (lo2 := [(6, .int 0), (5, .int v_494324), (0, .ref x), (1, .int v_494324), (2, .int v_494325), (3, .int v_494326), (4, .int v_494327)]) rfl ?_
          refine g_iload_n C 3 dX8_shareOf_53 rfl rfl ?_
          refine g_aload_n C 2 dX8_shareOf_54 rfl rfl ?_
          refine g_getR C K hLx hkx f_8_15 hb_494257 dX8_shareOf_55 ?_
          refine g_iload_n C 5 dX8_shareOf_58 rfl rfl ?_
          obtain ⟨x_494334, hx_494334, rx_494334⟩ := ex_get (I := I) (a := b_494257) (j := v_494326.toNatClampNeg) (lo := (-2147483648)) (hi := 2147483647) hU.1 hb_494257L (ro_a hb_494257k (by decide) hb_494257o hkx rfl) (rfl)
          refine h_iald C K hb_494257L hb_494257k (v := x_494334) (v_494326.toNatClampNeg) (rfl) (ix_0 rv_494326 (by decide)) (ix_lt rv_494326 (by decide) hb_494257n (by decide)) hx_494334 dX8_shareOf_59 ?_
          obtain ⟨x_494335, hx_494335, rx_494335⟩ := ex_any (z0 := v_494324 * x_494334)
          refine g_imul C (v := x_494335) dX8_shareOf_60 hx_494335 ?_
          refine g_iload C 6 dX8_shareOf_61 rfl ?_
          obtain ⟨x_494336, hx_494336, rx_494336⟩ := ex_any (z0 := x_494335 - x_494335 / v_494327 * v_494327)
          refine g_irem C (v := x_494336) dX8_shareOf_63 (rg_ne0 r_494333 (by decide)) hx_494336 ?_
          refine g_istore C dX8_shareOf_64 (by decide) (lo2 := [(7, .int x_494336), (6, .int 0), (5, .int v_494324), (0, .ref x), (1, .int v_494324), (2, .int v_494325), (3, .int v_494326), (4, .int v_494327)]) rfl ?_
          refine g_iconst C (v := 0) dX8_shareOf_66 (by decide) ?_
          refine g_istore C dX8_shareOf_67 (by decide) (lo2 := [(8, .int 0), (7, .int x_494336), (6, .int 0), (5, .int v_494324), (0, .ref x), (1, .int v_494324), (2, .int v_494325), (3, .int v_494326), (4, .int v_494327)]) rfl ?_
          refine g_lo (is := [4, 5, 6, 7, 8, 3, 2, 1, 0]) (lo2 := [(0, .ref x), (1, .int v_494324), (2, .int v_494325), (3, .int v_494326), (4, .int v_494327), (5, .int v_494324), (6, .int 0), (7, .int x_494336), (8, .int 0)]) rfl ?_
          exact l_69 8 v_494324 v_494325 v_494326 (rv_494326) v_494327 (r_494333) v_494324 0 x_494336 0 (rg_w rc_0 (by decide) (by decide)) x_494330 (rx_494330) hx_494330 (ms_s (a := 0) (b := 7) (N := 8) (rg_w rc_0 (by decide) (by decide)) (by decide))
        · skip
          have r_494337 := le_l (nlt h_494332) (rg_all v_494327) rc_0
          refine g_iconst C (v := 0) dX8_shareOf_45 (by decide) ?_
          exact g_zret (ty := .int) (r := 0) B K rfl (rfl) ⟨rfl, rfl, rg_all _⟩ dX8_shareOf_46
      · skip
        have r_494338 := lt_l (hi := 6) (nle h_494331) rv_494328 rx_494330 (by decide)
        have r_494339 := lt_r (lo := 1) (nle h_494331) rv_494328 rx_494330 (by decide)
        refine g_iload C 4 dX8_shareOf_15 rfl ?_
        refine g_iload_n C 2 dX8_shareOf_17 rfl rfl ?_
        refine g_iload C 5 dX8_shareOf_18 rfl ?_
        obtain ⟨x_494340, hx_494340, rx_494340⟩ := ex_any (z0 := v_494325 >>> (v_494328 &&& 31))
        refine g_ishr C (v := x_494340) dX8_shareOf_20 hx_494340 ?_
        refine g_iconst C (v := 1) dX8_shareOf_21 (by decide) ?_
        obtain ⟨x_494341, hx_494341, rx_494341⟩ := ex_andr (x := x_494340) (y := 1) (b := 1) (rg_w rc_1 (by decide) (by decide))
        refine g_iand C (v := x_494341) dX8_shareOf_22 hx_494341 ?_
        refine g_aload_n C 0 dX8_shareOf_23 rfl rfl ?_
        refine g_getR C K hLx hkx f_8_15 hb_494257 dX8_shareOf_24 ?_
        refine g_iload C 5 dX8_shareOf_27 rfl ?_
        obtain ⟨x_494342, hx_494342, rx_494342⟩ := ex_get (I := I) (a := b_494257) (j := v_494328.toNatClampNeg) (lo := (-2147483648)) (hi := 2147483647) hU.1 hb_494257L (ro_a hb_494257k (by decide) hb_494257o hkx rfl) (rfl)
        refine h_iald C K hb_494257L hb_494257k (v := x_494342) (v_494328.toNatClampNeg) (rfl) (ix_0 r_494338 (by decide)) (ix_lt r_494338 (by decide) hb_494257n (by decide)) hx_494342 dX8_shareOf_29 ?_
        obtain ⟨x_494343, hx_494343, rx_494343⟩ := ex_any (z0 := x_494341 * x_494342)
        refine g_imul C (v := x_494343) dX8_shareOf_30 hx_494343 ?_
        obtain ⟨x_494344, hx_494344, rx_494344⟩ := ex_any (z0 := v_494327 + x_494343)
        refine g_iadd C (v := x_494344) dX8_shareOf_31 hx_494344 ?_
        refine g_istore C dX8_shareOf_32 (by decide) (lo2 := [(4, .int x_494344), (0, .ref x), (1, .int v_494324), (2, .int v_494325), (3, .int v_494326), (5, .int v_494328)]) rfl ?_
        obtain ⟨x_494345, hx_494345, rx_494345, tx_494345⟩ := ex_add (y := 1) 1 7 r_494338 rc_1 (by decide) (by decide) (by decide) (by decide)
        refine g_iinc C dX8_shareOf_34 (k := 5) (v := x_494345) rfl hx_494345 (by decide) (lo2 := [(5, .int x_494345), (4, .int x_494344), (0, .ref x), (1, .int v_494324), (2, .int v_494325), (3, .int v_494326)]) rfl ?_
        refine g_goto C (tgt := 6) dX8_shareOf_37 (by decide) ?_
        refine g_lo (is := [2, 3, 4, 5, 1, 0]) (lo2 := [(0, .ref x), (1, .int v_494324), (2, .int v_494325), (3, .int v_494326), (4, .int x_494344), (5, .int x_494345)]) rfl ?_
        exact ih_6 v_494324 v_494325 v_494326 (rv_494326) x_494344 x_494345 (rg_w rx_494345 (by decide) (by decide)) (ms_1 hm_494329 (ti_k tx_494345 rc_1) (by decide))
  refine g_iconst C (v := 0) dX8_shareOf_0 (by decide) ?_
  refine g_istore C dX8_shareOf_1 (by decide) (lo2 := [(4, .int 0), (0, .ref x), (1, .int a0), (2, .int a1), (3, .int a2)]) rfl ?_
  refine g_iconst C (v := 0) dX8_shareOf_3 (by decide) ?_
  refine g_istore C dX8_shareOf_4 (by decide) (lo2 := [(5, .int 0), (4, .int 0), (0, .ref x), (1, .int a0), (2, .int a1), (3, .int a2)]) rfl ?_
  refine g_lo (is := [2, 3, 4, 5, 1, 0]) (lo2 := [(0, .ref x), (1, .int a0), (2, .int a1), (3, .int a2), (4, .int 0), (5, .int 0)]) rfl ?_
  exact l_6 8 a0 a1 a2 (ra2) 0 0 (rg_w rc_0 (by decide) (by decide)) (ms_s (a := 0) (b := 7) (N := 8) (rg_w rc_0 (by decide) (by decide)) (by decide))
set_option maxRecDepth 100000 in
set_option maxHeartbeats 8000000 in
theorem c_X11_share {l : Launch} {D : va_G} {cy : Nat → ClassId} {L : List Nat} {κ ln : Nat → Nat} {R : Nat → Nat → Option Nat} {I : Nat → Nat → Int32} {J : Nat → Nat → Int64} {ow : Nat → Nat × Nat} (W9 : ∀ a ∈ L, Shp L κ ln R ow a) {x : Nat} (hLx : x ∈ L) (hkx : κ x = 11) (a0 : Int32) (a1 : Int32) (a2 : Int32) (hU : Iv L κ R ow I) : CtI l yX11_share cX11_share 5 (some .int) { frames := 1, cells := 0, slots := 0, locals := 29 } D cy L κ ln R I J [.ref x, .int a0, .int a1, .int a2] (fun r I2 J2 => I = I2 ∧ J = J2 ∧ Rg (-2147483648) 2147483647 r) := by
  refine CtI.of (by decide +kernel) (Nat.le_of_ble_eq_true rfl) ?_
  intro p e s m below meth c B K
  have C := B.1
  obtain ⟨b_494432, hb_494432, hb_494432L, hb_494432k⟩ := shp_o (W9 x hLx) hkx 1 8 rfl (by decide)
  obtain ⟨b_494433, hb_494433, hb_494433L, hb_494433k⟩ := shp_o (W9 x hLx) hkx 2 1 rfl (by decide)
  obtain ⟨b_494434, hb_494434, hb_494434L, hb_494434k, hb_494434n, hb_494434o⟩ := shp_a (W9 b_494433 hb_494433L) hb_494433k 1 14 6 rfl (by decide)
  refine g_lo (is := [0, 1, 2, 3]) (lo2 := [(0, .ref x), (1, .int a0), (2, .int a1), (3, .int a2)]) rfl ?_
  have j_40 : ∀ (v_494435 : Int32) (v_494436 : Int32) (v_494437 : Int32), WG p l e { frames := 1, cells := 0, slots := 0, locals := 29 } s m ([.ref x, .int a0, .int a1, .int a2] : List Value).toArray below meth c 5 0 0 (MQ below (Qi_ D cy L κ ln R (fun r I2 J2 => I = I2 ∧ J = J2 ∧ Rg (-2147483648) 2147483647 r)) ([.ref x, .int a0, .int a1, .int a2] : List Value).toArray s 0 0 (Al_ L)) D cy (Al_ L) s.heap L κ ln R I J 40 [(0, .ref x), (1, .int v_494435), (2, .int v_494436), (3, .int v_494437)] [] := by
    intro v_494435 v_494436 v_494437
    refine g_iconst C (v := 0) dX11_share_40 (by decide) ?_
    refine g_istore C dX11_share_41 (by decide) (lo2 := [(4, .int 0), (0, .ref x), (1, .int v_494435), (2, .int v_494436), (3, .int v_494437)]) rfl ?_
    refine g_iload C 0 dX11_share_43 rfl ?_
    refine g_if_eq C (tgt := 56) dX11_share_45 (by decide) (fun h_494438 => ?_) (fun h_494438 => ?_)
    · skip
      refine g_iconst C (v := (-1)) dX11_share_56 (by decide) ?_
      exact g_zret (ty := .int) (r := (-1)) B K rfl (rfl) ⟨rfl, rfl, rg_all _⟩ dX11_share_57
    · skip
      exact absurd h_494438 (by decide)
  refine g_aload_n C 0 dX11_share_0 rfl rfl ?_
  refine g_getR C K hLx hkx f_11_19 hb_494432 dX11_share_1 ?_
  refine g_iload_n C 1 dX11_share_4 rfl rfl ?_
  refine g_callVI C K (c_X8_hasDish W9 hb_494432L hb_494432k a0  hU) hb_494432L hb_494432k (by decide) rfl v_11_175 rfl ⟨rfl, rfl⟩ ⟨Nat.le_of_ble_eq_true rfl, Nat.le_of_ble_eq_true rfl⟩ (Nat.le_of_ble_eq_true rfl) ⟨Nat.le_of_ble_eq_true rfl, Nat.le_of_ble_eq_true rfl⟩ dX11_share_5 rfl (st := []) (fun x_494439 I_494440 J_494441 h_494442 => ?_)
  obtain ⟨rfl, rfl, rx_494439, ex_494439⟩ := h_494442
  refine g_if_eq C (tgt := 40) dX11_share_8 (by decide) (fun h_494443 => ?_) (fun h_494443 => ?_)
  · skip
    have r_494444 := (⟨(rx_494439).1, (eq_rg (h_494443) rc_0).2⟩ : Rg 0 0 x_494439)
    refine g_lo (is := [0, 1, 2, 3]) (lo2 := [(0, .ref x), (1, .int a0), (2, .int a1), (3, .int a2)]) rfl ?_
    exact j_40 a0 a1 a2
  · skip
    have n_494445 : ¬ x_494439 = 0 := h_494443
    have r_494446 := ne_lo (lo := 1) n_494445 rx_494439 rc_0 rfl (by decide)
    have r_494447 := rg_i (rg_all a0) ((ex_494439) (rg_nz r_494446 (by decide))) (lo := 0) (hi := 5) (by decide) (by decide)
    refine g_aload_n C 0 dX11_share_11 rfl rfl ?_
    refine g_getR C K hLx hkx f_11_19 hb_494432 dX11_share_12 ?_
    refine g_iload_n C 3 dX11_share_15 rfl rfl ?_
    refine g_callVI C K (c_X8_hasPerson W9 hb_494432L hb_494432k a2  hU) hb_494432L hb_494432k (by decide) rfl v_11_133 rfl ⟨rfl, rfl⟩ ⟨Nat.le_of_ble_eq_true rfl, Nat.le_of_ble_eq_true rfl⟩ (Nat.le_of_ble_eq_true rfl) ⟨Nat.le_of_ble_eq_true rfl, Nat.le_of_ble_eq_true rfl⟩ dX11_share_16 rfl (st := []) (fun x_494448 I_494449 J_494450 h_494451 => ?_)
    obtain ⟨rfl, rfl, rx_494448, ex_494448⟩ := h_494451
    refine g_if_eq C (tgt := 40) dX11_share_19 (by decide) (fun h_494452 => ?_) (fun h_494452 => ?_)
    · skip
      have r_494453 := (⟨(rx_494448).1, (eq_rg (h_494452) rc_0).2⟩ : Rg 0 0 x_494448)
      refine g_lo (is := [0, 1, 2, 3]) (lo2 := [(0, .ref x), (1, .int a0), (2, .int a1), (3, .int a2)]) rfl ?_
      exact j_40 a0 a1 a2
    · skip
      have n_494454 : ¬ x_494448 = 0 := h_494452
      have r_494455 := ne_lo (lo := 1) n_494454 rx_494448 rc_0 rfl (by decide)
      have r_494456 := rg_i (rg_all a2) ((ex_494448) (rg_nz r_494455 (by decide))) (lo := 0) (hi := 6) (by decide) (by decide)
      refine g_iload_n C 2 dX11_share_22 rfl rfl ?_
      refine g_aload_n C 0 dX11_share_23 rfl rfl ?_
      refine g_getR C K hLx hkx f_11_19 hb_494432 dX11_share_24 ?_
      refine g_callVI C K (c_X8_everybody W9 hb_494432L hb_494432k   hU) hb_494432L hb_494432k (by decide) rfl v_11_188 rfl ⟨rfl, rfl⟩ ⟨Nat.le_of_ble_eq_true rfl, Nat.le_of_ble_eq_true rfl⟩ (Nat.le_of_ble_eq_true rfl) ⟨Nat.le_of_ble_eq_true rfl, Nat.le_of_ble_eq_true rfl⟩ dX11_share_27 rfl (st := [.int a1]) (fun x_494457 I_494458 J_494459 h_494460 => ?_)
      obtain ⟨rfl, rfl, rx_494457⟩ := h_494460
      refine g_iconst C (v := (-1)) dX11_share_30 (by decide) ?_
      obtain ⟨x_494461, hx_494461, rx_494461⟩ := ex_any (z0 := x_494457 ^^^ (-1))
      refine g_ixor C (v := x_494461) dX11_share_31 hx_494461 ?_
      obtain ⟨x_494462, hx_494462, rx_494462⟩ := ex_any (z0 := a1 &&& x_494461)
      refine g_iand C (v := x_494462) dX11_share_32 hx_494462 ?_
      refine g_if_ne C (tgt := 40) dX11_share_33 (by decide) (fun h_494463 => ?_) (fun h_494463 => ?_)
      · skip
        have n_494464 : ¬ x_494462 = 0 := h_494463
        refine g_lo (is := [0, 1, 2, 3]) (lo2 := [(0, .ref x), (1, .int a0), (2, .int a1), (3, .int a2)]) rfl ?_
        exact j_40 a0 a1 a2
      · skip
        have r_494465 := (⟨(eq_rg (h_494463) rc_0).1, (eq_rg (h_494463) rc_0).2⟩ : Rg 0 0 x_494462)
        refine g_iconst C (v := 1) dX11_share_36 (by decide) ?_
        refine g_goto C (tgt := 41) dX11_share_37 (by decide) ?_
        refine g_istore C dX11_share_41 (by decide) (lo2 := [(4, .int 1), (0, .ref x), (1, .int a0), (2, .int a1), (3, .int a2)]) rfl ?_
        refine g_iload C 0 dX11_share_43 rfl ?_
        refine g_if_eq C (tgt := 56) dX11_share_45 (by decide) (fun h_494466 => ?_) (fun h_494466 => ?_)
        · skip
          exact absurd h_494466 (by decide)
        · skip
          refine g_iload_n C 3 dX11_share_48 rfl rfl ?_
          refine g_iload_n C 4 dX11_share_49 rfl rfl ?_
          obtain ⟨x_494467, hx_494467, rx_494467⟩ := ex_any (z0 := a1 >>> (a2 &&& 31))
          refine g_ishr C (v := x_494467) dX11_share_50 hx_494467 ?_
          refine g_iconst C (v := 1) dX11_share_51 (by decide) ?_
          obtain ⟨x_494468, hx_494468, rx_494468⟩ := ex_andr (x := x_494467) (y := 1) (b := 1) (rg_w rc_1 (by decide) (by decide))
          refine g_iand C (v := x_494468) dX11_share_52 hx_494468 ?_
          refine g_if_ne C (tgt := 58) dX11_share_53 (by decide) (fun h_494469 => ?_) (fun h_494469 => ?_)
          · skip
            have n_494470 : ¬ x_494468 = 0 := h_494469
            have r_494471 := ne_lo (lo := 1) n_494470 rx_494468 rc_0 rfl (by decide)
            refine g_aload_n C 1 dX11_share_58 rfl rfl ?_
            refine g_getR C K hLx hkx f_11_19 hb_494432 dX11_share_59 ?_
            refine g_aload_n C 1 dX11_share_62 rfl rfl ?_
            refine g_getR C K hLx hkx f_11_28 hb_494433 dX11_share_63 ?_
            refine g_getR C K hb_494433L hb_494433k f_11_182 hb_494434 dX11_share_66 ?_
            refine g_iload_n C 2 dX11_share_69 rfl rfl ?_
            obtain ⟨x_494472, hx_494472, rx_494472⟩ := ex_get (I := I) (a := b_494434) (j := a0.toNatClampNeg) (lo := (-2147483648)) (hi := 2147483647) hU.1 hb_494434L (ro_a hb_494434k (by decide) hb_494434o hb_494433k rfl) (rfl)
            refine h_iald C K hb_494434L hb_494434k (v := x_494472) (a0.toNatClampNeg) (rfl) (ix_0 r_494447 (by decide)) (ix_lt r_494447 (by decide) hb_494434n (by decide)) hx_494472 dX11_share_70 ?_
            refine g_iload_n C 3 dX11_share_71 rfl rfl ?_
            refine g_iload_n C 4 dX11_share_72 rfl rfl ?_
            refine g_callVI C K (c_X8_shareOf W9 hb_494432L hb_494432k x_494472 a1 a2 (r_494456) hU) hb_494432L hb_494432k (by decide) rfl v_11_288 rfl ⟨rfl, rfl⟩ ⟨Nat.le_of_ble_eq_true rfl, Nat.le_of_ble_eq_true rfl⟩ (Nat.le_of_ble_eq_true rfl) ⟨Nat.le_of_ble_eq_true rfl, Nat.le_of_ble_eq_true rfl⟩ dX11_share_73 rfl (st := []) (fun x_494473 I_494474 J_494475 h_494476 => ?_)
            obtain ⟨rfl, rfl, rx_494473⟩ := h_494476
            exact g_zret (ty := .int) (r := x_494473) B K rfl (rfl) ⟨rfl, rfl, rx_494473⟩ dX11_share_76
          · skip
            have r_494477 := (⟨(rx_494468).1, (eq_rg (h_494469) rc_0).2⟩ : Rg 0 0 x_494468)
            refine g_iconst C (v := (-1)) dX11_share_56 (by decide) ?_
            exact g_zret (ty := .int) (r := (-1)) B K rfl (rfl) ⟨rfl, rfl, rg_all _⟩ dX11_share_57
set_option maxRecDepth 100000 in
set_option maxHeartbeats 8000000 in
theorem c_X11_last {l : Launch} {D : va_G} {cy : Nat → ClassId} {L : List Nat} {κ ln : Nat → Nat} {R : Nat → Nat → Option Nat} {I : Nat → Nat → Int32} {J : Nat → Nat → Int64} {ow : Nat → Nat × Nat} (W9 : ∀ a ∈ L, Shp L κ ln R ow a) {x : Nat} (hLx : x ∈ L) (hkx : κ x = 11) (a0 : Int32) (hU : Iv L κ R ow I) : CtI l yX11_last cX11_last 2 (some .int) { frames := 1, cells := 0, slots := 0, locals := 21 } D cy L κ ln R I J [.ref x, .int a0] (fun r I2 J2 => I = I2 ∧ J = J2 ∧ Rg (-2147483648) 2147483647 r) := by
  refine CtI.of (by decide +kernel) (Nat.le_of_ble_eq_true rfl) ?_
  intro p e s m below meth c B K
  have C := B.1
  obtain ⟨b_494516, hb_494516, hb_494516L, hb_494516k⟩ := shp_o (W9 x hLx) hkx 1 8 rfl (by decide)
  obtain ⟨b_494517, hb_494517, hb_494517L, hb_494517k⟩ := shp_o (W9 x hLx) hkx 2 1 rfl (by decide)
  obtain ⟨b_494518, hb_494518, hb_494518L, hb_494518k, hb_494518n, hb_494518o⟩ := shp_a (W9 b_494517 hb_494517L) hb_494517k 1 14 6 rfl (by decide)
  refine g_lo (is := [0, 1]) (lo2 := [(0, .ref x), (1, .int a0)]) rfl ?_
  refine g_aload_n C 0 dX11_last_0 rfl rfl ?_
  refine g_getR C K hLx hkx f_11_19 hb_494516 dX11_last_1 ?_
  refine g_iload_n C 1 dX11_last_4 rfl rfl ?_
  refine g_callVI C K (c_X8_hasDish W9 hb_494516L hb_494516k a0  hU) hb_494516L hb_494516k (by decide) rfl v_11_175 rfl ⟨rfl, rfl⟩ ⟨Nat.le_of_ble_eq_true rfl, Nat.le_of_ble_eq_true rfl⟩ (Nat.le_of_ble_eq_true rfl) ⟨Nat.le_of_ble_eq_true rfl, Nat.le_of_ble_eq_true rfl⟩ dX11_last_5 rfl (st := []) (fun x_494519 I_494520 J_494521 h_494522 => ?_)
  obtain ⟨rfl, rfl, rx_494519, ex_494519⟩ := h_494522
  refine g_if_ne C (tgt := 13) dX11_last_8 (by decide) (fun h_494523 => ?_) (fun h_494523 => ?_)
  · skip
    have n_494524 : ¬ x_494519 = 0 := h_494523
    have r_494525 := ne_lo (lo := 1) n_494524 rx_494519 rc_0 rfl (by decide)
    have r_494526 := rg_i (rg_all a0) ((ex_494519) (rg_nz r_494525 (by decide))) (lo := 0) (hi := 5) (by decide) (by decide)
    refine g_aload_n C 0 dX11_last_13 rfl rfl ?_
    refine g_getR C K hLx hkx f_11_28 hb_494517 dX11_last_14 ?_
    refine g_getR C K hb_494517L hb_494517k f_11_182 hb_494518 dX11_last_17 ?_
    refine g_iload_n C 1 dX11_last_20 rfl rfl ?_
    obtain ⟨x_494527, hx_494527, rx_494527⟩ := ex_get (I := I) (a := b_494518) (j := a0.toNatClampNeg) (lo := (-2147483648)) (hi := 2147483647) hU.1 hb_494518L (ro_a hb_494518k (by decide) hb_494518o hb_494517k rfl) (rfl)
    refine h_iald C K hb_494518L hb_494518k (v := x_494527) (a0.toNatClampNeg) (rfl) (ix_0 r_494526 (by decide)) (ix_lt r_494526 (by decide) hb_494518n (by decide)) hx_494527 dX11_last_21 ?_
    refine g_if_ne C (tgt := 29) dX11_last_22 (by decide) (fun h_494528 => ?_) (fun h_494528 => ?_)
    · skip
      have n_494529 : ¬ x_494527 = 0 := h_494528
      refine g_aload_n C 0 dX11_last_29 rfl rfl ?_
      refine g_getR C K hLx hkx f_11_28 hb_494517 dX11_last_30 ?_
      refine g_getR C K hb_494517L hb_494517k f_11_182 hb_494518 dX11_last_33 ?_
      refine g_iload_n C 1 dX11_last_36 rfl rfl ?_
      refine h_iald C K hb_494518L hb_494518k (v := x_494527) (a0.toNatClampNeg) (rfl) (ix_0 r_494526 (by decide)) (ix_lt r_494526 (by decide) hb_494518n (by decide)) hx_494527 dX11_last_37 ?_
      refine g_iconst C (v := 3) dX11_last_38 (by decide) ?_
      obtain ⟨x_494531, hx_494531, rx_494531⟩ := ex_any (z0 := x_494527 + 3)
      refine g_iadd C (v := x_494531) dX11_last_39 hx_494531 ?_
      refine g_iconst C (v := 4) dX11_last_40 (by decide) ?_
      obtain ⟨x_494532, hx_494532, rx_494532⟩ := ex_any (z0 := x_494531 - x_494531 / 4 * 4)
      refine g_irem C (v := x_494532) dX11_last_41 (rg_ne0 rc_4 (by decide)) hx_494532 ?_
      exact g_zret (ty := .int) (r := x_494532) B K rfl (rfl) ⟨rfl, rfl, rx_494532⟩ dX11_last_42
    · skip
      have r_494533 := (⟨(eq_rg (h_494528) rc_0).1, (eq_rg (h_494528) rc_0).2⟩ : Rg 0 0 x_494527)
      refine g_iconst C (v := 0) dX11_last_25 (by decide) ?_
      refine g_goto C (tgt := 42) dX11_last_26 (by decide) ?_
      exact g_zret (ty := .int) (r := 0) B K rfl (rfl) ⟨rfl, rfl, rg_all _⟩ dX11_last_42
  · skip
    have r_494534 := (⟨(rx_494519).1, (eq_rg (h_494523) rc_0).2⟩ : Rg 0 0 x_494519)
    refine g_iconst C (v := (-1)) dX11_last_11 (by decide) ?_
    exact g_zret (ty := .int) (r := (-1)) B K rfl (rfl) ⟨rfl, rfl, rg_all _⟩ dX11_last_12
set_option maxRecDepth 100000 in
set_option maxHeartbeats 8000000 in
theorem c_X6_isChild {l : Launch} {D : va_G} {cy : Nat → ClassId} {L : List Nat} {κ ln : Nat → Nat} {R : Nat → Nat → Option Nat} {I : Nat → Nat → Int32} {J : Nat → Nat → Int64} {ow : Nat → Nat × Nat} (W9 : ∀ a ∈ L, Shp L κ ln R ow a) {a0 : Nat} (hLa0 : a0 ∈ L) (hka0 : κ a0 = 8) (a1 : Int32) (a2 : Int32) (ra1 : Rg 0 6 a1) (ra2 : Rg (-1) 6 a2) (hU : Iv L κ R ow I) : CtI l yX6_isChild cX6_isChild 3 (some .int) { frames := 0, cells := 0, slots := 0, locals := 0 } D cy L κ ln R I J [.ref a0, .int a1, .int a2] (fun r I2 J2 => I = I2 ∧ J = J2 ∧ Rg 0 1 r) := by
  refine CtI.of (by decide +kernel) (Nat.le_of_ble_eq_true rfl) ?_
  intro p e s m below meth c B K
  have C := B.1
  obtain ⟨b_494551, hb_494551, hb_494551L, hb_494551k, hb_494551n, hb_494551o⟩ := shp_a (W9 a0 hLa0) hka0 2 14 7 rfl (by decide)
  refine g_lo (is := [0, 1, 2]) (lo2 := [(0, .ref a0), (1, .int a1), (2, .int a2)]) rfl ?_
  refine g_iload_n C 2 dX6_isChild_0 rfl rfl ?_
  refine g_iconst C (v := (-1)) dX6_isChild_1 (by decide) ?_
  refine g_icmp_eq C (tgt := 19) dX6_isChild_2 (by decide) (fun h_494552 => ?_) (fun h_494552 => ?_)
  · skip
    have r_494553 := (⟨(ra2).1, (eq_rg (h_494552) rc_m1).2⟩ : Rg (-1) (-1) a2)
    refine g_iconst C (v := 0) dX6_isChild_19 (by decide) ?_
    exact g_zret (ty := .int) (r := 0) B K rfl (rfl) ⟨rfl, rfl, rg_w rc_0 (by decide) (by decide)⟩ dX6_isChild_20
  · skip
    have n_494554 : ¬ a2 = (-1) := h_494552
    have r_494555 := ne_lo (lo := 0) n_494554 ra2 rc_m1 rfl (by decide)
    refine g_aload_n C 0 dX6_isChild_5 rfl rfl ?_
    refine g_getR C K hLa0 hka0 f_6_45 hb_494551 dX6_isChild_6 ?_
    refine g_iload_n C 1 dX6_isChild_9 rfl rfl ?_
    obtain ⟨x_494556, hx_494556, rx_494556⟩ := ex_get (I := I) (a := b_494551) (j := a1.toNatClampNeg) (lo := (-1)) (hi := 6) hU.1 hb_494551L (ro_a hb_494551k (by decide) hb_494551o hka0 rfl) (rfl)
    refine h_iald C K hb_494551L hb_494551k (v := x_494556) (a1.toNatClampNeg) (rfl) (ix_0 ra1 (by decide)) (ix_lt ra1 (by decide) hb_494551n (by decide)) hx_494556 dX6_isChild_10 ?_
    refine g_iload_n C 2 dX6_isChild_11 rfl rfl ?_
    refine g_icmp_ne C (tgt := 19) dX6_isChild_12 (by decide) (fun h_494557 => ?_) (fun h_494557 => ?_)
    · skip
      refine g_iconst C (v := 0) dX6_isChild_19 (by decide) ?_
      exact g_zret (ty := .int) (r := 0) B K rfl (rfl) ⟨rfl, rfl, rg_w rc_0 (by decide) (by decide)⟩ dX6_isChild_20
    · skip
      have r_494558 := (⟨(eq_rg (h_494557) r_494555).1, (rx_494556).2⟩ : Rg 0 6 x_494556)
      refine g_iconst C (v := 1) dX6_isChild_15 (by decide) ?_
      refine g_goto C (tgt := 20) dX6_isChild_16 (by decide) ?_
      exact g_zret (ty := .int) (r := 1) B K rfl (rfl) ⟨rfl, rfl, rg_w rc_1 (by decide) (by decide)⟩ dX6_isChild_20
set_option maxRecDepth 100000 in
set_option maxHeartbeats 8000000 in
theorem c_X6_parentsAmong {l : Launch} {D : va_G} {cy : Nat → ClassId} {L : List Nat} {κ ln : Nat → Nat} {R : Nat → Nat → Option Nat} {I : Nat → Nat → Int32} {J : Nat → Nat → Int64} {ow : Nat → Nat × Nat} (W9 : ∀ a ∈ L, Shp L κ ln R ow a) {a0 : Nat} (hLa0 : a0 ∈ L) (hka0 : κ a0 = 8) (a1 : Int32) (a2 : Int32) (ra1 : Rg 0 127 a1) (ra2 : Rg 0 127 a2) (hU : Iv L κ R ow I) : CtI l yX6_parentsAmong cX6_parentsAmong 5 (some .int) { frames := 1, cells := 0, slots := 0, locals := 23 } D cy L κ ln R I J [.ref a0, .int a1, .int a2] (fun r I2 J2 => I = I2 ∧ J = J2 ∧ Rg (-2147483648) 2147483647 r) := by
  refine CtI.of (by decide +kernel) (Nat.le_of_ble_eq_true rfl) ?_
  intro p e s m below meth c B K
  have C := B.1
  refine g_lo (is := [0, 1, 2]) (lo2 := [(0, .ref a0), (1, .int a1), (2, .int a2)]) rfl ?_
  have l_5 : ∀ (n_5 : Nat) (v_495627 : Int32) (rv_495627 : Rg 0 127 v_495627) (v_495628 : Int32) (rv_495628 : Rg 0 127 v_495628) (v_495629 : Int32) (v_495630 : Int32) (rv_495630 : Rg 0 7 v_495630) (hm_495631 : 7 < (v_495630 : Int32).toInt + (n_5 : Int)), WG p l e { frames := 1, cells := 0, slots := 0, locals := 23 } s m ([.ref a0, .int a1, .int a2] : List Value).toArray below meth c 5 0 0 (MQ below (Qi_ D cy L κ ln R (fun r I2 J2 => I = I2 ∧ J = J2 ∧ Rg (-2147483648) 2147483647 r)) ([.ref a0, .int a1, .int a2] : List Value).toArray s 0 0 (Al_ L)) D cy (Al_ L) s.heap L κ ln R I J 5 [(0, .ref a0), (1, .int v_495627), (2, .int v_495628), (3, .int v_495629), (4, .int v_495630)] [] := by
    intro n_5
    induction n_5 with
    | zero =>
      intro v_495627 rv_495627 v_495628 rv_495628 v_495629 v_495630 rv_495630 hm_495631
      exact ms_0 rv_495630 hm_495631
    | succ n_5 ih_5 =>
      intro v_495627 rv_495627 v_495628 rv_495628 v_495629 v_495630 rv_495630 hm_495631
      have j_37 : ∀ (v_495632 : Int32) (rv_495632 : Rg 0 127 v_495632) (v_495633 : Int32) (rv_495633 : Rg 0 127 v_495633) (v_495634 : Int32) (v_495635 : Int32) (rv_495635 : Rg 0 6 v_495635) (v_495636 : Int32) (rv_495636 : Rg 1 7 v_495636) (q_495637 : I a0 5 = v_495636) (hm_495638 : 7 < (v_495635 : Int32).toInt + ((n_5 + 1 : Nat) : Int)), WG p l e { frames := 1, cells := 0, slots := 0, locals := 23 } s m ([.ref a0, .int a1, .int a2] : List Value).toArray below meth c 5 0 0 (MQ below (Qi_ D cy L κ ln R (fun r I2 J2 => I = I2 ∧ J = J2 ∧ Rg (-2147483648) 2147483647 r)) ([.ref a0, .int a1, .int a2] : List Value).toArray s 0 0 (Al_ L)) D cy (Al_ L) s.heap L κ ln R I J 37 [(0, .ref a0), (1, .int v_495632), (2, .int v_495633), (3, .int v_495634), (4, .int v_495635)] [] := by
        intro v_495632 rv_495632 v_495633 rv_495633 v_495634 v_495635 rv_495635 v_495636 rv_495636 q_495637 hm_495638
        obtain ⟨x_495639, hx_495639, rx_495639, tx_495639⟩ := ex_add (y := 1) 1 7 rv_495635 rc_1 (by decide) (by decide) (by decide) (by decide)
        refine g_iinc C dX6_parentsAmong_37 (k := 4) (v := x_495639) rfl hx_495639 (by decide) (lo2 := [(4, .int x_495639), (0, .ref a0), (1, .int v_495632), (2, .int v_495633), (3, .int v_495634)]) rfl ?_
        refine g_goto C (tgt := 5) dX6_parentsAmong_40 (by decide) ?_
        refine g_lo (is := [1, 2, 3, 4, 0]) (lo2 := [(0, .ref a0), (1, .int v_495632), (2, .int v_495633), (3, .int v_495634), (4, .int x_495639)]) rfl ?_
        exact ih_5 v_495632 (rv_495632) v_495633 (rv_495633) v_495634 x_495639 (rg_w rx_495639 (by decide) (by decide)) (ms_1 hm_495638 (ti_k tx_495639 rc_1) (by decide))
      refine g_iload C 4 dX6_parentsAmong_5 rfl ?_
      refine g_aload_n C 0 dX6_parentsAmong_7 rfl rfl ?_
      obtain ⟨x_495640, hx_495640, rx_495640⟩ := ex_get (I := I) (a := a0) (j := 5) (lo := 0) (hi := 7) hU.1 hLa0 (ro_o hka0 (by decide)) rfl
      refine g_getI C K hLa0 hka0 f_6_33 (v := x_495640) hx_495640 dX6_parentsAmong_8 ?_
      refine g_icmp_ge C (tgt := 43) dX6_parentsAmong_11 (by decide) (fun h_495641 => ?_) (fun h_495641 => ?_)
      · skip
        refine g_iload_n C 3 dX6_parentsAmong_43 rfl rfl ?_
        exact g_zret (ty := .int) (r := v_495629) B K rfl (rfl) ⟨rfl, rfl, (rg_all v_495629)⟩ dX6_parentsAmong_44
      · skip
        have r_495642 := lt_l (hi := 6) (nle h_495641) rv_495630 rx_495640 (by decide)
        have r_495643 := lt_r (lo := 1) (nle h_495641) rv_495630 rx_495640 (by decide)
        refine g_iload_n C 1 dX6_parentsAmong_14 rfl rfl ?_
        refine g_iload C 4 dX6_parentsAmong_15 rfl ?_
        obtain ⟨x_495644, hx_495644, rx_495644⟩ := ex_shr (x := v_495627) (y := v_495630) (b := 127) (rv_495627)
        refine g_ishr C (v := x_495644) dX6_parentsAmong_17 hx_495644 ?_
        refine g_iconst C (v := 1) dX6_parentsAmong_18 (by decide) ?_
        obtain ⟨x_495645, hx_495645, rx_495645⟩ := ex_andr (x := x_495644) (y := 1) (b := 1) (rg_w rc_1 (by decide) (by decide))
        refine g_iand C (v := x_495645) dX6_parentsAmong_19 hx_495645 ?_
        refine g_if_eq C (tgt := 37) dX6_parentsAmong_20 (by decide) (fun h_495646 => ?_) (fun h_495646 => ?_)
        · skip
          have r_495647 := (⟨(rx_495645).1, (eq_rg (h_495646) rc_0).2⟩ : Rg 0 0 x_495645)
          refine g_lo (is := [0, 1, 2, 3, 4]) (lo2 := [(0, .ref a0), (1, .int v_495627), (2, .int v_495628), (3, .int v_495629), (4, .int v_495630)]) rfl ?_
          exact j_37 v_495627 (rv_495627) v_495628 (rv_495628) v_495629 v_495630 (r_495642) x_495640 (r_495643) hx_495640 hm_495631
        · skip
          have n_495648 : ¬ x_495645 = 0 := h_495646
          have r_495649 := ne_lo (lo := 1) n_495648 rx_495645 rc_0 rfl (by decide)
          refine g_aload_n C 0 dX6_parentsAmong_23 rfl rfl ?_
          refine g_iload C 4 dX6_parentsAmong_24 rfl ?_
          refine g_callVI C K (c_X8_childrenOf W9 hLa0 hka0 v_495630 (r_495642) hU) hLa0 hka0 (by decide) rfl v_6_48 rfl ⟨rfl, rfl⟩ ⟨Nat.le_of_ble_eq_true rfl, Nat.le_of_ble_eq_true rfl⟩ (Nat.le_of_ble_eq_true rfl) ⟨Nat.le_of_ble_eq_true rfl, Nat.le_of_ble_eq_true rfl⟩ dX6_parentsAmong_26 rfl (st := []) (fun x_495650 I_495651 J_495652 h_495653 => ?_)
          obtain ⟨rfl, rfl, rx_495650⟩ := h_495653
          refine g_iload_n C 2 dX6_parentsAmong_29 rfl rfl ?_
          obtain ⟨x_495654, hx_495654, rx_495654⟩ := ex_andl (x := x_495650) (y := v_495628) (b := 127) (rx_495650)
          refine g_iand C (v := x_495654) dX6_parentsAmong_30 hx_495654 ?_
          refine g_if_eq C (tgt := 37) dX6_parentsAmong_31 (by decide) (fun h_495655 => ?_) (fun h_495655 => ?_)
          · skip
            have r_495656 := (⟨(rx_495654).1, (eq_rg (h_495655) rc_0).2⟩ : Rg 0 0 x_495654)
            refine g_lo (is := [0, 1, 2, 3, 4]) (lo2 := [(0, .ref a0), (1, .int v_495627), (2, .int v_495628), (3, .int v_495629), (4, .int v_495630)]) rfl ?_
            exact j_37 v_495627 (rv_495627) v_495628 (rv_495628) v_495629 v_495630 (r_495642) x_495640 (r_495643) hx_495640 hm_495631
          · skip
            have n_495657 : ¬ x_495654 = 0 := h_495655
            have r_495658 := ne_lo (lo := 1) n_495657 rx_495654 rc_0 rfl (by decide)
            obtain ⟨x_495659, hx_495659, rx_495659⟩ := ex_any (z0 := v_495629 + 1)
            refine g_iinc C dX6_parentsAmong_34 (k := 3) (v := x_495659) rfl hx_495659 (by decide) (lo2 := [(3, .int x_495659), (0, .ref a0), (1, .int v_495627), (2, .int v_495628), (4, .int v_495630)]) rfl ?_
            refine g_lo (is := [1, 2, 3, 0, 4]) (lo2 := [(0, .ref a0), (1, .int v_495627), (2, .int v_495628), (3, .int x_495659), (4, .int v_495630)]) rfl ?_
            exact j_37 v_495627 (rv_495627) v_495628 (rv_495628) x_495659 v_495630 (r_495642) x_495640 (r_495643) hx_495640 hm_495631
  refine g_iconst C (v := 0) dX6_parentsAmong_0 (by decide) ?_
  refine g_istore_n C dX6_parentsAmong_1 rfl (by decide) (lo2 := [(3, .int 0), (0, .ref a0), (1, .int a1), (2, .int a2)]) rfl ?_
  refine g_iconst C (v := 0) dX6_parentsAmong_2 (by decide) ?_
  refine g_istore C dX6_parentsAmong_3 (by decide) (lo2 := [(4, .int 0), (3, .int 0), (0, .ref a0), (1, .int a1), (2, .int a2)]) rfl ?_
  refine g_lo (is := [2, 3, 4, 1, 0]) (lo2 := [(0, .ref a0), (1, .int a1), (2, .int a2), (3, .int 0), (4, .int 0)]) rfl ?_
  exact l_5 8 a1 (ra1) a2 (ra2) 0 0 (rg_w rc_0 (by decide) (by decide)) (ms_s (a := 0) (b := 7) (N := 8) (rg_w rc_0 (by decide) (by decide)) (by decide))
set_option maxRecDepth 100000 in
set_option maxHeartbeats 8000000 in
theorem c_X6_leastFor {l : Launch} {D : va_G} {cy : Nat → ClassId} {L : List Nat} {κ ln : Nat → Nat} {R : Nat → Nat → Option Nat} {I : Nat → Nat → Int32} {J : Nat → Nat → Int64} {ow : Nat → Nat × Nat} (W9 : ∀ a ∈ L, Shp L κ ln R ow a) {a0 : Nat} (hLa0 : a0 ∈ L) (hka0 : κ a0 = 8) (a1 : Int32) (a2 : Int32) (a3 : Int32) (ra1 : Rg 1 127 a1) (ra2 : Rg (-1) 6 a2) (hU : Iv L κ R ow I) : CtI l yX6_leastFor cX6_leastFor 6 (some .int) { frames := 2, cells := 0, slots := 0, locals := 47 } D cy L κ ln R I J [.ref a0, .int a1, .int a2, .int a3] (fun r I2 J2 => I = I2 ∧ J = J2 ∧ Rg (-1) 6 r) := by
  refine CtI.of (by decide +kernel) (Nat.le_of_ble_eq_true rfl) ?_
  intro p e s m below meth c B K
  have C := B.1
  refine g_lo (is := [0, 1, 2, 3]) (lo2 := [(0, .ref a0), (1, .int a1), (2, .int a2), (3, .int a3)]) rfl ?_
  have l_3 : ∀ (n_3 : Nat) (v_495836 : Int32) (rv_495836 : Rg 1 127 v_495836) (v_495837 : Int32) (rv_495837 : Rg (-1) 6 v_495837) (v_495838 : Int32) (v_495839 : Int32) (rv_495839 : Rg 0 7 v_495839) (hm_495840 : 7 < (v_495839 : Int32).toInt + (n_3 : Int)), WG p l e { frames := 2, cells := 0, slots := 0, locals := 47 } s m ([.ref a0, .int a1, .int a2, .int a3] : List Value).toArray below meth c 6 0 0 (MQ below (Qi_ D cy L κ ln R (fun r I2 J2 => I = I2 ∧ J = J2 ∧ Rg (-1) 6 r)) ([.ref a0, .int a1, .int a2, .int a3] : List Value).toArray s 0 0 (Al_ L)) D cy (Al_ L) s.heap L κ ln R I J 3 [(0, .ref a0), (1, .int v_495836), (2, .int v_495837), (3, .int v_495838), (4, .int v_495839)] [] := by
    intro n_3
    induction n_3 with
    | zero =>
      intro v_495836 rv_495836 v_495837 rv_495837 v_495838 v_495839 rv_495839 hm_495840
      exact ms_0 rv_495839 hm_495840
    | succ n_3 ih_3 =>
      intro v_495836 rv_495836 v_495837 rv_495837 v_495838 v_495839 rv_495839 hm_495840
      have j_50 : ∀ (v_495841 : Int32) (rv_495841 : Rg 1 127 v_495841) (v_495842 : Int32) (rv_495842 : Rg (-1) 6 v_495842) (v_495843 : Int32) (v_495844 : Int32) (rv_495844 : Rg 0 6 v_495844) (v_495845 : Int32) (rv_495845 : Rg 0 127 v_495845) (v_495846 : Int32) (rv_495846 : Rg 1 7 v_495846) (q_495847 : I a0 5 = v_495846) (hm_495848 : 7 < (v_495844 : Int32).toInt + ((n_3 + 1 : Nat) : Int)), WG p l e { frames := 2, cells := 0, slots := 0, locals := 47 } s m ([.ref a0, .int a1, .int a2, .int a3] : List Value).toArray below meth c 6 0 0 (MQ below (Qi_ D cy L κ ln R (fun r I2 J2 => I = I2 ∧ J = J2 ∧ Rg (-1) 6 r)) ([.ref a0, .int a1, .int a2, .int a3] : List Value).toArray s 0 0 (Al_ L)) D cy (Al_ L) s.heap L κ ln R I J 50 [(0, .ref a0), (1, .int v_495841), (2, .int v_495842), (3, .int v_495843), (4, .int v_495844), (5, .int v_495845)] [] := by
        intro v_495841 rv_495841 v_495842 rv_495842 v_495843 v_495844 rv_495844 v_495845 rv_495845 v_495846 rv_495846 q_495847 hm_495848
        obtain ⟨x_495849, hx_495849, rx_495849, tx_495849⟩ := ex_add (y := 1) 1 7 rv_495844 rc_1 (by decide) (by decide) (by decide) (by decide)
        refine g_iinc C dX6_leastFor_50 (k := 4) (v := x_495849) rfl hx_495849 (by decide) (lo2 := [(4, .int x_495849), (0, .ref a0), (1, .int v_495841), (2, .int v_495842), (3, .int v_495843), (5, .int v_495845)]) rfl ?_
        refine g_goto C (tgt := 3) dX6_leastFor_53 (by decide) ?_
        refine g_lo (is := [1, 2, 3, 4, 0]) (lo2 := [(0, .ref a0), (1, .int v_495841), (2, .int v_495842), (3, .int v_495843), (4, .int x_495849)]) rfl ?_
        exact ih_3 v_495841 (rv_495841) v_495842 (rv_495842) v_495843 x_495849 (rg_w rx_495849 (by decide) (by decide)) (ms_1 hm_495848 (ti_k tx_495849 rc_1) (by decide))
      refine g_iload C 4 dX6_leastFor_3 rfl ?_
      refine g_aload_n C 0 dX6_leastFor_5 rfl rfl ?_
      obtain ⟨x_495850, hx_495850, rx_495850⟩ := ex_get (I := I) (a := a0) (j := 5) (lo := 0) (hi := 7) hU.1 hLa0 (ro_o hka0 (by decide)) rfl
      refine g_getI C K hLa0 hka0 f_6_33 (v := x_495850) hx_495850 dX6_leastFor_6 ?_
      refine g_icmp_ge C (tgt := 56) dX6_leastFor_9 (by decide) (fun h_495851 => ?_) (fun h_495851 => ?_)
      · skip
        refine g_iconst C (v := (-1)) dX6_leastFor_56 (by decide) ?_
        exact g_zret (ty := .int) (r := (-1)) B K rfl (rfl) ⟨rfl, rfl, rg_w rc_m1 (by decide) (by decide)⟩ dX6_leastFor_57
      · skip
        have r_495852 := lt_l (hi := 6) (nle h_495851) rv_495839 rx_495850 (by decide)
        have r_495853 := lt_r (lo := 1) (nle h_495851) rv_495839 rx_495850 (by decide)
        refine g_iload_n C 1 dX6_leastFor_12 rfl rfl ?_
        refine g_iconst C (v := 1) dX6_leastFor_13 (by decide) ?_
        refine g_iload C 4 dX6_leastFor_14 rfl ?_
        obtain ⟨x_495854, hx_495854, rx_495854⟩ := ex_shl (x := 1) (y := v_495839) 6 64 rfl (r_495852) (by decide)
        refine g_ishl C (v := x_495854) dX6_leastFor_16 hx_495854 ?_
        refine g_iconst C (v := (-1)) dX6_leastFor_17 (by decide) ?_
        obtain ⟨x_495855, hx_495855, rx_495855⟩ := ex_any (z0 := x_495854 ^^^ (-1))
        refine g_ixor C (v := x_495855) dX6_leastFor_18 hx_495855 ?_
        obtain ⟨x_495856, hx_495856, rx_495856⟩ := ex_andl (x := v_495836) (y := x_495855) (b := 127) (rg_w rv_495836 (by decide) (by decide))
        refine g_iand C (v := x_495856) dX6_leastFor_19 hx_495856 ?_
        refine g_istore C dX6_leastFor_20 (by decide) (lo2 := [(5, .int x_495856), (0, .ref a0), (1, .int v_495836), (2, .int v_495837), (3, .int v_495838), (4, .int v_495839)]) rfl ?_
        refine g_iload C 0 dX6_leastFor_22 rfl ?_
        refine g_iload_n C 2 dX6_leastFor_24 rfl rfl ?_
        refine g_icmp_eq C (tgt := 50) dX6_leastFor_25 (by decide) (fun h_495857 => ?_) (fun h_495857 => ?_)
        · skip
          have r_495858 := (⟨(eq_rg (h_495857) rv_495836).1, (rx_495856).2⟩ : Rg 1 127 x_495856)
          refine g_lo (is := [1, 2, 3, 4, 5, 0]) (lo2 := [(0, .ref a0), (1, .int v_495836), (2, .int v_495837), (3, .int v_495838), (4, .int v_495839), (5, .int x_495856)]) rfl ?_
          exact j_50 v_495836 (rv_495836) v_495837 (rv_495837) v_495838 v_495839 (r_495852) x_495856 (rg_w r_495858 (by decide) (by decide)) x_495850 (r_495853) hx_495850 hm_495840
        · skip
          refine g_aload_n C 1 dX6_leastFor_28 rfl rfl ?_
          refine g_iload C 5 dX6_leastFor_29 rfl ?_
          refine g_iload_n C 3 dX6_leastFor_31 rfl rfl ?_
          refine g_callSI C K (c_X6_isChild W9 hLa0 hka0 v_495839 v_495837 (r_495852) (rv_495837) hU) s_6_42 rfl ⟨rfl, rfl⟩ ⟨Nat.le_of_ble_eq_true rfl, Nat.le_of_ble_eq_true rfl⟩ (Nat.le_of_ble_eq_true rfl) ⟨Nat.le_of_ble_eq_true rfl, Nat.le_of_ble_eq_true rfl⟩ dX6_leastFor_32 rfl (st := []) (fun x_495859 I_495860 J_495861 h_495862 => ?_)
          obtain ⟨rfl, rfl, rx_495859⟩ := h_495862
          refine g_aload_n C 1 dX6_leastFor_35 rfl rfl ?_
          refine g_iload_n C 2 dX6_leastFor_36 rfl rfl ?_
          refine g_iload C 0 dX6_leastFor_37 rfl ?_
          refine g_callSI C K (c_X6_parentsAmong W9 hLa0 hka0 v_495836 x_495856 (rg_w rv_495836 (by decide) (by decide)) (rx_495856) hU) s_6_29 rfl ⟨rfl, rfl⟩ ⟨Nat.le_of_ble_eq_true rfl, Nat.le_of_ble_eq_true rfl⟩ (Nat.le_of_ble_eq_true rfl) ⟨Nat.le_of_ble_eq_true rfl, Nat.le_of_ble_eq_true rfl⟩ dX6_leastFor_39 rfl (st := [.int x_495859]) (fun x_495863 I_495864 J_495865 h_495866 => ?_)
          obtain ⟨rfl, rfl, rx_495863⟩ := h_495866
          obtain ⟨x_495867, hx_495867, rx_495867⟩ := ex_any (z0 := x_495859 + x_495863)
          refine g_iadd C (v := x_495867) dX6_leastFor_42 hx_495867 ?_
          refine g_iload_n C 4 dX6_leastFor_43 rfl rfl ?_
          refine g_icmp_ne C (tgt := 50) dX6_leastFor_44 (by decide) (fun h_495868 => ?_) (fun h_495868 => ?_)
          · skip
            refine g_lo (is := [1, 2, 3, 4, 5, 0]) (lo2 := [(0, .ref a0), (1, .int v_495836), (2, .int v_495837), (3, .int v_495838), (4, .int v_495839), (5, .int x_495856)]) rfl ?_
            exact j_50 v_495836 (rv_495836) v_495837 (rv_495837) v_495838 v_495839 (r_495852) x_495856 (rx_495856) x_495850 (r_495853) hx_495850 hm_495840
          · skip
            refine g_iload C 5 dX6_leastFor_47 rfl ?_
            exact g_zret (ty := .int) (r := v_495839) B K rfl (rfl) ⟨rfl, rfl, rg_w r_495852 (by decide) (by decide)⟩ dX6_leastFor_49
  refine g_iconst C (v := 0) dX6_leastFor_0 (by decide) ?_
  refine g_istore C dX6_leastFor_1 (by decide) (lo2 := [(4, .int 0), (0, .ref a0), (1, .int a1), (2, .int a2), (3, .int a3)]) rfl ?_
  refine g_lo (is := [1, 2, 3, 4, 0]) (lo2 := [(0, .ref a0), (1, .int a1), (2, .int a2), (3, .int a3), (4, .int 0)]) rfl ?_
  exact l_3 8 a1 (ra1) a2 (ra2) a3 0 (rg_w rc_0 (by decide) (by decide)) (ms_s (a := 0) (b := 7) (N := 8) (rg_w rc_0 (by decide) (by decide)) (by decide))
set_option maxRecDepth 100000 in
set_option maxHeartbeats 8000000 in
theorem c_X6_seat {l : Launch} {D : va_G} {cy : Nat → ClassId} {L : List Nat} {κ ln : Nat → Nat} {R : Nat → Nat → Option Nat} {I : Nat → Nat → Int32} {J : Nat → Nat → Int64} {ow : Nat → Nat × Nat} (W9 : ∀ a ∈ L, Shp L κ ln R ow a) {x : Nat} (hLx : x ∈ L) (hkx : κ x = 6) {a0 : Nat} (hLa0 : a0 ∈ L) (hka0 : κ a0 = 1) (hU : Iv L κ R ow I) : CtI l yX6_seat cX6_seat 9 (some .int) { frames := 3, cells := 0, slots := 0, locals := 72 } D cy L κ ln R I J [.ref x, .ref a0] (fun r I2 J2 => Iv L κ R ow I2 ∧ Fq L κ ow [601, 46000] I I2 ∧ Fq L κ ow [] J J2 ∧ Rg (-2147483648) 2147483647 r) := by
  refine CtI.of (by decide +kernel) (Nat.le_of_ble_eq_true rfl) ?_
  intro p e s m below meth c B K
  have C := B.1
  have hF : Fq L κ ow [601, 46000] I I := fq_rf
  have hG : Fq L κ ow [] J J := fq_rf
  obtain ⟨b_497626, hb_497626, hb_497626L, hb_497626k⟩ := shp_o (W9 a0 hLa0) hka0 0 8 rfl (by decide)
  obtain ⟨b_497627, hb_497627, hb_497627L, hb_497627k, hb_497627n, hb_497627o⟩ := shp_a (W9 x hLx) hkx 0 14 7 rfl (by decide)
  refine g_lo (is := [0, 1]) (lo2 := [(0, .ref x), (1, .ref a0)]) rfl ?_
  have l_32 : ∀ (n_32 : Nat) (I_497628 : Nat → Nat → Int32) (J_497629 : Nat → Nat → Int64) (hU_497630 : Iv L κ R ow I_497628) (hF_497631 : Fq L κ ow [601, 46000] I I_497628) (hG_497632 : Fq L κ ow [] J J_497629) (v_497633 : Int32) (rv_497633 : Rg 0 127 v_497633) (v_497634 : Int32) (v_497635 : Int32) (v_497636 : Int32) (rv_497636 : Rg (-1) 6 v_497636) (v_497637 : Int32) (rv_497637 : Rg 0 7 v_497637) (q_497638 : I_497628 x 1 = v_497637) (hm_497639 : 7 < (v_497637 : Int32).toInt + (n_32 : Int)), WG p l e { frames := 3, cells := 0, slots := 0, locals := 72 } s m ([.ref x, .ref a0] : List Value).toArray below meth c 9 0 0 (MQ below (Qi_ D cy L κ ln R (fun r I2 J2 => Iv L κ R ow I2 ∧ Fq L κ ow [601, 46000] I I2 ∧ Fq L κ ow [] J J2 ∧ Rg (-2147483648) 2147483647 r)) ([.ref x, .ref a0] : List Value).toArray s 0 0 (Al_ L)) D cy (Al_ L) s.heap L κ ln R I_497628 J_497629 32 [(0, .ref x), (1, .ref a0), (2, .ref b_497626), (3, .int v_497633), (4, .int v_497634), (5, .int v_497635), (6, .int v_497636), (7, .int v_497637)] [] := by
    intro n_32
    induction n_32 with
    | zero =>
      intro I_497628 J_497629 hU_497630 hF_497631 hG_497632 v_497633 rv_497633 v_497634 v_497635 v_497636 rv_497636 v_497637 rv_497637 q_497638 hm_497639
      exact ms_0 rv_497637 hm_497639
    | succ n_32 ih_32 =>
      intro I_497628 J_497629 hU_497630 hF_497631 hG_497632 v_497633 rv_497633 v_497634 v_497635 v_497636 rv_497636 v_497637 rv_497637 q_497638 hm_497639
      refine g_iload C 7 dX6_seat_32 rfl ?_
      refine g_aload_n C 2 dX6_seat_34 rfl rfl ?_
      obtain ⟨x_497640, hx_497640, rx_497640⟩ := ex_get (I := I_497628) (a := b_497626) (j := 5) (lo := 0) (hi := 7) hU_497630.1 hb_497626L (ro_o hb_497626k (by decide)) rfl
      refine g_getI C K hb_497626L hb_497626k f_6_33 (v := x_497640) hx_497640 dX6_seat_35 ?_
      refine g_icmp_ge C (tgt := 130) dX6_seat_38 (by decide) (fun h_497641 => ?_) (fun h_497641 => ?_)
      · skip
        refine g_iload C 5 dX6_seat_130 rfl ?_
        exact g_zret (ty := .int) (r := v_497635) B K rfl (rfl) ⟨hU_497630, hF_497631, hG_497632, (rg_all v_497635)⟩ dX6_seat_132
      · skip
        have r_497642 := lt_l (hi := 6) (nle h_497641) rv_497637 rx_497640 (by decide)
        have r_497643 := lt_r (lo := 1) (nle h_497641) rv_497637 rx_497640 (by decide)
        refine g_iload_n C 3 dX6_seat_41 rfl rfl ?_
        refine g_if_eq C (tgt := 130) dX6_seat_42 (by decide) (fun h_497644 => ?_) (fun h_497644 => ?_)
        · skip
          have r_497645 := (⟨(rv_497633).1, (eq_rg (h_497644) rc_0).2⟩ : Rg 0 0 v_497633)
          refine g_iload C 5 dX6_seat_130 rfl ?_
          exact g_zret (ty := .int) (r := v_497635) B K rfl (rfl) ⟨hU_497630, hF_497631, hG_497632, (rg_all v_497635)⟩ dX6_seat_132
        · skip
          have n_497646 : ¬ v_497633 = 0 := h_497644
          have r_497647 := ne_lo (lo := 1) n_497646 rv_497633 rc_0 rfl (by decide)
          refine g_aload_n C 2 dX6_seat_45 rfl rfl ?_
          refine g_iload_n C 3 dX6_seat_46 rfl rfl ?_
          refine g_iload C 6 dX6_seat_47 rfl ?_
          refine g_iload C 4 dX6_seat_49 rfl ?_
          refine g_iload C 5 dX6_seat_51 rfl ?_
          obtain ⟨x_497648, hx_497648, rx_497648⟩ := ex_any (z0 := v_497634 - v_497635)
          refine g_isub C (v := x_497648) dX6_seat_53 hx_497648 ?_
          refine g_callSI C K (c_X6_leastFor W9 hb_497626L hb_497626k v_497633 v_497636 x_497648 (r_497647) (rv_497636) hU_497630) s_6_38 rfl ⟨rfl, rfl⟩ ⟨Nat.le_of_ble_eq_true rfl, Nat.le_of_ble_eq_true rfl⟩ (Nat.le_of_ble_eq_true rfl) ⟨Nat.le_of_ble_eq_true rfl, Nat.le_of_ble_eq_true rfl⟩ dX6_seat_54 rfl (st := []) (fun x_497649 I_497650 J_497651 h_497652 => ?_)
          obtain ⟨rfl, rfl, rx_497649⟩ := h_497652
          refine g_istore C dX6_seat_57 (by decide) (lo2 := [(8, .int x_497649), (0, .ref x), (1, .ref a0), (2, .ref b_497626), (3, .int v_497633), (4, .int v_497634), (5, .int v_497635), (6, .int v_497636), (7, .int v_497637)]) rfl ?_
          refine g_iload C 0 dX6_seat_59 rfl ?_
          refine g_iconst C (v := (-1)) dX6_seat_61 (by decide) ?_
          refine g_icmp_eq C (tgt := 74) dX6_seat_62 (by decide) (fun h_497653 => ?_) (fun h_497653 => ?_)
          · skip
            have r_497654 := (⟨(rx_497649).1, (eq_rg (h_497653) rc_m1).2⟩ : Rg (-1) (-1) x_497649)
            refine g_iload C 6 dX6_seat_74 rfl ?_
            exact g_zret (ty := .int) (r := v_497635) B K rfl (rfl) ⟨hU_497630, hF_497631, hG_497632, (rg_all v_497635)⟩ dX6_seat_76
          · skip
            have n_497655 : ¬ x_497649 = (-1) := h_497653
            have r_497656 := ne_lo (lo := 0) n_497655 rx_497649 rc_m1 rfl (by decide)
            refine g_aload_n C 1 dX6_seat_65 rfl rfl ?_
            refine g_getI C K hLx hkx f_6_15 (v := v_497637) q_497638 dX6_seat_66 ?_
            refine g_bipush C (v := 7) dX6_seat_69 (by decide) ?_
            refine g_icmp_lt C (tgt := 77) dX6_seat_71 (by decide) (fun h_497657 => ?_) (fun h_497657 => ?_)
            · skip
              refine g_iload C 6 dX6_seat_77 rfl ?_
              refine g_aload_n C 3 dX6_seat_79 rfl rfl ?_
              refine g_iload C 0 dX6_seat_80 rfl ?_
              refine g_iload C 7 dX6_seat_82 rfl ?_
              refine g_callSI C K (c_X6_isChild W9 hb_497626L hb_497626k x_497649 v_497636 (r_497656) (rv_497636) hU_497630) s_6_42 rfl ⟨rfl, rfl⟩ ⟨Nat.le_of_ble_eq_true rfl, Nat.le_of_ble_eq_true rfl⟩ (Nat.le_of_ble_eq_true rfl) ⟨Nat.le_of_ble_eq_true rfl, Nat.le_of_ble_eq_true rfl⟩ dX6_seat_84 rfl (st := [.int v_497635]) (fun x_497658 I_497659 J_497660 h_497661 => ?_)
              obtain ⟨rfl, rfl, rx_497658⟩ := h_497661
              obtain ⟨x_497662, hx_497662, rx_497662⟩ := ex_any (z0 := v_497635 + x_497658)
              refine g_iadd C (v := x_497662) dX6_seat_87 hx_497662 ?_
              refine g_istore C dX6_seat_88 (by decide) (lo2 := [(5, .int x_497662), (8, .int x_497649), (0, .ref x), (1, .ref a0), (2, .ref b_497626), (3, .int v_497633), (4, .int v_497634), (6, .int v_497636), (7, .int v_497637)]) rfl ?_
              refine g_aload_n C 2 dX6_seat_90 rfl rfl ?_
              refine g_getR C K hLx hkx f_6_9 hb_497627 dX6_seat_91 ?_
              refine g_aload_n C 2 dX6_seat_94 rfl rfl ?_
              refine g_getI C K hLx hkx f_6_15 (v := v_497637) q_497638 dX6_seat_95 ?_
              refine g_iload C 1 dX6_seat_98 rfl ?_
              refine h_iast C K hb_497627L hb_497627k (v_497637.toNatClampNeg) (rfl) (ix_0 r_497642 (by decide)) (ix_lt r_497642 (by decide) hb_497627n (by decide)) dX6_seat_100 (fun I_497663 hI_497663 => ?_)
              have hU_497664 := iv_put W9 hU_497630 hI_497663 (ro_a hb_497627k (by decide) hb_497627o hkx rfl) (lo := (-2147483648)) (hi := 2147483647) (rfl) (rg_all _) rfl
              have hF_497665 := fq_puta hF_497631 hI_497663 (ro_a hb_497627k (by decide) hb_497627o hkx rfl) (by decide) (by decide)
              refine g_aload_n C 2 dX6_seat_101 rfl rfl ?_
              refine g_dup C dX6_seat_102 rfl ?_
              refine g_getI C K hLx hkx f_6_15 (v := v_497637) (kp_k (κ := κ) hI_497663 (by rw [hkx, hb_497627k]; decide) q_497638) dX6_seat_103 ?_
              refine g_iconst C (v := 1) dX6_seat_106 (by decide) ?_
              obtain ⟨x_497666, hx_497666, rx_497666, tx_497666⟩ := ex_add 1 7 r_497642 rc_1 (by decide) (by decide) (by decide) (by decide)
              refine g_iadd C (v := x_497666) dX6_seat_107 hx_497666 ?_
              refine h_putI C K hLx hkx f_6_15 p_6_1 dX6_seat_108 (fun I_497667 hI_497667 => ?_)
              have hU_497668 := iv_put W9 hU_497664 hI_497667 (ro_o hkx (by decide)) (lo := 0) (hi := 7) (rfl) (rg_w rx_497666 (by decide) (by decide)) rfl
              have hF_497669 := fq_puto hF_497665 hI_497667 hkx (by decide) (by decide)
              refine g_iload_n C 5 dX6_seat_111 rfl rfl ?_
              refine g_iconst C (v := 1) dX6_seat_112 (by decide) ?_
              refine g_iload C 1 dX6_seat_113 rfl ?_
              obtain ⟨x_497670, hx_497670, rx_497670⟩ := ex_shl (x := 1) (y := x_497649) 6 64 rfl (r_497656) (by decide)
              refine g_ishl C (v := x_497670) dX6_seat_115 hx_497670 ?_
              refine g_iconst C (v := (-1)) dX6_seat_116 (by decide) ?_
              obtain ⟨x_497671, hx_497671, rx_497671⟩ := ex_any (z0 := x_497670 ^^^ (-1))
              refine g_ixor C (v := x_497671) dX6_seat_117 hx_497671 ?_
              obtain ⟨x_497672, hx_497672, rx_497672⟩ := ex_andl (x := v_497633) (y := x_497671) (b := 127) (rg_w r_497647 (by decide) (by decide))
              refine g_iand C (v := x_497672) dX6_seat_118 hx_497672 ?_
              refine g_istore_n C dX6_seat_119 rfl (by decide) (lo2 := [(3, .int x_497672), (5, .int x_497662), (8, .int x_497649), (0, .ref x), (1, .ref a0), (2, .ref b_497626), (4, .int v_497634), (6, .int v_497636), (7, .int v_497637)]) rfl ?_
              refine g_iload C 2 dX6_seat_120 rfl ?_
              refine g_istore C dX6_seat_122 (by decide) (lo2 := [(6, .int x_497649), (3, .int x_497672), (5, .int x_497662), (8, .int x_497649), (0, .ref x), (1, .ref a0), (2, .ref b_497626), (4, .int v_497634), (7, .int v_497637)]) rfl ?_
              refine g_iinc C dX6_seat_124 (k := 8) (v := x_497666) rfl hx_497666 (by decide) (lo2 := [(7, .int x_497666), (6, .int x_497649), (3, .int x_497672), (5, .int x_497662), (8, .int x_497649), (0, .ref x), (1, .ref a0), (2, .ref b_497626), (4, .int v_497634)]) rfl ?_
              refine g_goto C (tgt := 32) dX6_seat_127 (by decide) ?_
              refine g_lo (is := [5, 6, 7, 2, 8, 3, 1, 0]) (lo2 := [(0, .ref x), (1, .ref a0), (2, .ref b_497626), (3, .int x_497672), (4, .int v_497634), (5, .int x_497662), (6, .int x_497649), (7, .int x_497666)]) rfl ?_
              exact ih_32 I_497667 J_497629 hU_497668 hF_497669 hG_497632 x_497672 (rx_497672) v_497634 x_497662 x_497649 (rg_w r_497656 (by decide) (by decide)) x_497666 (rg_w rx_497666 (by decide) (by decide)) (kp_s hI_497667) (ms_1 hm_497639 (ti_k tx_497666 rc_1) (by decide))
            · skip
              have r_497673 := le_r (nlt h_497657) rc_7 r_497642
              exact rg_no r_497673 (by decide)
  refine g_aload_n C 1 dX6_seat_0 rfl rfl ?_
  refine g_getR C K hLa0 hka0 f_6_19 hb_497626 dX6_seat_1 ?_
  refine g_astore_n C dX6_seat_4 rfl (by decide) (lo2 := [(2, .ref b_497626), (0, .ref x), (1, .ref a0)]) rfl ?_
  refine g_aload_n C 2 dX6_seat_5 rfl rfl ?_
  refine g_callVI C K (c_X1_living W9 hLa0 hka0   hU) hLa0 hka0 (by decide) rfl v_6_25 rfl ⟨rfl, rfl⟩ ⟨Nat.le_of_ble_eq_true rfl, Nat.le_of_ble_eq_true rfl⟩ (Nat.le_of_ble_eq_true rfl) ⟨Nat.le_of_ble_eq_true rfl, Nat.le_of_ble_eq_true rfl⟩ dX6_seat_6 rfl (st := []) (fun x_497674 I_497675 J_497676 h_497677 => ?_)
  obtain ⟨rfl, rfl, rx_497674⟩ := h_497677
  refine g_istore_n C dX6_seat_9 rfl (by decide) (lo2 := [(3, .int x_497674), (2, .ref b_497626), (0, .ref x), (1, .ref a0)]) rfl ?_
  refine g_aload_n C 1 dX6_seat_10 rfl rfl ?_
  refine g_iload_n C 0 dX6_seat_11 rfl rfl ?_
  refine g_iload_n C 0 dX6_seat_12 rfl rfl ?_
  refine g_callSI C K (c_X6_parentsAmong W9 hb_497626L hb_497626k x_497674 x_497674 (rx_497674) (rx_497674) hU) s_6_29 rfl ⟨rfl, rfl⟩ ⟨Nat.le_of_ble_eq_true rfl, Nat.le_of_ble_eq_true rfl⟩ (Nat.le_of_ble_eq_true rfl) ⟨Nat.le_of_ble_eq_true rfl, Nat.le_of_ble_eq_true rfl⟩ dX6_seat_13 rfl (st := []) (fun x_497678 I_497679 J_497680 h_497681 => ?_)
  obtain ⟨rfl, rfl, rx_497678⟩ := h_497681
  refine g_istore C dX6_seat_16 (by decide) (lo2 := [(4, .int x_497678), (3, .int x_497674), (2, .ref b_497626), (0, .ref x), (1, .ref a0)]) rfl ?_
  refine g_iconst C (v := 0) dX6_seat_18 (by decide) ?_
  refine g_istore C dX6_seat_19 (by decide) (lo2 := [(5, .int 0), (4, .int x_497678), (3, .int x_497674), (2, .ref b_497626), (0, .ref x), (1, .ref a0)]) rfl ?_
  refine g_iconst C (v := (-1)) dX6_seat_21 (by decide) ?_
  refine g_istore C dX6_seat_22 (by decide) (lo2 := [(6, .int (-1)), (5, .int 0), (4, .int x_497678), (3, .int x_497674), (2, .ref b_497626), (0, .ref x), (1, .ref a0)]) rfl ?_
  refine g_aload_n C 5 dX6_seat_24 rfl rfl ?_
  refine g_iconst C (v := 0) dX6_seat_25 (by decide) ?_
  refine h_putI C K hLx hkx f_6_15 p_6_1 dX6_seat_26 (fun I_497682 hI_497682 => ?_)
  have hU_497683 := iv_put W9 hU hI_497682 (ro_o hkx (by decide)) (lo := 0) (hi := 7) (rfl) (rg_w rc_0 (by decide) (by decide)) rfl
  have hF_497684 := fq_puto hF hI_497682 hkx (by decide) (by decide)
  refine g_iconst C (v := 0) dX6_seat_29 (by decide) ?_
  refine g_istore C dX6_seat_30 (by decide) (lo2 := [(7, .int 0), (6, .int (-1)), (5, .int 0), (4, .int x_497678), (3, .int x_497674), (2, .ref b_497626), (0, .ref x), (1, .ref a0)]) rfl ?_
  refine g_lo (is := [6, 7, 5, 4, 3, 2, 1, 0]) (lo2 := [(0, .ref x), (1, .ref a0), (2, .ref b_497626), (3, .int x_497674), (4, .int x_497678), (5, .int 0), (6, .int (-1)), (7, .int 0)]) rfl ?_
  exact l_32 8 I_497682 J hU_497683 hF_497684 hG x_497674 (rx_497674) x_497678 0 (-1) (rg_w rc_m1 (by decide) (by decide)) 0 (rg_w rc_0 (by decide) (by decide)) (kp_s hI_497682) (ms_s (a := 0) (b := 7) (N := 8) (rg_w rc_0 (by decide) (by decide)) (by decide))
set_option maxRecDepth 100000 in
set_option maxHeartbeats 8000000 in
theorem c_X11_seats {l : Launch} {D : va_G} {cy : Nat → ClassId} {L : List Nat} {κ ln : Nat → Nat} {R : Nat → Nat → Option Nat} {I : Nat → Nat → Int32} {J : Nat → Nat → Int64} {ow : Nat → Nat × Nat} (W9 : ∀ a ∈ L, Shp L κ ln R ow a) {x : Nat} (hLx : x ∈ L) (hkx : κ x = 11) (hU : Iv L κ R ow I) : CtI l yX11_seats cX11_seats 1 (some .int) { frames := 4, cells := 0, slots := 0, locals := 100 } D cy L κ ln R I J [.ref x] (fun r I2 J2 => Iv L κ R ow I2 ∧ Fq L κ ow [601, 46000] I I2 ∧ Fq L κ ow [] J J2 ∧ Rg (-2147483648) 2147483647 r) := by
  refine CtI.of (by decide +kernel) (Nat.le_of_ble_eq_true rfl) ?_
  intro p e s m below meth c B K
  have C := B.1
  have hF : Fq L κ ow [601, 46000] I I := fq_rf
  have hG : Fq L κ ow [] J J := fq_rf
  obtain ⟨b_497701, hb_497701, hb_497701L, hb_497701k⟩ := shp_o (W9 x hLx) hkx 10 6 rfl (by decide)
  obtain ⟨b_497702, hb_497702, hb_497702L, hb_497702k⟩ := shp_o (W9 x hLx) hkx 2 1 rfl (by decide)
  refine g_lo (is := [0]) (lo2 := [(0, .ref x)]) rfl ?_
  refine g_aload_n C 0 dX11_seats_0 rfl rfl ?_
  refine g_getR C K hLx hkx f_11_76 hb_497701 dX11_seats_1 ?_
  refine g_aload_n C 0 dX11_seats_4 rfl rfl ?_
  refine g_getR C K hLx hkx f_11_28 hb_497702 dX11_seats_5 ?_
  refine g_callVI C K (c_X6_seat W9 hb_497701L hb_497701k hb_497702L hb_497702k  hU) hb_497701L hb_497701k (by decide) rfl v_11_291 rfl ⟨rfl, rfl⟩ ⟨Nat.le_of_ble_eq_true rfl, Nat.le_of_ble_eq_true rfl⟩ (Nat.le_of_ble_eq_true rfl) ⟨Nat.le_of_ble_eq_true rfl, Nat.le_of_ble_eq_true rfl⟩ dX11_seats_8 rfl (st := []) (fun x_497703 I_497704 J_497705 h_497706 => ?_)
  obtain ⟨hUI_497704, hFI_497704, hGJ_497705, rx_497703⟩ := h_497706
  have hF_497707 := fq_tr hF hFI_497704 (by decide)
  have hG_497708 := fq_tr hG hGJ_497705 (by decide)
  exact g_zret (ty := .int) (r := x_497703) B K rfl (rfl) ⟨hUI_497704, hF_497707, hG_497708, rx_497703⟩ dX11_seats_11
set_option maxRecDepth 100000 in
set_option maxHeartbeats 8000000 in
theorem c_X11_seatAt {l : Launch} {D : va_G} {cy : Nat → ClassId} {L : List Nat} {κ ln : Nat → Nat} {R : Nat → Nat → Option Nat} {I : Nat → Nat → Int32} {J : Nat → Nat → Int64} {ow : Nat → Nat × Nat} (W9 : ∀ a ∈ L, Shp L κ ln R ow a) {x : Nat} (hLx : x ∈ L) (hkx : κ x = 11) (a0 : Int32) (hU : Iv L κ R ow I) : CtI l yX11_seatAt cX11_seatAt 2 (some .int) { frames := 0, cells := 0, slots := 0, locals := 0 } D cy L κ ln R I J [.ref x, .int a0] (fun r I2 J2 => I = I2 ∧ J = J2 ∧ Rg (-2147483648) 2147483647 r) := by
  refine CtI.of (by decide +kernel) (Nat.le_of_ble_eq_true rfl) ?_
  intro p e s m below meth c B K
  have C := B.1
  obtain ⟨b_497729, hb_497729, hb_497729L, hb_497729k⟩ := shp_o (W9 x hLx) hkx 10 6 rfl (by decide)
  obtain ⟨b_497730, hb_497730, hb_497730L, hb_497730k, hb_497730n, hb_497730o⟩ := shp_a (W9 b_497729 hb_497729L) hb_497729k 0 14 7 rfl (by decide)
  refine g_lo (is := [0, 1]) (lo2 := [(0, .ref x), (1, .int a0)]) rfl ?_
  refine g_iload_n C 1 dX11_seatAt_0 rfl rfl ?_
  refine g_if_lt C (tgt := 27) dX11_seatAt_1 (by decide) (fun h_497731 => ?_) (fun h_497731 => ?_)
  · skip
    have r_497732 := lt_l (hi := (-1)) (h_497731) (rg_all a0) rc_0 (by decide)
    refine g_iconst C (v := (-1)) dX11_seatAt_27 (by decide) ?_
    exact g_zret (ty := .int) (r := (-1)) B K rfl (rfl) ⟨rfl, rfl, rg_all _⟩ dX11_seatAt_28
  · skip
    have r_497733 := le_r (nlt h_497731) rc_0 (rg_all a0)
    refine g_iload_n C 1 dX11_seatAt_4 rfl rfl ?_
    refine g_aload_n C 0 dX11_seatAt_5 rfl rfl ?_
    refine g_getR C K hLx hkx f_11_76 hb_497729 dX11_seatAt_6 ?_
    obtain ⟨x_497734, hx_497734, rx_497734⟩ := ex_get (I := I) (a := b_497729) (j := 1) (lo := 0) (hi := 7) hU.1 hb_497729L (ro_o hb_497729k (by decide)) rfl
    refine g_getI C K hb_497729L hb_497729k f_11_294 (v := x_497734) hx_497734 dX11_seatAt_9 ?_
    refine g_icmp_ge C (tgt := 27) dX11_seatAt_12 (by decide) (fun h_497735 => ?_) (fun h_497735 => ?_)
    · skip
      refine g_iconst C (v := (-1)) dX11_seatAt_27 (by decide) ?_
      exact g_zret (ty := .int) (r := (-1)) B K rfl (rfl) ⟨rfl, rfl, rg_all _⟩ dX11_seatAt_28
    · skip
      have r_497736 := lt_l (hi := 6) (nle h_497735) r_497733 rx_497734 (by decide)
      have r_497737 := lt_r (lo := 1) (nle h_497735) r_497733 rx_497734 (by decide)
      refine g_aload_n C 0 dX11_seatAt_15 rfl rfl ?_
      refine g_getR C K hLx hkx f_11_76 hb_497729 dX11_seatAt_16 ?_
      refine g_getR C K hb_497729L hb_497729k f_11_295 hb_497730 dX11_seatAt_19 ?_
      refine g_iload_n C 1 dX11_seatAt_22 rfl rfl ?_
      obtain ⟨x_497738, hx_497738, rx_497738⟩ := ex_get (I := I) (a := b_497730) (j := a0.toNatClampNeg) (lo := (-2147483648)) (hi := 2147483647) hU.1 hb_497730L (ro_a hb_497730k (by decide) hb_497730o hb_497729k rfl) (rfl)
      refine h_iald C K hb_497730L hb_497730k (v := x_497738) (a0.toNatClampNeg) (rfl) (ix_0 r_497736 (by decide)) (ix_lt r_497736 (by decide) hb_497730n (by decide)) hx_497738 dX11_seatAt_23 ?_
      refine g_goto C (tgt := 28) dX11_seatAt_24 (by decide) ?_
      exact g_zret (ty := .int) (r := x_497738) B K rfl (rfl) ⟨rfl, rfl, rx_497738⟩ dX11_seatAt_28
set_option maxRecDepth 100000 in
set_option maxHeartbeats 8000000 in
theorem c_X11_left {l : Launch} {D : va_G} {cy : Nat → ClassId} {L : List Nat} {κ ln : Nat → Nat} {R : Nat → Nat → Option Nat} {I : Nat → Nat → Int32} {J : Nat → Nat → Int64} {ow : Nat → Nat × Nat} (W9 : ∀ a ∈ L, Shp L κ ln R ow a) {x : Nat} (hLx : x ∈ L) (hkx : κ x = 11) (a0 : Int32) (hU : Iv L κ R ow I) : CtI l yX11_left cX11_left 5 (some .int) { frames := 4, cells := 0, slots := 0, locals := 107 } D cy L κ ln R I J [.ref x, .int a0] (fun r I2 J2 => Iv L κ R ow I2 ∧ Fq L κ ow [107, 108, 109, 110, 111, 112, 1005, 16100, 16200, 16300, 16400, 16500, 16600] I I2 ∧ Fq L κ ow [] J J2 ∧ Rg (-2147483648) 2147483647 r) := by
  refine CtI.of (by decide +kernel) (Nat.le_of_ble_eq_true rfl) ?_
  intro p e s m below meth c B K
  have C := B.1
  have hF : Fq L κ ow [107, 108, 109, 110, 111, 112, 1005, 16100, 16200, 16300, 16400, 16500, 16600] I I := fq_rf
  have hG : Fq L κ ow [] J J := fq_rf
  obtain ⟨b_499678, hb_499678, hb_499678L, hb_499678k⟩ := shp_o (W9 x hLx) hkx 2 1 rfl (by decide)
  obtain ⟨b_499679, hb_499679, hb_499679L, hb_499679k⟩ := shp_o (W9 x hLx) hkx 3 1 rfl (by decide)
  obtain ⟨b_499680, hb_499680, hb_499680L, hb_499680k⟩ := shp_o (W9 x hLx) hkx 0 10 rfl (by decide)
  obtain ⟨b_499681, hb_499681, hb_499681L, hb_499681k⟩ := shp_o (W9 x hLx) hkx 1 8 rfl (by decide)
  obtain ⟨b_499682, hb_499682, hb_499682L, hb_499682k, hb_499682n, hb_499682o⟩ := shp_a (W9 b_499679 hb_499679L) hb_499679k 3 14 7 rfl (by decide)
  refine g_lo (is := [0, 1]) (lo2 := [(0, .ref x), (1, .int a0)]) rfl ?_
  have j_108 : ∀ (I_499683 : Nat → Nat → Int32) (J_499684 : Nat → Nat → Int64) (hU_499685 : Iv L κ R ow I_499683) (hF_499686 : Fq L κ ow [107, 108, 109, 110, 111, 112, 1005, 16100, 16200, 16300, 16400, 16500, 16600] I I_499683) (hG_499687 : Fq L κ ow [] J J_499684) (v_499688 : Int32) (v_499689 : Int32) (rv_499689 : Rg 0 1 v_499689) (v_499690 : Int32) (rv_499690 : Rg 0 940 v_499690) (v_499691 : Int32) (rv_499691 : Rg 0 940 v_499691) (q_499692 : I_499683 b_499680 5 = v_499691) (im_499693 : ¬ v_499689 = 0 → Rg 0 6 v_499688), WG p l e { frames := 4, cells := 0, slots := 0, locals := 107 } s m ([.ref x, .int a0] : List Value).toArray below meth c 5 0 0 (MQ below (Qi_ D cy L κ ln R (fun r I2 J2 => Iv L κ R ow I2 ∧ Fq L κ ow [107, 108, 109, 110, 111, 112, 1005, 16100, 16200, 16300, 16400, 16500, 16600] I I2 ∧ Fq L κ ow [] J J2 ∧ Rg (-2147483648) 2147483647 r)) ([.ref x, .int a0] : List Value).toArray s 0 0 (Al_ L)) D cy (Al_ L) s.heap L κ ln R I_499683 J_499684 108 [(0, .ref x), (1, .int v_499688), (2, .int v_499689), (3, .int v_499690)] [] := by
    intro I_499683 J_499684 hU_499685 hF_499686 hG_499687 v_499688 v_499689 rv_499689 v_499690 rv_499690 v_499691 rv_499691 q_499692 im_499693
    refine g_aload_n C 0 dX11_left_108 rfl rfl ?_
    refine g_getR C K hLx hkx f_11_10 hb_499680 dX11_left_109 ?_
    refine g_iconst C (v := 0) dX11_left_112 (by decide) ?_
    refine h_putI C K hb_499680L hb_499680k f_11_102 p_10_5 dX11_left_113 (fun I_499694 hI_499694 => ?_)
    have hU_499695 := iv_put W9 hU_499685 hI_499694 (ro_o hb_499680k (by decide)) (lo := 0) (hi := 940) (rfl) (rg_w rc_0 (by decide) (by decide)) rfl
    have hF_499696 := fq_puto hF_499686 hI_499694 hb_499680k (by decide) (by decide)
    refine g_iload_n C 2 dX11_left_116 rfl rfl ?_
    refine g_if_eq C (tgt := 132) dX11_left_117 (by decide) (fun h_499697 => ?_) (fun h_499697 => ?_)
    · skip
      have r_499698 := (⟨(rv_499689).1, (eq_rg (h_499697) rc_0).2⟩ : Rg 0 0 v_499689)
      refine g_iconst C (v := (-1)) dX11_left_132 (by decide) ?_
      exact g_zret (ty := .int) (r := (-1)) B K rfl (rfl) ⟨hU_499695, hF_499696, hG_499687, rg_all _⟩ dX11_left_133
    · skip
      have n_499699 : ¬ v_499689 = 0 := h_499697
      have r_499700 := ne_lo (lo := 1) n_499699 rv_499689 rc_0 rfl (by decide)
      have r_499701 := rg_i (rg_all v_499688) (im_499693 (rg_nz r_499700 (by decide))) (lo := 0) (hi := 6) (by decide) (by decide)
      refine g_aload_n C 0 dX11_left_120 rfl rfl ?_
      refine g_getR C K hLx hkx f_11_32 hb_499679 dX11_left_121 ?_
      refine g_getR C K hb_499679L hb_499679k f_11_166 hb_499682 dX11_left_124 ?_
      refine g_iload_n C 1 dX11_left_127 rfl rfl ?_
      obtain ⟨x_499702, hx_499702, rx_499702⟩ := ex_get (I := I_499694) (a := b_499682) (j := v_499688.toNatClampNeg) (lo := (-2147483648)) (hi := 2147483647) hU_499695.1 hb_499682L (ro_a hb_499682k (by decide) hb_499682o hb_499679k rfl) (rfl)
      refine h_iald C K hb_499682L hb_499682k (v := x_499702) (v_499688.toNatClampNeg) (rfl) (ix_0 r_499701 (by decide)) (ix_lt r_499701 (by decide) hb_499682n (by decide)) hx_499702 dX11_left_128 ?_
      refine g_goto C (tgt := 133) dX11_left_129 (by decide) ?_
      exact g_zret (ty := .int) (r := x_499702) B K rfl (rfl) ⟨hU_499695, hF_499696, hG_499687, rx_499702⟩ dX11_left_133
  have l_53 : ∀ (n_53 : Nat) (I_499703 : Nat → Nat → Int32) (J_499704 : Nat → Nat → Int64) (hU_499705 : Iv L κ R ow I_499703) (hF_499706 : Fq L κ ow [107, 108, 109, 110, 111, 112, 1005, 16100, 16200, 16300, 16400, 16500, 16600] I I_499703) (hG_499707 : Fq L κ ow [] J J_499704) (v_499708 : Int32) (v_499709 : Int32) (rv_499709 : Rg 0 1 v_499709) (v_499710 : Int32) (rv_499710 : Rg 0 940 v_499710) (im_499711 : ¬ v_499709 = 0 → Rg 0 6 v_499708) (hm_499712 : 940 < (v_499710 : Int32).toInt + (n_53 : Int)), WG p l e { frames := 4, cells := 0, slots := 0, locals := 107 } s m ([.ref x, .int a0] : List Value).toArray below meth c 5 0 0 (MQ below (Qi_ D cy L κ ln R (fun r I2 J2 => Iv L κ R ow I2 ∧ Fq L κ ow [107, 108, 109, 110, 111, 112, 1005, 16100, 16200, 16300, 16400, 16500, 16600] I I2 ∧ Fq L κ ow [] J J2 ∧ Rg (-2147483648) 2147483647 r)) ([.ref x, .int a0] : List Value).toArray s 0 0 (Al_ L)) D cy (Al_ L) s.heap L κ ln R I_499703 J_499704 53 [(0, .ref x), (1, .int v_499708), (2, .int v_499709), (3, .int v_499710)] [] := by
    intro n_53
    induction n_53 with
    | zero =>
      intro I_499703 J_499704 hU_499705 hF_499706 hG_499707 v_499708 v_499709 rv_499709 v_499710 rv_499710 im_499711 hm_499712
      exact ms_0 rv_499710 hm_499712
    | succ n_53 ih_53 =>
      intro I_499703 J_499704 hU_499705 hF_499706 hG_499707 v_499708 v_499709 rv_499709 v_499710 rv_499710 im_499711 hm_499712
      have j_102 : ∀ (I_499713 : Nat → Nat → Int32) (J_499714 : Nat → Nat → Int64) (hU_499715 : Iv L κ R ow I_499713) (hF_499716 : Fq L κ ow [107, 108, 109, 110, 111, 112, 1005, 16100, 16200, 16300, 16400, 16500, 16600] I I_499713) (hG_499717 : Fq L κ ow [] J J_499714) (v_499718 : Int32) (rv_499718 : Rg 0 6 v_499718) (v_499719 : Int32) (rv_499719 : Rg 0 1 v_499719) (v_499720 : Int32) (rv_499720 : Rg 0 939 v_499720) (v_499721 : Int32) (rv_499721 : Rg (-1) 255 v_499721) (v_499722 : Int32) (rv_499722 : Rg 1 940 v_499722) (q_499723 : I_499713 b_499680 5 = v_499722) (hm_499724 : 940 < (v_499720 : Int32).toInt + ((n_53 + 1 : Nat) : Int)), WG p l e { frames := 4, cells := 0, slots := 0, locals := 107 } s m ([.ref x, .int a0] : List Value).toArray below meth c 5 0 0 (MQ below (Qi_ D cy L κ ln R (fun r I2 J2 => Iv L κ R ow I2 ∧ Fq L κ ow [107, 108, 109, 110, 111, 112, 1005, 16100, 16200, 16300, 16400, 16500, 16600] I I2 ∧ Fq L κ ow [] J J2 ∧ Rg (-2147483648) 2147483647 r)) ([.ref x, .int a0] : List Value).toArray s 0 0 (Al_ L)) D cy (Al_ L) s.heap L κ ln R I_499713 J_499714 102 [(0, .ref x), (1, .int v_499718), (2, .int v_499719), (3, .int v_499720), (4, .int v_499721)] [] := by
        intro I_499713 J_499714 hU_499715 hF_499716 hG_499717 v_499718 rv_499718 v_499719 rv_499719 v_499720 rv_499720 v_499721 rv_499721 v_499722 rv_499722 q_499723 hm_499724
        obtain ⟨x_499725, hx_499725, rx_499725, tx_499725⟩ := ex_add (y := 1) 1 940 rv_499720 rc_1 (by decide) (by decide) (by decide) (by decide)
        refine g_iinc C dX11_left_102 (k := 3) (v := x_499725) rfl hx_499725 (by decide) (lo2 := [(3, .int x_499725), (0, .ref x), (1, .int v_499718), (2, .int v_499719), (4, .int v_499721)]) rfl ?_
        refine g_goto C (tgt := 53) dX11_left_105 (by decide) ?_
        refine g_lo (is := [1, 2, 3, 0]) (lo2 := [(0, .ref x), (1, .int v_499718), (2, .int v_499719), (3, .int x_499725)]) rfl ?_
        exact ih_53 I_499713 J_499714 hU_499715 hF_499716 hG_499717 v_499718 v_499719 (rv_499719) x_499725 (rg_w rx_499725 (by decide) (by decide)) (fun _ => rv_499718) (ms_1 hm_499724 (ti_k tx_499725 rc_1) (by decide))
      refine g_iload_n C 3 dX11_left_53 rfl rfl ?_
      refine g_aload_n C 0 dX11_left_54 rfl rfl ?_
      refine g_getR C K hLx hkx f_11_10 hb_499680 dX11_left_55 ?_
      obtain ⟨x_499726, hx_499726, rx_499726⟩ := ex_get (I := I_499703) (a := b_499680) (j := 5) (lo := 0) (hi := 940) hU_499705.1 hb_499680L (ro_o hb_499680k (by decide)) rfl
      refine g_getI C K hb_499680L hb_499680k f_11_102 (v := x_499726) hx_499726 dX11_left_58 ?_
      refine g_icmp_ge C (tgt := 108) dX11_left_61 (by decide) (fun h_499727 => ?_) (fun h_499727 => ?_)
      · skip
        refine g_lo (is := [0, 1, 2, 3]) (lo2 := [(0, .ref x), (1, .int v_499708), (2, .int v_499709), (3, .int v_499710)]) rfl ?_
        exact j_108 I_499703 J_499704 hU_499705 hF_499706 hG_499707 v_499708 v_499709 (rv_499709) v_499710 (rv_499710) x_499726 (rx_499726) hx_499726 (im_499711)
      · skip
        have r_499728 := lt_l (hi := 939) (nle h_499727) rv_499710 rx_499726 (by decide)
        have r_499729 := lt_r (lo := 1) (nle h_499727) rv_499710 rx_499726 (by decide)
        refine g_iload_n C 2 dX11_left_64 rfl rfl ?_
        refine g_if_eq C (tgt := 108) dX11_left_65 (by decide) (fun h_499730 => ?_) (fun h_499730 => ?_)
        · skip
          have r_499731 := (⟨(rv_499709).1, (eq_rg (h_499730) rc_0).2⟩ : Rg 0 0 v_499709)
          refine g_lo (is := [0, 1, 2, 3]) (lo2 := [(0, .ref x), (1, .int v_499708), (2, .int v_499709), (3, .int v_499710)]) rfl ?_
          exact j_108 I_499703 J_499704 hU_499705 hF_499706 hG_499707 v_499708 v_499709 (rg_w r_499731 (by decide) (by decide)) v_499710 (rg_w r_499728 (by decide) (by decide)) x_499726 (rg_w r_499729 (by decide) (by decide)) hx_499726 (fun q => ne_no q r_499731 rc_0)
        · skip
          have n_499732 : ¬ v_499709 = 0 := h_499730
          have r_499733 := ne_lo (lo := 1) n_499732 rv_499709 rc_0 rfl (by decide)
          have r_499734 := rg_i (rg_all v_499708) (im_499711 (rg_nz r_499733 (by decide))) (lo := 0) (hi := 6) (by decide) (by decide)
          refine g_aload_n C 0 dX11_left_68 rfl rfl ?_
          refine g_getR C K hLx hkx f_11_10 hb_499680 dX11_left_69 ?_
          refine g_iload_n C 3 dX11_left_72 rfl rfl ?_
          refine g_callVI C K (c_X10_byteOf W9 hb_499680L hb_499680k v_499710 (r_499728) hU_499705) hb_499680L hb_499680k (by decide) rfl v_11_275 rfl ⟨rfl, rfl⟩ ⟨Nat.le_of_ble_eq_true rfl, Nat.le_of_ble_eq_true rfl⟩ (Nat.le_of_ble_eq_true rfl) ⟨Nat.le_of_ble_eq_true rfl, Nat.le_of_ble_eq_true rfl⟩ dX11_left_73 rfl (st := []) (fun x_499735 I_499736 J_499737 h_499738 => ?_)
          obtain ⟨rfl, rfl, rx_499735⟩ := h_499738
          refine g_istore C dX11_left_76 (by decide) (lo2 := [(4, .int x_499735), (0, .ref x), (1, .int v_499708), (2, .int v_499709), (3, .int v_499710)]) rfl ?_
          refine g_aload_n C 1 dX11_left_78 rfl rfl ?_
          refine g_getR C K hLx hkx f_11_19 hb_499681 dX11_left_79 ?_
          refine g_iload C 0 dX11_left_82 rfl ?_
          refine g_callVI C K (c_X8_hasPerson W9 hb_499681L hb_499681k x_499735  hU_499705) hb_499681L hb_499681k (by decide) rfl v_11_133 rfl ⟨rfl, rfl⟩ ⟨Nat.le_of_ble_eq_true rfl, Nat.le_of_ble_eq_true rfl⟩ (Nat.le_of_ble_eq_true rfl) ⟨Nat.le_of_ble_eq_true rfl, Nat.le_of_ble_eq_true rfl⟩ dX11_left_84 rfl (st := []) (fun x_499739 I_499740 J_499741 h_499742 => ?_)
          obtain ⟨rfl, rfl, rx_499739, ex_499739⟩ := h_499742
          refine g_istore_n C dX11_left_87 rfl (by decide) (lo2 := [(2, .int x_499739), (4, .int x_499735), (0, .ref x), (1, .int v_499708), (3, .int v_499710)]) rfl ?_
          refine g_iload_n C 0 dX11_left_88 rfl rfl ?_
          refine g_if_eq C (tgt := 102) dX11_left_89 (by decide) (fun h_499743 => ?_) (fun h_499743 => ?_)
          · skip
            have r_499744 := (⟨(rx_499739).1, (eq_rg (h_499743) rc_0).2⟩ : Rg 0 0 x_499739)
            refine g_lo (is := [2, 3, 0, 4, 1]) (lo2 := [(0, .ref x), (1, .int v_499708), (2, .int x_499739), (3, .int v_499710), (4, .int x_499735)]) rfl ?_
            exact j_102 I_499703 J_499704 hU_499705 hF_499706 hG_499707 v_499708 (r_499734) x_499739 (rg_w r_499744 (by decide) (by decide)) v_499710 (r_499728) x_499735 (rx_499735) x_499726 (r_499729) hx_499726 hm_499712
          · skip
            have n_499745 : ¬ x_499739 = 0 := h_499743
            have r_499746 := ne_lo (lo := 1) n_499745 rx_499739 rc_0 rfl (by decide)
            have r_499747 := rg_i rx_499735 ((ex_499739) (rg_nz r_499746 (by decide))) (lo := 0) (hi := 6) (by decide) (by decide)
            refine g_aload_n C 2 dX11_left_92 rfl rfl ?_
            refine g_getR C K hLx hkx f_11_32 hb_499679 dX11_left_93 ?_
            refine g_iload C 1 dX11_left_96 rfl ?_
            refine g_callVI C K (c_X1_tryToDie W9 hb_499679L hb_499679k x_499735 (r_499747) hU_499705) hb_499679L hb_499679k (by decide) rfl v_11_247 rfl ⟨rfl, rfl⟩ ⟨Nat.le_of_ble_eq_true rfl, Nat.le_of_ble_eq_true rfl⟩ (Nat.le_of_ble_eq_true rfl) ⟨Nat.le_of_ble_eq_true rfl, Nat.le_of_ble_eq_true rfl⟩ dX11_left_98 rfl (st := []) (fun x_499748 I_499749 J_499750 h_499751 => ?_)
            obtain ⟨hUI_499749, hFI_499749, hGJ_499750, rx_499748⟩ := h_499751
            have hF_499752 := fq_tr hF_499706 hFI_499749 (by decide)
            have hG_499753 := fq_tr hG_499707 hGJ_499750 (by decide)
            refine g_pop C dX11_left_101 rfl ?_
            refine g_lo (is := [2, 3, 0, 4, 1]) (lo2 := [(0, .ref x), (1, .int v_499708), (2, .int x_499739), (3, .int v_499710), (4, .int x_499735)]) rfl ?_
            exact j_102 I_499749 J_499750 hUI_499749 hF_499752 hG_499753 v_499708 (r_499734) x_499739 (rg_w r_499746 (by decide) (by decide)) v_499710 (r_499728) x_499735 (rg_w r_499747 (by decide) (by decide)) x_499726 (r_499729) (fq_at hFI_499749 hb_499680L hb_499680k (by decide) (by decide) hx_499726) hm_499712
  have j_38 : ∀ (I_499754 : Nat → Nat → Int32) (J_499755 : Nat → Nat → Int64) (hU_499756 : Iv L κ R ow I_499754) (hF_499757 : Fq L κ ow [107, 108, 109, 110, 111, 112, 1005, 16100, 16200, 16300, 16400, 16500, 16600] I I_499754) (hG_499758 : Fq L κ ow [] J J_499755) (v_499759 : Int32), WG p l e { frames := 4, cells := 0, slots := 0, locals := 107 } s m ([.ref x, .int a0] : List Value).toArray below meth c 5 0 0 (MQ below (Qi_ D cy L κ ln R (fun r I2 J2 => Iv L κ R ow I2 ∧ Fq L κ ow [107, 108, 109, 110, 111, 112, 1005, 16100, 16200, 16300, 16400, 16500, 16600] I I2 ∧ Fq L κ ow [] J J2 ∧ Rg (-2147483648) 2147483647 r)) ([.ref x, .int a0] : List Value).toArray s 0 0 (Al_ L)) D cy (Al_ L) s.heap L κ ln R I_499754 J_499755 38 [(0, .ref x), (1, .int v_499759)] [] := by
    intro I_499754 J_499755 hU_499756 hF_499757 hG_499758 v_499759
    refine g_iconst C (v := 0) dX11_left_38 (by decide) ?_
    refine g_istore_n C dX11_left_39 rfl (by decide) (lo2 := [(2, .int 0), (0, .ref x), (1, .int v_499759)]) rfl ?_
    refine g_aload_n C 1 dX11_left_40 rfl rfl ?_
    refine g_getR C K hLx hkx f_11_32 hb_499679 dX11_left_41 ?_
    refine g_aload_n C 1 dX11_left_44 rfl rfl ?_
    refine g_getR C K hLx hkx f_11_28 hb_499678 dX11_left_45 ?_
    refine g_callVV C K (c_X1_become W9 hb_499679L hb_499679k hb_499678L hb_499678k  hU_499756) hb_499679L hb_499679k (by decide) rfl v_11_126 rfl ⟨rfl, rfl⟩ ⟨Nat.le_of_ble_eq_true rfl, Nat.le_of_ble_eq_true rfl⟩ (Nat.le_of_ble_eq_true rfl) ⟨Nat.le_of_ble_eq_true rfl, Nat.le_of_ble_eq_true rfl⟩ dX11_left_48 rfl (st := []) (fun I_499761 J_499762 h_499763 => ?_)
    obtain ⟨hUI_499761, hFI_499761, hGJ_499762⟩ := h_499763
    have hF_499764 := fq_tr hF_499757 hFI_499761 (by decide)
    have hG_499765 := fq_tr hG_499758 hGJ_499762 (by decide)
    refine g_iconst C (v := 0) dX11_left_51 (by decide) ?_
    refine g_istore_n C dX11_left_52 rfl (by decide) (lo2 := [(3, .int 0), (2, .int 0), (0, .ref x), (1, .int v_499759)]) rfl ?_
    refine g_lo (is := [2, 3, 1, 0]) (lo2 := [(0, .ref x), (1, .int v_499759), (2, .int 0), (3, .int 0)]) rfl ?_
    exact l_53 941 I_499761 J_499762 hUI_499761 hF_499764 hG_499765 v_499759 0 (rg_w rc_0 (by decide) (by decide)) 0 (rg_w rc_0 (by decide) (by decide)) (fun q => absurd rfl q) (ms_s (a := 0) (b := 940) (N := 941) (rg_w rc_0 (by decide) (by decide)) (by decide))
  refine g_aload_n C 0 dX11_left_0 rfl rfl ?_
  refine g_getR C K hLx hkx f_11_19 hb_499681 dX11_left_1 ?_
  refine g_iload_n C 1 dX11_left_4 rfl rfl ?_
  refine g_callVI C K (c_X8_hasPerson W9 hb_499681L hb_499681k a0  hU) hb_499681L hb_499681k (by decide) rfl v_11_133 rfl ⟨rfl, rfl⟩ ⟨Nat.le_of_ble_eq_true rfl, Nat.le_of_ble_eq_true rfl⟩ (Nat.le_of_ble_eq_true rfl) ⟨Nat.le_of_ble_eq_true rfl, Nat.le_of_ble_eq_true rfl⟩ dX11_left_5 rfl (st := []) (fun x_499766 I_499767 J_499768 h_499769 => ?_)
  obtain ⟨rfl, rfl, rx_499766, ex_499766⟩ := h_499769
  refine g_if_eq C (tgt := 38) dX11_left_8 (by decide) (fun h_499770 => ?_) (fun h_499770 => ?_)
  · skip
    have r_499771 := (⟨(rx_499766).1, (eq_rg (h_499770) rc_0).2⟩ : Rg 0 0 x_499766)
    refine g_lo (is := [0, 1]) (lo2 := [(0, .ref x), (1, .int a0)]) rfl ?_
    exact j_38 I J hU hF hG a0
  · skip
    have n_499772 : ¬ x_499766 = 0 := h_499770
    have r_499773 := ne_lo (lo := 1) n_499772 rx_499766 rc_0 rfl (by decide)
    have r_499774 := rg_i (rg_all a0) ((ex_499766) (rg_nz r_499773 (by decide))) (lo := 0) (hi := 6) (by decide) (by decide)
    refine g_aload_n C 0 dX11_left_11 rfl rfl ?_
    refine g_getR C K hLx hkx f_11_10 hb_499680 dX11_left_12 ?_
    obtain ⟨x_499775, hx_499775, rx_499775⟩ := ex_get (I := I) (a := b_499680) (j := 5) (lo := 0) (hi := 940) hU.1 hb_499680L (ro_o hb_499680k (by decide)) rfl
    refine g_getI C K hb_499680L hb_499680k f_11_102 (v := x_499775) hx_499775 dX11_left_15 ?_
    refine g_iconst C (v := 1) dX11_left_18 (by decide) ?_
    refine g_icmp_lt C (tgt := 38) dX11_left_19 (by decide) (fun h_499776 => ?_) (fun h_499776 => ?_)
    · skip
      have r_499777 := lt_l (hi := 0) (h_499776) rx_499775 rc_1 (by decide)
      refine g_lo (is := [0, 1]) (lo2 := [(0, .ref x), (1, .int a0)]) rfl ?_
      exact j_38 I J hU hF hG a0
    · skip
      have r_499778 := le_r (nlt h_499776) rc_1 rx_499775
      refine g_aload_n C 0 dX11_left_22 rfl rfl ?_
      refine g_getR C K hLx hkx f_11_10 hb_499680 dX11_left_23 ?_
      refine g_getI C K hb_499680L hb_499680k f_11_102 (v := x_499775) hx_499775 dX11_left_26 ?_
      refine g_bipush C (v := 7) dX11_left_29 (by decide) ?_
      refine g_icmp_gt C (tgt := 38) dX11_left_31 (by decide) (fun h_499779 => ?_) (fun h_499779 => ?_)
      · skip
        have r_499780 := lt_r (lo := 8) (h_499779) rc_7 r_499778 (by decide)
        refine g_lo (is := [0, 1]) (lo2 := [(0, .ref x), (1, .int a0)]) rfl ?_
        exact j_38 I J hU hF hG a0
      · skip
        have r_499781 := le_l (nlt h_499779) r_499778 rc_7
        refine g_iconst C (v := 1) dX11_left_34 (by decide) ?_
        refine g_goto C (tgt := 39) dX11_left_35 (by decide) ?_
        refine g_istore_n C dX11_left_39 rfl (by decide) (lo2 := [(2, .int 1), (0, .ref x), (1, .int a0)]) rfl ?_
        refine g_aload_n C 1 dX11_left_40 rfl rfl ?_
        refine g_getR C K hLx hkx f_11_32 hb_499679 dX11_left_41 ?_
        refine g_aload_n C 1 dX11_left_44 rfl rfl ?_
        refine g_getR C K hLx hkx f_11_28 hb_499678 dX11_left_45 ?_
        refine g_callVV C K (c_X1_become W9 hb_499679L hb_499679k hb_499678L hb_499678k  hU) hb_499679L hb_499679k (by decide) rfl v_11_126 rfl ⟨rfl, rfl⟩ ⟨Nat.le_of_ble_eq_true rfl, Nat.le_of_ble_eq_true rfl⟩ (Nat.le_of_ble_eq_true rfl) ⟨Nat.le_of_ble_eq_true rfl, Nat.le_of_ble_eq_true rfl⟩ dX11_left_48 rfl (st := []) (fun I_499783 J_499784 h_499785 => ?_)
        obtain ⟨hUI_499783, hFI_499783, hGJ_499784⟩ := h_499785
        have hF_499786 := fq_tr hF hFI_499783 (by decide)
        have hG_499787 := fq_tr hG hGJ_499784 (by decide)
        refine g_iconst C (v := 0) dX11_left_51 (by decide) ?_
        refine g_istore_n C dX11_left_52 rfl (by decide) (lo2 := [(3, .int 0), (2, .int 1), (0, .ref x), (1, .int a0)]) rfl ?_
        refine g_lo (is := [2, 3, 1, 0]) (lo2 := [(0, .ref x), (1, .int a0), (2, .int 1), (3, .int 0)]) rfl ?_
        exact l_53 941 I_499783 J_499784 hUI_499783 hF_499786 hG_499787 a0 1 (rg_w rc_1 (by decide) (by decide)) 0 (rg_w rc_0 (by decide) (by decide)) (fun _ => r_499774) (ms_s (a := 0) (b := 940) (N := 941) (rg_w rc_0 (by decide) (by decide)) (by decide))
set_option maxRecDepth 100000 in
set_option maxHeartbeats 8000000 in
theorem c_X8_stepsBetween {l : Launch} {D : va_G} {cy : Nat → ClassId} {L : List Nat} {κ ln : Nat → Nat} {R : Nat → Nat → Option Nat} {I : Nat → Nat → Int32} {J : Nat → Nat → Int64} {ow : Nat → Nat × Nat} (W9 : ∀ a ∈ L, Shp L κ ln R ow a) {x : Nat} (hLx : x ∈ L) (hkx : κ x = 8) (a0 : Int32) (a1 : Int32) (ra0 : Rg 0 6 a0) (ra1 : Rg 0 6 a1) (hU : Iv L κ R ow I) : CtI l yX8_stepsBetween cX8_stepsBetween 7 (some .int) { frames := 1, cells := 0, slots := 0, locals := 60 } D cy L κ ln R I J [.ref x, .int a0, .int a1] (fun r I2 J2 => I = I2 ∧ J = J2 ∧ Rg (-1) 14 r) := by
  refine CtI.of (by decide +kernel) (Nat.le_of_ble_eq_true rfl) ?_
  intro p e s m below meth c B K
  have C := B.1
  obtain ⟨b_499971, hb_499971, hb_499971L, hb_499971k, hb_499971n, hb_499971o⟩ := shp_a (W9 x hLx) hkx 2 14 7 rfl (by decide)
  refine g_lo (is := [0, 1, 2]) (lo2 := [(0, .ref x), (1, .int a0), (2, .int a1)]) rfl ?_
  have l_8 : ∀ (n_8 : Nat) (v_499972 : Int32) (rv_499972 : Rg 0 6 v_499972) (v_499973 : Int32) (rv_499973 : Rg 0 6 v_499973) (v_499974 : Int32) (rv_499974 : Rg 0 6 v_499974) (nv_499974_m1 : ¬ v_499974 = (-1)) (v_499975 : Int32) (rv_499975 : Rg 0 6 v_499975) (v_499976 : Int32) (rv_499976 : Rg 0 14 v_499976) (hm_499977 : 14 < (v_499976 : Int32).toInt + (n_8 : Int)), WG p l e { frames := 1, cells := 0, slots := 0, locals := 60 } s m ([.ref x, .int a0, .int a1] : List Value).toArray below meth c 7 0 0 (MQ below (Qi_ D cy L κ ln R (fun r I2 J2 => I = I2 ∧ J = J2 ∧ Rg (-1) 14 r)) ([.ref x, .int a0, .int a1] : List Value).toArray s 0 0 (Al_ L)) D cy (Al_ L) s.heap L κ ln R I J 8 [(0, .ref x), (1, .int v_499972), (2, .int v_499973), (3, .int v_499974), (4, .int v_499975), (5, .int v_499976)] [] := by
    intro n_8
    induction n_8 with
    | zero =>
      intro v_499972 rv_499972 v_499973 rv_499973 v_499974 rv_499974 nv_499974_m1 v_499975 rv_499975 v_499976 rv_499976 hm_499977
      exact ms_0 rv_499976 hm_499977
    | succ n_8 ih_8 =>
      intro v_499972 rv_499972 v_499973 rv_499973 v_499974 rv_499974 nv_499974_m1 v_499975 rv_499975 v_499976 rv_499976 hm_499977
      refine g_iload_n C 3 dX8_stepsBetween_8 rfl rfl ?_
      refine g_iload C 4 dX8_stepsBetween_9 rfl ?_
      refine g_icmp_eq C (tgt := 67) dX8_stepsBetween_11 (by decide) (fun h_499978 => ?_) (fun h_499978 => ?_)
      · skip
        refine g_iload C 5 dX8_stepsBetween_67 rfl ?_
        exact g_zret (ty := .int) (r := v_499976) B K rfl (rfl) ⟨rfl, rfl, rg_w rv_499976 (by decide) (by decide)⟩ dX8_stepsBetween_69
      · skip
        refine g_iload C 5 dX8_stepsBetween_14 rfl ?_
        refine g_bipush C (v := 14) dX8_stepsBetween_16 (by decide) ?_
        refine g_icmp_ge C (tgt := 67) dX8_stepsBetween_18 (by decide) (fun h_499979 => ?_) (fun h_499979 => ?_)
        · skip
          have r_499980 := le_r (h_499979) rc_14 rv_499976
          refine g_iload C 5 dX8_stepsBetween_67 rfl ?_
          exact g_zret (ty := .int) (r := v_499976) B K rfl (rfl) ⟨rfl, rfl, rg_w r_499980 (by decide) (by decide)⟩ dX8_stepsBetween_69
        · skip
          have r_499981 := lt_l (hi := 13) (nle h_499979) rv_499976 rc_14 (by decide)
          refine g_iload_n C 3 dX8_stepsBetween_21 rfl rfl ?_
          refine g_iload C 4 dX8_stepsBetween_22 rfl ?_
          obtain ⟨x_499982, hx_499982, rx_499982⟩ := ex_max 0 6 rv_499974 rv_499975 (by decide) (by decide) (by decide)
          refine g_mmax C (v := x_499982) mw_8_47 w_max (Nat.le_of_ble_eq_true rfl) (Nat.le_of_ble_eq_true rfl) ⟨Nat.le_of_ble_eq_true rfl, Nat.le_of_ble_eq_true rfl⟩ (hx_499982) dX8_stepsBetween_24 ?_
          refine g_istore C dX8_stepsBetween_27 (by decide) (lo2 := [(6, .int x_499982), (0, .ref x), (1, .int v_499972), (2, .int v_499973), (3, .int v_499974), (4, .int v_499975), (5, .int v_499976)]) rfl ?_
          refine g_iload_n C 4 dX8_stepsBetween_29 rfl rfl ?_
          refine g_iload C 5 dX8_stepsBetween_30 rfl ?_
          obtain ⟨x_499983, hx_499983, rx_499983⟩ := ex_min 0 6 rv_499974 rv_499975 (by decide) (by decide) (by decide)
          refine g_mmin C (v := x_499983) mw_8_53 w_min (Nat.le_of_ble_eq_true rfl) (Nat.le_of_ble_eq_true rfl) ⟨Nat.le_of_ble_eq_true rfl, Nat.le_of_ble_eq_true rfl⟩ (hx_499983) dX8_stepsBetween_32 ?_
          refine g_istore C dX8_stepsBetween_35 (by decide) (lo2 := [(4, .int x_499983), (6, .int x_499982), (0, .ref x), (1, .int v_499972), (2, .int v_499973), (3, .int v_499974), (5, .int v_499976)]) rfl ?_
          refine g_iload C 1 dX8_stepsBetween_37 rfl ?_
          refine g_if_lt C (tgt := 52) dX8_stepsBetween_39 (by decide) (fun h_499984 => ?_) (fun h_499984 => ?_)
          · skip
            have r_499985 := lt_l (hi := (-1)) (h_499984) rx_499982 rc_0 (by decide)
            exact rg_no r_499985 (by decide)
          · skip
            refine g_aload_n C 2 dX8_stepsBetween_42 rfl rfl ?_
            refine g_getR C K hLx hkx f_8_19 hb_499971 dX8_stepsBetween_43 ?_
            refine g_iload C 1 dX8_stepsBetween_46 rfl ?_
            obtain ⟨x_499986, hx_499986, rx_499986⟩ := ex_get (I := I) (a := b_499971) (j := x_499982.toNatClampNeg) (lo := (-1)) (hi := 6) hU.1 hb_499971L (ro_a hb_499971k (by decide) hb_499971o hkx rfl) (rfl)
            refine h_iald C K hb_499971L hb_499971k (v := x_499986) (x_499982.toNatClampNeg) (rfl) (ix_0 rx_499982 (by decide)) (ix_lt rx_499982 (by decide) hb_499971n (by decide)) hx_499986 dX8_stepsBetween_48 ?_
            refine g_goto C (tgt := 53) dX8_stepsBetween_49 (by decide) ?_
            refine g_istore_n C dX8_stepsBetween_53 rfl (by decide) (lo2 := [(3, .int x_499986), (4, .int x_499983), (6, .int x_499982), (0, .ref x), (1, .int v_499972), (2, .int v_499973), (5, .int v_499976)]) rfl ?_
            refine g_iload_n C 0 dX8_stepsBetween_54 rfl rfl ?_
            refine g_iconst C (v := (-1)) dX8_stepsBetween_55 (by decide) ?_
            refine g_icmp_ne C (tgt := 61) dX8_stepsBetween_56 (by decide) (fun h_499987 => ?_) (fun h_499987 => ?_)
            · skip
              have n_499988 : ¬ x_499986 = (-1) := h_499987
              have r_499989 := ne_lo (lo := 0) n_499988 rx_499986 rc_m1 rfl (by decide)
              obtain ⟨x_499990, hx_499990, rx_499990, tx_499990⟩ := ex_add (y := 1) 1 14 r_499981 rc_1 (by decide) (by decide) (by decide) (by decide)
              refine g_iinc C dX8_stepsBetween_61 (k := 6) (v := x_499990) rfl hx_499990 (by decide) (lo2 := [(5, .int x_499990), (3, .int x_499986), (4, .int x_499983), (6, .int x_499982), (0, .ref x), (1, .int v_499972), (2, .int v_499973)]) rfl ?_
              refine g_goto C (tgt := 8) dX8_stepsBetween_64 (by decide) ?_
              refine g_lo (is := [4, 5, 6, 1, 2, 0]) (lo2 := [(0, .ref x), (1, .int v_499972), (2, .int v_499973), (3, .int x_499986), (4, .int x_499983), (5, .int x_499990)]) rfl ?_
              exact ih_8 v_499972 (rv_499972) v_499973 (rv_499973) x_499986 (r_499989) (n_499988) x_499983 (rx_499983) x_499990 (rg_w rx_499990 (by decide) (by decide)) (ms_1 hm_499977 (ti_k tx_499990 rc_1) (by decide))
            · skip
              have r_499991 := (⟨(rx_499986).1, (eq_rg (h_499987) rc_m1).2⟩ : Rg (-1) (-1) x_499986)
              refine g_iconst C (v := (-1)) dX8_stepsBetween_59 (by decide) ?_
              exact g_zret (ty := .int) (r := (-1)) B K rfl (rfl) ⟨rfl, rfl, rg_w rc_m1 (by decide) (by decide)⟩ dX8_stepsBetween_60
  refine g_iload_n C 1 dX8_stepsBetween_0 rfl rfl ?_
  refine g_istore_n C dX8_stepsBetween_1 rfl (by decide) (lo2 := [(3, .int a0), (0, .ref x), (1, .int a0), (2, .int a1)]) rfl ?_
  refine g_iload_n C 3 dX8_stepsBetween_2 rfl rfl ?_
  refine g_istore C dX8_stepsBetween_3 (by decide) (lo2 := [(4, .int a1), (3, .int a0), (0, .ref x), (1, .int a0), (2, .int a1)]) rfl ?_
  refine g_iconst C (v := 0) dX8_stepsBetween_5 (by decide) ?_
  refine g_istore C dX8_stepsBetween_6 (by decide) (lo2 := [(5, .int 0), (4, .int a1), (3, .int a0), (0, .ref x), (1, .int a0), (2, .int a1)]) rfl ?_
  refine g_lo (is := [3, 4, 5, 2, 1, 0]) (lo2 := [(0, .ref x), (1, .int a0), (2, .int a1), (3, .int a0), (4, .int a1), (5, .int 0)]) rfl ?_
  exact l_8 15 a0 (ra0) a1 (ra1) a0 (ra0) (rg_nek ra0 rc_m1 (by decide)) a1 (ra1) 0 (rg_w rc_0 (by decide) (by decide)) (ms_s (a := 0) (b := 14) (N := 15) (rg_w rc_0 (by decide) (by decide)) (by decide))
set_option maxRecDepth 100000 in
set_option maxHeartbeats 8000000 in
theorem c_X11_kin {l : Launch} {D : va_G} {cy : Nat → ClassId} {L : List Nat} {κ ln : Nat → Nat} {R : Nat → Nat → Option Nat} {I : Nat → Nat → Int32} {J : Nat → Nat → Int64} {ow : Nat → Nat × Nat} (W9 : ∀ a ∈ L, Shp L κ ln R ow a) {x : Nat} (hLx : x ∈ L) (hkx : κ x = 11) (a0 : Int32) (a1 : Int32) (hU : Iv L κ R ow I) : CtI l yX11_kin cX11_kin 3 (some .int) { frames := 2, cells := 0, slots := 0, locals := 86 } D cy L κ ln R I J [.ref x, .int a0, .int a1] (fun r I2 J2 => I = I2 ∧ J = J2 ∧ Rg (-1) 14 r) := by
  refine CtI.of (by decide +kernel) (Nat.le_of_ble_eq_true rfl) ?_
  intro p e s m below meth c B K
  have C := B.1
  obtain ⟨b_500038, hb_500038, hb_500038L, hb_500038k⟩ := shp_o (W9 x hLx) hkx 1 8 rfl (by decide)
  refine g_lo (is := [0, 1, 2]) (lo2 := [(0, .ref x), (1, .int a0), (2, .int a1)]) rfl ?_
  refine g_aload_n C 0 dX11_kin_0 rfl rfl ?_
  refine g_getR C K hLx hkx f_11_19 hb_500038 dX11_kin_1 ?_
  refine g_iload_n C 1 dX11_kin_4 rfl rfl ?_
  refine g_callVI C K (c_X8_hasPerson W9 hb_500038L hb_500038k a0  hU) hb_500038L hb_500038k (by decide) rfl v_11_133 rfl ⟨rfl, rfl⟩ ⟨Nat.le_of_ble_eq_true rfl, Nat.le_of_ble_eq_true rfl⟩ (Nat.le_of_ble_eq_true rfl) ⟨Nat.le_of_ble_eq_true rfl, Nat.le_of_ble_eq_true rfl⟩ dX11_kin_5 rfl (st := []) (fun x_500039 I_500040 J_500041 h_500042 => ?_)
  obtain ⟨rfl, rfl, rx_500039, ex_500039⟩ := h_500042
  refine g_if_eq C (tgt := 34) dX11_kin_8 (by decide) (fun h_500043 => ?_) (fun h_500043 => ?_)
  · skip
    have r_500044 := (⟨(rx_500039).1, (eq_rg (h_500043) rc_0).2⟩ : Rg 0 0 x_500039)
    refine g_iconst C (v := (-1)) dX11_kin_34 (by decide) ?_
    exact g_zret (ty := .int) (r := (-1)) B K rfl (rfl) ⟨rfl, rfl, rg_w rc_m1 (by decide) (by decide)⟩ dX11_kin_35
  · skip
    have n_500045 : ¬ x_500039 = 0 := h_500043
    have r_500046 := ne_lo (lo := 1) n_500045 rx_500039 rc_0 rfl (by decide)
    have r_500047 := rg_i (rg_all a0) ((ex_500039) (rg_nz r_500046 (by decide))) (lo := 0) (hi := 6) (by decide) (by decide)
    refine g_aload_n C 0 dX11_kin_11 rfl rfl ?_
    refine g_getR C K hLx hkx f_11_19 hb_500038 dX11_kin_12 ?_
    refine g_iload_n C 2 dX11_kin_15 rfl rfl ?_
    refine g_callVI C K (c_X8_hasPerson W9 hb_500038L hb_500038k a1  hU) hb_500038L hb_500038k (by decide) rfl v_11_133 rfl ⟨rfl, rfl⟩ ⟨Nat.le_of_ble_eq_true rfl, Nat.le_of_ble_eq_true rfl⟩ (Nat.le_of_ble_eq_true rfl) ⟨Nat.le_of_ble_eq_true rfl, Nat.le_of_ble_eq_true rfl⟩ dX11_kin_16 rfl (st := []) (fun x_500048 I_500049 J_500050 h_500051 => ?_)
    obtain ⟨rfl, rfl, rx_500048, ex_500048⟩ := h_500051
    refine g_if_eq C (tgt := 34) dX11_kin_19 (by decide) (fun h_500052 => ?_) (fun h_500052 => ?_)
    · skip
      have r_500053 := (⟨(rx_500048).1, (eq_rg (h_500052) rc_0).2⟩ : Rg 0 0 x_500048)
      refine g_iconst C (v := (-1)) dX11_kin_34 (by decide) ?_
      exact g_zret (ty := .int) (r := (-1)) B K rfl (rfl) ⟨rfl, rfl, rg_w rc_m1 (by decide) (by decide)⟩ dX11_kin_35
    · skip
      have n_500054 : ¬ x_500048 = 0 := h_500052
      have r_500055 := ne_lo (lo := 1) n_500054 rx_500048 rc_0 rfl (by decide)
      have r_500056 := rg_i (rg_all a1) ((ex_500048) (rg_nz r_500055 (by decide))) (lo := 0) (hi := 6) (by decide) (by decide)
      refine g_aload_n C 0 dX11_kin_22 rfl rfl ?_
      refine g_getR C K hLx hkx f_11_19 hb_500038 dX11_kin_23 ?_
      refine g_iload_n C 1 dX11_kin_26 rfl rfl ?_
      refine g_iload_n C 2 dX11_kin_27 rfl rfl ?_
      refine g_callVI C K (c_X8_stepsBetween W9 hb_500038L hb_500038k a0 a1 (r_500047) (r_500056) hU) hb_500038L hb_500038k (by decide) rfl v_11_298 rfl ⟨rfl, rfl⟩ ⟨Nat.le_of_ble_eq_true rfl, Nat.le_of_ble_eq_true rfl⟩ (Nat.le_of_ble_eq_true rfl) ⟨Nat.le_of_ble_eq_true rfl, Nat.le_of_ble_eq_true rfl⟩ dX11_kin_28 rfl (st := []) (fun x_500057 I_500058 J_500059 h_500060 => ?_)
      obtain ⟨rfl, rfl, rx_500057⟩ := h_500060
      refine g_goto C (tgt := 35) dX11_kin_31 (by decide) ?_
      exact g_zret (ty := .int) (r := x_500057) B K rfl (rfl) ⟨rfl, rfl, rx_500057⟩ dX11_kin_35
set_option maxRecDepth 100000 in
set_option maxHeartbeats 8000000 in
theorem c_X11_hungriest {l : Launch} {D : va_G} {cy : Nat → ClassId} {L : List Nat} {κ ln : Nat → Nat} {R : Nat → Nat → Option Nat} {I : Nat → Nat → Int32} {J : Nat → Nat → Int64} {ow : Nat → Nat × Nat} (W9 : ∀ a ∈ L, Shp L κ ln R ow a) {x : Nat} (hLx : x ∈ L) (hkx : κ x = 11) (hU : Iv L κ R ow I) : CtI l yX11_hungriest cX11_hungriest 3 (some .int) { frames := 1, cells := 0, slots := 0, locals := 21 } D cy L κ ln R I J [.ref x] (fun r I2 J2 => I = I2 ∧ J = J2 ∧ Rg (-1) 6 r) := by
  refine CtI.of (by decide +kernel) (Nat.le_of_ble_eq_true rfl) ?_
  intro p e s m below meth c B K
  have C := B.1
  obtain ⟨b_500252, hb_500252, hb_500252L, hb_500252k⟩ := shp_o (W9 x hLx) hkx 1 8 rfl (by decide)
  obtain ⟨b_500253, hb_500253, hb_500253L, hb_500253k⟩ := shp_o (W9 x hLx) hkx 2 1 rfl (by decide)
  obtain ⟨b_500254, hb_500254, hb_500254L, hb_500254k, hb_500254n, hb_500254o⟩ := shp_a (W9 b_500253 hb_500253L) hb_500253k 6 14 7 rfl (by decide)
  refine g_lo (is := [0]) (lo2 := [(0, .ref x)]) rfl ?_
  have l_4 : ∀ (n_4 : Nat) (v_500255 : Int32) (rv_500255 : Rg (-1) 6 v_500255) (v_500256 : Int32) (rv_500256 : Rg 0 7 v_500256) (hm_500257 : 7 < (v_500256 : Int32).toInt + (n_4 : Int)), WG p l e { frames := 1, cells := 0, slots := 0, locals := 21 } s m ([.ref x] : List Value).toArray below meth c 3 0 0 (MQ below (Qi_ D cy L κ ln R (fun r I2 J2 => I = I2 ∧ J = J2 ∧ Rg (-1) 6 r)) ([.ref x] : List Value).toArray s 0 0 (Al_ L)) D cy (Al_ L) s.heap L κ ln R I J 4 [(0, .ref x), (1, .int v_500255), (2, .int v_500256)] [] := by
    intro n_4
    induction n_4 with
    | zero =>
      intro v_500255 rv_500255 v_500256 rv_500256 hm_500257
      exact ms_0 rv_500256 hm_500257
    | succ n_4 ih_4 =>
      intro v_500255 rv_500255 v_500256 rv_500256 hm_500257
      have j_54 : ∀ (v_500258 : Int32) (rv_500258 : Rg (-1) 6 v_500258) (v_500259 : Int32) (rv_500259 : Rg 0 6 v_500259) (v_500260 : Int32) (rv_500260 : Rg 1 7 v_500260) (q_500261 : I b_500252 5 = v_500260) (hm_500262 : 7 < (v_500259 : Int32).toInt + ((n_4 + 1 : Nat) : Int)), WG p l e { frames := 1, cells := 0, slots := 0, locals := 21 } s m ([.ref x] : List Value).toArray below meth c 3 0 0 (MQ below (Qi_ D cy L κ ln R (fun r I2 J2 => I = I2 ∧ J = J2 ∧ Rg (-1) 6 r)) ([.ref x] : List Value).toArray s 0 0 (Al_ L)) D cy (Al_ L) s.heap L κ ln R I J 54 [(0, .ref x), (1, .int v_500258), (2, .int v_500259)] [] := by
        intro v_500258 rv_500258 v_500259 rv_500259 v_500260 rv_500260 q_500261 hm_500262
        obtain ⟨x_500263, hx_500263, rx_500263, tx_500263⟩ := ex_add (y := 1) 1 7 rv_500259 rc_1 (by decide) (by decide) (by decide) (by decide)
        refine g_iinc C dX11_hungriest_54 (k := 2) (v := x_500263) rfl hx_500263 (by decide) (lo2 := [(2, .int x_500263), (0, .ref x), (1, .int v_500258)]) rfl ?_
        refine g_goto C (tgt := 4) dX11_hungriest_57 (by decide) ?_
        refine g_lo (is := [1, 2, 0]) (lo2 := [(0, .ref x), (1, .int v_500258), (2, .int x_500263)]) rfl ?_
        exact ih_4 v_500258 (rv_500258) x_500263 (rg_w rx_500263 (by decide) (by decide)) (ms_1 hm_500262 (ti_k tx_500263 rc_1) (by decide))
      have j_52 : ∀ (v_500264 : Int32) (rv_500264 : Rg (-1) 6 v_500264) (v_500265 : Int32) (rv_500265 : Rg 0 6 v_500265) (v_500266 : Int32) (rv_500266 : Rg 1 7 v_500266) (q_500267 : I b_500252 5 = v_500266) (hm_500268 : 7 < (v_500265 : Int32).toInt + ((n_4 + 1 : Nat) : Int)), WG p l e { frames := 1, cells := 0, slots := 0, locals := 21 } s m ([.ref x] : List Value).toArray below meth c 3 0 0 (MQ below (Qi_ D cy L κ ln R (fun r I2 J2 => I = I2 ∧ J = J2 ∧ Rg (-1) 6 r)) ([.ref x] : List Value).toArray s 0 0 (Al_ L)) D cy (Al_ L) s.heap L κ ln R I J 52 [(0, .ref x), (1, .int v_500264), (2, .int v_500265)] [] := by
        intro v_500264 rv_500264 v_500265 rv_500265 v_500266 rv_500266 q_500267 hm_500268
        refine g_iload_n C 2 dX11_hungriest_52 rfl rfl ?_
        refine g_istore_n C dX11_hungriest_53 rfl (by decide) (lo2 := [(1, .int v_500265), (0, .ref x), (2, .int v_500265)]) rfl ?_
        refine g_lo (is := [1, 0, 2]) (lo2 := [(0, .ref x), (1, .int v_500265), (2, .int v_500265)]) rfl ?_
        exact j_54 v_500265 (rg_w rv_500265 (by decide) (by decide)) v_500265 (rv_500265) v_500266 (rv_500266) q_500267 hm_500268
      refine g_iload_n C 2 dX11_hungriest_4 rfl rfl ?_
      refine g_aload_n C 0 dX11_hungriest_5 rfl rfl ?_
      refine g_getR C K hLx hkx f_11_19 hb_500252 dX11_hungriest_6 ?_
      obtain ⟨x_500269, hx_500269, rx_500269⟩ := ex_get (I := I) (a := b_500252) (j := 5) (lo := 0) (hi := 7) hU.1 hb_500252L (ro_o hb_500252k (by decide)) rfl
      refine g_getI C K hb_500252L hb_500252k f_11_213 (v := x_500269) hx_500269 dX11_hungriest_9 ?_
      refine g_icmp_ge C (tgt := 60) dX11_hungriest_12 (by decide) (fun h_500270 => ?_) (fun h_500270 => ?_)
      · skip
        refine g_iload_n C 1 dX11_hungriest_60 rfl rfl ?_
        exact g_zret (ty := .int) (r := v_500255) B K rfl (rfl) ⟨rfl, rfl, rv_500255⟩ dX11_hungriest_61
      · skip
        have r_500271 := lt_l (hi := 6) (nle h_500270) rv_500256 rx_500269 (by decide)
        have r_500272 := lt_r (lo := 1) (nle h_500270) rv_500256 rx_500269 (by decide)
        refine g_aload_n C 0 dX11_hungriest_15 rfl rfl ?_
        refine g_getR C K hLx hkx f_11_28 hb_500253 dX11_hungriest_16 ?_
        refine g_iload_n C 2 dX11_hungriest_19 rfl rfl ?_
        refine g_callVI C K (c_X1_lives W9 hb_500253L hb_500253k v_500256 (r_500271) hU) hb_500253L hb_500253k (by decide) rfl v_11_301 rfl ⟨rfl, rfl⟩ ⟨Nat.le_of_ble_eq_true rfl, Nat.le_of_ble_eq_true rfl⟩ (Nat.le_of_ble_eq_true rfl) ⟨Nat.le_of_ble_eq_true rfl, Nat.le_of_ble_eq_true rfl⟩ dX11_hungriest_20 rfl (st := []) (fun x_500273 I_500274 J_500275 h_500276 => ?_)
        obtain ⟨rfl, rfl, rx_500273⟩ := h_500276
        refine g_if_eq C (tgt := 54) dX11_hungriest_23 (by decide) (fun h_500277 => ?_) (fun h_500277 => ?_)
        · skip
          have r_500278 := (⟨(rx_500273).1, (eq_rg (h_500277) rc_0).2⟩ : Rg 0 0 x_500273)
          refine g_lo (is := [0, 1, 2]) (lo2 := [(0, .ref x), (1, .int v_500255), (2, .int v_500256)]) rfl ?_
          exact j_54 v_500255 (rv_500255) v_500256 (r_500271) x_500269 (r_500272) hx_500269 hm_500257
        · skip
          have n_500279 : ¬ x_500273 = 0 := h_500277
          have r_500280 := ne_lo (lo := 1) n_500279 rx_500273 rc_0 rfl (by decide)
          refine g_iload_n C 1 dX11_hungriest_26 rfl rfl ?_
          refine g_iconst C (v := (-1)) dX11_hungriest_27 (by decide) ?_
          refine g_icmp_eq C (tgt := 52) dX11_hungriest_28 (by decide) (fun h_500281 => ?_) (fun h_500281 => ?_)
          · skip
            have r_500282 := (⟨(rv_500255).1, (eq_rg (h_500281) rc_m1).2⟩ : Rg (-1) (-1) v_500255)
            refine g_lo (is := [0, 1, 2]) (lo2 := [(0, .ref x), (1, .int v_500255), (2, .int v_500256)]) rfl ?_
            exact j_52 v_500255 (rg_w r_500282 (by decide) (by decide)) v_500256 (r_500271) x_500269 (r_500272) hx_500269 hm_500257
          · skip
            have n_500283 : ¬ v_500255 = (-1) := h_500281
            have r_500284 := ne_lo (lo := 0) n_500283 rv_500255 rc_m1 rfl (by decide)
            refine g_aload_n C 0 dX11_hungriest_31 rfl rfl ?_
            refine g_getR C K hLx hkx f_11_28 hb_500253 dX11_hungriest_32 ?_
            refine g_getR C K hb_500253L hb_500253k f_11_163 hb_500254 dX11_hungriest_35 ?_
            refine g_iload_n C 2 dX11_hungriest_38 rfl rfl ?_
            obtain ⟨x_500285, hx_500285, rx_500285⟩ := ex_get (I := I) (a := b_500254) (j := v_500256.toNatClampNeg) (lo := (-2147483648)) (hi := 2147483647) hU.1 hb_500254L (ro_a hb_500254k (by decide) hb_500254o hb_500253k rfl) (rfl)
            refine h_iald C K hb_500254L hb_500254k (v := x_500285) (v_500256.toNatClampNeg) (rfl) (ix_0 r_500271 (by decide)) (ix_lt r_500271 (by decide) hb_500254n (by decide)) hx_500285 dX11_hungriest_39 ?_
            refine g_aload_n C 0 dX11_hungriest_40 rfl rfl ?_
            refine g_getR C K hLx hkx f_11_28 hb_500253 dX11_hungriest_41 ?_
            refine g_getR C K hb_500253L hb_500253k f_11_163 hb_500254 dX11_hungriest_44 ?_
            refine g_iload_n C 1 dX11_hungriest_47 rfl rfl ?_
            obtain ⟨x_500286, hx_500286, rx_500286⟩ := ex_get (I := I) (a := b_500254) (j := v_500255.toNatClampNeg) (lo := (-2147483648)) (hi := 2147483647) hU.1 hb_500254L (ro_a hb_500254k (by decide) hb_500254o hb_500253k rfl) (rfl)
            refine h_iald C K hb_500254L hb_500254k (v := x_500286) (v_500255.toNatClampNeg) (rfl) (ix_0 r_500284 (by decide)) (ix_lt r_500284 (by decide) hb_500254n (by decide)) hx_500286 dX11_hungriest_48 ?_
            refine g_icmp_le C (tgt := 54) dX11_hungriest_49 (by decide) (fun h_500287 => ?_) (fun h_500287 => ?_)
            · skip
              refine g_lo (is := [0, 1, 2]) (lo2 := [(0, .ref x), (1, .int v_500255), (2, .int v_500256)]) rfl ?_
              exact j_54 v_500255 (rg_w r_500284 (by decide) (by decide)) v_500256 (r_500271) x_500269 (r_500272) hx_500269 hm_500257
            · skip
              have r_500288 := lt_l (hi := 2147483646) (nle h_500287) rx_500286 rx_500285 (by decide)
              have r_500289 := lt_r (lo := (-2147483647)) (nle h_500287) rx_500286 rx_500285 (by decide)
              refine g_lo (is := [0, 1, 2]) (lo2 := [(0, .ref x), (1, .int v_500255), (2, .int v_500256)]) rfl ?_
              exact j_52 v_500255 (rg_w r_500284 (by decide) (by decide)) v_500256 (r_500271) x_500269 (r_500272) hx_500269 hm_500257
  refine g_iconst C (v := (-1)) dX11_hungriest_0 (by decide) ?_
  refine g_istore_n C dX11_hungriest_1 rfl (by decide) (lo2 := [(1, .int (-1)), (0, .ref x)]) rfl ?_
  refine g_iconst C (v := 0) dX11_hungriest_2 (by decide) ?_
  refine g_istore_n C dX11_hungriest_3 rfl (by decide) (lo2 := [(2, .int 0), (1, .int (-1)), (0, .ref x)]) rfl ?_
  refine g_lo (is := [2, 1, 0]) (lo2 := [(0, .ref x), (1, .int (-1)), (2, .int 0)]) rfl ?_
  exact l_4 8 (-1) (rg_w rc_m1 (by decide) (by decide)) 0 (rg_w rc_0 (by decide) (by decide)) (ms_s (a := 0) (b := 7) (N := 8) (rg_w rc_0 (by decide) (by decide)) (by decide))
