theorem dX11_ask_0 : decode cX11_ask 0 = .ok (.aload_n 0, 1) := by decide +kernel
theorem dX11_ask_1 : decode cX11_ask 1 = .ok (.getfield 83, 3) := by decide +kernel
theorem dX11_ask_4 : decode cX11_ask 4 = .ok (.getfield 285, 3) := by decide +kernel
theorem dX11_ask_7 : decode cX11_ask 7 = .ok (.ireturn, 1) := by decide +kernel
theorem dX11_hungriest_0 : decode cX11_hungriest 0 = .ok (.iconst (-1), 1) := by decide +kernel
theorem dX11_hungriest_1 : decode cX11_hungriest 1 = .ok (.istore_n 1, 1) := by decide +kernel
theorem dX11_hungriest_2 : decode cX11_hungriest 2 = .ok (.iconst 0, 1) := by decide +kernel
theorem dX11_hungriest_3 : decode cX11_hungriest 3 = .ok (.istore_n 2, 1) := by decide +kernel
theorem dX11_hungriest_4 : decode cX11_hungriest 4 = .ok (.iload_n 2, 1) := by decide +kernel
theorem dX11_hungriest_5 : decode cX11_hungriest 5 = .ok (.aload_n 0, 1) := by decide +kernel
theorem dX11_hungriest_6 : decode cX11_hungriest 6 = .ok (.getfield 19, 3) := by decide +kernel
theorem dX11_hungriest_9 : decode cX11_hungriest 9 = .ok (.getfield 213, 3) := by decide +kernel
theorem dX11_hungriest_12 : decode cX11_hungriest 12 = .ok (.if_icmp .ge 48, 3) := by decide +kernel
theorem dX11_hungriest_15 : decode cX11_hungriest 15 = .ok (.aload_n 0, 1) := by decide +kernel
theorem dX11_hungriest_16 : decode cX11_hungriest 16 = .ok (.getfield 28, 3) := by decide +kernel
theorem dX11_hungriest_19 : decode cX11_hungriest 19 = .ok (.iload_n 2, 1) := by decide +kernel
theorem dX11_hungriest_20 : decode cX11_hungriest 20 = .ok (.invokevirtual 301, 3) := by decide +kernel
theorem dX11_hungriest_23 : decode cX11_hungriest 23 = .ok (.ifCond .eq 31, 3) := by decide +kernel
theorem dX11_hungriest_26 : decode cX11_hungriest 26 = .ok (.iload_n 1, 1) := by decide +kernel
theorem dX11_hungriest_27 : decode cX11_hungriest 27 = .ok (.iconst (-1), 1) := by decide +kernel
theorem dX11_hungriest_28 : decode cX11_hungriest 28 = .ok (.if_icmp .eq 24, 3) := by decide +kernel
theorem dX11_hungriest_31 : decode cX11_hungriest 31 = .ok (.aload_n 0, 1) := by decide +kernel
theorem dX11_hungriest_32 : decode cX11_hungriest 32 = .ok (.getfield 28, 3) := by decide +kernel
theorem dX11_hungriest_35 : decode cX11_hungriest 35 = .ok (.getfield 163, 3) := by decide +kernel
theorem dX11_hungriest_38 : decode cX11_hungriest 38 = .ok (.iload_n 2, 1) := by decide +kernel
theorem dX11_hungriest_39 : decode cX11_hungriest 39 = .ok (.iaload, 1) := by decide +kernel
theorem dX11_hungriest_40 : decode cX11_hungriest 40 = .ok (.aload_n 0, 1) := by decide +kernel
theorem dX11_hungriest_41 : decode cX11_hungriest 41 = .ok (.getfield 28, 3) := by decide +kernel
theorem dX11_hungriest_44 : decode cX11_hungriest 44 = .ok (.getfield 163, 3) := by decide +kernel
theorem dX11_hungriest_47 : decode cX11_hungriest 47 = .ok (.iload_n 1, 1) := by decide +kernel
theorem dX11_hungriest_48 : decode cX11_hungriest 48 = .ok (.iaload, 1) := by decide +kernel
theorem dX11_hungriest_49 : decode cX11_hungriest 49 = .ok (.if_icmp .le 5, 3) := by decide +kernel
theorem dX11_hungriest_52 : decode cX11_hungriest 52 = .ok (.iload_n 2, 1) := by decide +kernel
theorem dX11_hungriest_53 : decode cX11_hungriest 53 = .ok (.istore_n 1, 1) := by decide +kernel
theorem dX11_hungriest_54 : decode cX11_hungriest 54 = .ok (.iinc 2 1, 3) := by decide +kernel
theorem dX11_hungriest_57 : decode cX11_hungriest 57 = .ok (.goto (-53), 3) := by decide +kernel
theorem dX11_hungriest_60 : decode cX11_hungriest 60 = .ok (.iload_n 1, 1) := by decide +kernel
theorem dX11_hungriest_61 : decode cX11_hungriest 61 = .ok (.ireturn, 1) := by decide +kernel
theorem dX11_kin_0 : decode cX11_kin 0 = .ok (.aload_n 0, 1) := by decide +kernel
theorem dX11_kin_1 : decode cX11_kin 1 = .ok (.getfield 19, 3) := by decide +kernel
theorem dX11_kin_4 : decode cX11_kin 4 = .ok (.iload_n 1, 1) := by decide +kernel
theorem dX11_kin_5 : decode cX11_kin 5 = .ok (.invokevirtual 133, 3) := by decide +kernel
theorem dX11_kin_8 : decode cX11_kin 8 = .ok (.ifCond .eq 26, 3) := by decide +kernel
theorem dX11_kin_11 : decode cX11_kin 11 = .ok (.aload_n 0, 1) := by decide +kernel
theorem dX11_kin_12 : decode cX11_kin 12 = .ok (.getfield 19, 3) := by decide +kernel
theorem dX11_kin_15 : decode cX11_kin 15 = .ok (.iload_n 2, 1) := by decide +kernel
theorem dX11_kin_16 : decode cX11_kin 16 = .ok (.invokevirtual 133, 3) := by decide +kernel
theorem dX11_kin_19 : decode cX11_kin 19 = .ok (.ifCond .eq 15, 3) := by decide +kernel
theorem dX11_kin_22 : decode cX11_kin 22 = .ok (.aload_n 0, 1) := by decide +kernel
theorem dX11_kin_23 : decode cX11_kin 23 = .ok (.getfield 19, 3) := by decide +kernel
theorem dX11_kin_26 : decode cX11_kin 26 = .ok (.iload_n 1, 1) := by decide +kernel
theorem dX11_kin_27 : decode cX11_kin 27 = .ok (.iload_n 2, 1) := by decide +kernel
theorem dX11_kin_28 : decode cX11_kin 28 = .ok (.invokevirtual 298, 3) := by decide +kernel
theorem dX11_kin_31 : decode cX11_kin 31 = .ok (.goto 4, 3) := by decide +kernel
theorem dX11_kin_34 : decode cX11_kin 34 = .ok (.iconst (-1), 1) := by decide +kernel
theorem dX11_kin_35 : decode cX11_kin 35 = .ok (.ireturn, 1) := by decide +kernel
theorem dX11_last_0 : decode cX11_last 0 = .ok (.aload_n 0, 1) := by decide +kernel
theorem dX11_last_1 : decode cX11_last 1 = .ok (.getfield 19, 3) := by decide +kernel
theorem dX11_last_4 : decode cX11_last 4 = .ok (.iload_n 1, 1) := by decide +kernel
theorem dX11_last_5 : decode cX11_last 5 = .ok (.invokevirtual 175, 3) := by decide +kernel
theorem dX11_last_8 : decode cX11_last 8 = .ok (.ifCond .ne 5, 3) := by decide +kernel
theorem dX11_last_11 : decode cX11_last 11 = .ok (.iconst (-1), 1) := by decide +kernel
theorem dX11_last_12 : decode cX11_last 12 = .ok (.ireturn, 1) := by decide +kernel
theorem dX11_last_13 : decode cX11_last 13 = .ok (.aload_n 0, 1) := by decide +kernel
theorem dX11_last_14 : decode cX11_last 14 = .ok (.getfield 28, 3) := by decide +kernel
theorem dX11_last_17 : decode cX11_last 17 = .ok (.getfield 182, 3) := by decide +kernel
theorem dX11_last_20 : decode cX11_last 20 = .ok (.iload_n 1, 1) := by decide +kernel
theorem dX11_last_21 : decode cX11_last 21 = .ok (.iaload, 1) := by decide +kernel
theorem dX11_last_22 : decode cX11_last 22 = .ok (.ifCond .ne 7, 3) := by decide +kernel
theorem dX11_last_25 : decode cX11_last 25 = .ok (.iconst 0, 1) := by decide +kernel
theorem dX11_last_26 : decode cX11_last 26 = .ok (.goto 16, 3) := by decide +kernel
theorem dX11_last_29 : decode cX11_last 29 = .ok (.aload_n 0, 1) := by decide +kernel
theorem dX11_last_30 : decode cX11_last 30 = .ok (.getfield 28, 3) := by decide +kernel
theorem dX11_last_33 : decode cX11_last 33 = .ok (.getfield 182, 3) := by decide +kernel
theorem dX11_last_36 : decode cX11_last 36 = .ok (.iload_n 1, 1) := by decide +kernel
theorem dX11_last_37 : decode cX11_last 37 = .ok (.iaload, 1) := by decide +kernel
theorem dX11_last_38 : decode cX11_last 38 = .ok (.iconst 3, 1) := by decide +kernel
theorem dX11_last_39 : decode cX11_last 39 = .ok (.iadd, 1) := by decide +kernel
theorem dX11_last_40 : decode cX11_last 40 = .ok (.iconst 4, 1) := by decide +kernel
theorem dX11_last_41 : decode cX11_last 41 = .ok (.irem, 1) := by decide +kernel
theorem dX11_last_42 : decode cX11_last 42 = .ok (.ireturn, 1) := by decide +kernel
theorem dX11_left_0 : decode cX11_left 0 = .ok (.aload_n 0, 1) := by decide +kernel
theorem dX11_left_1 : decode cX11_left 1 = .ok (.getfield 19, 3) := by decide +kernel
theorem dX11_left_4 : decode cX11_left 4 = .ok (.iload_n 1, 1) := by decide +kernel
theorem dX11_left_5 : decode cX11_left 5 = .ok (.invokevirtual 133, 3) := by decide +kernel
theorem dX11_left_8 : decode cX11_left 8 = .ok (.ifCond .eq 30, 3) := by decide +kernel
theorem dX11_left_11 : decode cX11_left 11 = .ok (.aload_n 0, 1) := by decide +kernel
theorem dX11_left_12 : decode cX11_left 12 = .ok (.getfield 10, 3) := by decide +kernel
theorem dX11_left_15 : decode cX11_left 15 = .ok (.getfield 102, 3) := by decide +kernel
theorem dX11_left_18 : decode cX11_left 18 = .ok (.iconst 1, 1) := by decide +kernel
theorem dX11_left_19 : decode cX11_left 19 = .ok (.if_icmp .lt 19, 3) := by decide +kernel
theorem dX11_left_22 : decode cX11_left 22 = .ok (.aload_n 0, 1) := by decide +kernel
theorem dX11_left_23 : decode cX11_left 23 = .ok (.getfield 10, 3) := by decide +kernel
theorem dX11_left_26 : decode cX11_left 26 = .ok (.getfield 102, 3) := by decide +kernel
theorem dX11_left_29 : decode cX11_left 29 = .ok (.bipush 7, 2) := by decide +kernel
theorem dX11_left_31 : decode cX11_left 31 = .ok (.if_icmp .gt 7, 3) := by decide +kernel
theorem dX11_left_34 : decode cX11_left 34 = .ok (.iconst 1, 1) := by decide +kernel
theorem dX11_left_35 : decode cX11_left 35 = .ok (.goto 4, 3) := by decide +kernel
theorem dX11_left_38 : decode cX11_left 38 = .ok (.iconst 0, 1) := by decide +kernel
theorem dX11_left_39 : decode cX11_left 39 = .ok (.istore_n 2, 1) := by decide +kernel
theorem dX11_left_40 : decode cX11_left 40 = .ok (.aload_n 0, 1) := by decide +kernel
theorem dX11_left_41 : decode cX11_left 41 = .ok (.getfield 32, 3) := by decide +kernel
theorem dX11_left_44 : decode cX11_left 44 = .ok (.aload_n 0, 1) := by decide +kernel
theorem dX11_left_45 : decode cX11_left 45 = .ok (.getfield 28, 3) := by decide +kernel
theorem dX11_left_48 : decode cX11_left 48 = .ok (.invokevirtual 126, 3) := by decide +kernel
theorem dX11_left_51 : decode cX11_left 51 = .ok (.iconst 0, 1) := by decide +kernel
theorem dX11_left_52 : decode cX11_left 52 = .ok (.istore_n 3, 1) := by decide +kernel
theorem dX11_left_53 : decode cX11_left 53 = .ok (.iload_n 3, 1) := by decide +kernel
theorem dX11_left_54 : decode cX11_left 54 = .ok (.aload_n 0, 1) := by decide +kernel
theorem dX11_left_55 : decode cX11_left 55 = .ok (.getfield 10, 3) := by decide +kernel
theorem dX11_left_58 : decode cX11_left 58 = .ok (.getfield 102, 3) := by decide +kernel
theorem dX11_left_61 : decode cX11_left 61 = .ok (.if_icmp .ge 47, 3) := by decide +kernel
theorem dX11_left_64 : decode cX11_left 64 = .ok (.iload_n 2, 1) := by decide +kernel
theorem dX11_left_65 : decode cX11_left 65 = .ok (.ifCond .eq 43, 3) := by decide +kernel
theorem dX11_left_68 : decode cX11_left 68 = .ok (.aload_n 0, 1) := by decide +kernel
theorem dX11_left_69 : decode cX11_left 69 = .ok (.getfield 10, 3) := by decide +kernel
theorem dX11_left_72 : decode cX11_left 72 = .ok (.iload_n 3, 1) := by decide +kernel
theorem dX11_left_73 : decode cX11_left 73 = .ok (.invokevirtual 275, 3) := by decide +kernel
theorem dX11_left_76 : decode cX11_left 76 = .ok (.istore 4, 2) := by decide +kernel
theorem dX11_left_78 : decode cX11_left 78 = .ok (.aload_n 0, 1) := by decide +kernel
theorem dX11_left_79 : decode cX11_left 79 = .ok (.getfield 19, 3) := by decide +kernel
theorem dX11_left_82 : decode cX11_left 82 = .ok (.iload 4, 2) := by decide +kernel
theorem dX11_left_84 : decode cX11_left 84 = .ok (.invokevirtual 133, 3) := by decide +kernel
theorem dX11_left_87 : decode cX11_left 87 = .ok (.istore_n 2, 1) := by decide +kernel
theorem dX11_left_88 : decode cX11_left 88 = .ok (.iload_n 2, 1) := by decide +kernel
theorem dX11_left_89 : decode cX11_left 89 = .ok (.ifCond .eq 13, 3) := by decide +kernel
theorem dX11_left_92 : decode cX11_left 92 = .ok (.aload_n 0, 1) := by decide +kernel
theorem dX11_left_93 : decode cX11_left 93 = .ok (.getfield 32, 3) := by decide +kernel
theorem dX11_left_96 : decode cX11_left 96 = .ok (.iload 4, 2) := by decide +kernel
theorem dX11_left_98 : decode cX11_left 98 = .ok (.invokevirtual 247, 3) := by decide +kernel
theorem dX11_left_101 : decode cX11_left 101 = .ok (.pop, 1) := by decide +kernel
theorem dX11_left_102 : decode cX11_left 102 = .ok (.iinc 3 1, 3) := by decide +kernel
theorem dX11_left_105 : decode cX11_left 105 = .ok (.goto (-52), 3) := by decide +kernel
theorem dX11_left_108 : decode cX11_left 108 = .ok (.aload_n 0, 1) := by decide +kernel
theorem dX11_left_109 : decode cX11_left 109 = .ok (.getfield 10, 3) := by decide +kernel
theorem dX11_left_112 : decode cX11_left 112 = .ok (.iconst 0, 1) := by decide +kernel
theorem dX11_left_113 : decode cX11_left 113 = .ok (.putfield 102, 3) := by decide +kernel
theorem dX11_left_116 : decode cX11_left 116 = .ok (.iload_n 2, 1) := by decide +kernel
theorem dX11_left_117 : decode cX11_left 117 = .ok (.ifCond .eq 15, 3) := by decide +kernel
theorem dX11_left_120 : decode cX11_left 120 = .ok (.aload_n 0, 1) := by decide +kernel
theorem dX11_left_121 : decode cX11_left 121 = .ok (.getfield 32, 3) := by decide +kernel
theorem dX11_left_124 : decode cX11_left 124 = .ok (.getfield 166, 3) := by decide +kernel
theorem dX11_left_127 : decode cX11_left 127 = .ok (.iload_n 1, 1) := by decide +kernel
theorem dX11_left_128 : decode cX11_left 128 = .ok (.iaload, 1) := by decide +kernel
theorem dX11_left_129 : decode cX11_left 129 = .ok (.goto 4, 3) := by decide +kernel
theorem dX11_left_132 : decode cX11_left 132 = .ok (.iconst (-1), 1) := by decide +kernel
theorem dX11_left_133 : decode cX11_left 133 = .ok (.ireturn, 1) := by decide +kernel
theorem dX11_seatAt_0 : decode cX11_seatAt 0 = .ok (.iload_n 1, 1) := by decide +kernel
theorem dX11_seatAt_1 : decode cX11_seatAt 1 = .ok (.ifCond .lt 26, 3) := by decide +kernel
theorem dX11_seatAt_4 : decode cX11_seatAt 4 = .ok (.iload_n 1, 1) := by decide +kernel
theorem dX11_seatAt_5 : decode cX11_seatAt 5 = .ok (.aload_n 0, 1) := by decide +kernel
theorem dX11_seatAt_6 : decode cX11_seatAt 6 = .ok (.getfield 76, 3) := by decide +kernel
theorem dX11_seatAt_9 : decode cX11_seatAt 9 = .ok (.getfield 294, 3) := by decide +kernel
theorem dX11_seatAt_12 : decode cX11_seatAt 12 = .ok (.if_icmp .ge 15, 3) := by decide +kernel
theorem dX11_seatAt_15 : decode cX11_seatAt 15 = .ok (.aload_n 0, 1) := by decide +kernel
theorem dX11_seatAt_16 : decode cX11_seatAt 16 = .ok (.getfield 76, 3) := by decide +kernel
theorem dX11_seatAt_19 : decode cX11_seatAt 19 = .ok (.getfield 295, 3) := by decide +kernel
theorem dX11_seatAt_22 : decode cX11_seatAt 22 = .ok (.iload_n 1, 1) := by decide +kernel
theorem dX11_seatAt_23 : decode cX11_seatAt 23 = .ok (.iaload, 1) := by decide +kernel
theorem dX11_seatAt_24 : decode cX11_seatAt 24 = .ok (.goto 4, 3) := by decide +kernel
theorem dX11_seatAt_27 : decode cX11_seatAt 27 = .ok (.iconst (-1), 1) := by decide +kernel
theorem dX11_seatAt_28 : decode cX11_seatAt 28 = .ok (.ireturn, 1) := by decide +kernel
theorem dX11_seats_0 : decode cX11_seats 0 = .ok (.aload_n 0, 1) := by decide +kernel
theorem dX11_seats_1 : decode cX11_seats 1 = .ok (.getfield 76, 3) := by decide +kernel
theorem dX11_seats_4 : decode cX11_seats 4 = .ok (.aload_n 0, 1) := by decide +kernel
theorem dX11_seats_5 : decode cX11_seats 5 = .ok (.getfield 28, 3) := by decide +kernel
theorem dX11_seats_8 : decode cX11_seats 8 = .ok (.invokevirtual 291, 3) := by decide +kernel
theorem dX11_seats_11 : decode cX11_seats 11 = .ok (.ireturn, 1) := by decide +kernel
theorem dX11_share_0 : decode cX11_share 0 = .ok (.aload_n 0, 1) := by decide +kernel
theorem dX11_share_1 : decode cX11_share 1 = .ok (.getfield 19, 3) := by decide +kernel
theorem dX11_share_4 : decode cX11_share 4 = .ok (.iload_n 1, 1) := by decide +kernel
theorem dX11_share_5 : decode cX11_share 5 = .ok (.invokevirtual 175, 3) := by decide +kernel
theorem dX11_share_8 : decode cX11_share 8 = .ok (.ifCond .eq 32, 3) := by decide +kernel
theorem dX11_share_11 : decode cX11_share 11 = .ok (.aload_n 0, 1) := by decide +kernel
theorem dX11_share_12 : decode cX11_share 12 = .ok (.getfield 19, 3) := by decide +kernel
theorem dX11_share_15 : decode cX11_share 15 = .ok (.iload_n 3, 1) := by decide +kernel
theorem dX11_share_16 : decode cX11_share 16 = .ok (.invokevirtual 133, 3) := by decide +kernel
theorem dX11_share_19 : decode cX11_share 19 = .ok (.ifCond .eq 21, 3) := by decide +kernel
theorem dX11_share_22 : decode cX11_share 22 = .ok (.iload_n 2, 1) := by decide +kernel
theorem dX11_share_23 : decode cX11_share 23 = .ok (.aload_n 0, 1) := by decide +kernel
theorem dX11_share_24 : decode cX11_share 24 = .ok (.getfield 19, 3) := by decide +kernel
theorem dX11_share_27 : decode cX11_share 27 = .ok (.invokevirtual 188, 3) := by decide +kernel
theorem dX11_share_30 : decode cX11_share 30 = .ok (.iconst (-1), 1) := by decide +kernel
theorem dX11_share_31 : decode cX11_share 31 = .ok (.ixor, 1) := by decide +kernel
theorem dX11_share_32 : decode cX11_share 32 = .ok (.iand, 1) := by decide +kernel
theorem dX11_share_33 : decode cX11_share 33 = .ok (.ifCond .ne 7, 3) := by decide +kernel
theorem dX11_share_36 : decode cX11_share 36 = .ok (.iconst 1, 1) := by decide +kernel
theorem dX11_share_37 : decode cX11_share 37 = .ok (.goto 4, 3) := by decide +kernel
theorem dX11_share_40 : decode cX11_share 40 = .ok (.iconst 0, 1) := by decide +kernel
theorem dX11_share_41 : decode cX11_share 41 = .ok (.istore 4, 2) := by decide +kernel
theorem dX11_share_43 : decode cX11_share 43 = .ok (.iload 4, 2) := by decide +kernel
theorem dX11_share_45 : decode cX11_share 45 = .ok (.ifCond .eq 11, 3) := by decide +kernel
theorem dX11_share_48 : decode cX11_share 48 = .ok (.iload_n 2, 1) := by decide +kernel
theorem dX11_share_49 : decode cX11_share 49 = .ok (.iload_n 3, 1) := by decide +kernel
theorem dX11_share_50 : decode cX11_share 50 = .ok (.ishr, 1) := by decide +kernel
theorem dX11_share_51 : decode cX11_share 51 = .ok (.iconst 1, 1) := by decide +kernel
theorem dX11_share_52 : decode cX11_share 52 = .ok (.iand, 1) := by decide +kernel
theorem dX11_share_53 : decode cX11_share 53 = .ok (.ifCond .ne 5, 3) := by decide +kernel
theorem dX11_share_56 : decode cX11_share 56 = .ok (.iconst (-1), 1) := by decide +kernel
theorem dX11_share_57 : decode cX11_share 57 = .ok (.ireturn, 1) := by decide +kernel
theorem dX11_share_58 : decode cX11_share 58 = .ok (.aload_n 0, 1) := by decide +kernel
theorem dX11_share_59 : decode cX11_share 59 = .ok (.getfield 19, 3) := by decide +kernel
theorem dX11_share_62 : decode cX11_share 62 = .ok (.aload_n 0, 1) := by decide +kernel
theorem dX11_share_63 : decode cX11_share 63 = .ok (.getfield 28, 3) := by decide +kernel
theorem dX11_share_66 : decode cX11_share 66 = .ok (.getfield 182, 3) := by decide +kernel
theorem dX11_share_69 : decode cX11_share 69 = .ok (.iload_n 1, 1) := by decide +kernel
theorem dX11_share_70 : decode cX11_share 70 = .ok (.iaload, 1) := by decide +kernel
theorem dX11_share_71 : decode cX11_share 71 = .ok (.iload_n 2, 1) := by decide +kernel
theorem dX11_share_72 : decode cX11_share 72 = .ok (.iload_n 3, 1) := by decide +kernel
theorem dX11_share_73 : decode cX11_share 73 = .ok (.invokevirtual 288, 3) := by decide +kernel
theorem dX11_share_76 : decode cX11_share 76 = .ok (.ireturn, 1) := by decide +kernel
theorem dX6_isChild_0 : decode cX6_isChild 0 = .ok (.iload_n 2, 1) := by decide +kernel
theorem dX6_isChild_1 : decode cX6_isChild 1 = .ok (.iconst (-1), 1) := by decide +kernel
theorem dX6_isChild_2 : decode cX6_isChild 2 = .ok (.if_icmp .eq 17, 3) := by decide +kernel
theorem dX6_isChild_5 : decode cX6_isChild 5 = .ok (.aload_n 0, 1) := by decide +kernel
theorem dX6_isChild_6 : decode cX6_isChild 6 = .ok (.getfield 45, 3) := by decide +kernel
theorem dX6_isChild_9 : decode cX6_isChild 9 = .ok (.iload_n 1, 1) := by decide +kernel
theorem dX6_isChild_10 : decode cX6_isChild 10 = .ok (.iaload, 1) := by decide +kernel
theorem dX6_isChild_11 : decode cX6_isChild 11 = .ok (.iload_n 2, 1) := by decide +kernel
theorem dX6_isChild_12 : decode cX6_isChild 12 = .ok (.if_icmp .ne 7, 3) := by decide +kernel
theorem dX6_isChild_15 : decode cX6_isChild 15 = .ok (.iconst 1, 1) := by decide +kernel
theorem dX6_isChild_16 : decode cX6_isChild 16 = .ok (.goto 4, 3) := by decide +kernel
theorem dX6_isChild_19 : decode cX6_isChild 19 = .ok (.iconst 0, 1) := by decide +kernel
theorem dX6_isChild_20 : decode cX6_isChild 20 = .ok (.ireturn, 1) := by decide +kernel
theorem dX6_leastFor_0 : decode cX6_leastFor 0 = .ok (.iconst 0, 1) := by decide +kernel
theorem dX6_leastFor_1 : decode cX6_leastFor 1 = .ok (.istore 4, 2) := by decide +kernel
theorem dX6_leastFor_3 : decode cX6_leastFor 3 = .ok (.iload 4, 2) := by decide +kernel
theorem dX6_leastFor_5 : decode cX6_leastFor 5 = .ok (.aload_n 0, 1) := by decide +kernel
theorem dX6_leastFor_6 : decode cX6_leastFor 6 = .ok (.getfield 33, 3) := by decide +kernel
theorem dX6_leastFor_9 : decode cX6_leastFor 9 = .ok (.if_icmp .ge 47, 3) := by decide +kernel
theorem dX6_leastFor_12 : decode cX6_leastFor 12 = .ok (.iload_n 1, 1) := by decide +kernel
theorem dX6_leastFor_13 : decode cX6_leastFor 13 = .ok (.iconst 1, 1) := by decide +kernel
theorem dX6_leastFor_14 : decode cX6_leastFor 14 = .ok (.iload 4, 2) := by decide +kernel
theorem dX6_leastFor_16 : decode cX6_leastFor 16 = .ok (.ishl, 1) := by decide +kernel
theorem dX6_leastFor_17 : decode cX6_leastFor 17 = .ok (.iconst (-1), 1) := by decide +kernel
theorem dX6_leastFor_18 : decode cX6_leastFor 18 = .ok (.ixor, 1) := by decide +kernel
theorem dX6_leastFor_19 : decode cX6_leastFor 19 = .ok (.iand, 1) := by decide +kernel
theorem dX6_leastFor_20 : decode cX6_leastFor 20 = .ok (.istore 5, 2) := by decide +kernel
theorem dX6_leastFor_22 : decode cX6_leastFor 22 = .ok (.iload 5, 2) := by decide +kernel
theorem dX6_leastFor_24 : decode cX6_leastFor 24 = .ok (.iload_n 1, 1) := by decide +kernel
theorem dX6_leastFor_25 : decode cX6_leastFor 25 = .ok (.if_icmp .eq 25, 3) := by decide +kernel
theorem dX6_leastFor_28 : decode cX6_leastFor 28 = .ok (.aload_n 0, 1) := by decide +kernel
theorem dX6_leastFor_29 : decode cX6_leastFor 29 = .ok (.iload 4, 2) := by decide +kernel
theorem dX6_leastFor_31 : decode cX6_leastFor 31 = .ok (.iload_n 2, 1) := by decide +kernel
theorem dX6_leastFor_32 : decode cX6_leastFor 32 = .ok (.invokestatic 42, 3) := by decide +kernel
theorem dX6_leastFor_35 : decode cX6_leastFor 35 = .ok (.aload_n 0, 1) := by decide +kernel
theorem dX6_leastFor_36 : decode cX6_leastFor 36 = .ok (.iload_n 1, 1) := by decide +kernel
theorem dX6_leastFor_37 : decode cX6_leastFor 37 = .ok (.iload 5, 2) := by decide +kernel
theorem dX6_leastFor_39 : decode cX6_leastFor 39 = .ok (.invokestatic 29, 3) := by decide +kernel
theorem dX6_leastFor_42 : decode cX6_leastFor 42 = .ok (.iadd, 1) := by decide +kernel
theorem dX6_leastFor_43 : decode cX6_leastFor 43 = .ok (.iload_n 3, 1) := by decide +kernel
theorem dX6_leastFor_44 : decode cX6_leastFor 44 = .ok (.if_icmp .ne 6, 3) := by decide +kernel
theorem dX6_leastFor_47 : decode cX6_leastFor 47 = .ok (.iload 4, 2) := by decide +kernel
theorem dX6_leastFor_49 : decode cX6_leastFor 49 = .ok (.ireturn, 1) := by decide +kernel
theorem dX6_leastFor_50 : decode cX6_leastFor 50 = .ok (.iinc 4 1, 3) := by decide +kernel
theorem dX6_leastFor_53 : decode cX6_leastFor 53 = .ok (.goto (-50), 3) := by decide +kernel
theorem dX6_leastFor_56 : decode cX6_leastFor 56 = .ok (.iconst (-1), 1) := by decide +kernel
theorem dX6_leastFor_57 : decode cX6_leastFor 57 = .ok (.ireturn, 1) := by decide +kernel
theorem dX6_parentsAmong_0 : decode cX6_parentsAmong 0 = .ok (.iconst 0, 1) := by decide +kernel
theorem dX6_parentsAmong_1 : decode cX6_parentsAmong 1 = .ok (.istore_n 3, 1) := by decide +kernel
theorem dX6_parentsAmong_2 : decode cX6_parentsAmong 2 = .ok (.iconst 0, 1) := by decide +kernel
theorem dX6_parentsAmong_3 : decode cX6_parentsAmong 3 = .ok (.istore 4, 2) := by decide +kernel
theorem dX6_parentsAmong_5 : decode cX6_parentsAmong 5 = .ok (.iload 4, 2) := by decide +kernel
theorem dX6_parentsAmong_7 : decode cX6_parentsAmong 7 = .ok (.aload_n 0, 1) := by decide +kernel
theorem dX6_parentsAmong_8 : decode cX6_parentsAmong 8 = .ok (.getfield 33, 3) := by decide +kernel
theorem dX6_parentsAmong_11 : decode cX6_parentsAmong 11 = .ok (.if_icmp .ge 32, 3) := by decide +kernel
theorem dX6_parentsAmong_14 : decode cX6_parentsAmong 14 = .ok (.iload_n 1, 1) := by decide +kernel
theorem dX6_parentsAmong_15 : decode cX6_parentsAmong 15 = .ok (.iload 4, 2) := by decide +kernel
theorem dX6_parentsAmong_17 : decode cX6_parentsAmong 17 = .ok (.ishr, 1) := by decide +kernel
theorem dX6_parentsAmong_18 : decode cX6_parentsAmong 18 = .ok (.iconst 1, 1) := by decide +kernel
theorem dX6_parentsAmong_19 : decode cX6_parentsAmong 19 = .ok (.iand, 1) := by decide +kernel
theorem dX6_parentsAmong_20 : decode cX6_parentsAmong 20 = .ok (.ifCond .eq 17, 3) := by decide +kernel
theorem dX6_parentsAmong_23 : decode cX6_parentsAmong 23 = .ok (.aload_n 0, 1) := by decide +kernel
theorem dX6_parentsAmong_24 : decode cX6_parentsAmong 24 = .ok (.iload 4, 2) := by decide +kernel
theorem dX6_parentsAmong_26 : decode cX6_parentsAmong 26 = .ok (.invokevirtual 48, 3) := by decide +kernel
theorem dX6_parentsAmong_29 : decode cX6_parentsAmong 29 = .ok (.iload_n 2, 1) := by decide +kernel
theorem dX6_parentsAmong_30 : decode cX6_parentsAmong 30 = .ok (.iand, 1) := by decide +kernel
theorem dX6_parentsAmong_31 : decode cX6_parentsAmong 31 = .ok (.ifCond .eq 6, 3) := by decide +kernel
theorem dX6_parentsAmong_34 : decode cX6_parentsAmong 34 = .ok (.iinc 3 1, 3) := by decide +kernel
theorem dX6_parentsAmong_37 : decode cX6_parentsAmong 37 = .ok (.iinc 4 1, 3) := by decide +kernel
theorem dX6_parentsAmong_40 : decode cX6_parentsAmong 40 = .ok (.goto (-35), 3) := by decide +kernel
theorem dX6_parentsAmong_43 : decode cX6_parentsAmong 43 = .ok (.iload_n 3, 1) := by decide +kernel
theorem dX6_parentsAmong_44 : decode cX6_parentsAmong 44 = .ok (.ireturn, 1) := by decide +kernel
theorem dX6_seat_0 : decode cX6_seat 0 = .ok (.aload_n 1, 1) := by decide +kernel
theorem dX6_seat_1 : decode cX6_seat 1 = .ok (.getfield 19, 3) := by decide +kernel
theorem dX6_seat_4 : decode cX6_seat 4 = .ok (.astore_n 2, 1) := by decide +kernel
theorem dX6_seat_5 : decode cX6_seat 5 = .ok (.aload_n 1, 1) := by decide +kernel
theorem dX6_seat_6 : decode cX6_seat 6 = .ok (.invokevirtual 25, 3) := by decide +kernel
theorem dX6_seat_9 : decode cX6_seat 9 = .ok (.istore_n 3, 1) := by decide +kernel
theorem dX6_seat_10 : decode cX6_seat 10 = .ok (.aload_n 2, 1) := by decide +kernel
theorem dX6_seat_11 : decode cX6_seat 11 = .ok (.iload_n 3, 1) := by decide +kernel
theorem dX6_seat_12 : decode cX6_seat 12 = .ok (.iload_n 3, 1) := by decide +kernel
theorem dX6_seat_13 : decode cX6_seat 13 = .ok (.invokestatic 29, 3) := by decide +kernel
theorem dX6_seat_16 : decode cX6_seat 16 = .ok (.istore 4, 2) := by decide +kernel
theorem dX6_seat_18 : decode cX6_seat 18 = .ok (.iconst 0, 1) := by decide +kernel
theorem dX6_seat_19 : decode cX6_seat 19 = .ok (.istore 5, 2) := by decide +kernel
theorem dX6_seat_21 : decode cX6_seat 21 = .ok (.iconst (-1), 1) := by decide +kernel
theorem dX6_seat_22 : decode cX6_seat 22 = .ok (.istore 6, 2) := by decide +kernel
theorem dX6_seat_24 : decode cX6_seat 24 = .ok (.aload_n 0, 1) := by decide +kernel
theorem dX6_seat_25 : decode cX6_seat 25 = .ok (.iconst 0, 1) := by decide +kernel
theorem dX6_seat_26 : decode cX6_seat 26 = .ok (.putfield 15, 3) := by decide +kernel
theorem dX6_seat_29 : decode cX6_seat 29 = .ok (.iconst 0, 1) := by decide +kernel
theorem dX6_seat_30 : decode cX6_seat 30 = .ok (.istore 7, 2) := by decide +kernel
theorem dX6_seat_32 : decode cX6_seat 32 = .ok (.iload 7, 2) := by decide +kernel
theorem dX6_seat_34 : decode cX6_seat 34 = .ok (.aload_n 2, 1) := by decide +kernel
theorem dX6_seat_35 : decode cX6_seat 35 = .ok (.getfield 33, 3) := by decide +kernel
theorem dX6_seat_38 : decode cX6_seat 38 = .ok (.if_icmp .ge 92, 3) := by decide +kernel
theorem dX6_seat_41 : decode cX6_seat 41 = .ok (.iload_n 3, 1) := by decide +kernel
theorem dX6_seat_42 : decode cX6_seat 42 = .ok (.ifCond .eq 88, 3) := by decide +kernel
theorem dX6_seat_45 : decode cX6_seat 45 = .ok (.aload_n 2, 1) := by decide +kernel
theorem dX6_seat_46 : decode cX6_seat 46 = .ok (.iload_n 3, 1) := by decide +kernel
theorem dX6_seat_47 : decode cX6_seat 47 = .ok (.iload 6, 2) := by decide +kernel
theorem dX6_seat_49 : decode cX6_seat 49 = .ok (.iload 4, 2) := by decide +kernel
theorem dX6_seat_51 : decode cX6_seat 51 = .ok (.iload 5, 2) := by decide +kernel
theorem dX6_seat_53 : decode cX6_seat 53 = .ok (.isub, 1) := by decide +kernel
theorem dX6_seat_54 : decode cX6_seat 54 = .ok (.invokestatic 38, 3) := by decide +kernel
theorem dX6_seat_57 : decode cX6_seat 57 = .ok (.istore 8, 2) := by decide +kernel
theorem dX6_seat_59 : decode cX6_seat 59 = .ok (.iload 8, 2) := by decide +kernel
theorem dX6_seat_61 : decode cX6_seat 61 = .ok (.iconst (-1), 1) := by decide +kernel
theorem dX6_seat_62 : decode cX6_seat 62 = .ok (.if_icmp .eq 12, 3) := by decide +kernel
theorem dX6_seat_65 : decode cX6_seat 65 = .ok (.aload_n 0, 1) := by decide +kernel
theorem dX6_seat_66 : decode cX6_seat 66 = .ok (.getfield 15, 3) := by decide +kernel
theorem dX6_seat_69 : decode cX6_seat 69 = .ok (.bipush 7, 2) := by decide +kernel
theorem dX6_seat_71 : decode cX6_seat 71 = .ok (.if_icmp .lt 6, 3) := by decide +kernel
theorem dX6_seat_74 : decode cX6_seat 74 = .ok (.iload 5, 2) := by decide +kernel
theorem dX6_seat_76 : decode cX6_seat 76 = .ok (.ireturn, 1) := by decide +kernel
theorem dX6_seat_77 : decode cX6_seat 77 = .ok (.iload 5, 2) := by decide +kernel
theorem dX6_seat_79 : decode cX6_seat 79 = .ok (.aload_n 2, 1) := by decide +kernel
theorem dX6_seat_80 : decode cX6_seat 80 = .ok (.iload 8, 2) := by decide +kernel
theorem dX6_seat_82 : decode cX6_seat 82 = .ok (.iload 6, 2) := by decide +kernel
theorem dX6_seat_84 : decode cX6_seat 84 = .ok (.invokestatic 42, 3) := by decide +kernel
theorem dX6_seat_87 : decode cX6_seat 87 = .ok (.iadd, 1) := by decide +kernel
theorem dX6_seat_88 : decode cX6_seat 88 = .ok (.istore 5, 2) := by decide +kernel
theorem dX6_seat_90 : decode cX6_seat 90 = .ok (.aload_n 0, 1) := by decide +kernel
theorem dX6_seat_91 : decode cX6_seat 91 = .ok (.getfield 9, 3) := by decide +kernel
theorem dX6_seat_94 : decode cX6_seat 94 = .ok (.aload_n 0, 1) := by decide +kernel
theorem dX6_seat_95 : decode cX6_seat 95 = .ok (.getfield 15, 3) := by decide +kernel
theorem dX6_seat_98 : decode cX6_seat 98 = .ok (.iload 8, 2) := by decide +kernel
theorem dX6_seat_100 : decode cX6_seat 100 = .ok (.iastore, 1) := by decide +kernel
theorem dX6_seat_101 : decode cX6_seat 101 = .ok (.aload_n 0, 1) := by decide +kernel
theorem dX6_seat_102 : decode cX6_seat 102 = .ok (.dup, 1) := by decide +kernel
theorem dX6_seat_103 : decode cX6_seat 103 = .ok (.getfield 15, 3) := by decide +kernel
theorem dX6_seat_106 : decode cX6_seat 106 = .ok (.iconst 1, 1) := by decide +kernel
theorem dX6_seat_107 : decode cX6_seat 107 = .ok (.iadd, 1) := by decide +kernel
theorem dX6_seat_108 : decode cX6_seat 108 = .ok (.putfield 15, 3) := by decide +kernel
theorem dX6_seat_111 : decode cX6_seat 111 = .ok (.iload_n 3, 1) := by decide +kernel
theorem dX6_seat_112 : decode cX6_seat 112 = .ok (.iconst 1, 1) := by decide +kernel
theorem dX6_seat_113 : decode cX6_seat 113 = .ok (.iload 8, 2) := by decide +kernel
theorem dX6_seat_115 : decode cX6_seat 115 = .ok (.ishl, 1) := by decide +kernel
theorem dX6_seat_116 : decode cX6_seat 116 = .ok (.iconst (-1), 1) := by decide +kernel
theorem dX6_seat_117 : decode cX6_seat 117 = .ok (.ixor, 1) := by decide +kernel
theorem dX6_seat_118 : decode cX6_seat 118 = .ok (.iand, 1) := by decide +kernel
theorem dX6_seat_119 : decode cX6_seat 119 = .ok (.istore_n 3, 1) := by decide +kernel
theorem dX6_seat_120 : decode cX6_seat 120 = .ok (.iload 8, 2) := by decide +kernel
theorem dX6_seat_122 : decode cX6_seat 122 = .ok (.istore 6, 2) := by decide +kernel
theorem dX6_seat_124 : decode cX6_seat 124 = .ok (.iinc 7 1, 3) := by decide +kernel
theorem dX6_seat_127 : decode cX6_seat 127 = .ok (.goto (-95), 3) := by decide +kernel
theorem dX6_seat_130 : decode cX6_seat 130 = .ok (.iload 5, 2) := by decide +kernel
theorem dX6_seat_132 : decode cX6_seat 132 = .ok (.ireturn, 1) := by decide +kernel
theorem dX8_shareOf_0 : decode cX8_shareOf 0 = .ok (.iconst 0, 1) := by decide +kernel
theorem dX8_shareOf_1 : decode cX8_shareOf 1 = .ok (.istore 4, 2) := by decide +kernel
theorem dX8_shareOf_3 : decode cX8_shareOf 3 = .ok (.iconst 0, 1) := by decide +kernel
theorem dX8_shareOf_4 : decode cX8_shareOf 4 = .ok (.istore 5, 2) := by decide +kernel
theorem dX8_shareOf_6 : decode cX8_shareOf 6 = .ok (.iload 5, 2) := by decide +kernel
theorem dX8_shareOf_8 : decode cX8_shareOf 8 = .ok (.aload_n 0, 1) := by decide +kernel
theorem dX8_shareOf_9 : decode cX8_shareOf 9 = .ok (.getfield 28, 3) := by decide +kernel
theorem dX8_shareOf_12 : decode cX8_shareOf 12 = .ok (.if_icmp .ge 28, 3) := by decide +kernel
theorem dX8_shareOf_15 : decode cX8_shareOf 15 = .ok (.iload 4, 2) := by decide +kernel
theorem dX8_shareOf_17 : decode cX8_shareOf 17 = .ok (.iload_n 2, 1) := by decide +kernel
theorem dX8_shareOf_18 : decode cX8_shareOf 18 = .ok (.iload 5, 2) := by decide +kernel
theorem dX8_shareOf_20 : decode cX8_shareOf 20 = .ok (.ishr, 1) := by decide +kernel
theorem dX8_shareOf_21 : decode cX8_shareOf 21 = .ok (.iconst 1, 1) := by decide +kernel
theorem dX8_shareOf_22 : decode cX8_shareOf 22 = .ok (.iand, 1) := by decide +kernel
theorem dX8_shareOf_23 : decode cX8_shareOf 23 = .ok (.aload_n 0, 1) := by decide +kernel
theorem dX8_shareOf_24 : decode cX8_shareOf 24 = .ok (.getfield 15, 3) := by decide +kernel
theorem dX8_shareOf_27 : decode cX8_shareOf 27 = .ok (.iload 5, 2) := by decide +kernel
theorem dX8_shareOf_29 : decode cX8_shareOf 29 = .ok (.iaload, 1) := by decide +kernel
theorem dX8_shareOf_30 : decode cX8_shareOf 30 = .ok (.imul, 1) := by decide +kernel
theorem dX8_shareOf_31 : decode cX8_shareOf 31 = .ok (.iadd, 1) := by decide +kernel
theorem dX8_shareOf_32 : decode cX8_shareOf 32 = .ok (.istore 4, 2) := by decide +kernel
theorem dX8_shareOf_34 : decode cX8_shareOf 34 = .ok (.iinc 5 1, 3) := by decide +kernel
theorem dX8_shareOf_37 : decode cX8_shareOf 37 = .ok (.goto (-31), 3) := by decide +kernel
theorem dX8_shareOf_40 : decode cX8_shareOf 40 = .ok (.iload 4, 2) := by decide +kernel
theorem dX8_shareOf_42 : decode cX8_shareOf 42 = .ok (.ifCond .gt 5, 3) := by decide +kernel
theorem dX8_shareOf_45 : decode cX8_shareOf 45 = .ok (.iconst 0, 1) := by decide +kernel
theorem dX8_shareOf_46 : decode cX8_shareOf 46 = .ok (.ireturn, 1) := by decide +kernel
theorem dX8_shareOf_47 : decode cX8_shareOf 47 = .ok (.iload_n 1, 1) := by decide +kernel
theorem dX8_shareOf_48 : decode cX8_shareOf 48 = .ok (.istore 5, 2) := by decide +kernel
theorem dX8_shareOf_50 : decode cX8_shareOf 50 = .ok (.iconst 0, 1) := by decide +kernel
theorem dX8_shareOf_51 : decode cX8_shareOf 51 = .ok (.istore 6, 2) := by decide +kernel
theorem dX8_shareOf_53 : decode cX8_shareOf 53 = .ok (.iload_n 1, 1) := by decide +kernel
theorem dX8_shareOf_54 : decode cX8_shareOf 54 = .ok (.aload_n 0, 1) := by decide +kernel
theorem dX8_shareOf_55 : decode cX8_shareOf 55 = .ok (.getfield 15, 3) := by decide +kernel
theorem dX8_shareOf_58 : decode cX8_shareOf 58 = .ok (.iload_n 3, 1) := by decide +kernel
theorem dX8_shareOf_59 : decode cX8_shareOf 59 = .ok (.iaload, 1) := by decide +kernel
theorem dX8_shareOf_60 : decode cX8_shareOf 60 = .ok (.imul, 1) := by decide +kernel
theorem dX8_shareOf_61 : decode cX8_shareOf 61 = .ok (.iload 4, 2) := by decide +kernel
theorem dX8_shareOf_63 : decode cX8_shareOf 63 = .ok (.irem, 1) := by decide +kernel
theorem dX8_shareOf_64 : decode cX8_shareOf 64 = .ok (.istore 7, 2) := by decide +kernel
theorem dX8_shareOf_66 : decode cX8_shareOf 66 = .ok (.iconst 0, 1) := by decide +kernel
theorem dX8_shareOf_67 : decode cX8_shareOf 67 = .ok (.istore 8, 2) := by decide +kernel
theorem dX8_shareOf_69 : decode cX8_shareOf 69 = .ok (.iload 8, 2) := by decide +kernel
theorem dX8_shareOf_71 : decode cX8_shareOf 71 = .ok (.aload_n 0, 1) := by decide +kernel
theorem dX8_shareOf_72 : decode cX8_shareOf 72 = .ok (.getfield 28, 3) := by decide +kernel
theorem dX8_shareOf_75 : decode cX8_shareOf 75 = .ok (.if_icmp .ge 72, 3) := by decide +kernel
theorem dX8_shareOf_78 : decode cX8_shareOf 78 = .ok (.iload_n 2, 1) := by decide +kernel
theorem dX8_shareOf_79 : decode cX8_shareOf 79 = .ok (.iload 8, 2) := by decide +kernel
theorem dX8_shareOf_81 : decode cX8_shareOf 81 = .ok (.ishr, 1) := by decide +kernel
theorem dX8_shareOf_82 : decode cX8_shareOf 82 = .ok (.iconst 1, 1) := by decide +kernel
theorem dX8_shareOf_83 : decode cX8_shareOf 83 = .ok (.iand, 1) := by decide +kernel
theorem dX8_shareOf_84 : decode cX8_shareOf 84 = .ok (.ifCond .eq 57, 3) := by decide +kernel
theorem dX8_shareOf_87 : decode cX8_shareOf 87 = .ok (.iload_n 1, 1) := by decide +kernel
theorem dX8_shareOf_88 : decode cX8_shareOf 88 = .ok (.aload_n 0, 1) := by decide +kernel
theorem dX8_shareOf_89 : decode cX8_shareOf 89 = .ok (.getfield 15, 3) := by decide +kernel
theorem dX8_shareOf_92 : decode cX8_shareOf 92 = .ok (.iload 8, 2) := by decide +kernel
theorem dX8_shareOf_94 : decode cX8_shareOf 94 = .ok (.iaload, 1) := by decide +kernel
theorem dX8_shareOf_95 : decode cX8_shareOf 95 = .ok (.imul, 1) := by decide +kernel
theorem dX8_shareOf_96 : decode cX8_shareOf 96 = .ok (.iload 4, 2) := by decide +kernel
theorem dX8_shareOf_98 : decode cX8_shareOf 98 = .ok (.irem, 1) := by decide +kernel
theorem dX8_shareOf_99 : decode cX8_shareOf 99 = .ok (.istore 9, 2) := by decide +kernel
theorem dX8_shareOf_101 : decode cX8_shareOf 101 = .ok (.iload 5, 2) := by decide +kernel
theorem dX8_shareOf_103 : decode cX8_shareOf 103 = .ok (.iload_n 1, 1) := by decide +kernel
theorem dX8_shareOf_104 : decode cX8_shareOf 104 = .ok (.aload_n 0, 1) := by decide +kernel
theorem dX8_shareOf_105 : decode cX8_shareOf 105 = .ok (.getfield 15, 3) := by decide +kernel
theorem dX8_shareOf_108 : decode cX8_shareOf 108 = .ok (.iload 8, 2) := by decide +kernel
theorem dX8_shareOf_110 : decode cX8_shareOf 110 = .ok (.iaload, 1) := by decide +kernel
theorem dX8_shareOf_111 : decode cX8_shareOf 111 = .ok (.imul, 1) := by decide +kernel
theorem dX8_shareOf_112 : decode cX8_shareOf 112 = .ok (.iload 4, 2) := by decide +kernel
theorem dX8_shareOf_114 : decode cX8_shareOf 114 = .ok (.idiv, 1) := by decide +kernel
theorem dX8_shareOf_115 : decode cX8_shareOf 115 = .ok (.isub, 1) := by decide +kernel
theorem dX8_shareOf_116 : decode cX8_shareOf 116 = .ok (.istore 5, 2) := by decide +kernel
theorem dX8_shareOf_118 : decode cX8_shareOf 118 = .ok (.iload 9, 2) := by decide +kernel
theorem dX8_shareOf_120 : decode cX8_shareOf 120 = .ok (.iload 7, 2) := by decide +kernel
theorem dX8_shareOf_122 : decode cX8_shareOf 122 = .ok (.if_icmp .gt 16, 3) := by decide +kernel
theorem dX8_shareOf_125 : decode cX8_shareOf 125 = .ok (.iload 9, 2) := by decide +kernel
theorem dX8_shareOf_127 : decode cX8_shareOf 127 = .ok (.iload 7, 2) := by decide +kernel
theorem dX8_shareOf_129 : decode cX8_shareOf 129 = .ok (.if_icmp .ne 12, 3) := by decide +kernel
theorem dX8_shareOf_132 : decode cX8_shareOf 132 = .ok (.iload 8, 2) := by decide +kernel
theorem dX8_shareOf_134 : decode cX8_shareOf 134 = .ok (.iload_n 3, 1) := by decide +kernel
theorem dX8_shareOf_135 : decode cX8_shareOf 135 = .ok (.if_icmp .ge 6, 3) := by decide +kernel
theorem dX8_shareOf_138 : decode cX8_shareOf 138 = .ok (.iinc 6 1, 3) := by decide +kernel
theorem dX8_shareOf_141 : decode cX8_shareOf 141 = .ok (.iinc 8 1, 3) := by decide +kernel
theorem dX8_shareOf_144 : decode cX8_shareOf 144 = .ok (.goto (-75), 3) := by decide +kernel
theorem dX8_shareOf_147 : decode cX8_shareOf 147 = .ok (.iload_n 1, 1) := by decide +kernel
theorem dX8_shareOf_148 : decode cX8_shareOf 148 = .ok (.aload_n 0, 1) := by decide +kernel
theorem dX8_shareOf_149 : decode cX8_shareOf 149 = .ok (.getfield 15, 3) := by decide +kernel
theorem dX8_shareOf_152 : decode cX8_shareOf 152 = .ok (.iload_n 3, 1) := by decide +kernel
theorem dX8_shareOf_153 : decode cX8_shareOf 153 = .ok (.iaload, 1) := by decide +kernel
theorem dX8_shareOf_154 : decode cX8_shareOf 154 = .ok (.imul, 1) := by decide +kernel
theorem dX8_shareOf_155 : decode cX8_shareOf 155 = .ok (.iload 4, 2) := by decide +kernel
theorem dX8_shareOf_157 : decode cX8_shareOf 157 = .ok (.idiv, 1) := by decide +kernel
theorem dX8_shareOf_158 : decode cX8_shareOf 158 = .ok (.iload 6, 2) := by decide +kernel
theorem dX8_shareOf_160 : decode cX8_shareOf 160 = .ok (.iload 5, 2) := by decide +kernel
theorem dX8_shareOf_162 : decode cX8_shareOf 162 = .ok (.if_icmp .ge 7, 3) := by decide +kernel
theorem dX8_shareOf_165 : decode cX8_shareOf 165 = .ok (.iconst 1, 1) := by decide +kernel
theorem dX8_shareOf_166 : decode cX8_shareOf 166 = .ok (.goto 4, 3) := by decide +kernel
theorem dX8_shareOf_169 : decode cX8_shareOf 169 = .ok (.iconst 0, 1) := by decide +kernel
theorem dX8_shareOf_170 : decode cX8_shareOf 170 = .ok (.iadd, 1) := by decide +kernel
theorem dX8_shareOf_171 : decode cX8_shareOf 171 = .ok (.ireturn, 1) := by decide +kernel
theorem dX8_stepsBetween_0 : decode cX8_stepsBetween 0 = .ok (.iload_n 1, 1) := by decide +kernel
theorem dX8_stepsBetween_1 : decode cX8_stepsBetween 1 = .ok (.istore_n 3, 1) := by decide +kernel
theorem dX8_stepsBetween_2 : decode cX8_stepsBetween 2 = .ok (.iload_n 2, 1) := by decide +kernel
theorem dX8_stepsBetween_3 : decode cX8_stepsBetween 3 = .ok (.istore 4, 2) := by decide +kernel
theorem dX8_stepsBetween_5 : decode cX8_stepsBetween 5 = .ok (.iconst 0, 1) := by decide +kernel
theorem dX8_stepsBetween_6 : decode cX8_stepsBetween 6 = .ok (.istore 5, 2) := by decide +kernel
theorem dX8_stepsBetween_8 : decode cX8_stepsBetween 8 = .ok (.iload_n 3, 1) := by decide +kernel
theorem dX8_stepsBetween_9 : decode cX8_stepsBetween 9 = .ok (.iload 4, 2) := by decide +kernel
theorem dX8_stepsBetween_11 : decode cX8_stepsBetween 11 = .ok (.if_icmp .eq 56, 3) := by decide +kernel
theorem dX8_stepsBetween_14 : decode cX8_stepsBetween 14 = .ok (.iload 5, 2) := by decide +kernel
theorem dX8_stepsBetween_16 : decode cX8_stepsBetween 16 = .ok (.bipush 14, 2) := by decide +kernel
theorem dX8_stepsBetween_18 : decode cX8_stepsBetween 18 = .ok (.if_icmp .ge 49, 3) := by decide +kernel
theorem dX8_stepsBetween_21 : decode cX8_stepsBetween 21 = .ok (.iload_n 3, 1) := by decide +kernel
theorem dX8_stepsBetween_22 : decode cX8_stepsBetween 22 = .ok (.iload 4, 2) := by decide +kernel
theorem dX8_stepsBetween_24 : decode cX8_stepsBetween 24 = .ok (.invokestatic 47, 3) := by decide +kernel
theorem dX8_stepsBetween_27 : decode cX8_stepsBetween 27 = .ok (.istore 6, 2) := by decide +kernel
theorem dX8_stepsBetween_29 : decode cX8_stepsBetween 29 = .ok (.iload_n 3, 1) := by decide +kernel
theorem dX8_stepsBetween_30 : decode cX8_stepsBetween 30 = .ok (.iload 4, 2) := by decide +kernel
theorem dX8_stepsBetween_32 : decode cX8_stepsBetween 32 = .ok (.invokestatic 53, 3) := by decide +kernel
theorem dX8_stepsBetween_35 : decode cX8_stepsBetween 35 = .ok (.istore 4, 2) := by decide +kernel
theorem dX8_stepsBetween_37 : decode cX8_stepsBetween 37 = .ok (.iload 6, 2) := by decide +kernel
theorem dX8_stepsBetween_39 : decode cX8_stepsBetween 39 = .ok (.ifCond .lt 13, 3) := by decide +kernel
theorem dX8_stepsBetween_42 : decode cX8_stepsBetween 42 = .ok (.aload_n 0, 1) := by decide +kernel
theorem dX8_stepsBetween_43 : decode cX8_stepsBetween 43 = .ok (.getfield 19, 3) := by decide +kernel
theorem dX8_stepsBetween_46 : decode cX8_stepsBetween 46 = .ok (.iload 6, 2) := by decide +kernel
theorem dX8_stepsBetween_48 : decode cX8_stepsBetween 48 = .ok (.iaload, 1) := by decide +kernel
theorem dX8_stepsBetween_49 : decode cX8_stepsBetween 49 = .ok (.goto 4, 3) := by decide +kernel
theorem dX8_stepsBetween_53 : decode cX8_stepsBetween 53 = .ok (.istore_n 3, 1) := by decide +kernel
theorem dX8_stepsBetween_54 : decode cX8_stepsBetween 54 = .ok (.iload_n 3, 1) := by decide +kernel
theorem dX8_stepsBetween_55 : decode cX8_stepsBetween 55 = .ok (.iconst (-1), 1) := by decide +kernel
theorem dX8_stepsBetween_56 : decode cX8_stepsBetween 56 = .ok (.if_icmp .ne 5, 3) := by decide +kernel
theorem dX8_stepsBetween_59 : decode cX8_stepsBetween 59 = .ok (.iconst (-1), 1) := by decide +kernel
theorem dX8_stepsBetween_60 : decode cX8_stepsBetween 60 = .ok (.ireturn, 1) := by decide +kernel
theorem dX8_stepsBetween_61 : decode cX8_stepsBetween 61 = .ok (.iinc 5 1, 3) := by decide +kernel
theorem dX8_stepsBetween_64 : decode cX8_stepsBetween 64 = .ok (.goto (-56), 3) := by decide +kernel
theorem dX8_stepsBetween_67 : decode cX8_stepsBetween 67 = .ok (.iload 5, 2) := by decide +kernel
theorem dX8_stepsBetween_69 : decode cX8_stepsBetween 69 = .ok (.ireturn, 1) := by decide +kernel
theorem rc_14 : Rg 14 14 14 := ⟨by decide, by decide⟩
set_option maxRecDepth 100000 in
set_option maxHeartbeats 8000000 in
theorem c_X11_ask {l : Launch} {D : va_G} {cy : Nat → ClassId} {L : List Nat} {κ ln : Nat → Nat} {R : Nat → Nat → Option Nat} {I : Nat → Nat → Int32} {J : Nat → Nat → Int64} {ow : Nat → Nat × Nat} (W9 : ∀ a ∈ L, Shp L κ ln R ow a) {x : Nat} (hLx : x ∈ L) (hkx : κ x = 11) (hU : Iv L κ R ow I) : CtI l yX11_ask cX11_ask 1 (some .int) { frames := 0, cells := 0, slots := 0, locals := 0 } D cy L κ ln R I J [.ref x] (fun r I2 J2 => I = I2 ∧ J = J2 ∧ Rg (-2147483648) 2147483647 r) := by
  refine CtI.of (by decide +kernel) (Nat.le_of_ble_eq_true rfl) ?_
  intro p e s m below meth c B K
  have C := B.1
  obtain ⟨b_1, hb_1, hb_1L, hb_1k⟩ := shp_o (W9 x hLx) hkx 11 2 rfl (by decide)
  refine g_lo (is := [0]) (lo2 := [(0, .ref x)]) rfl ?_
  refine g_aload_n C 0 dX11_ask_0 rfl rfl ?_
  refine g_getR C K hLx hkx f_11_83 hb_1 dX11_ask_1 ?_
  obtain ⟨x_2, hx_2, rx_2⟩ := ex_get (I := I) (a := b_1) (j := 2) (lo := (-2147483648)) (hi := 2147483647) hU.1 hb_1L (ro_o hb_1k (by decide)) rfl
  refine g_getI C K hb_1L hb_1k f_11_285 (v := x_2) hx_2 dX11_ask_4 ?_
  exact g_zret (ty := .int) (r := x_2) B K rfl (rfl) ⟨rfl, rfl, rx_2⟩ dX11_ask_7
set_option maxRecDepth 100000 in
set_option maxHeartbeats 8000000 in
theorem c_X8_shareOf {l : Launch} {D : va_G} {cy : Nat → ClassId} {L : List Nat} {κ ln : Nat → Nat} {R : Nat → Nat → Option Nat} {I : Nat → Nat → Int32} {J : Nat → Nat → Int64} {ow : Nat → Nat × Nat} (W9 : ∀ a ∈ L, Shp L κ ln R ow a) {x : Nat} (hLx : x ∈ L) (hkx : κ x = 8) (a0 : Int32) (a1 : Int32) (a2 : Int32) (ra2 : Rg 0 6 a2) (hU : Iv L κ R ow I) : CtI l yX8_shareOf cX8_shareOf 10 (some .int) { frames := 0, cells := 0, slots := 0, locals := 0 } D cy L κ ln R I J [.ref x, .int a0, .int a1, .int a2] (fun r I2 J2 => I = I2 ∧ J = J2 ∧ Rg (-2147483648) 2147483647 r) := by
  refine CtI.of (by decide +kernel) (Nat.le_of_ble_eq_true rfl) ?_
  intro p e s m below meth c B K
  have C := B.1
  obtain ⟨b_1, hb_1, hb_1L, hb_1k, hb_1n, hb_1o⟩ := shp_a (W9 x hLx) hkx 1 14 7 rfl (by decide)
  refine g_lo (is := [0, 1, 2, 3]) (lo2 := [(0, .ref x), (1, .int a0), (2, .int a1), (3, .int a2)]) rfl ?_
  have l_69 : ∀ (n_69 : Nat) (v_2 : Int32) (v_3 : Int32) (v_4 : Int32) (rv_4 : Rg 0 6 v_4) (v_5 : Int32) (rv_5 : Rg 1 2147483647 v_5) (v_6 : Int32) (v_7 : Int32) (v_8 : Int32) (v_9 : Int32) (rv_9 : Rg 0 7 v_9) (v_10 : Int32) (rv_10 : Rg 0 7 v_10) (q_11 : I x 5 = v_10) (hm_12 : 7 < (v_9 : Int32).toInt + (n_69 : Int)), WG p l e { frames := 0, cells := 0, slots := 0, locals := 0 } s m ([.ref x, .int a0, .int a1, .int a2] : List Value).toArray below meth c 10 0 0 (MQ below (Qi_ D cy L κ ln R (fun r I2 J2 => I = I2 ∧ J = J2 ∧ Rg (-2147483648) 2147483647 r)) ([.ref x, .int a0, .int a1, .int a2] : List Value).toArray s 0 0 (Al_ L)) D cy (Al_ L) s.heap L κ ln R I J 69 [(0, .ref x), (1, .int v_2), (2, .int v_3), (3, .int v_4), (4, .int v_5), (5, .int v_6), (6, .int v_7), (7, .int v_8), (8, .int v_9)] [] := by
    intro n_69
    induction n_69 with
    | zero =>
      intro v_2 v_3 v_4 rv_4 v_5 rv_5 v_6 v_7 v_8 v_9 rv_9 v_10 rv_10 q_11 hm_12
      exact ms_0 rv_9 hm_12
    | succ n_69 ih_69 =>
      intro v_2 v_3 v_4 rv_4 v_5 rv_5 v_6 v_7 v_8 v_9 rv_9 v_10 rv_10 q_11 hm_12
      have j_141 : ∀ (v_13 : Int32) (v_14 : Int32) (v_15 : Int32) (rv_15 : Rg 0 6 v_15) (v_16 : Int32) (rv_16 : Rg 1 2147483647 v_16) (v_17 : Int32) (v_18 : Int32) (v_19 : Int32) (v_20 : Int32) (rv_20 : Rg 0 6 v_20) (v_21 : Int32) (rv_21 : Rg 1 7 v_21) (q_22 : I x 5 = v_21) (hm_23 : 7 < (v_20 : Int32).toInt + ((n_69 + 1 : Nat) : Int)), WG p l e { frames := 0, cells := 0, slots := 0, locals := 0 } s m ([.ref x, .int a0, .int a1, .int a2] : List Value).toArray below meth c 10 0 0 (MQ below (Qi_ D cy L κ ln R (fun r I2 J2 => I = I2 ∧ J = J2 ∧ Rg (-2147483648) 2147483647 r)) ([.ref x, .int a0, .int a1, .int a2] : List Value).toArray s 0 0 (Al_ L)) D cy (Al_ L) s.heap L κ ln R I J 141 [(0, .ref x), (1, .int v_13), (2, .int v_14), (3, .int v_15), (4, .int v_16), (5, .int v_17), (6, .int v_18), (7, .int v_19), (8, .int v_20)] [] := by
        intro v_13 v_14 v_15 rv_15 v_16 rv_16 v_17 v_18 v_19 v_20 rv_20 v_21 rv_21 q_22 hm_23
        obtain ⟨x_24, hx_24, rx_24, tx_24⟩ := ex_add (y := 1) 1 7 rv_20 rc_1 (by decide) (by decide) (by decide) (by decide)
        refine g_iinc C dX8_shareOf_141 (k := 8) (v := x_24) rfl hx_24 (by decide) (lo2 := [(8, .int x_24), (0, .ref x), (1, .int v_13), (2, .int v_14), (3, .int v_15), (4, .int v_16), (5, .int v_17), (6, .int v_18), (7, .int v_19)]) rfl ?_
        refine g_goto C (tgt := 69) dX8_shareOf_144 (by decide) ?_
        refine g_lo (is := [1, 2, 3, 4, 5, 6, 7, 8, 0]) (lo2 := [(0, .ref x), (1, .int v_13), (2, .int v_14), (3, .int v_15), (4, .int v_16), (5, .int v_17), (6, .int v_18), (7, .int v_19), (8, .int x_24)]) rfl ?_
        exact ih_69 v_13 v_14 v_15 (rv_15) v_16 (rv_16) v_17 v_18 v_19 x_24 (rg_w rx_24 (by decide) (by decide)) v_21 (rg_w rv_21 (by decide) (by decide)) q_22 (ms_1 hm_23 (ti_k tx_24 rc_1) (by decide))
      have j_138 : ∀ (v_25 : Int32) (v_26 : Int32) (v_27 : Int32) (rv_27 : Rg 0 6 v_27) (v_28 : Int32) (rv_28 : Rg 1 2147483647 v_28) (v_29 : Int32) (v_30 : Int32) (v_31 : Int32) (v_32 : Int32) (rv_32 : Rg 0 6 v_32) (v_33 : Int32) (v_34 : Int32) (rv_34 : Rg 1 7 v_34) (q_35 : I x 5 = v_34) (hm_36 : 7 < (v_32 : Int32).toInt + ((n_69 + 1 : Nat) : Int)), WG p l e { frames := 0, cells := 0, slots := 0, locals := 0 } s m ([.ref x, .int a0, .int a1, .int a2] : List Value).toArray below meth c 10 0 0 (MQ below (Qi_ D cy L κ ln R (fun r I2 J2 => I = I2 ∧ J = J2 ∧ Rg (-2147483648) 2147483647 r)) ([.ref x, .int a0, .int a1, .int a2] : List Value).toArray s 0 0 (Al_ L)) D cy (Al_ L) s.heap L κ ln R I J 138 [(0, .ref x), (1, .int v_25), (2, .int v_26), (3, .int v_27), (4, .int v_28), (5, .int v_29), (6, .int v_30), (7, .int v_31), (8, .int v_32), (9, .int v_33)] [] := by
        intro v_25 v_26 v_27 rv_27 v_28 rv_28 v_29 v_30 v_31 v_32 rv_32 v_33 v_34 rv_34 q_35 hm_36
        obtain ⟨x_37, hx_37, rx_37⟩ := ex_any (z0 := v_30 + 1)
        refine g_iinc C dX8_shareOf_138 (k := 6) (v := x_37) rfl hx_37 (by decide) (lo2 := [(6, .int x_37), (0, .ref x), (1, .int v_25), (2, .int v_26), (3, .int v_27), (4, .int v_28), (5, .int v_29), (7, .int v_31), (8, .int v_32), (9, .int v_33)]) rfl ?_
        refine g_lo (is := [1, 2, 3, 4, 5, 6, 0, 7, 8]) (lo2 := [(0, .ref x), (1, .int v_25), (2, .int v_26), (3, .int v_27), (4, .int v_28), (5, .int v_29), (6, .int x_37), (7, .int v_31), (8, .int v_32)]) rfl ?_
        exact j_141 v_25 v_26 v_27 (rv_27) v_28 (rv_28) v_29 x_37 v_31 v_32 (rv_32) v_34 (rv_34) q_35 hm_36
      refine g_iload C 8 dX8_shareOf_69 rfl ?_
      refine g_aload_n C 0 dX8_shareOf_71 rfl rfl ?_
      refine g_getI C K hLx hkx f_8_28 (v := v_10) q_11 dX8_shareOf_72 ?_
      refine g_icmp_ge C (tgt := 147) dX8_shareOf_75 (by decide) (fun h_38 => ?_) (fun h_38 => ?_)
      · skip
        refine g_iload_n C 1 dX8_shareOf_147 rfl rfl ?_
        refine g_aload_n C 0 dX8_shareOf_148 rfl rfl ?_
        refine g_getR C K hLx hkx f_8_15 hb_1 dX8_shareOf_149 ?_
        refine g_iload_n C 3 dX8_shareOf_152 rfl rfl ?_
        obtain ⟨x_39, hx_39, rx_39⟩ := ex_any (z0 := I b_1 (v_4.toNatClampNeg))
        refine h_iald C K hb_1L hb_1k (v := x_39) (v_4.toNatClampNeg) (rfl) (ix_0 rv_4 (by decide)) (ix_lt rv_4 (by decide) hb_1n (by decide)) hx_39 dX8_shareOf_153 ?_
        obtain ⟨x_40, hx_40, rx_40⟩ := ex_any (z0 := v_2 * x_39)
        refine g_imul C (v := x_40) dX8_shareOf_154 hx_40 ?_
        refine g_iload C 4 dX8_shareOf_155 rfl ?_
        obtain ⟨x_41, hx_41, rx_41⟩ := ex_any (z0 := x_40 / v_5)
        refine g_idiv C (v := x_41) dX8_shareOf_157 (rg_ne0 rv_5 (by decide)) hx_41 ?_
        refine g_iload C 6 dX8_shareOf_158 rfl ?_
        refine g_iload C 5 dX8_shareOf_160 rfl ?_
        refine g_icmp_ge C (tgt := 169) dX8_shareOf_162 (by decide) (fun h_42 => ?_) (fun h_42 => ?_)
        · skip
          refine g_iconst C (v := 0) dX8_shareOf_169 (by decide) ?_
          obtain ⟨x_43, hx_43, rx_43, tx_43⟩ := ex_add (-2147483648) 2147483647 rx_41 rc_0 (by decide) (by decide) (by decide) (by decide)
          refine g_iadd C (v := x_43) dX8_shareOf_170 hx_43 ?_
          exact g_zret (ty := .int) (r := x_43) B K rfl (rfl) ⟨rfl, rfl, rx_43⟩ dX8_shareOf_171
        · skip
          have r_44 := lt_l (hi := 2147483646) (nle h_42) (rg_all v_7) (rg_all v_6) (by decide)
          have r_45 := lt_r (lo := (-2147483647)) (nle h_42) (rg_all v_7) (rg_all v_6) (by decide)
          refine g_iconst C (v := 1) dX8_shareOf_165 (by decide) ?_
          refine g_goto C (tgt := 170) dX8_shareOf_166 (by decide) ?_
          obtain ⟨x_46, hx_46, rx_46⟩ := ex_any (z0 := x_41 + 1)
          refine g_iadd C (v := x_46) dX8_shareOf_170 hx_46 ?_
          exact g_zret (ty := .int) (r := x_46) B K rfl (rfl) ⟨rfl, rfl, rx_46⟩ dX8_shareOf_171
      · skip
        have r_47 := lt_l (hi := 6) (nle h_38) rv_9 rv_10 (by decide)
        have r_48 := lt_r (lo := 1) (nle h_38) rv_9 rv_10 (by decide)
        refine g_iload_n C 2 dX8_shareOf_78 rfl rfl ?_
        refine g_iload C 8 dX8_shareOf_79 rfl ?_
        obtain ⟨x_49, hx_49, rx_49⟩ := ex_any (z0 := v_3 >>> (v_9 &&& 31))
        refine g_ishr C (v := x_49) dX8_shareOf_81 hx_49 ?_
        refine g_iconst C (v := 1) dX8_shareOf_82 (by decide) ?_
        obtain ⟨x_50, hx_50, rx_50⟩ := ex_andr (x := x_49) (y := 1) (b := 1) (rg_w rc_1 (by decide) (by decide))
        refine g_iand C (v := x_50) dX8_shareOf_83 hx_50 ?_
        refine g_if_eq C (tgt := 141) dX8_shareOf_84 (by decide) (fun h_51 => ?_) (fun h_51 => ?_)
        · skip
          have r_52 := (⟨(rx_50).1, (eq_rg (h_51) rc_0).2⟩ : Rg 0 0 x_50)
          refine g_lo (is := [0, 1, 2, 3, 4, 5, 6, 7, 8]) (lo2 := [(0, .ref x), (1, .int v_2), (2, .int v_3), (3, .int v_4), (4, .int v_5), (5, .int v_6), (6, .int v_7), (7, .int v_8), (8, .int v_9)]) rfl ?_
          exact j_141 v_2 v_3 v_4 (rv_4) v_5 (rv_5) v_6 v_7 v_8 v_9 (r_47) v_10 (r_48) q_11 hm_12
        · skip
          have n_53 : ¬ x_50 = 0 := h_51
          have r_54 := ne_lo (lo := 1) n_53 rx_50 rc_0 rfl (by decide)
          refine g_iload_n C 1 dX8_shareOf_87 rfl rfl ?_
          refine g_aload_n C 0 dX8_shareOf_88 rfl rfl ?_
          refine g_getR C K hLx hkx f_8_15 hb_1 dX8_shareOf_89 ?_
          refine g_iload C 8 dX8_shareOf_92 rfl ?_
          obtain ⟨x_55, hx_55, rx_55⟩ := ex_any (z0 := I b_1 (v_9.toNatClampNeg))
          refine h_iald C K hb_1L hb_1k (v := x_55) (v_9.toNatClampNeg) (rfl) (ix_0 r_47 (by decide)) (ix_lt r_47 (by decide) hb_1n (by decide)) hx_55 dX8_shareOf_94 ?_
          obtain ⟨x_56, hx_56, rx_56⟩ := ex_any (z0 := v_2 * x_55)
          refine g_imul C (v := x_56) dX8_shareOf_95 hx_56 ?_
          refine g_iload C 4 dX8_shareOf_96 rfl ?_
          obtain ⟨x_57, hx_57, rx_57⟩ := ex_any (z0 := x_56 - x_56 / v_5 * v_5)
          refine g_irem C (v := x_57) dX8_shareOf_98 (rg_ne0 rv_5 (by decide)) hx_57 ?_
          refine g_istore C dX8_shareOf_99 (by decide) (lo2 := [(9, .int x_57), (0, .ref x), (1, .int v_2), (2, .int v_3), (3, .int v_4), (4, .int v_5), (5, .int v_6), (6, .int v_7), (7, .int v_8), (8, .int v_9)]) rfl ?_
          refine g_iload C 6 dX8_shareOf_101 rfl ?_
          refine g_iload_n C 2 dX8_shareOf_103 rfl rfl ?_
          refine g_aload_n C 1 dX8_shareOf_104 rfl rfl ?_
          refine g_getR C K hLx hkx f_8_15 hb_1 dX8_shareOf_105 ?_
          refine g_iload C 9 dX8_shareOf_108 rfl ?_
          refine h_iald C K hb_1L hb_1k (v := x_55) (v_9.toNatClampNeg) (rfl) (ix_0 r_47 (by decide)) (ix_lt r_47 (by decide) hb_1n (by decide)) hx_55 dX8_shareOf_110 ?_
          refine g_imul C (v := x_56) dX8_shareOf_111 hx_56 ?_
          refine g_iload C 5 dX8_shareOf_112 rfl ?_
          obtain ⟨x_59, hx_59, rx_59⟩ := ex_any (z0 := x_56 / v_5)
          refine g_idiv C (v := x_59) dX8_shareOf_114 (rg_ne0 rv_5 (by decide)) hx_59 ?_
          obtain ⟨x_60, hx_60, rx_60⟩ := ex_any (z0 := v_6 - x_59)
          refine g_isub C (v := x_60) dX8_shareOf_115 hx_60 ?_
          refine g_istore C dX8_shareOf_116 (by decide) (lo2 := [(5, .int x_60), (9, .int x_57), (0, .ref x), (1, .int v_2), (2, .int v_3), (3, .int v_4), (4, .int v_5), (6, .int v_7), (7, .int v_8), (8, .int v_9)]) rfl ?_
          refine g_iload C 1 dX8_shareOf_118 rfl ?_
          refine g_iload C 8 dX8_shareOf_120 rfl ?_
          refine g_icmp_gt C (tgt := 138) dX8_shareOf_122 (by decide) (fun h_61 => ?_) (fun h_61 => ?_)
          · skip
            have r_62 := lt_l (hi := 2147483646) (h_61) (rg_all v_8) rx_57 (by decide)
            have r_63 := lt_r (lo := (-2147483647)) (h_61) (rg_all v_8) rx_57 (by decide)
            refine g_lo (is := [2, 3, 4, 5, 6, 0, 7, 8, 9, 1]) (lo2 := [(0, .ref x), (1, .int v_2), (2, .int v_3), (3, .int v_4), (4, .int v_5), (5, .int x_60), (6, .int v_7), (7, .int v_8), (8, .int v_9), (9, .int x_57)]) rfl ?_
            exact j_138 v_2 v_3 v_4 (rv_4) v_5 (rv_5) x_60 v_7 v_8 v_9 (r_47) x_57 v_10 (r_48) q_11 hm_12
          · skip
            refine g_iload C 1 dX8_shareOf_125 rfl ?_
            refine g_iload C 8 dX8_shareOf_127 rfl ?_
            refine g_icmp_ne C (tgt := 141) dX8_shareOf_129 (by decide) (fun h_64 => ?_) (fun h_64 => ?_)
            · skip
              refine g_lo (is := [2, 3, 4, 5, 6, 0, 7, 8, 9]) (lo2 := [(0, .ref x), (1, .int v_2), (2, .int v_3), (3, .int v_4), (4, .int v_5), (5, .int x_60), (6, .int v_7), (7, .int v_8), (8, .int v_9)]) rfl ?_
              exact j_141 v_2 v_3 v_4 (rv_4) v_5 (rv_5) x_60 v_7 v_8 v_9 (r_47) v_10 (r_48) q_11 hm_12
            · skip
              refine g_iload C 9 dX8_shareOf_132 rfl ?_
              refine g_iload_n C 5 dX8_shareOf_134 rfl rfl ?_
              refine g_icmp_ge C (tgt := 141) dX8_shareOf_135 (by decide) (fun h_65 => ?_) (fun h_65 => ?_)
              · skip
                refine g_lo (is := [2, 3, 4, 5, 6, 0, 7, 8, 9]) (lo2 := [(0, .ref x), (1, .int v_2), (2, .int v_3), (3, .int v_4), (4, .int v_5), (5, .int x_60), (6, .int v_7), (7, .int v_8), (8, .int v_9)]) rfl ?_
                exact j_141 v_2 v_3 v_4 (rv_4) v_5 (rv_5) x_60 v_7 v_8 v_9 (r_47) v_10 (r_48) q_11 hm_12
              · skip
                have r_66 := lt_l (hi := 5) (nle h_65) r_47 rv_4 (by decide)
                have r_67 := lt_r (lo := 1) (nle h_65) r_47 rv_4 (by decide)
                refine g_lo (is := [2, 3, 4, 5, 6, 0, 7, 8, 9, 1]) (lo2 := [(0, .ref x), (1, .int v_2), (2, .int v_3), (3, .int v_4), (4, .int v_5), (5, .int x_60), (6, .int v_7), (7, .int v_8), (8, .int v_9), (9, .int x_57)]) rfl ?_
                exact j_138 v_2 v_3 v_4 (rg_w r_67 (by decide) (by decide)) v_5 (rv_5) x_60 v_7 v_8 v_9 (rg_w r_66 (by decide) (by decide)) x_57 v_10 (r_48) q_11 hm_12
  have l_6 : ∀ (n_6 : Nat) (v_68 : Int32) (v_69 : Int32) (v_70 : Int32) (rv_70 : Rg 0 6 v_70) (v_71 : Int32) (v_72 : Int32) (rv_72 : Rg 0 7 v_72) (hm_73 : 7 < (v_72 : Int32).toInt + (n_6 : Int)), WG p l e { frames := 0, cells := 0, slots := 0, locals := 0 } s m ([.ref x, .int a0, .int a1, .int a2] : List Value).toArray below meth c 10 0 0 (MQ below (Qi_ D cy L κ ln R (fun r I2 J2 => I = I2 ∧ J = J2 ∧ Rg (-2147483648) 2147483647 r)) ([.ref x, .int a0, .int a1, .int a2] : List Value).toArray s 0 0 (Al_ L)) D cy (Al_ L) s.heap L κ ln R I J 6 [(0, .ref x), (1, .int v_68), (2, .int v_69), (3, .int v_70), (4, .int v_71), (5, .int v_72)] [] := by
    intro n_6
    induction n_6 with
    | zero =>
      intro v_68 v_69 v_70 rv_70 v_71 v_72 rv_72 hm_73
      exact ms_0 rv_72 hm_73
    | succ n_6 ih_6 =>
      intro v_68 v_69 v_70 rv_70 v_71 v_72 rv_72 hm_73
      refine g_iload C 5 dX8_shareOf_6 rfl ?_
      refine g_aload_n C 0 dX8_shareOf_8 rfl rfl ?_
      obtain ⟨x_74, hx_74, rx_74⟩ := ex_get (I := I) (a := x) (j := 5) (lo := 0) (hi := 7) hU.1 hLx (ro_o hkx (by decide)) rfl
      refine g_getI C K hLx hkx f_8_28 (v := x_74) hx_74 dX8_shareOf_9 ?_
      refine g_icmp_ge C (tgt := 40) dX8_shareOf_12 (by decide) (fun h_75 => ?_) (fun h_75 => ?_)
      · skip
        refine g_iload C 4 dX8_shareOf_40 rfl ?_
        refine g_if_gt C (tgt := 47) dX8_shareOf_42 (by decide) (fun h_76 => ?_) (fun h_76 => ?_)
        · skip
          have r_77 := lt_r (lo := 1) (h_76) rc_0 (rg_all v_71) (by decide)
          refine g_iload_n C 1 dX8_shareOf_47 rfl rfl ?_
          refine g_istore C dX8_shareOf_48 (by decide) (lo2 := [(5, .int v_68), (0, .ref x), (1, .int v_68), (2, .int v_69), (3, .int v_70), (4, .int v_71)]) rfl ?_
          refine g_iconst C (v := 0) dX8_shareOf_50 (by decide) ?_
          refine g_istore C dX8_shareOf_51 (by decide) (lo2 := [(6, .int 0), (5, .int v_68), (0, .ref x), (1, .int v_68), (2, .int v_69), (3, .int v_70), (4, .int v_71)]) rfl ?_
          refine g_iload_n C 3 dX8_shareOf_53 rfl rfl ?_
          refine g_aload_n C 2 dX8_shareOf_54 rfl rfl ?_
          refine g_getR C K hLx hkx f_8_15 hb_1 dX8_shareOf_55 ?_
          refine g_iload_n C 5 dX8_shareOf_58 rfl rfl ?_
          obtain ⟨x_78, hx_78, rx_78⟩ := ex_any (z0 := I b_1 (v_70.toNatClampNeg))
          refine h_iald C K hb_1L hb_1k (v := x_78) (v_70.toNatClampNeg) (rfl) (ix_0 rv_70 (by decide)) (ix_lt rv_70 (by decide) hb_1n (by decide)) hx_78 dX8_shareOf_59 ?_
          obtain ⟨x_79, hx_79, rx_79⟩ := ex_any (z0 := v_68 * x_78)
          refine g_imul C (v := x_79) dX8_shareOf_60 hx_79 ?_
          refine g_iload C 6 dX8_shareOf_61 rfl ?_
          obtain ⟨x_80, hx_80, rx_80⟩ := ex_any (z0 := x_79 - x_79 / v_71 * v_71)
          refine g_irem C (v := x_80) dX8_shareOf_63 (rg_ne0 r_77 (by decide)) hx_80 ?_
          refine g_istore C dX8_shareOf_64 (by decide) (lo2 := [(7, .int x_80), (6, .int 0), (5, .int v_68), (0, .ref x), (1, .int v_68), (2, .int v_69), (3, .int v_70), (4, .int v_71)]) rfl ?_
          refine g_iconst C (v := 0) dX8_shareOf_66 (by decide) ?_
          refine g_istore C dX8_shareOf_67 (by decide) (lo2 := [(8, .int 0), (7, .int x_80), (6, .int 0), (5, .int v_68), (0, .ref x), (1, .int v_68), (2, .int v_69), (3, .int v_70), (4, .int v_71)]) rfl ?_
          refine g_lo (is := [4, 5, 6, 7, 8, 3, 2, 1, 0]) (lo2 := [(0, .ref x), (1, .int v_68), (2, .int v_69), (3, .int v_70), (4, .int v_71), (5, .int v_68), (6, .int 0), (7, .int x_80), (8, .int 0)]) rfl ?_
          exact l_69 8 v_68 v_69 v_70 (rv_70) v_71 (r_77) v_68 0 x_80 0 (rg_w rc_0 (by decide) (by decide)) x_74 (rx_74) hx_74 (ms_s (a := 0) (b := 7) (N := 8) (rg_w rc_0 (by decide) (by decide)) (by decide))
        · skip
          have r_81 := le_l (nlt h_76) (rg_all v_71) rc_0
          refine g_iconst C (v := 0) dX8_shareOf_45 (by decide) ?_
          exact g_zret (ty := .int) (r := 0) B K rfl (rfl) ⟨rfl, rfl, rg_all _⟩ dX8_shareOf_46
      · skip
        have r_82 := lt_l (hi := 6) (nle h_75) rv_72 rx_74 (by decide)
        have r_83 := lt_r (lo := 1) (nle h_75) rv_72 rx_74 (by decide)
        refine g_iload C 4 dX8_shareOf_15 rfl ?_
        refine g_iload_n C 2 dX8_shareOf_17 rfl rfl ?_
        refine g_iload C 5 dX8_shareOf_18 rfl ?_
        obtain ⟨x_84, hx_84, rx_84⟩ := ex_any (z0 := v_69 >>> (v_72 &&& 31))
        refine g_ishr C (v := x_84) dX8_shareOf_20 hx_84 ?_
        refine g_iconst C (v := 1) dX8_shareOf_21 (by decide) ?_
        obtain ⟨x_85, hx_85, rx_85⟩ := ex_andr (x := x_84) (y := 1) (b := 1) (rg_w rc_1 (by decide) (by decide))
        refine g_iand C (v := x_85) dX8_shareOf_22 hx_85 ?_
        refine g_aload_n C 0 dX8_shareOf_23 rfl rfl ?_
        refine g_getR C K hLx hkx f_8_15 hb_1 dX8_shareOf_24 ?_
        refine g_iload C 5 dX8_shareOf_27 rfl ?_
        obtain ⟨x_86, hx_86, rx_86⟩ := ex_any (z0 := I b_1 (v_72.toNatClampNeg))
        refine h_iald C K hb_1L hb_1k (v := x_86) (v_72.toNatClampNeg) (rfl) (ix_0 r_82 (by decide)) (ix_lt r_82 (by decide) hb_1n (by decide)) hx_86 dX8_shareOf_29 ?_
        obtain ⟨x_87, hx_87, rx_87⟩ := ex_any (z0 := x_85 * x_86)
        refine g_imul C (v := x_87) dX8_shareOf_30 hx_87 ?_
        obtain ⟨x_88, hx_88, rx_88⟩ := ex_any (z0 := v_71 + x_87)
        refine g_iadd C (v := x_88) dX8_shareOf_31 hx_88 ?_
        refine g_istore C dX8_shareOf_32 (by decide) (lo2 := [(4, .int x_88), (0, .ref x), (1, .int v_68), (2, .int v_69), (3, .int v_70), (5, .int v_72)]) rfl ?_
        obtain ⟨x_89, hx_89, rx_89, tx_89⟩ := ex_add (y := 1) 1 7 r_82 rc_1 (by decide) (by decide) (by decide) (by decide)
        refine g_iinc C dX8_shareOf_34 (k := 5) (v := x_89) rfl hx_89 (by decide) (lo2 := [(5, .int x_89), (4, .int x_88), (0, .ref x), (1, .int v_68), (2, .int v_69), (3, .int v_70)]) rfl ?_
        refine g_goto C (tgt := 6) dX8_shareOf_37 (by decide) ?_
        refine g_lo (is := [2, 3, 4, 5, 1, 0]) (lo2 := [(0, .ref x), (1, .int v_68), (2, .int v_69), (3, .int v_70), (4, .int x_88), (5, .int x_89)]) rfl ?_
        exact ih_6 v_68 v_69 v_70 (rv_70) x_88 x_89 (rg_w rx_89 (by decide) (by decide)) (ms_1 hm_73 (ti_k tx_89 rc_1) (by decide))
  refine g_iconst C (v := 0) dX8_shareOf_0 (by decide) ?_
  refine g_istore C dX8_shareOf_1 (by decide) (lo2 := [(4, .int 0), (0, .ref x), (1, .int a0), (2, .int a1), (3, .int a2)]) rfl ?_
  refine g_iconst C (v := 0) dX8_shareOf_3 (by decide) ?_
  refine g_istore C dX8_shareOf_4 (by decide) (lo2 := [(5, .int 0), (4, .int 0), (0, .ref x), (1, .int a0), (2, .int a1), (3, .int a2)]) rfl ?_
  refine g_lo (is := [2, 3, 4, 5, 1, 0]) (lo2 := [(0, .ref x), (1, .int a0), (2, .int a1), (3, .int a2), (4, .int 0), (5, .int 0)]) rfl ?_
  exact l_6 8 a0 a1 a2 (ra2) 0 0 (rg_w rc_0 (by decide) (by decide)) (ms_s (a := 0) (b := 7) (N := 8) (rg_w rc_0 (by decide) (by decide)) (by decide))
set_option maxRecDepth 100000 in
set_option maxHeartbeats 8000000 in
theorem c_X11_share {l : Launch} {D : va_G} {cy : Nat → ClassId} {L : List Nat} {κ ln : Nat → Nat} {R : Nat → Nat → Option Nat} {I : Nat → Nat → Int32} {J : Nat → Nat → Int64} {ow : Nat → Nat × Nat} (W9 : ∀ a ∈ L, Shp L κ ln R ow a) {x : Nat} (hLx : x ∈ L) (hkx : κ x = 11) (a0 : Int32) (a1 : Int32) (a2 : Int32) (hU : Iv L κ R ow I) : CtI l yX11_share cX11_share 5 (some .int) { frames := 1, cells := 0, slots := 0, locals := 29 } D cy L κ ln R I J [.ref x, .int a0, .int a1, .int a2] (fun r I2 J2 => I = I2 ∧ J = J2 ∧ Rg (-2147483648) 2147483647 r) := by
  refine CtI.of (by decide +kernel) (Nat.le_of_ble_eq_true rfl) ?_
  intro p e s m below meth c B K
  have C := B.1
  obtain ⟨b_1, hb_1, hb_1L, hb_1k⟩ := shp_o (W9 x hLx) hkx 1 8 rfl (by decide)
  obtain ⟨b_2, hb_2, hb_2L, hb_2k⟩ := shp_o (W9 x hLx) hkx 2 1 rfl (by decide)
  obtain ⟨b_3, hb_3, hb_3L, hb_3k, hb_3n, hb_3o⟩ := shp_a (W9 b_2 hb_2L) hb_2k 1 14 6 rfl (by decide)
  refine g_lo (is := [0, 1, 2, 3]) (lo2 := [(0, .ref x), (1, .int a0), (2, .int a1), (3, .int a2)]) rfl ?_
  have j_40 : ∀ (v_4 : Int32) (v_5 : Int32) (v_6 : Int32), WG p l e { frames := 1, cells := 0, slots := 0, locals := 29 } s m ([.ref x, .int a0, .int a1, .int a2] : List Value).toArray below meth c 5 0 0 (MQ below (Qi_ D cy L κ ln R (fun r I2 J2 => I = I2 ∧ J = J2 ∧ Rg (-2147483648) 2147483647 r)) ([.ref x, .int a0, .int a1, .int a2] : List Value).toArray s 0 0 (Al_ L)) D cy (Al_ L) s.heap L κ ln R I J 40 [(0, .ref x), (1, .int v_4), (2, .int v_5), (3, .int v_6)] [] := by
    intro v_4 v_5 v_6
    refine g_iconst C (v := 0) dX11_share_40 (by decide) ?_
    refine g_istore C dX11_share_41 (by decide) (lo2 := [(4, .int 0), (0, .ref x), (1, .int v_4), (2, .int v_5), (3, .int v_6)]) rfl ?_
    refine g_iload C 0 dX11_share_43 rfl ?_
    refine g_if_eq C (tgt := 56) dX11_share_45 (by decide) (fun h_7 => ?_) (fun h_7 => ?_)
    · skip
      refine g_iconst C (v := (-1)) dX11_share_56 (by decide) ?_
      exact g_zret (ty := .int) (r := (-1)) B K rfl (rfl) ⟨rfl, rfl, rg_all _⟩ dX11_share_57
    · skip
      exact absurd (h_7) (by decide)
  refine g_aload_n C 0 dX11_share_0 rfl rfl ?_
  refine g_getR C K hLx hkx f_11_19 hb_1 dX11_share_1 ?_
  refine g_iload_n C 1 dX11_share_4 rfl rfl ?_
  refine g_callVI C K (c_X8_hasDish W9 hb_1L hb_1k a0  hU) hb_1L hb_1k (by decide) rfl v_11_175 rfl ⟨rfl, rfl⟩ ⟨Nat.le_of_ble_eq_true rfl, Nat.le_of_ble_eq_true rfl⟩ (Nat.le_of_ble_eq_true rfl) ⟨Nat.le_of_ble_eq_true rfl, Nat.le_of_ble_eq_true rfl⟩ dX11_share_5 rfl (st := []) (fun x_8 I_9 J_10 h_11 => ?_)
  obtain ⟨rfl, rfl, rx_8, ex_8⟩ := h_11
  refine g_if_eq C (tgt := 40) dX11_share_8 (by decide) (fun h_12 => ?_) (fun h_12 => ?_)
  · skip
    have r_13 := (⟨(rx_8).1, (eq_rg (h_12) rc_0).2⟩ : Rg 0 0 x_8)
    refine g_lo (is := [0, 1, 2, 3]) (lo2 := [(0, .ref x), (1, .int a0), (2, .int a1), (3, .int a2)]) rfl ?_
    exact j_40 a0 a1 a2
  · skip
    have n_14 : ¬ x_8 = 0 := h_12
    have r_15 := ne_lo (lo := 1) n_14 rx_8 rc_0 rfl (by decide)
    have r_16 := rg_i (rg_all a0) ((ex_8) n_14) (lo := 0) (hi := 5) (by decide) (by decide)
    refine g_aload_n C 0 dX11_share_11 rfl rfl ?_
    refine g_getR C K hLx hkx f_11_19 hb_1 dX11_share_12 ?_
    refine g_iload_n C 3 dX11_share_15 rfl rfl ?_
    refine g_callVI C K (c_X8_hasPerson W9 hb_1L hb_1k a2  hU) hb_1L hb_1k (by decide) rfl v_11_133 rfl ⟨rfl, rfl⟩ ⟨Nat.le_of_ble_eq_true rfl, Nat.le_of_ble_eq_true rfl⟩ (Nat.le_of_ble_eq_true rfl) ⟨Nat.le_of_ble_eq_true rfl, Nat.le_of_ble_eq_true rfl⟩ dX11_share_16 rfl (st := []) (fun x_17 I_18 J_19 h_20 => ?_)
    obtain ⟨rfl, rfl, rx_17, ex_17⟩ := h_20
    refine g_if_eq C (tgt := 40) dX11_share_19 (by decide) (fun h_21 => ?_) (fun h_21 => ?_)
    · skip
      have r_22 := (⟨(rx_17).1, (eq_rg (h_21) rc_0).2⟩ : Rg 0 0 x_17)
      refine g_lo (is := [0, 1, 2, 3]) (lo2 := [(0, .ref x), (1, .int a0), (2, .int a1), (3, .int a2)]) rfl ?_
      exact j_40 a0 a1 a2
    · skip
      have n_23 : ¬ x_17 = 0 := h_21
      have r_24 := ne_lo (lo := 1) n_23 rx_17 rc_0 rfl (by decide)
      have r_25 := rg_i (rg_all a2) ((ex_17) n_23) (lo := 0) (hi := 6) (by decide) (by decide)
      refine g_iload_n C 2 dX11_share_22 rfl rfl ?_
      refine g_aload_n C 0 dX11_share_23 rfl rfl ?_
      refine g_getR C K hLx hkx f_11_19 hb_1 dX11_share_24 ?_
      refine g_callVI C K (c_X8_everybody W9 hb_1L hb_1k   hU) hb_1L hb_1k (by decide) rfl v_11_188 rfl ⟨rfl, rfl⟩ ⟨Nat.le_of_ble_eq_true rfl, Nat.le_of_ble_eq_true rfl⟩ (Nat.le_of_ble_eq_true rfl) ⟨Nat.le_of_ble_eq_true rfl, Nat.le_of_ble_eq_true rfl⟩ dX11_share_27 rfl (st := [.int a1]) (fun x_26 I_27 J_28 h_29 => ?_)
      obtain ⟨rfl, rfl, rx_26⟩ := h_29
      refine g_iconst C (v := (-1)) dX11_share_30 (by decide) ?_
      obtain ⟨x_30, hx_30, rx_30⟩ := ex_any (z0 := x_26 ^^^ (-1))
      refine g_ixor C (v := x_30) dX11_share_31 hx_30 ?_
      obtain ⟨x_31, hx_31, rx_31⟩ := ex_any (z0 := a1 &&& x_30)
      refine g_iand C (v := x_31) dX11_share_32 hx_31 ?_
      refine g_if_ne C (tgt := 40) dX11_share_33 (by decide) (fun h_32 => ?_) (fun h_32 => ?_)
      · skip
        have n_33 : ¬ x_31 = 0 := h_32
        refine g_lo (is := [0, 1, 2, 3]) (lo2 := [(0, .ref x), (1, .int a0), (2, .int a1), (3, .int a2)]) rfl ?_
        exact j_40 a0 a1 a2
      · skip
        have r_34 := (⟨(eq_rg (h_32) rc_0).1, (eq_rg (h_32) rc_0).2⟩ : Rg 0 0 x_31)
        refine g_iconst C (v := 1) dX11_share_36 (by decide) ?_
        refine g_goto C (tgt := 41) dX11_share_37 (by decide) ?_
        refine g_istore C dX11_share_41 (by decide) (lo2 := [(4, .int 1), (0, .ref x), (1, .int a0), (2, .int a1), (3, .int a2)]) rfl ?_
        refine g_iload C 0 dX11_share_43 rfl ?_
        refine g_if_eq C (tgt := 56) dX11_share_45 (by decide) (fun h_35 => ?_) (fun h_35 => ?_)
        · skip
          exact absurd (h_35) (by decide)
        · skip
          refine g_iload_n C 3 dX11_share_48 rfl rfl ?_
          refine g_iload_n C 4 dX11_share_49 rfl rfl ?_
          obtain ⟨x_36, hx_36, rx_36⟩ := ex_any (z0 := a1 >>> (a2 &&& 31))
          refine g_ishr C (v := x_36) dX11_share_50 hx_36 ?_
          refine g_iconst C (v := 1) dX11_share_51 (by decide) ?_
          obtain ⟨x_37, hx_37, rx_37⟩ := ex_andr (x := x_36) (y := 1) (b := 1) (rg_w rc_1 (by decide) (by decide))
          refine g_iand C (v := x_37) dX11_share_52 hx_37 ?_
          refine g_if_ne C (tgt := 58) dX11_share_53 (by decide) (fun h_38 => ?_) (fun h_38 => ?_)
          · skip
            have n_39 : ¬ x_37 = 0 := h_38
            have r_40 := ne_lo (lo := 1) n_39 rx_37 rc_0 rfl (by decide)
            refine g_aload_n C 1 dX11_share_58 rfl rfl ?_
            refine g_getR C K hLx hkx f_11_19 hb_1 dX11_share_59 ?_
            refine g_aload_n C 1 dX11_share_62 rfl rfl ?_
            refine g_getR C K hLx hkx f_11_28 hb_2 dX11_share_63 ?_
            refine g_getR C K hb_2L hb_2k f_11_182 hb_3 dX11_share_66 ?_
            refine g_iload_n C 2 dX11_share_69 rfl rfl ?_
            obtain ⟨x_41, hx_41, rx_41⟩ := ex_any (z0 := I b_3 (a0.toNatClampNeg))
            refine h_iald C K hb_3L hb_3k (v := x_41) (a0.toNatClampNeg) (rfl) (ix_0 r_16 (by decide)) (ix_lt r_16 (by decide) hb_3n (by decide)) hx_41 dX11_share_70 ?_
            refine g_iload_n C 3 dX11_share_71 rfl rfl ?_
            refine g_iload_n C 4 dX11_share_72 rfl rfl ?_
            refine g_callVI C K (c_X8_shareOf W9 hb_1L hb_1k x_41 a1 a2 (r_25) hU) hb_1L hb_1k (by decide) rfl v_11_288 rfl ⟨rfl, rfl⟩ ⟨Nat.le_of_ble_eq_true rfl, Nat.le_of_ble_eq_true rfl⟩ (Nat.le_of_ble_eq_true rfl) ⟨Nat.le_of_ble_eq_true rfl, Nat.le_of_ble_eq_true rfl⟩ dX11_share_73 rfl (st := []) (fun x_42 I_43 J_44 h_45 => ?_)
            obtain ⟨rfl, rfl, rx_42⟩ := h_45
            exact g_zret (ty := .int) (r := x_42) B K rfl (rfl) ⟨rfl, rfl, rx_42⟩ dX11_share_76
          · skip
            have r_46 := (⟨(rx_37).1, (eq_rg (h_38) rc_0).2⟩ : Rg 0 0 x_37)
            refine g_iconst C (v := (-1)) dX11_share_56 (by decide) ?_
            exact g_zret (ty := .int) (r := (-1)) B K rfl (rfl) ⟨rfl, rfl, rg_all _⟩ dX11_share_57
set_option maxRecDepth 100000 in
set_option maxHeartbeats 8000000 in
theorem c_X11_last {l : Launch} {D : va_G} {cy : Nat → ClassId} {L : List Nat} {κ ln : Nat → Nat} {R : Nat → Nat → Option Nat} {I : Nat → Nat → Int32} {J : Nat → Nat → Int64} {ow : Nat → Nat × Nat} (W9 : ∀ a ∈ L, Shp L κ ln R ow a) {x : Nat} (hLx : x ∈ L) (hkx : κ x = 11) (a0 : Int32) (hU : Iv L κ R ow I) : CtI l yX11_last cX11_last 2 (some .int) { frames := 1, cells := 0, slots := 0, locals := 21 } D cy L κ ln R I J [.ref x, .int a0] (fun r I2 J2 => I = I2 ∧ J = J2 ∧ Rg (-2147483648) 2147483647 r) := by
  refine CtI.of (by decide +kernel) (Nat.le_of_ble_eq_true rfl) ?_
  intro p e s m below meth c B K
  have C := B.1
  obtain ⟨b_1, hb_1, hb_1L, hb_1k⟩ := shp_o (W9 x hLx) hkx 1 8 rfl (by decide)
  obtain ⟨b_2, hb_2, hb_2L, hb_2k⟩ := shp_o (W9 x hLx) hkx 2 1 rfl (by decide)
  obtain ⟨b_3, hb_3, hb_3L, hb_3k, hb_3n, hb_3o⟩ := shp_a (W9 b_2 hb_2L) hb_2k 1 14 6 rfl (by decide)
  refine g_lo (is := [0, 1]) (lo2 := [(0, .ref x), (1, .int a0)]) rfl ?_
  refine g_aload_n C 0 dX11_last_0 rfl rfl ?_
  refine g_getR C K hLx hkx f_11_19 hb_1 dX11_last_1 ?_
  refine g_iload_n C 1 dX11_last_4 rfl rfl ?_
  refine g_callVI C K (c_X8_hasDish W9 hb_1L hb_1k a0  hU) hb_1L hb_1k (by decide) rfl v_11_175 rfl ⟨rfl, rfl⟩ ⟨Nat.le_of_ble_eq_true rfl, Nat.le_of_ble_eq_true rfl⟩ (Nat.le_of_ble_eq_true rfl) ⟨Nat.le_of_ble_eq_true rfl, Nat.le_of_ble_eq_true rfl⟩ dX11_last_5 rfl (st := []) (fun x_4 I_5 J_6 h_7 => ?_)
  obtain ⟨rfl, rfl, rx_4, ex_4⟩ := h_7
  refine g_if_ne C (tgt := 13) dX11_last_8 (by decide) (fun h_8 => ?_) (fun h_8 => ?_)
  · skip
    have n_9 : ¬ x_4 = 0 := h_8
    have r_10 := ne_lo (lo := 1) n_9 rx_4 rc_0 rfl (by decide)
    have r_11 := rg_i (rg_all a0) ((ex_4) n_9) (lo := 0) (hi := 5) (by decide) (by decide)
    refine g_aload_n C 0 dX11_last_13 rfl rfl ?_
    refine g_getR C K hLx hkx f_11_28 hb_2 dX11_last_14 ?_
    refine g_getR C K hb_2L hb_2k f_11_182 hb_3 dX11_last_17 ?_
    refine g_iload_n C 1 dX11_last_20 rfl rfl ?_
    obtain ⟨x_12, hx_12, rx_12⟩ := ex_any (z0 := I b_3 (a0.toNatClampNeg))
    refine h_iald C K hb_3L hb_3k (v := x_12) (a0.toNatClampNeg) (rfl) (ix_0 r_11 (by decide)) (ix_lt r_11 (by decide) hb_3n (by decide)) hx_12 dX11_last_21 ?_
    refine g_if_ne C (tgt := 29) dX11_last_22 (by decide) (fun h_13 => ?_) (fun h_13 => ?_)
    · skip
      have n_14 : ¬ x_12 = 0 := h_13
      refine g_aload_n C 0 dX11_last_29 rfl rfl ?_
      refine g_getR C K hLx hkx f_11_28 hb_2 dX11_last_30 ?_
      refine g_getR C K hb_2L hb_2k f_11_182 hb_3 dX11_last_33 ?_
      refine g_iload_n C 1 dX11_last_36 rfl rfl ?_
      refine h_iald C K hb_3L hb_3k (v := x_12) (a0.toNatClampNeg) (rfl) (ix_0 r_11 (by decide)) (ix_lt r_11 (by decide) hb_3n (by decide)) hx_12 dX11_last_37 ?_
      refine g_iconst C (v := 3) dX11_last_38 (by decide) ?_
      obtain ⟨x_16, hx_16, rx_16⟩ := ex_any (z0 := x_12 + 3)
      refine g_iadd C (v := x_16) dX11_last_39 hx_16 ?_
      refine g_iconst C (v := 4) dX11_last_40 (by decide) ?_
      obtain ⟨x_17, hx_17, rx_17⟩ := ex_any (z0 := x_16 - x_16 / 4 * 4)
      refine g_irem C (v := x_17) dX11_last_41 (rg_ne0 rc_4 (by decide)) hx_17 ?_
      exact g_zret (ty := .int) (r := x_17) B K rfl (rfl) ⟨rfl, rfl, rx_17⟩ dX11_last_42
    · skip
      have r_18 := (⟨(eq_rg (h_13) rc_0).1, (eq_rg (h_13) rc_0).2⟩ : Rg 0 0 x_12)
      refine g_iconst C (v := 0) dX11_last_25 (by decide) ?_
      refine g_goto C (tgt := 42) dX11_last_26 (by decide) ?_
      exact g_zret (ty := .int) (r := 0) B K rfl (rfl) ⟨rfl, rfl, rg_all _⟩ dX11_last_42
  · skip
    have r_19 := (⟨(rx_4).1, (eq_rg (h_8) rc_0).2⟩ : Rg 0 0 x_4)
    refine g_iconst C (v := (-1)) dX11_last_11 (by decide) ?_
    exact g_zret (ty := .int) (r := (-1)) B K rfl (rfl) ⟨rfl, rfl, rg_all _⟩ dX11_last_12
set_option maxRecDepth 100000 in
set_option maxHeartbeats 8000000 in
theorem c_X6_isChild {l : Launch} {D : va_G} {cy : Nat → ClassId} {L : List Nat} {κ ln : Nat → Nat} {R : Nat → Nat → Option Nat} {I : Nat → Nat → Int32} {J : Nat → Nat → Int64} {ow : Nat → Nat × Nat} (W9 : ∀ a ∈ L, Shp L κ ln R ow a) {a0 : Nat} (hLa0 : a0 ∈ L) (hka0 : κ a0 = 8) (a1 : Int32) (a2 : Int32) (ra1 : Rg 0 6 a1) (ra2 : Rg (-1) 6 a2) (hU : Iv L κ R ow I) : CtI l yX6_isChild cX6_isChild 3 (some .int) { frames := 0, cells := 0, slots := 0, locals := 0 } D cy L κ ln R I J [.ref a0, .int a1, .int a2] (fun r I2 J2 => I = I2 ∧ J = J2 ∧ Rg 0 1 r) := by
  refine CtI.of (by decide +kernel) (Nat.le_of_ble_eq_true rfl) ?_
  intro p e s m below meth c B K
  have C := B.1
  obtain ⟨b_1, hb_1, hb_1L, hb_1k, hb_1n, hb_1o⟩ := shp_a (W9 a0 hLa0) hka0 2 14 7 rfl (by decide)
  refine g_lo (is := [0, 1, 2]) (lo2 := [(0, .ref a0), (1, .int a1), (2, .int a2)]) rfl ?_
  refine g_iload_n C 2 dX6_isChild_0 rfl rfl ?_
  refine g_iconst C (v := (-1)) dX6_isChild_1 (by decide) ?_
  refine g_icmp_eq C (tgt := 19) dX6_isChild_2 (by decide) (fun h_2 => ?_) (fun h_2 => ?_)
  · skip
    have r_3 := (⟨(ra2).1, (eq_rg (h_2) rc_m1).2⟩ : Rg (-1) (-1) a2)
    refine g_iconst C (v := 0) dX6_isChild_19 (by decide) ?_
    exact g_zret (ty := .int) (r := 0) B K rfl (rfl) ⟨rfl, rfl, rg_w rc_0 (by decide) (by decide)⟩ dX6_isChild_20
  · skip
    have n_4 : ¬ a2 = (-1) := h_2
    have r_5 := ne_lo (lo := 0) n_4 ra2 rc_m1 rfl (by decide)
    refine g_aload_n C 0 dX6_isChild_5 rfl rfl ?_
    refine g_getR C K hLa0 hka0 f_6_45 hb_1 dX6_isChild_6 ?_
    refine g_iload_n C 1 dX6_isChild_9 rfl rfl ?_
    obtain ⟨x_6, hx_6, rx_6⟩ := ex_get (I := I) (a := b_1) (j := a1.toNatClampNeg) (lo := (-1)) (hi := 6) hU.1 hb_1L (ro_a hb_1k (by decide) hb_1o hka0 rfl) (rfl)
    refine h_iald C K hb_1L hb_1k (v := x_6) (a1.toNatClampNeg) (rfl) (ix_0 ra1 (by decide)) (ix_lt ra1 (by decide) hb_1n (by decide)) hx_6 dX6_isChild_10 ?_
    refine g_iload_n C 2 dX6_isChild_11 rfl rfl ?_
    refine g_icmp_ne C (tgt := 19) dX6_isChild_12 (by decide) (fun h_7 => ?_) (fun h_7 => ?_)
    · skip
      refine g_iconst C (v := 0) dX6_isChild_19 (by decide) ?_
      exact g_zret (ty := .int) (r := 0) B K rfl (rfl) ⟨rfl, rfl, rg_w rc_0 (by decide) (by decide)⟩ dX6_isChild_20
    · skip
      have r_8 := (⟨(eq_rg (h_7) r_5).1, (rx_6).2⟩ : Rg 0 6 x_6)
      refine g_iconst C (v := 1) dX6_isChild_15 (by decide) ?_
      refine g_goto C (tgt := 20) dX6_isChild_16 (by decide) ?_
      exact g_zret (ty := .int) (r := 1) B K rfl (rfl) ⟨rfl, rfl, rg_w rc_1 (by decide) (by decide)⟩ dX6_isChild_20
set_option maxRecDepth 100000 in
set_option maxHeartbeats 8000000 in
theorem c_X6_parentsAmong {l : Launch} {D : va_G} {cy : Nat → ClassId} {L : List Nat} {κ ln : Nat → Nat} {R : Nat → Nat → Option Nat} {I : Nat → Nat → Int32} {J : Nat → Nat → Int64} {ow : Nat → Nat × Nat} (W9 : ∀ a ∈ L, Shp L κ ln R ow a) {a0 : Nat} (hLa0 : a0 ∈ L) (hka0 : κ a0 = 8) (a1 : Int32) (a2 : Int32) (ra1 : Rg 0 127 a1) (ra2 : Rg 0 127 a2) (hU : Iv L κ R ow I) : CtI l yX6_parentsAmong cX6_parentsAmong 5 (some .int) { frames := 1, cells := 0, slots := 0, locals := 23 } D cy L κ ln R I J [.ref a0, .int a1, .int a2] (fun r I2 J2 => I = I2 ∧ J = J2 ∧ Rg (-2147483648) 2147483647 r) := by
  refine CtI.of (by decide +kernel) (Nat.le_of_ble_eq_true rfl) ?_
  intro p e s m below meth c B K
  have C := B.1
  refine g_lo (is := [0, 1, 2]) (lo2 := [(0, .ref a0), (1, .int a1), (2, .int a2)]) rfl ?_
  have l_5 : ∀ (n_5 : Nat) (v_1 : Int32) (rv_1 : Rg 0 127 v_1) (v_2 : Int32) (rv_2 : Rg 0 127 v_2) (v_3 : Int32) (v_4 : Int32) (rv_4 : Rg 0 7 v_4) (hm_5 : 7 < (v_4 : Int32).toInt + (n_5 : Int)), WG p l e { frames := 1, cells := 0, slots := 0, locals := 23 } s m ([.ref a0, .int a1, .int a2] : List Value).toArray below meth c 5 0 0 (MQ below (Qi_ D cy L κ ln R (fun r I2 J2 => I = I2 ∧ J = J2 ∧ Rg (-2147483648) 2147483647 r)) ([.ref a0, .int a1, .int a2] : List Value).toArray s 0 0 (Al_ L)) D cy (Al_ L) s.heap L κ ln R I J 5 [(0, .ref a0), (1, .int v_1), (2, .int v_2), (3, .int v_3), (4, .int v_4)] [] := by
    intro n_5
    induction n_5 with
    | zero =>
      intro v_1 rv_1 v_2 rv_2 v_3 v_4 rv_4 hm_5
      exact ms_0 rv_4 hm_5
    | succ n_5 ih_5 =>
      intro v_1 rv_1 v_2 rv_2 v_3 v_4 rv_4 hm_5
      have j_37 : ∀ (v_6 : Int32) (rv_6 : Rg 0 127 v_6) (v_7 : Int32) (rv_7 : Rg 0 127 v_7) (v_8 : Int32) (v_9 : Int32) (rv_9 : Rg 0 6 v_9) (v_10 : Int32) (rv_10 : Rg 1 7 v_10) (q_11 : I a0 5 = v_10) (hm_12 : 7 < (v_9 : Int32).toInt + ((n_5 + 1 : Nat) : Int)), WG p l e { frames := 1, cells := 0, slots := 0, locals := 23 } s m ([.ref a0, .int a1, .int a2] : List Value).toArray below meth c 5 0 0 (MQ below (Qi_ D cy L κ ln R (fun r I2 J2 => I = I2 ∧ J = J2 ∧ Rg (-2147483648) 2147483647 r)) ([.ref a0, .int a1, .int a2] : List Value).toArray s 0 0 (Al_ L)) D cy (Al_ L) s.heap L κ ln R I J 37 [(0, .ref a0), (1, .int v_6), (2, .int v_7), (3, .int v_8), (4, .int v_9)] [] := by
        intro v_6 rv_6 v_7 rv_7 v_8 v_9 rv_9 v_10 rv_10 q_11 hm_12
        obtain ⟨x_13, hx_13, rx_13, tx_13⟩ := ex_add (y := 1) 1 7 rv_9 rc_1 (by decide) (by decide) (by decide) (by decide)
        refine g_iinc C dX6_parentsAmong_37 (k := 4) (v := x_13) rfl hx_13 (by decide) (lo2 := [(4, .int x_13), (0, .ref a0), (1, .int v_6), (2, .int v_7), (3, .int v_8)]) rfl ?_
        refine g_goto C (tgt := 5) dX6_parentsAmong_40 (by decide) ?_
        refine g_lo (is := [1, 2, 3, 4, 0]) (lo2 := [(0, .ref a0), (1, .int v_6), (2, .int v_7), (3, .int v_8), (4, .int x_13)]) rfl ?_
        exact ih_5 v_6 (rv_6) v_7 (rv_7) v_8 x_13 (rg_w rx_13 (by decide) (by decide)) (ms_1 hm_12 (ti_k tx_13 rc_1) (by decide))
      refine g_iload C 4 dX6_parentsAmong_5 rfl ?_
      refine g_aload_n C 0 dX6_parentsAmong_7 rfl rfl ?_
      obtain ⟨x_14, hx_14, rx_14⟩ := ex_get (I := I) (a := a0) (j := 5) (lo := 0) (hi := 7) hU.1 hLa0 (ro_o hka0 (by decide)) rfl
      refine g_getI C K hLa0 hka0 f_6_33 (v := x_14) hx_14 dX6_parentsAmong_8 ?_
      refine g_icmp_ge C (tgt := 43) dX6_parentsAmong_11 (by decide) (fun h_15 => ?_) (fun h_15 => ?_)
      · skip
        refine g_iload_n C 3 dX6_parentsAmong_43 rfl rfl ?_
        exact g_zret (ty := .int) (r := v_3) B K rfl (rfl) ⟨rfl, rfl, (rg_all v_3)⟩ dX6_parentsAmong_44
      · skip
        have r_16 := lt_l (hi := 6) (nle h_15) rv_4 rx_14 (by decide)
        have r_17 := lt_r (lo := 1) (nle h_15) rv_4 rx_14 (by decide)
        refine g_iload_n C 1 dX6_parentsAmong_14 rfl rfl ?_
        refine g_iload C 4 dX6_parentsAmong_15 rfl ?_
        obtain ⟨x_18, hx_18, rx_18⟩ := ex_shr (x := v_1) (y := v_4) (b := 127) (rv_1)
        refine g_ishr C (v := x_18) dX6_parentsAmong_17 hx_18 ?_
        refine g_iconst C (v := 1) dX6_parentsAmong_18 (by decide) ?_
        obtain ⟨x_19, hx_19, rx_19⟩ := ex_andr (x := x_18) (y := 1) (b := 1) (rg_w rc_1 (by decide) (by decide))
        refine g_iand C (v := x_19) dX6_parentsAmong_19 hx_19 ?_
        refine g_if_eq C (tgt := 37) dX6_parentsAmong_20 (by decide) (fun h_20 => ?_) (fun h_20 => ?_)
        · skip
          have r_21 := (⟨(rx_19).1, (eq_rg (h_20) rc_0).2⟩ : Rg 0 0 x_19)
          refine g_lo (is := [0, 1, 2, 3, 4]) (lo2 := [(0, .ref a0), (1, .int v_1), (2, .int v_2), (3, .int v_3), (4, .int v_4)]) rfl ?_
          exact j_37 v_1 (rv_1) v_2 (rv_2) v_3 v_4 (r_16) x_14 (r_17) hx_14 hm_5
        · skip
          have n_22 : ¬ x_19 = 0 := h_20
          have r_23 := ne_lo (lo := 1) n_22 rx_19 rc_0 rfl (by decide)
          refine g_aload_n C 0 dX6_parentsAmong_23 rfl rfl ?_
          refine g_iload C 4 dX6_parentsAmong_24 rfl ?_
          refine g_callVI C K (c_X8_childrenOf W9 hLa0 hka0 v_4 (r_16) hU) hLa0 hka0 (by decide) rfl v_6_48 rfl ⟨rfl, rfl⟩ ⟨Nat.le_of_ble_eq_true rfl, Nat.le_of_ble_eq_true rfl⟩ (Nat.le_of_ble_eq_true rfl) ⟨Nat.le_of_ble_eq_true rfl, Nat.le_of_ble_eq_true rfl⟩ dX6_parentsAmong_26 rfl (st := []) (fun x_24 I_25 J_26 h_27 => ?_)
          obtain ⟨rfl, rfl, rx_24⟩ := h_27
          refine g_iload_n C 2 dX6_parentsAmong_29 rfl rfl ?_
          obtain ⟨x_28, hx_28, rx_28⟩ := ex_andl (x := x_24) (y := v_2) (b := 127) (rx_24)
          refine g_iand C (v := x_28) dX6_parentsAmong_30 hx_28 ?_
          refine g_if_eq C (tgt := 37) dX6_parentsAmong_31 (by decide) (fun h_29 => ?_) (fun h_29 => ?_)
          · skip
            have r_30 := (⟨(rx_28).1, (eq_rg (h_29) rc_0).2⟩ : Rg 0 0 x_28)
            refine g_lo (is := [0, 1, 2, 3, 4]) (lo2 := [(0, .ref a0), (1, .int v_1), (2, .int v_2), (3, .int v_3), (4, .int v_4)]) rfl ?_
            exact j_37 v_1 (rv_1) v_2 (rv_2) v_3 v_4 (r_16) x_14 (r_17) hx_14 hm_5
          · skip
            have n_31 : ¬ x_28 = 0 := h_29
            have r_32 := ne_lo (lo := 1) n_31 rx_28 rc_0 rfl (by decide)
            obtain ⟨x_33, hx_33, rx_33⟩ := ex_any (z0 := v_3 + 1)
            refine g_iinc C dX6_parentsAmong_34 (k := 3) (v := x_33) rfl hx_33 (by decide) (lo2 := [(3, .int x_33), (0, .ref a0), (1, .int v_1), (2, .int v_2), (4, .int v_4)]) rfl ?_
            refine g_lo (is := [1, 2, 3, 0, 4]) (lo2 := [(0, .ref a0), (1, .int v_1), (2, .int v_2), (3, .int x_33), (4, .int v_4)]) rfl ?_
            exact j_37 v_1 (rv_1) v_2 (rv_2) x_33 v_4 (r_16) x_14 (r_17) hx_14 hm_5
  refine g_iconst C (v := 0) dX6_parentsAmong_0 (by decide) ?_
  refine g_istore_n C dX6_parentsAmong_1 rfl (by decide) (lo2 := [(3, .int 0), (0, .ref a0), (1, .int a1), (2, .int a2)]) rfl ?_
  refine g_iconst C (v := 0) dX6_parentsAmong_2 (by decide) ?_
  refine g_istore C dX6_parentsAmong_3 (by decide) (lo2 := [(4, .int 0), (3, .int 0), (0, .ref a0), (1, .int a1), (2, .int a2)]) rfl ?_
  refine g_lo (is := [2, 3, 4, 1, 0]) (lo2 := [(0, .ref a0), (1, .int a1), (2, .int a2), (3, .int 0), (4, .int 0)]) rfl ?_
  exact l_5 8 a1 (ra1) a2 (ra2) 0 0 (rg_w rc_0 (by decide) (by decide)) (ms_s (a := 0) (b := 7) (N := 8) (rg_w rc_0 (by decide) (by decide)) (by decide))
set_option maxRecDepth 100000 in
set_option maxHeartbeats 8000000 in
theorem c_X6_leastFor {l : Launch} {D : va_G} {cy : Nat → ClassId} {L : List Nat} {κ ln : Nat → Nat} {R : Nat → Nat → Option Nat} {I : Nat → Nat → Int32} {J : Nat → Nat → Int64} {ow : Nat → Nat × Nat} (W9 : ∀ a ∈ L, Shp L κ ln R ow a) {a0 : Nat} (hLa0 : a0 ∈ L) (hka0 : κ a0 = 8) (a1 : Int32) (a2 : Int32) (a3 : Int32) (ra1 : Rg 1 127 a1) (ra2 : Rg (-1) 6 a2) (hU : Iv L κ R ow I) : CtI l yX6_leastFor cX6_leastFor 6 (some .int) { frames := 2, cells := 0, slots := 0, locals := 47 } D cy L κ ln R I J [.ref a0, .int a1, .int a2, .int a3] (fun r I2 J2 => I = I2 ∧ J = J2 ∧ Rg (-1) 6 r) := by
  refine CtI.of (by decide +kernel) (Nat.le_of_ble_eq_true rfl) ?_
  intro p e s m below meth c B K
  have C := B.1
  refine g_lo (is := [0, 1, 2, 3]) (lo2 := [(0, .ref a0), (1, .int a1), (2, .int a2), (3, .int a3)]) rfl ?_
  have l_3 : ∀ (n_3 : Nat) (v_1 : Int32) (rv_1 : Rg 1 127 v_1) (v_2 : Int32) (rv_2 : Rg (-1) 6 v_2) (v_3 : Int32) (v_4 : Int32) (rv_4 : Rg 0 7 v_4) (hm_5 : 7 < (v_4 : Int32).toInt + (n_3 : Int)), WG p l e { frames := 2, cells := 0, slots := 0, locals := 47 } s m ([.ref a0, .int a1, .int a2, .int a3] : List Value).toArray below meth c 6 0 0 (MQ below (Qi_ D cy L κ ln R (fun r I2 J2 => I = I2 ∧ J = J2 ∧ Rg (-1) 6 r)) ([.ref a0, .int a1, .int a2, .int a3] : List Value).toArray s 0 0 (Al_ L)) D cy (Al_ L) s.heap L κ ln R I J 3 [(0, .ref a0), (1, .int v_1), (2, .int v_2), (3, .int v_3), (4, .int v_4)] [] := by
    intro n_3
    induction n_3 with
    | zero =>
      intro v_1 rv_1 v_2 rv_2 v_3 v_4 rv_4 hm_5
      exact ms_0 rv_4 hm_5
    | succ n_3 ih_3 =>
      intro v_1 rv_1 v_2 rv_2 v_3 v_4 rv_4 hm_5
      have j_50 : ∀ (v_6 : Int32) (rv_6 : Rg 1 127 v_6) (v_7 : Int32) (rv_7 : Rg (-1) 6 v_7) (v_8 : Int32) (v_9 : Int32) (rv_9 : Rg 0 6 v_9) (v_10 : Int32) (rv_10 : Rg 0 127 v_10) (v_11 : Int32) (rv_11 : Rg 1 7 v_11) (q_12 : I a0 5 = v_11) (hm_13 : 7 < (v_9 : Int32).toInt + ((n_3 + 1 : Nat) : Int)), WG p l e { frames := 2, cells := 0, slots := 0, locals := 47 } s m ([.ref a0, .int a1, .int a2, .int a3] : List Value).toArray below meth c 6 0 0 (MQ below (Qi_ D cy L κ ln R (fun r I2 J2 => I = I2 ∧ J = J2 ∧ Rg (-1) 6 r)) ([.ref a0, .int a1, .int a2, .int a3] : List Value).toArray s 0 0 (Al_ L)) D cy (Al_ L) s.heap L κ ln R I J 50 [(0, .ref a0), (1, .int v_6), (2, .int v_7), (3, .int v_8), (4, .int v_9), (5, .int v_10)] [] := by
        intro v_6 rv_6 v_7 rv_7 v_8 v_9 rv_9 v_10 rv_10 v_11 rv_11 q_12 hm_13
        obtain ⟨x_14, hx_14, rx_14, tx_14⟩ := ex_add (y := 1) 1 7 rv_9 rc_1 (by decide) (by decide) (by decide) (by decide)
        refine g_iinc C dX6_leastFor_50 (k := 4) (v := x_14) rfl hx_14 (by decide) (lo2 := [(4, .int x_14), (0, .ref a0), (1, .int v_6), (2, .int v_7), (3, .int v_8), (5, .int v_10)]) rfl ?_
        refine g_goto C (tgt := 3) dX6_leastFor_53 (by decide) ?_
        refine g_lo (is := [1, 2, 3, 4, 0]) (lo2 := [(0, .ref a0), (1, .int v_6), (2, .int v_7), (3, .int v_8), (4, .int x_14)]) rfl ?_
        exact ih_3 v_6 (rv_6) v_7 (rv_7) v_8 x_14 (rg_w rx_14 (by decide) (by decide)) (ms_1 hm_13 (ti_k tx_14 rc_1) (by decide))
      refine g_iload C 4 dX6_leastFor_3 rfl ?_
      refine g_aload_n C 0 dX6_leastFor_5 rfl rfl ?_
      obtain ⟨x_15, hx_15, rx_15⟩ := ex_get (I := I) (a := a0) (j := 5) (lo := 0) (hi := 7) hU.1 hLa0 (ro_o hka0 (by decide)) rfl
      refine g_getI C K hLa0 hka0 f_6_33 (v := x_15) hx_15 dX6_leastFor_6 ?_
      refine g_icmp_ge C (tgt := 56) dX6_leastFor_9 (by decide) (fun h_16 => ?_) (fun h_16 => ?_)
      · skip
        refine g_iconst C (v := (-1)) dX6_leastFor_56 (by decide) ?_
        exact g_zret (ty := .int) (r := (-1)) B K rfl (rfl) ⟨rfl, rfl, rg_w rc_m1 (by decide) (by decide)⟩ dX6_leastFor_57
      · skip
        have r_17 := lt_l (hi := 6) (nle h_16) rv_4 rx_15 (by decide)
        have r_18 := lt_r (lo := 1) (nle h_16) rv_4 rx_15 (by decide)
        refine g_iload_n C 1 dX6_leastFor_12 rfl rfl ?_
        refine g_iconst C (v := 1) dX6_leastFor_13 (by decide) ?_
        refine g_iload C 4 dX6_leastFor_14 rfl ?_
        obtain ⟨x_19, hx_19, rx_19⟩ := ex_shl (x := 1) (y := v_4) 6 64 rfl (r_17) (by decide)
        refine g_ishl C (v := x_19) dX6_leastFor_16 hx_19 ?_
        refine g_iconst C (v := (-1)) dX6_leastFor_17 (by decide) ?_
        obtain ⟨x_20, hx_20, rx_20⟩ := ex_any (z0 := x_19 ^^^ (-1))
        refine g_ixor C (v := x_20) dX6_leastFor_18 hx_20 ?_
        obtain ⟨x_21, hx_21, rx_21⟩ := ex_andl (x := v_1) (y := x_20) (b := 127) (rg_w rv_1 (by decide) (by decide))
        refine g_iand C (v := x_21) dX6_leastFor_19 hx_21 ?_
        refine g_istore C dX6_leastFor_20 (by decide) (lo2 := [(5, .int x_21), (0, .ref a0), (1, .int v_1), (2, .int v_2), (3, .int v_3), (4, .int v_4)]) rfl ?_
        refine g_iload C 0 dX6_leastFor_22 rfl ?_
        refine g_iload_n C 2 dX6_leastFor_24 rfl rfl ?_
        refine g_icmp_eq C (tgt := 50) dX6_leastFor_25 (by decide) (fun h_22 => ?_) (fun h_22 => ?_)
        · skip
          have r_23 := (⟨(eq_rg (h_22) rv_1).1, (rx_21).2⟩ : Rg 1 127 x_21)
          refine g_lo (is := [1, 2, 3, 4, 5, 0]) (lo2 := [(0, .ref a0), (1, .int v_1), (2, .int v_2), (3, .int v_3), (4, .int v_4), (5, .int x_21)]) rfl ?_
          exact j_50 v_1 (rv_1) v_2 (rv_2) v_3 v_4 (r_17) x_21 (rg_w r_23 (by decide) (by decide)) x_15 (r_18) hx_15 hm_5
        · skip
          refine g_aload_n C 1 dX6_leastFor_28 rfl rfl ?_
          refine g_iload C 5 dX6_leastFor_29 rfl ?_
          refine g_iload_n C 3 dX6_leastFor_31 rfl rfl ?_
          refine g_callSI C K (c_X6_isChild W9 hLa0 hka0 v_4 v_2 (r_17) (rv_2) hU) s_6_42 rfl ⟨rfl, rfl⟩ ⟨Nat.le_of_ble_eq_true rfl, Nat.le_of_ble_eq_true rfl⟩ (Nat.le_of_ble_eq_true rfl) ⟨Nat.le_of_ble_eq_true rfl, Nat.le_of_ble_eq_true rfl⟩ dX6_leastFor_32 rfl (st := []) (fun x_24 I_25 J_26 h_27 => ?_)
          obtain ⟨rfl, rfl, rx_24⟩ := h_27
          refine g_aload_n C 1 dX6_leastFor_35 rfl rfl ?_
          refine g_iload_n C 2 dX6_leastFor_36 rfl rfl ?_
          refine g_iload C 0 dX6_leastFor_37 rfl ?_
          refine g_callSI C K (c_X6_parentsAmong W9 hLa0 hka0 v_1 x_21 (rg_w rv_1 (by decide) (by decide)) (rx_21) hU) s_6_29 rfl ⟨rfl, rfl⟩ ⟨Nat.le_of_ble_eq_true rfl, Nat.le_of_ble_eq_true rfl⟩ (Nat.le_of_ble_eq_true rfl) ⟨Nat.le_of_ble_eq_true rfl, Nat.le_of_ble_eq_true rfl⟩ dX6_leastFor_39 rfl (st := [.int x_24]) (fun x_28 I_29 J_30 h_31 => ?_)
          obtain ⟨rfl, rfl, rx_28⟩ := h_31
          obtain ⟨x_32, hx_32, rx_32⟩ := ex_any (z0 := x_24 + x_28)
          refine g_iadd C (v := x_32) dX6_leastFor_42 hx_32 ?_
          refine g_iload_n C 4 dX6_leastFor_43 rfl rfl ?_
          refine g_icmp_ne C (tgt := 50) dX6_leastFor_44 (by decide) (fun h_33 => ?_) (fun h_33 => ?_)
          · skip
            refine g_lo (is := [1, 2, 3, 4, 5, 0]) (lo2 := [(0, .ref a0), (1, .int v_1), (2, .int v_2), (3, .int v_3), (4, .int v_4), (5, .int x_21)]) rfl ?_
            exact j_50 v_1 (rv_1) v_2 (rv_2) v_3 v_4 (r_17) x_21 (rx_21) x_15 (r_18) hx_15 hm_5
          · skip
            refine g_iload C 5 dX6_leastFor_47 rfl ?_
            exact g_zret (ty := .int) (r := v_4) B K rfl (rfl) ⟨rfl, rfl, rg_w r_17 (by decide) (by decide)⟩ dX6_leastFor_49
  refine g_iconst C (v := 0) dX6_leastFor_0 (by decide) ?_
  refine g_istore C dX6_leastFor_1 (by decide) (lo2 := [(4, .int 0), (0, .ref a0), (1, .int a1), (2, .int a2), (3, .int a3)]) rfl ?_
  refine g_lo (is := [1, 2, 3, 4, 0]) (lo2 := [(0, .ref a0), (1, .int a1), (2, .int a2), (3, .int a3), (4, .int 0)]) rfl ?_
  exact l_3 8 a1 (ra1) a2 (ra2) a3 0 (rg_w rc_0 (by decide) (by decide)) (ms_s (a := 0) (b := 7) (N := 8) (rg_w rc_0 (by decide) (by decide)) (by decide))
set_option maxRecDepth 100000 in
set_option maxHeartbeats 8000000 in
theorem c_X6_seat {l : Launch} {D : va_G} {cy : Nat → ClassId} {L : List Nat} {κ ln : Nat → Nat} {R : Nat → Nat → Option Nat} {I : Nat → Nat → Int32} {J : Nat → Nat → Int64} {ow : Nat → Nat × Nat} (W9 : ∀ a ∈ L, Shp L κ ln R ow a) {x : Nat} (hLx : x ∈ L) (hkx : κ x = 6) {a0 : Nat} (hLa0 : a0 ∈ L) (hka0 : κ a0 = 1) (hU : Iv L κ R ow I) : CtI l yX6_seat cX6_seat 9 (some .int) { frames := 3, cells := 0, slots := 0, locals := 72 } D cy L κ ln R I J [.ref x, .ref a0] (fun r I2 J2 => Iv L κ R ow I2 ∧ Fq L κ ow [601, 46000] I I2 ∧ Fq L κ ow [] J J2 ∧ Rg (-2147483648) 2147483647 r) := by
  refine CtI.of (by decide +kernel) (Nat.le_of_ble_eq_true rfl) ?_
  intro p e s m below meth c B K
  have C := B.1
  have hF : Fq L κ ow [601, 46000] I I := fq_rf
  have hG : Fq L κ ow [] J J := fq_rf
  obtain ⟨b_1, hb_1, hb_1L, hb_1k⟩ := shp_o (W9 a0 hLa0) hka0 0 8 rfl (by decide)
  obtain ⟨b_2, hb_2, hb_2L, hb_2k, hb_2n, hb_2o⟩ := shp_a (W9 x hLx) hkx 0 14 7 rfl (by decide)
  refine g_lo (is := [0, 1]) (lo2 := [(0, .ref x), (1, .ref a0)]) rfl ?_
  have l_32 : ∀ (n_32 : Nat) (I_3 : Nat → Nat → Int32) (J_4 : Nat → Nat → Int64) (hU_5 : Iv L κ R ow I_3) (hF_6 : Fq L κ ow [601, 46000] I I_3) (hG_7 : Fq L κ ow [] J J_4) (v_8 : Int32) (rv_8 : Rg 0 127 v_8) (v_9 : Int32) (v_10 : Int32) (v_11 : Int32) (rv_11 : Rg (-1) 6 v_11) (v_12 : Int32) (rv_12 : Rg 0 7 v_12) (q_13 : I_3 x 1 = v_12) (hm_14 : 7 < (v_12 : Int32).toInt + (n_32 : Int)), WG p l e { frames := 3, cells := 0, slots := 0, locals := 72 } s m ([.ref x, .ref a0] : List Value).toArray below meth c 9 0 0 (MQ below (Qi_ D cy L κ ln R (fun r I2 J2 => Iv L κ R ow I2 ∧ Fq L κ ow [601, 46000] I I2 ∧ Fq L κ ow [] J J2 ∧ Rg (-2147483648) 2147483647 r)) ([.ref x, .ref a0] : List Value).toArray s 0 0 (Al_ L)) D cy (Al_ L) s.heap L κ ln R I_3 J_4 32 [(0, .ref x), (1, .ref a0), (2, .ref b_1), (3, .int v_8), (4, .int v_9), (5, .int v_10), (6, .int v_11), (7, .int v_12)] [] := by
    intro n_32
    induction n_32 with
    | zero =>
      intro I_3 J_4 hU_5 hF_6 hG_7 v_8 rv_8 v_9 v_10 v_11 rv_11 v_12 rv_12 q_13 hm_14
      exact ms_0 rv_12 hm_14
    | succ n_32 ih_32 =>
      intro I_3 J_4 hU_5 hF_6 hG_7 v_8 rv_8 v_9 v_10 v_11 rv_11 v_12 rv_12 q_13 hm_14
      refine g_iload C 7 dX6_seat_32 rfl ?_
      refine g_aload_n C 2 dX6_seat_34 rfl rfl ?_
      obtain ⟨x_15, hx_15, rx_15⟩ := ex_get (I := I_3) (a := b_1) (j := 5) (lo := 0) (hi := 7) hU_5.1 hb_1L (ro_o hb_1k (by decide)) rfl
      refine g_getI C K hb_1L hb_1k f_6_33 (v := x_15) hx_15 dX6_seat_35 ?_
      refine g_icmp_ge C (tgt := 130) dX6_seat_38 (by decide) (fun h_16 => ?_) (fun h_16 => ?_)
      · skip
        refine g_iload C 5 dX6_seat_130 rfl ?_
        exact g_zret (ty := .int) (r := v_10) B K rfl (rfl) ⟨hU_5, hF_6, hG_7, (rg_all v_10)⟩ dX6_seat_132
      · skip
        have r_17 := lt_l (hi := 6) (nle h_16) rv_12 rx_15 (by decide)
        have r_18 := lt_r (lo := 1) (nle h_16) rv_12 rx_15 (by decide)
        refine g_iload_n C 3 dX6_seat_41 rfl rfl ?_
        refine g_if_eq C (tgt := 130) dX6_seat_42 (by decide) (fun h_19 => ?_) (fun h_19 => ?_)
        · skip
          have r_20 := (⟨(rv_8).1, (eq_rg (h_19) rc_0).2⟩ : Rg 0 0 v_8)
          refine g_iload C 5 dX6_seat_130 rfl ?_
          exact g_zret (ty := .int) (r := v_10) B K rfl (rfl) ⟨hU_5, hF_6, hG_7, (rg_all v_10)⟩ dX6_seat_132
        · skip
          have n_21 : ¬ v_8 = 0 := h_19
          have r_22 := ne_lo (lo := 1) n_21 rv_8 rc_0 rfl (by decide)
          refine g_aload_n C 2 dX6_seat_45 rfl rfl ?_
          refine g_iload_n C 3 dX6_seat_46 rfl rfl ?_
          refine g_iload C 6 dX6_seat_47 rfl ?_
          refine g_iload C 4 dX6_seat_49 rfl ?_
          refine g_iload C 5 dX6_seat_51 rfl ?_
          obtain ⟨x_23, hx_23, rx_23⟩ := ex_any (z0 := v_9 - v_10)
          refine g_isub C (v := x_23) dX6_seat_53 hx_23 ?_
          refine g_callSI C K (c_X6_leastFor W9 hb_1L hb_1k v_8 v_11 x_23 (r_22) (rv_11) hU_5) s_6_38 rfl ⟨rfl, rfl⟩ ⟨Nat.le_of_ble_eq_true rfl, Nat.le_of_ble_eq_true rfl⟩ (Nat.le_of_ble_eq_true rfl) ⟨Nat.le_of_ble_eq_true rfl, Nat.le_of_ble_eq_true rfl⟩ dX6_seat_54 rfl (st := []) (fun x_24 I_25 J_26 h_27 => ?_)
          obtain ⟨rfl, rfl, rx_24⟩ := h_27
          refine g_istore C dX6_seat_57 (by decide) (lo2 := [(8, .int x_24), (0, .ref x), (1, .ref a0), (2, .ref b_1), (3, .int v_8), (4, .int v_9), (5, .int v_10), (6, .int v_11), (7, .int v_12)]) rfl ?_
          refine g_iload C 0 dX6_seat_59 rfl ?_
          refine g_iconst C (v := (-1)) dX6_seat_61 (by decide) ?_
          refine g_icmp_eq C (tgt := 74) dX6_seat_62 (by decide) (fun h_28 => ?_) (fun h_28 => ?_)
          · skip
            have r_29 := (⟨(rx_24).1, (eq_rg (h_28) rc_m1).2⟩ : Rg (-1) (-1) x_24)
            refine g_iload C 6 dX6_seat_74 rfl ?_
            exact g_zret (ty := .int) (r := v_10) B K rfl (rfl) ⟨hU_5, hF_6, hG_7, (rg_all v_10)⟩ dX6_seat_76
          · skip
            have n_30 : ¬ x_24 = (-1) := h_28
            have r_31 := ne_lo (lo := 0) n_30 rx_24 rc_m1 rfl (by decide)
            refine g_aload_n C 1 dX6_seat_65 rfl rfl ?_
            refine g_getI C K hLx hkx f_6_15 (v := v_12) q_13 dX6_seat_66 ?_
            refine g_bipush C (v := 7) dX6_seat_69 (by decide) ?_
            refine g_icmp_lt C (tgt := 77) dX6_seat_71 (by decide) (fun h_32 => ?_) (fun h_32 => ?_)
            · skip
              refine g_iload C 6 dX6_seat_77 rfl ?_
              refine g_aload_n C 3 dX6_seat_79 rfl rfl ?_
              refine g_iload C 0 dX6_seat_80 rfl ?_
              refine g_iload C 7 dX6_seat_82 rfl ?_
              refine g_callSI C K (c_X6_isChild W9 hb_1L hb_1k x_24 v_11 (r_31) (rv_11) hU_5) s_6_42 rfl ⟨rfl, rfl⟩ ⟨Nat.le_of_ble_eq_true rfl, Nat.le_of_ble_eq_true rfl⟩ (Nat.le_of_ble_eq_true rfl) ⟨Nat.le_of_ble_eq_true rfl, Nat.le_of_ble_eq_true rfl⟩ dX6_seat_84 rfl (st := [.int v_10]) (fun x_33 I_34 J_35 h_36 => ?_)
              obtain ⟨rfl, rfl, rx_33⟩ := h_36
              obtain ⟨x_37, hx_37, rx_37⟩ := ex_any (z0 := v_10 + x_33)
              refine g_iadd C (v := x_37) dX6_seat_87 hx_37 ?_
              refine g_istore C dX6_seat_88 (by decide) (lo2 := [(5, .int x_37), (8, .int x_24), (0, .ref x), (1, .ref a0), (2, .ref b_1), (3, .int v_8), (4, .int v_9), (6, .int v_11), (7, .int v_12)]) rfl ?_
              refine g_aload_n C 2 dX6_seat_90 rfl rfl ?_
              refine g_getR C K hLx hkx f_6_9 hb_2 dX6_seat_91 ?_
              refine g_aload_n C 2 dX6_seat_94 rfl rfl ?_
              refine g_getI C K hLx hkx f_6_15 (v := v_12) q_13 dX6_seat_95 ?_
              refine g_iload C 1 dX6_seat_98 rfl ?_
              refine h_iast C K hb_2L hb_2k (v_12.toNatClampNeg) (rfl) (ix_0 r_17 (by decide)) (ix_lt r_17 (by decide) hb_2n (by decide)) dX6_seat_100 (fun I_38 hI_38 => ?_)
              have hU_39 := iv_put W9 hU_5 hI_38 (ro_a hb_2k (by decide) hb_2o hkx rfl) (lo := (-2147483648)) (hi := 2147483647) (rfl) (rg_all _) rfl
              have hF_40 := fq_puta hF_6 hI_38 (ro_a hb_2k (by decide) hb_2o hkx rfl) (by decide) (by decide)
              refine g_aload_n C 2 dX6_seat_101 rfl rfl ?_
              refine g_dup C dX6_seat_102 rfl ?_
              refine g_getI C K hLx hkx f_6_15 (v := v_12) (kp_k (κ := κ) hI_38 (by rw [hkx, hb_2k]; decide) q_13) dX6_seat_103 ?_
              refine g_iconst C (v := 1) dX6_seat_106 (by decide) ?_
              obtain ⟨x_41, hx_41, rx_41, tx_41⟩ := ex_add 1 7 r_17 rc_1 (by decide) (by decide) (by decide) (by decide)
              refine g_iadd C (v := x_41) dX6_seat_107 hx_41 ?_
              refine h_putI C K hLx hkx f_6_15 p_6_1 dX6_seat_108 (fun I_42 hI_42 => ?_)
              have hU_43 := iv_put W9 hU_39 hI_42 (ro_o hkx (by decide)) (lo := 0) (hi := 7) (rfl) (rg_w rx_41 (by decide) (by decide)) rfl
              have hF_44 := fq_puto hF_40 hI_42 hkx (by decide) (by decide)
              refine g_iload_n C 5 dX6_seat_111 rfl rfl ?_
              refine g_iconst C (v := 1) dX6_seat_112 (by decide) ?_
              refine g_iload C 1 dX6_seat_113 rfl ?_
              obtain ⟨x_45, hx_45, rx_45⟩ := ex_shl (x := 1) (y := x_24) 6 64 rfl (r_31) (by decide)
              refine g_ishl C (v := x_45) dX6_seat_115 hx_45 ?_
              refine g_iconst C (v := (-1)) dX6_seat_116 (by decide) ?_
              obtain ⟨x_46, hx_46, rx_46⟩ := ex_any (z0 := x_45 ^^^ (-1))
              refine g_ixor C (v := x_46) dX6_seat_117 hx_46 ?_
              obtain ⟨x_47, hx_47, rx_47⟩ := ex_andl (x := v_8) (y := x_46) (b := 127) (rg_w r_22 (by decide) (by decide))
              refine g_iand C (v := x_47) dX6_seat_118 hx_47 ?_
              refine g_istore_n C dX6_seat_119 rfl (by decide) (lo2 := [(3, .int x_47), (5, .int x_37), (8, .int x_24), (0, .ref x), (1, .ref a0), (2, .ref b_1), (4, .int v_9), (6, .int v_11), (7, .int v_12)]) rfl ?_
              refine g_iload C 2 dX6_seat_120 rfl ?_
              refine g_istore C dX6_seat_122 (by decide) (lo2 := [(6, .int x_24), (3, .int x_47), (5, .int x_37), (8, .int x_24), (0, .ref x), (1, .ref a0), (2, .ref b_1), (4, .int v_9), (7, .int v_12)]) rfl ?_
              refine g_iinc C dX6_seat_124 (k := 8) (v := x_41) rfl hx_41 (by decide) (lo2 := [(7, .int x_41), (6, .int x_24), (3, .int x_47), (5, .int x_37), (8, .int x_24), (0, .ref x), (1, .ref a0), (2, .ref b_1), (4, .int v_9)]) rfl ?_
              refine g_goto C (tgt := 32) dX6_seat_127 (by decide) ?_
              refine g_lo (is := [5, 6, 7, 2, 8, 3, 1, 0]) (lo2 := [(0, .ref x), (1, .ref a0), (2, .ref b_1), (3, .int x_47), (4, .int v_9), (5, .int x_37), (6, .int x_24), (7, .int x_41)]) rfl ?_
              exact ih_32 I_42 J_4 hU_43 hF_44 hG_7 x_47 (rx_47) v_9 x_37 x_24 (rg_w r_31 (by decide) (by decide)) x_41 (rg_w rx_41 (by decide) (by decide)) (kp_s hI_42) (ms_1 hm_14 (ti_k tx_41 rc_1) (by decide))
            · skip
              have r_48 := le_r (nlt h_32) rc_7 r_17
              exact rg_no r_48 (by decide)
  refine g_aload_n C 1 dX6_seat_0 rfl rfl ?_
  refine g_getR C K hLa0 hka0 f_6_19 hb_1 dX6_seat_1 ?_
  refine g_astore_n C dX6_seat_4 rfl (by decide) (lo2 := [(2, .ref b_1), (0, .ref x), (1, .ref a0)]) rfl ?_
  refine g_aload_n C 2 dX6_seat_5 rfl rfl ?_
  refine g_callVI C K (c_X1_living W9 hLa0 hka0   hU) hLa0 hka0 (by decide) rfl v_6_25 rfl ⟨rfl, rfl⟩ ⟨Nat.le_of_ble_eq_true rfl, Nat.le_of_ble_eq_true rfl⟩ (Nat.le_of_ble_eq_true rfl) ⟨Nat.le_of_ble_eq_true rfl, Nat.le_of_ble_eq_true rfl⟩ dX6_seat_6 rfl (st := []) (fun x_49 I_50 J_51 h_52 => ?_)
  obtain ⟨rfl, rfl, rx_49⟩ := h_52
  refine g_istore_n C dX6_seat_9 rfl (by decide) (lo2 := [(3, .int x_49), (2, .ref b_1), (0, .ref x), (1, .ref a0)]) rfl ?_
  refine g_aload_n C 1 dX6_seat_10 rfl rfl ?_
  refine g_iload_n C 0 dX6_seat_11 rfl rfl ?_
  refine g_iload_n C 0 dX6_seat_12 rfl rfl ?_
  refine g_callSI C K (c_X6_parentsAmong W9 hb_1L hb_1k x_49 x_49 (rx_49) (rx_49) hU) s_6_29 rfl ⟨rfl, rfl⟩ ⟨Nat.le_of_ble_eq_true rfl, Nat.le_of_ble_eq_true rfl⟩ (Nat.le_of_ble_eq_true rfl) ⟨Nat.le_of_ble_eq_true rfl, Nat.le_of_ble_eq_true rfl⟩ dX6_seat_13 rfl (st := []) (fun x_53 I_54 J_55 h_56 => ?_)
  obtain ⟨rfl, rfl, rx_53⟩ := h_56
  refine g_istore C dX6_seat_16 (by decide) (lo2 := [(4, .int x_53), (3, .int x_49), (2, .ref b_1), (0, .ref x), (1, .ref a0)]) rfl ?_
  refine g_iconst C (v := 0) dX6_seat_18 (by decide) ?_
  refine g_istore C dX6_seat_19 (by decide) (lo2 := [(5, .int 0), (4, .int x_53), (3, .int x_49), (2, .ref b_1), (0, .ref x), (1, .ref a0)]) rfl ?_
  refine g_iconst C (v := (-1)) dX6_seat_21 (by decide) ?_
  refine g_istore C dX6_seat_22 (by decide) (lo2 := [(6, .int (-1)), (5, .int 0), (4, .int x_53), (3, .int x_49), (2, .ref b_1), (0, .ref x), (1, .ref a0)]) rfl ?_
  refine g_aload_n C 5 dX6_seat_24 rfl rfl ?_
  refine g_iconst C (v := 0) dX6_seat_25 (by decide) ?_
  refine h_putI C K hLx hkx f_6_15 p_6_1 dX6_seat_26 (fun I_57 hI_57 => ?_)
  have hU_58 := iv_put W9 hU hI_57 (ro_o hkx (by decide)) (lo := 0) (hi := 7) (rfl) (rg_w rc_0 (by decide) (by decide)) rfl
  have hF_59 := fq_puto hF hI_57 hkx (by decide) (by decide)
  refine g_iconst C (v := 0) dX6_seat_29 (by decide) ?_
  refine g_istore C dX6_seat_30 (by decide) (lo2 := [(7, .int 0), (6, .int (-1)), (5, .int 0), (4, .int x_53), (3, .int x_49), (2, .ref b_1), (0, .ref x), (1, .ref a0)]) rfl ?_
  refine g_lo (is := [6, 7, 5, 4, 3, 2, 1, 0]) (lo2 := [(0, .ref x), (1, .ref a0), (2, .ref b_1), (3, .int x_49), (4, .int x_53), (5, .int 0), (6, .int (-1)), (7, .int 0)]) rfl ?_
  exact l_32 8 I_57 J hU_58 hF_59 hG x_49 (rx_49) x_53 0 (-1) (rg_w rc_m1 (by decide) (by decide)) 0 (rg_w rc_0 (by decide) (by decide)) (kp_s hI_57) (ms_s (a := 0) (b := 7) (N := 8) (rg_w rc_0 (by decide) (by decide)) (by decide))
set_option maxRecDepth 100000 in
set_option maxHeartbeats 8000000 in
theorem c_X11_seats {l : Launch} {D : va_G} {cy : Nat → ClassId} {L : List Nat} {κ ln : Nat → Nat} {R : Nat → Nat → Option Nat} {I : Nat → Nat → Int32} {J : Nat → Nat → Int64} {ow : Nat → Nat × Nat} (W9 : ∀ a ∈ L, Shp L κ ln R ow a) {x : Nat} (hLx : x ∈ L) (hkx : κ x = 11) (hU : Iv L κ R ow I) : CtI l yX11_seats cX11_seats 1 (some .int) { frames := 4, cells := 0, slots := 0, locals := 100 } D cy L κ ln R I J [.ref x] (fun r I2 J2 => Iv L κ R ow I2 ∧ Fq L κ ow [601, 46000] I I2 ∧ Fq L κ ow [] J J2 ∧ Rg (-2147483648) 2147483647 r) := by
  refine CtI.of (by decide +kernel) (Nat.le_of_ble_eq_true rfl) ?_
  intro p e s m below meth c B K
  have C := B.1
  have hF : Fq L κ ow [601, 46000] I I := fq_rf
  have hG : Fq L κ ow [] J J := fq_rf
  obtain ⟨b_1, hb_1, hb_1L, hb_1k⟩ := shp_o (W9 x hLx) hkx 10 6 rfl (by decide)
  obtain ⟨b_2, hb_2, hb_2L, hb_2k⟩ := shp_o (W9 x hLx) hkx 2 1 rfl (by decide)
  refine g_lo (is := [0]) (lo2 := [(0, .ref x)]) rfl ?_
  refine g_aload_n C 0 dX11_seats_0 rfl rfl ?_
  refine g_getR C K hLx hkx f_11_76 hb_1 dX11_seats_1 ?_
  refine g_aload_n C 0 dX11_seats_4 rfl rfl ?_
  refine g_getR C K hLx hkx f_11_28 hb_2 dX11_seats_5 ?_
  refine g_callVI C K (c_X6_seat W9 hb_1L hb_1k hb_2L hb_2k  hU) hb_1L hb_1k (by decide) rfl v_11_291 rfl ⟨rfl, rfl⟩ ⟨Nat.le_of_ble_eq_true rfl, Nat.le_of_ble_eq_true rfl⟩ (Nat.le_of_ble_eq_true rfl) ⟨Nat.le_of_ble_eq_true rfl, Nat.le_of_ble_eq_true rfl⟩ dX11_seats_8 rfl (st := []) (fun x_3 I_4 J_5 h_6 => ?_)
  obtain ⟨hUI_4, hFI_4, hGJ_5, rx_3⟩ := h_6
  have hF_7 := fq_tr hF hFI_4 (by decide)
  have hG_8 := fq_tr hG hGJ_5 (by decide)
  exact g_zret (ty := .int) (r := x_3) B K rfl (rfl) ⟨hUI_4, hF_7, hG_8, rx_3⟩ dX11_seats_11
set_option maxRecDepth 100000 in
set_option maxHeartbeats 8000000 in
theorem c_X11_seatAt {l : Launch} {D : va_G} {cy : Nat → ClassId} {L : List Nat} {κ ln : Nat → Nat} {R : Nat → Nat → Option Nat} {I : Nat → Nat → Int32} {J : Nat → Nat → Int64} {ow : Nat → Nat × Nat} (W9 : ∀ a ∈ L, Shp L κ ln R ow a) {x : Nat} (hLx : x ∈ L) (hkx : κ x = 11) (a0 : Int32) (hU : Iv L κ R ow I) : CtI l yX11_seatAt cX11_seatAt 2 (some .int) { frames := 0, cells := 0, slots := 0, locals := 0 } D cy L κ ln R I J [.ref x, .int a0] (fun r I2 J2 => I = I2 ∧ J = J2 ∧ Rg (-2147483648) 2147483647 r) := by
  refine CtI.of (by decide +kernel) (Nat.le_of_ble_eq_true rfl) ?_
  intro p e s m below meth c B K
  have C := B.1
  obtain ⟨b_1, hb_1, hb_1L, hb_1k⟩ := shp_o (W9 x hLx) hkx 10 6 rfl (by decide)
  obtain ⟨b_2, hb_2, hb_2L, hb_2k, hb_2n, hb_2o⟩ := shp_a (W9 b_1 hb_1L) hb_1k 0 14 7 rfl (by decide)
  refine g_lo (is := [0, 1]) (lo2 := [(0, .ref x), (1, .int a0)]) rfl ?_
  refine g_iload_n C 1 dX11_seatAt_0 rfl rfl ?_
  refine g_if_lt C (tgt := 27) dX11_seatAt_1 (by decide) (fun h_3 => ?_) (fun h_3 => ?_)
  · skip
    have r_4 := lt_l (hi := (-1)) (h_3) (rg_all a0) rc_0 (by decide)
    refine g_iconst C (v := (-1)) dX11_seatAt_27 (by decide) ?_
    exact g_zret (ty := .int) (r := (-1)) B K rfl (rfl) ⟨rfl, rfl, rg_all _⟩ dX11_seatAt_28
  · skip
    have r_5 := le_r (nlt h_3) rc_0 (rg_all a0)
    refine g_iload_n C 1 dX11_seatAt_4 rfl rfl ?_
    refine g_aload_n C 0 dX11_seatAt_5 rfl rfl ?_
    refine g_getR C K hLx hkx f_11_76 hb_1 dX11_seatAt_6 ?_
    obtain ⟨x_6, hx_6, rx_6⟩ := ex_get (I := I) (a := b_1) (j := 1) (lo := 0) (hi := 7) hU.1 hb_1L (ro_o hb_1k (by decide)) rfl
    refine g_getI C K hb_1L hb_1k f_11_294 (v := x_6) hx_6 dX11_seatAt_9 ?_
    refine g_icmp_ge C (tgt := 27) dX11_seatAt_12 (by decide) (fun h_7 => ?_) (fun h_7 => ?_)
    · skip
      refine g_iconst C (v := (-1)) dX11_seatAt_27 (by decide) ?_
      exact g_zret (ty := .int) (r := (-1)) B K rfl (rfl) ⟨rfl, rfl, rg_all _⟩ dX11_seatAt_28
    · skip
      have r_8 := lt_l (hi := 6) (nle h_7) r_5 rx_6 (by decide)
      have r_9 := lt_r (lo := 1) (nle h_7) r_5 rx_6 (by decide)
      refine g_aload_n C 0 dX11_seatAt_15 rfl rfl ?_
      refine g_getR C K hLx hkx f_11_76 hb_1 dX11_seatAt_16 ?_
      refine g_getR C K hb_1L hb_1k f_11_295 hb_2 dX11_seatAt_19 ?_
      refine g_iload_n C 1 dX11_seatAt_22 rfl rfl ?_
      obtain ⟨x_10, hx_10, rx_10⟩ := ex_any (z0 := I b_2 (a0.toNatClampNeg))
      refine h_iald C K hb_2L hb_2k (v := x_10) (a0.toNatClampNeg) (rfl) (ix_0 r_8 (by decide)) (ix_lt r_8 (by decide) hb_2n (by decide)) hx_10 dX11_seatAt_23 ?_
      refine g_goto C (tgt := 28) dX11_seatAt_24 (by decide) ?_
      exact g_zret (ty := .int) (r := x_10) B K rfl (rfl) ⟨rfl, rfl, rx_10⟩ dX11_seatAt_28
set_option maxRecDepth 100000 in
set_option maxHeartbeats 8000000 in
theorem c_X11_left {l : Launch} {D : va_G} {cy : Nat → ClassId} {L : List Nat} {κ ln : Nat → Nat} {R : Nat → Nat → Option Nat} {I : Nat → Nat → Int32} {J : Nat → Nat → Int64} {ow : Nat → Nat × Nat} (W9 : ∀ a ∈ L, Shp L κ ln R ow a) {x : Nat} (hLx : x ∈ L) (hkx : κ x = 11) (a0 : Int32) (hU : Iv L κ R ow I) : CtI l yX11_left cX11_left 5 (some .int) { frames := 4, cells := 0, slots := 0, locals := 107 } D cy L κ ln R I J [.ref x, .int a0] (fun r I2 J2 => Iv L κ R ow I2 ∧ Fq L κ ow [107, 108, 109, 110, 111, 112, 1005, 16100, 16200, 16300, 16400, 16500, 16600] I I2 ∧ Fq L κ ow [] J J2 ∧ Rg (-2147483648) 2147483647 r) := by
  refine CtI.of (by decide +kernel) (Nat.le_of_ble_eq_true rfl) ?_
  intro p e s m below meth c B K
  have C := B.1
  have hF : Fq L κ ow [107, 108, 109, 110, 111, 112, 1005, 16100, 16200, 16300, 16400, 16500, 16600] I I := fq_rf
  have hG : Fq L κ ow [] J J := fq_rf
  obtain ⟨b_1, hb_1, hb_1L, hb_1k⟩ := shp_o (W9 x hLx) hkx 3 1 rfl (by decide)
  obtain ⟨b_2, hb_2, hb_2L, hb_2k⟩ := shp_o (W9 x hLx) hkx 2 1 rfl (by decide)
  obtain ⟨b_3, hb_3, hb_3L, hb_3k⟩ := shp_o (W9 x hLx) hkx 1 8 rfl (by decide)
  obtain ⟨b_4, hb_4, hb_4L, hb_4k⟩ := shp_o (W9 x hLx) hkx 0 10 rfl (by decide)
  obtain ⟨b_5, hb_5, hb_5L, hb_5k, hb_5n, hb_5o⟩ := shp_a (W9 b_1 hb_1L) hb_1k 3 14 7 rfl (by decide)
  refine g_lo (is := [0, 1]) (lo2 := [(0, .ref x), (1, .int a0)]) rfl ?_
  have j_108 : ∀ (I_6 : Nat → Nat → Int32) (J_7 : Nat → Nat → Int64) (hU_8 : Iv L κ R ow I_6) (hF_9 : Fq L κ ow [107, 108, 109, 110, 111, 112, 1005, 16100, 16200, 16300, 16400, 16500, 16600] I I_6) (hG_10 : Fq L κ ow [] J J_7) (v_11 : Int32) (v_12 : Int32) (rv_12 : Rg 0 1 v_12) (v_13 : Int32) (rv_13 : Rg 0 940 v_13) (v_14 : Int32) (rv_14 : Rg 0 940 v_14) (q_15 : I_6 b_4 5 = v_14) (im_16 : ¬ v_12 = 0 → Rg 0 6 v_11), WG p l e { frames := 4, cells := 0, slots := 0, locals := 107 } s m ([.ref x, .int a0] : List Value).toArray below meth c 5 0 0 (MQ below (Qi_ D cy L κ ln R (fun r I2 J2 => Iv L κ R ow I2 ∧ Fq L κ ow [107, 108, 109, 110, 111, 112, 1005, 16100, 16200, 16300, 16400, 16500, 16600] I I2 ∧ Fq L κ ow [] J J2 ∧ Rg (-2147483648) 2147483647 r)) ([.ref x, .int a0] : List Value).toArray s 0 0 (Al_ L)) D cy (Al_ L) s.heap L κ ln R I_6 J_7 108 [(0, .ref x), (1, .int v_11), (2, .int v_12), (3, .int v_13)] [] := by
    intro I_6 J_7 hU_8 hF_9 hG_10 v_11 v_12 rv_12 v_13 rv_13 v_14 rv_14 q_15 im_16
    refine g_aload_n C 0 dX11_left_108 rfl rfl ?_
    refine g_getR C K hLx hkx f_11_10 hb_4 dX11_left_109 ?_
    refine g_iconst C (v := 0) dX11_left_112 (by decide) ?_
    refine h_putI C K hb_4L hb_4k f_11_102 p_10_5 dX11_left_113 (fun I_17 hI_17 => ?_)
    have hU_18 := iv_put W9 hU_8 hI_17 (ro_o hb_4k (by decide)) (lo := 0) (hi := 940) (rfl) (rg_w rc_0 (by decide) (by decide)) rfl
    have hF_19 := fq_puto hF_9 hI_17 hb_4k (by decide) (by decide)
    refine g_iload_n C 2 dX11_left_116 rfl rfl ?_
    refine g_if_eq C (tgt := 132) dX11_left_117 (by decide) (fun h_20 => ?_) (fun h_20 => ?_)
    · skip
      have r_21 := (⟨(rv_12).1, (eq_rg (h_20) rc_0).2⟩ : Rg 0 0 v_12)
      refine g_iconst C (v := (-1)) dX11_left_132 (by decide) ?_
      exact g_zret (ty := .int) (r := (-1)) B K rfl (rfl) ⟨hU_18, hF_19, hG_10, rg_all _⟩ dX11_left_133
    · skip
      have n_22 : ¬ v_12 = 0 := h_20
      have r_23 := ne_lo (lo := 1) n_22 rv_12 rc_0 rfl (by decide)
      have r_24 := rg_i (rg_all v_11) (im_16 n_22) (lo := 0) (hi := 6) (by decide) (by decide)
      refine g_aload_n C 0 dX11_left_120 rfl rfl ?_
      refine g_getR C K hLx hkx f_11_32 hb_1 dX11_left_121 ?_
      refine g_getR C K hb_1L hb_1k f_11_166 hb_5 dX11_left_124 ?_
      refine g_iload_n C 1 dX11_left_127 rfl rfl ?_
      obtain ⟨x_25, hx_25, rx_25⟩ := ex_any (z0 := I_17 b_5 (v_11.toNatClampNeg))
      refine h_iald C K hb_5L hb_5k (v := x_25) (v_11.toNatClampNeg) (rfl) (ix_0 r_24 (by decide)) (ix_lt r_24 (by decide) hb_5n (by decide)) hx_25 dX11_left_128 ?_
      refine g_goto C (tgt := 133) dX11_left_129 (by decide) ?_
      exact g_zret (ty := .int) (r := x_25) B K rfl (rfl) ⟨hU_18, hF_19, hG_10, rx_25⟩ dX11_left_133
  have l_53 : ∀ (n_53 : Nat) (I_26 : Nat → Nat → Int32) (J_27 : Nat → Nat → Int64) (hU_28 : Iv L κ R ow I_26) (hF_29 : Fq L κ ow [107, 108, 109, 110, 111, 112, 1005, 16100, 16200, 16300, 16400, 16500, 16600] I I_26) (hG_30 : Fq L κ ow [] J J_27) (v_31 : Int32) (v_32 : Int32) (rv_32 : Rg 0 1 v_32) (v_33 : Int32) (rv_33 : Rg 0 940 v_33) (im_34 : ¬ v_32 = 0 → Rg 0 6 v_31) (hm_35 : 940 < (v_33 : Int32).toInt + (n_53 : Int)), WG p l e { frames := 4, cells := 0, slots := 0, locals := 107 } s m ([.ref x, .int a0] : List Value).toArray below meth c 5 0 0 (MQ below (Qi_ D cy L κ ln R (fun r I2 J2 => Iv L κ R ow I2 ∧ Fq L κ ow [107, 108, 109, 110, 111, 112, 1005, 16100, 16200, 16300, 16400, 16500, 16600] I I2 ∧ Fq L κ ow [] J J2 ∧ Rg (-2147483648) 2147483647 r)) ([.ref x, .int a0] : List Value).toArray s 0 0 (Al_ L)) D cy (Al_ L) s.heap L κ ln R I_26 J_27 53 [(0, .ref x), (1, .int v_31), (2, .int v_32), (3, .int v_33)] [] := by
    intro n_53
    induction n_53 with
    | zero =>
      intro I_26 J_27 hU_28 hF_29 hG_30 v_31 v_32 rv_32 v_33 rv_33 im_34 hm_35
      exact ms_0 rv_33 hm_35
    | succ n_53 ih_53 =>
      intro I_26 J_27 hU_28 hF_29 hG_30 v_31 v_32 rv_32 v_33 rv_33 im_34 hm_35
      have j_102 : ∀ (I_36 : Nat → Nat → Int32) (J_37 : Nat → Nat → Int64) (hU_38 : Iv L κ R ow I_36) (hF_39 : Fq L κ ow [107, 108, 109, 110, 111, 112, 1005, 16100, 16200, 16300, 16400, 16500, 16600] I I_36) (hG_40 : Fq L κ ow [] J J_37) (v_41 : Int32) (rv_41 : Rg 0 6 v_41) (v_42 : Int32) (rv_42 : Rg 0 1 v_42) (v_43 : Int32) (rv_43 : Rg 0 939 v_43) (v_44 : Int32) (rv_44 : Rg (-1) 255 v_44) (v_45 : Int32) (rv_45 : Rg 1 940 v_45) (q_46 : I_36 b_4 5 = v_45) (hm_47 : 940 < (v_43 : Int32).toInt + ((n_53 + 1 : Nat) : Int)), WG p l e { frames := 4, cells := 0, slots := 0, locals := 107 } s m ([.ref x, .int a0] : List Value).toArray below meth c 5 0 0 (MQ below (Qi_ D cy L κ ln R (fun r I2 J2 => Iv L κ R ow I2 ∧ Fq L κ ow [107, 108, 109, 110, 111, 112, 1005, 16100, 16200, 16300, 16400, 16500, 16600] I I2 ∧ Fq L κ ow [] J J2 ∧ Rg (-2147483648) 2147483647 r)) ([.ref x, .int a0] : List Value).toArray s 0 0 (Al_ L)) D cy (Al_ L) s.heap L κ ln R I_36 J_37 102 [(0, .ref x), (1, .int v_41), (2, .int v_42), (3, .int v_43), (4, .int v_44)] [] := by
        intro I_36 J_37 hU_38 hF_39 hG_40 v_41 rv_41 v_42 rv_42 v_43 rv_43 v_44 rv_44 v_45 rv_45 q_46 hm_47
        obtain ⟨x_48, hx_48, rx_48, tx_48⟩ := ex_add (y := 1) 1 940 rv_43 rc_1 (by decide) (by decide) (by decide) (by decide)
        refine g_iinc C dX11_left_102 (k := 3) (v := x_48) rfl hx_48 (by decide) (lo2 := [(3, .int x_48), (0, .ref x), (1, .int v_41), (2, .int v_42), (4, .int v_44)]) rfl ?_
        refine g_goto C (tgt := 53) dX11_left_105 (by decide) ?_
        refine g_lo (is := [1, 2, 3, 0]) (lo2 := [(0, .ref x), (1, .int v_41), (2, .int v_42), (3, .int x_48)]) rfl ?_
        exact ih_53 I_36 J_37 hU_38 hF_39 hG_40 v_41 v_42 (rv_42) x_48 (rg_w rx_48 (by decide) (by decide)) (fun _ => rv_41) (ms_1 hm_47 (ti_k tx_48 rc_1) (by decide))
      refine g_iload_n C 3 dX11_left_53 rfl rfl ?_
      refine g_aload_n C 0 dX11_left_54 rfl rfl ?_
      refine g_getR C K hLx hkx f_11_10 hb_4 dX11_left_55 ?_
      obtain ⟨x_49, hx_49, rx_49⟩ := ex_get (I := I_26) (a := b_4) (j := 5) (lo := 0) (hi := 940) hU_28.1 hb_4L (ro_o hb_4k (by decide)) rfl
      refine g_getI C K hb_4L hb_4k f_11_102 (v := x_49) hx_49 dX11_left_58 ?_
      refine g_icmp_ge C (tgt := 108) dX11_left_61 (by decide) (fun h_50 => ?_) (fun h_50 => ?_)
      · skip
        refine g_lo (is := [0, 1, 2, 3]) (lo2 := [(0, .ref x), (1, .int v_31), (2, .int v_32), (3, .int v_33)]) rfl ?_
        exact j_108 I_26 J_27 hU_28 hF_29 hG_30 v_31 v_32 (rv_32) v_33 (rv_33) x_49 (rx_49) hx_49 (im_34)
      · skip
        have r_51 := lt_l (hi := 939) (nle h_50) rv_33 rx_49 (by decide)
        have r_52 := lt_r (lo := 1) (nle h_50) rv_33 rx_49 (by decide)
        refine g_iload_n C 2 dX11_left_64 rfl rfl ?_
        refine g_if_eq C (tgt := 108) dX11_left_65 (by decide) (fun h_53 => ?_) (fun h_53 => ?_)
        · skip
          have r_54 := (⟨(rv_32).1, (eq_rg (h_53) rc_0).2⟩ : Rg 0 0 v_32)
          refine g_lo (is := [0, 1, 2, 3]) (lo2 := [(0, .ref x), (1, .int v_31), (2, .int v_32), (3, .int v_33)]) rfl ?_
          exact j_108 I_26 J_27 hU_28 hF_29 hG_30 v_31 v_32 (rg_w r_54 (by decide) (by decide)) v_33 (rg_w r_51 (by decide) (by decide)) x_49 (rg_w r_52 (by decide) (by decide)) hx_49 (fun q => ne_no q r_54 rc_0)
        · skip
          have n_55 : ¬ v_32 = 0 := h_53
          have r_56 := ne_lo (lo := 1) n_55 rv_32 rc_0 rfl (by decide)
          have r_57 := rg_i (rg_all v_31) (im_34 n_55) (lo := 0) (hi := 6) (by decide) (by decide)
          refine g_aload_n C 0 dX11_left_68 rfl rfl ?_
          refine g_getR C K hLx hkx f_11_10 hb_4 dX11_left_69 ?_
          refine g_iload_n C 3 dX11_left_72 rfl rfl ?_
          refine g_callVI C K (c_X10_byteOf W9 hb_4L hb_4k v_33 (r_51) hU_28) hb_4L hb_4k (by decide) rfl v_11_275 rfl ⟨rfl, rfl⟩ ⟨Nat.le_of_ble_eq_true rfl, Nat.le_of_ble_eq_true rfl⟩ (Nat.le_of_ble_eq_true rfl) ⟨Nat.le_of_ble_eq_true rfl, Nat.le_of_ble_eq_true rfl⟩ dX11_left_73 rfl (st := []) (fun x_58 I_59 J_60 h_61 => ?_)
          obtain ⟨rfl, rfl, rx_58⟩ := h_61
          refine g_istore C dX11_left_76 (by decide) (lo2 := [(4, .int x_58), (0, .ref x), (1, .int v_31), (2, .int v_32), (3, .int v_33)]) rfl ?_
          refine g_aload_n C 1 dX11_left_78 rfl rfl ?_
          refine g_getR C K hLx hkx f_11_19 hb_3 dX11_left_79 ?_
          refine g_iload C 0 dX11_left_82 rfl ?_
          refine g_callVI C K (c_X8_hasPerson W9 hb_3L hb_3k x_58  hU_28) hb_3L hb_3k (by decide) rfl v_11_133 rfl ⟨rfl, rfl⟩ ⟨Nat.le_of_ble_eq_true rfl, Nat.le_of_ble_eq_true rfl⟩ (Nat.le_of_ble_eq_true rfl) ⟨Nat.le_of_ble_eq_true rfl, Nat.le_of_ble_eq_true rfl⟩ dX11_left_84 rfl (st := []) (fun x_62 I_63 J_64 h_65 => ?_)
          obtain ⟨rfl, rfl, rx_62, ex_62⟩ := h_65
          refine g_istore_n C dX11_left_87 rfl (by decide) (lo2 := [(2, .int x_62), (4, .int x_58), (0, .ref x), (1, .int v_31), (3, .int v_33)]) rfl ?_
          refine g_iload_n C 0 dX11_left_88 rfl rfl ?_
          refine g_if_eq C (tgt := 102) dX11_left_89 (by decide) (fun h_66 => ?_) (fun h_66 => ?_)
          · skip
            have r_67 := (⟨(rx_62).1, (eq_rg (h_66) rc_0).2⟩ : Rg 0 0 x_62)
            refine g_lo (is := [2, 3, 0, 4, 1]) (lo2 := [(0, .ref x), (1, .int v_31), (2, .int x_62), (3, .int v_33), (4, .int x_58)]) rfl ?_
            exact j_102 I_26 J_27 hU_28 hF_29 hG_30 v_31 (r_57) x_62 (rg_w r_67 (by decide) (by decide)) v_33 (r_51) x_58 (rx_58) x_49 (r_52) hx_49 hm_35
          · skip
            have n_68 : ¬ x_62 = 0 := h_66
            have r_69 := ne_lo (lo := 1) n_68 rx_62 rc_0 rfl (by decide)
            have r_70 := rg_i rx_58 ((ex_62) n_68) (lo := 0) (hi := 6) (by decide) (by decide)
            refine g_aload_n C 2 dX11_left_92 rfl rfl ?_
            refine g_getR C K hLx hkx f_11_32 hb_1 dX11_left_93 ?_
            refine g_iload C 1 dX11_left_96 rfl ?_
            refine g_callVI C K (c_X1_tryToDie W9 hb_1L hb_1k x_58 (r_70) hU_28) hb_1L hb_1k (by decide) rfl v_11_247 rfl ⟨rfl, rfl⟩ ⟨Nat.le_of_ble_eq_true rfl, Nat.le_of_ble_eq_true rfl⟩ (Nat.le_of_ble_eq_true rfl) ⟨Nat.le_of_ble_eq_true rfl, Nat.le_of_ble_eq_true rfl⟩ dX11_left_98 rfl (st := []) (fun x_71 I_72 J_73 h_74 => ?_)
            obtain ⟨hUI_72, hFI_72, hGJ_73, rx_71⟩ := h_74
            have hF_75 := fq_tr hF_29 hFI_72 (by decide)
            have hG_76 := fq_tr hG_30 hGJ_73 (by decide)
            refine g_pop C dX11_left_101 rfl ?_
            refine g_lo (is := [2, 3, 0, 4, 1]) (lo2 := [(0, .ref x), (1, .int v_31), (2, .int x_62), (3, .int v_33), (4, .int x_58)]) rfl ?_
            exact j_102 I_72 J_73 hUI_72 hF_75 hG_76 v_31 (r_57) x_62 (rg_w r_69 (by decide) (by decide)) v_33 (r_51) x_58 (rg_w r_70 (by decide) (by decide)) x_49 (r_52) (fq_at hFI_72 hb_4L hb_4k (by decide) (by decide) hx_49) hm_35
  have j_38 : ∀ (I_77 : Nat → Nat → Int32) (J_78 : Nat → Nat → Int64) (hU_79 : Iv L κ R ow I_77) (hF_80 : Fq L κ ow [107, 108, 109, 110, 111, 112, 1005, 16100, 16200, 16300, 16400, 16500, 16600] I I_77) (hG_81 : Fq L κ ow [] J J_78) (v_82 : Int32), WG p l e { frames := 4, cells := 0, slots := 0, locals := 107 } s m ([.ref x, .int a0] : List Value).toArray below meth c 5 0 0 (MQ below (Qi_ D cy L κ ln R (fun r I2 J2 => Iv L κ R ow I2 ∧ Fq L κ ow [107, 108, 109, 110, 111, 112, 1005, 16100, 16200, 16300, 16400, 16500, 16600] I I2 ∧ Fq L κ ow [] J J2 ∧ Rg (-2147483648) 2147483647 r)) ([.ref x, .int a0] : List Value).toArray s 0 0 (Al_ L)) D cy (Al_ L) s.heap L κ ln R I_77 J_78 38 [(0, .ref x), (1, .int v_82)] [] := by
    intro I_77 J_78 hU_79 hF_80 hG_81 v_82
    refine g_iconst C (v := 0) dX11_left_38 (by decide) ?_
    refine g_istore_n C dX11_left_39 rfl (by decide) (lo2 := [(2, .int 0), (0, .ref x), (1, .int v_82)]) rfl ?_
    refine g_aload_n C 1 dX11_left_40 rfl rfl ?_
    refine g_getR C K hLx hkx f_11_32 hb_1 dX11_left_41 ?_
    refine g_aload_n C 1 dX11_left_44 rfl rfl ?_
    refine g_getR C K hLx hkx f_11_28 hb_2 dX11_left_45 ?_
    refine g_callVV C K (c_X1_become W9 hb_1L hb_1k hb_2L hb_2k  hU_79) hb_1L hb_1k (by decide) rfl v_11_126 rfl ⟨rfl, rfl⟩ ⟨Nat.le_of_ble_eq_true rfl, Nat.le_of_ble_eq_true rfl⟩ (Nat.le_of_ble_eq_true rfl) ⟨Nat.le_of_ble_eq_true rfl, Nat.le_of_ble_eq_true rfl⟩ dX11_left_48 rfl (st := []) (fun I_84 J_85 h_86 => ?_)
    obtain ⟨hUI_84, hFI_84, hGJ_85⟩ := h_86
    have hF_87 := fq_tr hF_80 hFI_84 (by decide)
    have hG_88 := fq_tr hG_81 hGJ_85 (by decide)
    refine g_iconst C (v := 0) dX11_left_51 (by decide) ?_
    refine g_istore_n C dX11_left_52 rfl (by decide) (lo2 := [(3, .int 0), (2, .int 0), (0, .ref x), (1, .int v_82)]) rfl ?_
    refine g_lo (is := [2, 3, 1, 0]) (lo2 := [(0, .ref x), (1, .int v_82), (2, .int 0), (3, .int 0)]) rfl ?_
    exact l_53 941 I_84 J_85 hUI_84 hF_87 hG_88 v_82 0 (rg_w rc_0 (by decide) (by decide)) 0 (rg_w rc_0 (by decide) (by decide)) (fun q => absurd rfl q) (ms_s (a := 0) (b := 940) (N := 941) (rg_w rc_0 (by decide) (by decide)) (by decide))
  refine g_aload_n C 0 dX11_left_0 rfl rfl ?_
  refine g_getR C K hLx hkx f_11_19 hb_3 dX11_left_1 ?_
  refine g_iload_n C 1 dX11_left_4 rfl rfl ?_
  refine g_callVI C K (c_X8_hasPerson W9 hb_3L hb_3k a0  hU) hb_3L hb_3k (by decide) rfl v_11_133 rfl ⟨rfl, rfl⟩ ⟨Nat.le_of_ble_eq_true rfl, Nat.le_of_ble_eq_true rfl⟩ (Nat.le_of_ble_eq_true rfl) ⟨Nat.le_of_ble_eq_true rfl, Nat.le_of_ble_eq_true rfl⟩ dX11_left_5 rfl (st := []) (fun x_89 I_90 J_91 h_92 => ?_)
  obtain ⟨rfl, rfl, rx_89, ex_89⟩ := h_92
  refine g_if_eq C (tgt := 38) dX11_left_8 (by decide) (fun h_93 => ?_) (fun h_93 => ?_)
  · skip
    have r_94 := (⟨(rx_89).1, (eq_rg (h_93) rc_0).2⟩ : Rg 0 0 x_89)
    refine g_lo (is := [0, 1]) (lo2 := [(0, .ref x), (1, .int a0)]) rfl ?_
    exact j_38 I J hU hF hG a0
  · skip
    have n_95 : ¬ x_89 = 0 := h_93
    have r_96 := ne_lo (lo := 1) n_95 rx_89 rc_0 rfl (by decide)
    have r_97 := rg_i (rg_all a0) ((ex_89) n_95) (lo := 0) (hi := 6) (by decide) (by decide)
    refine g_aload_n C 0 dX11_left_11 rfl rfl ?_
    refine g_getR C K hLx hkx f_11_10 hb_4 dX11_left_12 ?_
    obtain ⟨x_98, hx_98, rx_98⟩ := ex_get (I := I) (a := b_4) (j := 5) (lo := 0) (hi := 940) hU.1 hb_4L (ro_o hb_4k (by decide)) rfl
    refine g_getI C K hb_4L hb_4k f_11_102 (v := x_98) hx_98 dX11_left_15 ?_
    refine g_iconst C (v := 1) dX11_left_18 (by decide) ?_
    refine g_icmp_lt C (tgt := 38) dX11_left_19 (by decide) (fun h_99 => ?_) (fun h_99 => ?_)
    · skip
      have r_100 := lt_l (hi := 0) (h_99) rx_98 rc_1 (by decide)
      refine g_lo (is := [0, 1]) (lo2 := [(0, .ref x), (1, .int a0)]) rfl ?_
      exact j_38 I J hU hF hG a0
    · skip
      have r_101 := le_r (nlt h_99) rc_1 rx_98
      refine g_aload_n C 0 dX11_left_22 rfl rfl ?_
      refine g_getR C K hLx hkx f_11_10 hb_4 dX11_left_23 ?_
      refine g_getI C K hb_4L hb_4k f_11_102 (v := x_98) hx_98 dX11_left_26 ?_
      refine g_bipush C (v := 7) dX11_left_29 (by decide) ?_
      refine g_icmp_gt C (tgt := 38) dX11_left_31 (by decide) (fun h_102 => ?_) (fun h_102 => ?_)
      · skip
        have r_103 := lt_r (lo := 8) (h_102) rc_7 r_101 (by decide)
        refine g_lo (is := [0, 1]) (lo2 := [(0, .ref x), (1, .int a0)]) rfl ?_
        exact j_38 I J hU hF hG a0
      · skip
        have r_104 := le_l (nlt h_102) r_101 rc_7
        refine g_iconst C (v := 1) dX11_left_34 (by decide) ?_
        refine g_goto C (tgt := 39) dX11_left_35 (by decide) ?_
        refine g_istore_n C dX11_left_39 rfl (by decide) (lo2 := [(2, .int 1), (0, .ref x), (1, .int a0)]) rfl ?_
        refine g_aload_n C 1 dX11_left_40 rfl rfl ?_
        refine g_getR C K hLx hkx f_11_32 hb_1 dX11_left_41 ?_
        refine g_aload_n C 1 dX11_left_44 rfl rfl ?_
        refine g_getR C K hLx hkx f_11_28 hb_2 dX11_left_45 ?_
        refine g_callVV C K (c_X1_become W9 hb_1L hb_1k hb_2L hb_2k  hU) hb_1L hb_1k (by decide) rfl v_11_126 rfl ⟨rfl, rfl⟩ ⟨Nat.le_of_ble_eq_true rfl, Nat.le_of_ble_eq_true rfl⟩ (Nat.le_of_ble_eq_true rfl) ⟨Nat.le_of_ble_eq_true rfl, Nat.le_of_ble_eq_true rfl⟩ dX11_left_48 rfl (st := []) (fun I_106 J_107 h_108 => ?_)
        obtain ⟨hUI_106, hFI_106, hGJ_107⟩ := h_108
        have hF_109 := fq_tr hF hFI_106 (by decide)
        have hG_110 := fq_tr hG hGJ_107 (by decide)
        refine g_iconst C (v := 0) dX11_left_51 (by decide) ?_
        refine g_istore_n C dX11_left_52 rfl (by decide) (lo2 := [(3, .int 0), (2, .int 1), (0, .ref x), (1, .int a0)]) rfl ?_
        refine g_lo (is := [2, 3, 1, 0]) (lo2 := [(0, .ref x), (1, .int a0), (2, .int 1), (3, .int 0)]) rfl ?_
        exact l_53 941 I_106 J_107 hUI_106 hF_109 hG_110 a0 1 (rg_w rc_1 (by decide) (by decide)) 0 (rg_w rc_0 (by decide) (by decide)) (fun _ => r_97) (ms_s (a := 0) (b := 940) (N := 941) (rg_w rc_0 (by decide) (by decide)) (by decide))
set_option maxRecDepth 100000 in
set_option maxHeartbeats 8000000 in
theorem c_X8_stepsBetween {l : Launch} {D : va_G} {cy : Nat → ClassId} {L : List Nat} {κ ln : Nat → Nat} {R : Nat → Nat → Option Nat} {I : Nat → Nat → Int32} {J : Nat → Nat → Int64} {ow : Nat → Nat × Nat} (W9 : ∀ a ∈ L, Shp L κ ln R ow a) {x : Nat} (hLx : x ∈ L) (hkx : κ x = 8) (a0 : Int32) (a1 : Int32) (ra0 : Rg 0 6 a0) (ra1 : Rg 0 6 a1) (hU : Iv L κ R ow I) : CtI l yX8_stepsBetween cX8_stepsBetween 7 (some .int) { frames := 1, cells := 0, slots := 0, locals := 60 } D cy L κ ln R I J [.ref x, .int a0, .int a1] (fun r I2 J2 => I = I2 ∧ J = J2 ∧ Rg (-1) 14 r) := by
  refine CtI.of (by decide +kernel) (Nat.le_of_ble_eq_true rfl) ?_
  intro p e s m below meth c B K
  have C := B.1
  obtain ⟨b_1, hb_1, hb_1L, hb_1k, hb_1n, hb_1o⟩ := shp_a (W9 x hLx) hkx 2 14 7 rfl (by decide)
  refine g_lo (is := [0, 1, 2]) (lo2 := [(0, .ref x), (1, .int a0), (2, .int a1)]) rfl ?_
  have l_8 : ∀ (n_8 : Nat) (v_2 : Int32) (rv_2 : Rg 0 6 v_2) (v_3 : Int32) (rv_3 : Rg 0 6 v_3) (v_4 : Int32) (rv_4 : Rg 0 6 v_4) (nv_4_m1 : ¬ v_4 = (-1)) (v_5 : Int32) (rv_5 : Rg 0 6 v_5) (v_6 : Int32) (rv_6 : Rg 0 14 v_6) (hm_7 : 14 < (v_6 : Int32).toInt + (n_8 : Int)), WG p l e { frames := 1, cells := 0, slots := 0, locals := 60 } s m ([.ref x, .int a0, .int a1] : List Value).toArray below meth c 7 0 0 (MQ below (Qi_ D cy L κ ln R (fun r I2 J2 => I = I2 ∧ J = J2 ∧ Rg (-1) 14 r)) ([.ref x, .int a0, .int a1] : List Value).toArray s 0 0 (Al_ L)) D cy (Al_ L) s.heap L κ ln R I J 8 [(0, .ref x), (1, .int v_2), (2, .int v_3), (3, .int v_4), (4, .int v_5), (5, .int v_6)] [] := by
    intro n_8
    induction n_8 with
    | zero =>
      intro v_2 rv_2 v_3 rv_3 v_4 rv_4 nv_4_m1 v_5 rv_5 v_6 rv_6 hm_7
      exact ms_0 rv_6 hm_7
    | succ n_8 ih_8 =>
      intro v_2 rv_2 v_3 rv_3 v_4 rv_4 nv_4_m1 v_5 rv_5 v_6 rv_6 hm_7
      refine g_iload_n C 3 dX8_stepsBetween_8 rfl rfl ?_
      refine g_iload C 4 dX8_stepsBetween_9 rfl ?_
      refine g_icmp_eq C (tgt := 67) dX8_stepsBetween_11 (by decide) (fun h_8 => ?_) (fun h_8 => ?_)
      · skip
        refine g_iload C 5 dX8_stepsBetween_67 rfl ?_
        exact g_zret (ty := .int) (r := v_6) B K rfl (rfl) ⟨rfl, rfl, rg_w rv_6 (by decide) (by decide)⟩ dX8_stepsBetween_69
      · skip
        refine g_iload C 5 dX8_stepsBetween_14 rfl ?_
        refine g_bipush C (v := 14) dX8_stepsBetween_16 (by decide) ?_
        refine g_icmp_ge C (tgt := 67) dX8_stepsBetween_18 (by decide) (fun h_9 => ?_) (fun h_9 => ?_)
        · skip
          have r_10 := le_r (h_9) rc_14 rv_6
          refine g_iload C 5 dX8_stepsBetween_67 rfl ?_
          exact g_zret (ty := .int) (r := v_6) B K rfl (rfl) ⟨rfl, rfl, rg_w r_10 (by decide) (by decide)⟩ dX8_stepsBetween_69
        · skip
          have r_11 := lt_l (hi := 13) (nle h_9) rv_6 rc_14 (by decide)
          refine g_iload_n C 3 dX8_stepsBetween_21 rfl rfl ?_
          refine g_iload C 4 dX8_stepsBetween_22 rfl ?_
          obtain ⟨x_12, hx_12, rx_12⟩ := ex_max 0 6 rv_4 rv_5 (by decide) (by decide) (by decide)
          refine g_mmax C (v := x_12) mw_8_47 w_max (Nat.le_of_ble_eq_true rfl) (Nat.le_of_ble_eq_true rfl) ⟨Nat.le_of_ble_eq_true rfl, Nat.le_of_ble_eq_true rfl⟩ (hx_12) dX8_stepsBetween_24 ?_
          refine g_istore C dX8_stepsBetween_27 (by decide) (lo2 := [(6, .int x_12), (0, .ref x), (1, .int v_2), (2, .int v_3), (3, .int v_4), (4, .int v_5), (5, .int v_6)]) rfl ?_
          refine g_iload_n C 4 dX8_stepsBetween_29 rfl rfl ?_
          refine g_iload C 5 dX8_stepsBetween_30 rfl ?_
          obtain ⟨x_13, hx_13, rx_13⟩ := ex_min 0 6 rv_4 rv_5 (by decide) (by decide) (by decide)
          refine g_mmin C (v := x_13) mw_8_53 w_min (Nat.le_of_ble_eq_true rfl) (Nat.le_of_ble_eq_true rfl) ⟨Nat.le_of_ble_eq_true rfl, Nat.le_of_ble_eq_true rfl⟩ (hx_13) dX8_stepsBetween_32 ?_
          refine g_istore C dX8_stepsBetween_35 (by decide) (lo2 := [(4, .int x_13), (6, .int x_12), (0, .ref x), (1, .int v_2), (2, .int v_3), (3, .int v_4), (5, .int v_6)]) rfl ?_
          refine g_iload C 1 dX8_stepsBetween_37 rfl ?_
          refine g_if_lt C (tgt := 52) dX8_stepsBetween_39 (by decide) (fun h_14 => ?_) (fun h_14 => ?_)
          · skip
            have r_15 := lt_l (hi := (-1)) (h_14) rx_12 rc_0 (by decide)
            exact rg_no r_15 (by decide)
          · skip
            refine g_aload_n C 2 dX8_stepsBetween_42 rfl rfl ?_
            refine g_getR C K hLx hkx f_8_19 hb_1 dX8_stepsBetween_43 ?_
            refine g_iload C 1 dX8_stepsBetween_46 rfl ?_
            obtain ⟨x_16, hx_16, rx_16⟩ := ex_get (I := I) (a := b_1) (j := x_12.toNatClampNeg) (lo := (-1)) (hi := 6) hU.1 hb_1L (ro_a hb_1k (by decide) hb_1o hkx rfl) (rfl)
            refine h_iald C K hb_1L hb_1k (v := x_16) (x_12.toNatClampNeg) (rfl) (ix_0 rx_12 (by decide)) (ix_lt rx_12 (by decide) hb_1n (by decide)) hx_16 dX8_stepsBetween_48 ?_
            refine g_goto C (tgt := 53) dX8_stepsBetween_49 (by decide) ?_
            refine g_istore_n C dX8_stepsBetween_53 rfl (by decide) (lo2 := [(3, .int x_16), (4, .int x_13), (6, .int x_12), (0, .ref x), (1, .int v_2), (2, .int v_3), (5, .int v_6)]) rfl ?_
            refine g_iload_n C 0 dX8_stepsBetween_54 rfl rfl ?_
            refine g_iconst C (v := (-1)) dX8_stepsBetween_55 (by decide) ?_
            refine g_icmp_ne C (tgt := 61) dX8_stepsBetween_56 (by decide) (fun h_17 => ?_) (fun h_17 => ?_)
            · skip
              have n_18 : ¬ x_16 = (-1) := h_17
              have r_19 := ne_lo (lo := 0) n_18 rx_16 rc_m1 rfl (by decide)
              obtain ⟨x_20, hx_20, rx_20, tx_20⟩ := ex_add (y := 1) 1 14 r_11 rc_1 (by decide) (by decide) (by decide) (by decide)
              refine g_iinc C dX8_stepsBetween_61 (k := 6) (v := x_20) rfl hx_20 (by decide) (lo2 := [(5, .int x_20), (3, .int x_16), (4, .int x_13), (6, .int x_12), (0, .ref x), (1, .int v_2), (2, .int v_3)]) rfl ?_
              refine g_goto C (tgt := 8) dX8_stepsBetween_64 (by decide) ?_
              refine g_lo (is := [4, 5, 6, 1, 2, 0]) (lo2 := [(0, .ref x), (1, .int v_2), (2, .int v_3), (3, .int x_16), (4, .int x_13), (5, .int x_20)]) rfl ?_
              exact ih_8 v_2 (rv_2) v_3 (rv_3) x_16 (r_19) (n_18) x_13 (rx_13) x_20 (rg_w rx_20 (by decide) (by decide)) (ms_1 hm_7 (ti_k tx_20 rc_1) (by decide))
            · skip
              have r_21 := (⟨(rx_16).1, (eq_rg (h_17) rc_m1).2⟩ : Rg (-1) (-1) x_16)
              refine g_iconst C (v := (-1)) dX8_stepsBetween_59 (by decide) ?_
              exact g_zret (ty := .int) (r := (-1)) B K rfl (rfl) ⟨rfl, rfl, rg_w rc_m1 (by decide) (by decide)⟩ dX8_stepsBetween_60
  refine g_iload_n C 1 dX8_stepsBetween_0 rfl rfl ?_
  refine g_istore_n C dX8_stepsBetween_1 rfl (by decide) (lo2 := [(3, .int a0), (0, .ref x), (1, .int a0), (2, .int a1)]) rfl ?_
  refine g_iload_n C 3 dX8_stepsBetween_2 rfl rfl ?_
  refine g_istore C dX8_stepsBetween_3 (by decide) (lo2 := [(4, .int a1), (3, .int a0), (0, .ref x), (1, .int a0), (2, .int a1)]) rfl ?_
  refine g_iconst C (v := 0) dX8_stepsBetween_5 (by decide) ?_
  refine g_istore C dX8_stepsBetween_6 (by decide) (lo2 := [(5, .int 0), (4, .int a1), (3, .int a0), (0, .ref x), (1, .int a0), (2, .int a1)]) rfl ?_
  refine g_lo (is := [3, 4, 5, 2, 1, 0]) (lo2 := [(0, .ref x), (1, .int a0), (2, .int a1), (3, .int a0), (4, .int a1), (5, .int 0)]) rfl ?_
  exact l_8 15 a0 (ra0) a1 (ra1) a0 (ra0) (rg_nek ra0 rc_m1 (by decide)) a1 (ra1) 0 (rg_w rc_0 (by decide) (by decide)) (ms_s (a := 0) (b := 14) (N := 15) (rg_w rc_0 (by decide) (by decide)) (by decide))
set_option maxRecDepth 100000 in
set_option maxHeartbeats 8000000 in
theorem c_X11_kin {l : Launch} {D : va_G} {cy : Nat → ClassId} {L : List Nat} {κ ln : Nat → Nat} {R : Nat → Nat → Option Nat} {I : Nat → Nat → Int32} {J : Nat → Nat → Int64} {ow : Nat → Nat × Nat} (W9 : ∀ a ∈ L, Shp L κ ln R ow a) {x : Nat} (hLx : x ∈ L) (hkx : κ x = 11) (a0 : Int32) (a1 : Int32) (hU : Iv L κ R ow I) : CtI l yX11_kin cX11_kin 3 (some .int) { frames := 2, cells := 0, slots := 0, locals := 86 } D cy L κ ln R I J [.ref x, .int a0, .int a1] (fun r I2 J2 => I = I2 ∧ J = J2 ∧ Rg (-1) 14 r) := by
  refine CtI.of (by decide +kernel) (Nat.le_of_ble_eq_true rfl) ?_
  intro p e s m below meth c B K
  have C := B.1
  obtain ⟨b_1, hb_1, hb_1L, hb_1k⟩ := shp_o (W9 x hLx) hkx 1 8 rfl (by decide)
  refine g_lo (is := [0, 1, 2]) (lo2 := [(0, .ref x), (1, .int a0), (2, .int a1)]) rfl ?_
  refine g_aload_n C 0 dX11_kin_0 rfl rfl ?_
  refine g_getR C K hLx hkx f_11_19 hb_1 dX11_kin_1 ?_
  refine g_iload_n C 1 dX11_kin_4 rfl rfl ?_
  refine g_callVI C K (c_X8_hasPerson W9 hb_1L hb_1k a0  hU) hb_1L hb_1k (by decide) rfl v_11_133 rfl ⟨rfl, rfl⟩ ⟨Nat.le_of_ble_eq_true rfl, Nat.le_of_ble_eq_true rfl⟩ (Nat.le_of_ble_eq_true rfl) ⟨Nat.le_of_ble_eq_true rfl, Nat.le_of_ble_eq_true rfl⟩ dX11_kin_5 rfl (st := []) (fun x_2 I_3 J_4 h_5 => ?_)
  obtain ⟨rfl, rfl, rx_2, ex_2⟩ := h_5
  refine g_if_eq C (tgt := 34) dX11_kin_8 (by decide) (fun h_6 => ?_) (fun h_6 => ?_)
  · skip
    have r_7 := (⟨(rx_2).1, (eq_rg (h_6) rc_0).2⟩ : Rg 0 0 x_2)
    refine g_iconst C (v := (-1)) dX11_kin_34 (by decide) ?_
    exact g_zret (ty := .int) (r := (-1)) B K rfl (rfl) ⟨rfl, rfl, rg_w rc_m1 (by decide) (by decide)⟩ dX11_kin_35
  · skip
    have n_8 : ¬ x_2 = 0 := h_6
    have r_9 := ne_lo (lo := 1) n_8 rx_2 rc_0 rfl (by decide)
    have r_10 := rg_i (rg_all a0) ((ex_2) n_8) (lo := 0) (hi := 6) (by decide) (by decide)
    refine g_aload_n C 0 dX11_kin_11 rfl rfl ?_
    refine g_getR C K hLx hkx f_11_19 hb_1 dX11_kin_12 ?_
    refine g_iload_n C 2 dX11_kin_15 rfl rfl ?_
    refine g_callVI C K (c_X8_hasPerson W9 hb_1L hb_1k a1  hU) hb_1L hb_1k (by decide) rfl v_11_133 rfl ⟨rfl, rfl⟩ ⟨Nat.le_of_ble_eq_true rfl, Nat.le_of_ble_eq_true rfl⟩ (Nat.le_of_ble_eq_true rfl) ⟨Nat.le_of_ble_eq_true rfl, Nat.le_of_ble_eq_true rfl⟩ dX11_kin_16 rfl (st := []) (fun x_11 I_12 J_13 h_14 => ?_)
    obtain ⟨rfl, rfl, rx_11, ex_11⟩ := h_14
    refine g_if_eq C (tgt := 34) dX11_kin_19 (by decide) (fun h_15 => ?_) (fun h_15 => ?_)
    · skip
      have r_16 := (⟨(rx_11).1, (eq_rg (h_15) rc_0).2⟩ : Rg 0 0 x_11)
      refine g_iconst C (v := (-1)) dX11_kin_34 (by decide) ?_
      exact g_zret (ty := .int) (r := (-1)) B K rfl (rfl) ⟨rfl, rfl, rg_w rc_m1 (by decide) (by decide)⟩ dX11_kin_35
    · skip
      have n_17 : ¬ x_11 = 0 := h_15
      have r_18 := ne_lo (lo := 1) n_17 rx_11 rc_0 rfl (by decide)
      have r_19 := rg_i (rg_all a1) ((ex_11) n_17) (lo := 0) (hi := 6) (by decide) (by decide)
      refine g_aload_n C 0 dX11_kin_22 rfl rfl ?_
      refine g_getR C K hLx hkx f_11_19 hb_1 dX11_kin_23 ?_
      refine g_iload_n C 1 dX11_kin_26 rfl rfl ?_
      refine g_iload_n C 2 dX11_kin_27 rfl rfl ?_
      refine g_callVI C K (c_X8_stepsBetween W9 hb_1L hb_1k a0 a1 (r_10) (r_19) hU) hb_1L hb_1k (by decide) rfl v_11_298 rfl ⟨rfl, rfl⟩ ⟨Nat.le_of_ble_eq_true rfl, Nat.le_of_ble_eq_true rfl⟩ (Nat.le_of_ble_eq_true rfl) ⟨Nat.le_of_ble_eq_true rfl, Nat.le_of_ble_eq_true rfl⟩ dX11_kin_28 rfl (st := []) (fun x_20 I_21 J_22 h_23 => ?_)
      obtain ⟨rfl, rfl, rx_20⟩ := h_23
      refine g_goto C (tgt := 35) dX11_kin_31 (by decide) ?_
      exact g_zret (ty := .int) (r := x_20) B K rfl (rfl) ⟨rfl, rfl, rx_20⟩ dX11_kin_35
set_option maxRecDepth 100000 in
set_option maxHeartbeats 8000000 in
theorem c_X11_hungriest {l : Launch} {D : va_G} {cy : Nat → ClassId} {L : List Nat} {κ ln : Nat → Nat} {R : Nat → Nat → Option Nat} {I : Nat → Nat → Int32} {J : Nat → Nat → Int64} {ow : Nat → Nat × Nat} (W9 : ∀ a ∈ L, Shp L κ ln R ow a) {x : Nat} (hLx : x ∈ L) (hkx : κ x = 11) (hU : Iv L κ R ow I) : CtI l yX11_hungriest cX11_hungriest 3 (some .int) { frames := 1, cells := 0, slots := 0, locals := 21 } D cy L κ ln R I J [.ref x] (fun r I2 J2 => I = I2 ∧ J = J2 ∧ Rg (-1) 6 r) := by
  refine CtI.of (by decide +kernel) (Nat.le_of_ble_eq_true rfl) ?_
  intro p e s m below meth c B K
  have C := B.1
  obtain ⟨b_1, hb_1, hb_1L, hb_1k⟩ := shp_o (W9 x hLx) hkx 1 8 rfl (by decide)
  obtain ⟨b_2, hb_2, hb_2L, hb_2k⟩ := shp_o (W9 x hLx) hkx 2 1 rfl (by decide)
  obtain ⟨b_3, hb_3, hb_3L, hb_3k, hb_3n, hb_3o⟩ := shp_a (W9 b_2 hb_2L) hb_2k 6 14 7 rfl (by decide)
  refine g_lo (is := [0]) (lo2 := [(0, .ref x)]) rfl ?_
  have l_4 : ∀ (n_4 : Nat) (v_4 : Int32) (rv_4 : Rg (-1) 6 v_4) (v_5 : Int32) (rv_5 : Rg 0 7 v_5) (hm_6 : 7 < (v_5 : Int32).toInt + (n_4 : Int)), WG p l e { frames := 1, cells := 0, slots := 0, locals := 21 } s m ([.ref x] : List Value).toArray below meth c 3 0 0 (MQ below (Qi_ D cy L κ ln R (fun r I2 J2 => I = I2 ∧ J = J2 ∧ Rg (-1) 6 r)) ([.ref x] : List Value).toArray s 0 0 (Al_ L)) D cy (Al_ L) s.heap L κ ln R I J 4 [(0, .ref x), (1, .int v_4), (2, .int v_5)] [] := by
    intro n_4
    induction n_4 with
    | zero =>
      intro v_4 rv_4 v_5 rv_5 hm_6
      exact ms_0 rv_5 hm_6
    | succ n_4 ih_4 =>
      intro v_4 rv_4 v_5 rv_5 hm_6
      have j_54 : ∀ (v_7 : Int32) (rv_7 : Rg (-1) 6 v_7) (v_8 : Int32) (rv_8 : Rg 0 6 v_8) (v_9 : Int32) (rv_9 : Rg 1 7 v_9) (q_10 : I b_1 5 = v_9) (hm_11 : 7 < (v_8 : Int32).toInt + ((n_4 + 1 : Nat) : Int)), WG p l e { frames := 1, cells := 0, slots := 0, locals := 21 } s m ([.ref x] : List Value).toArray below meth c 3 0 0 (MQ below (Qi_ D cy L κ ln R (fun r I2 J2 => I = I2 ∧ J = J2 ∧ Rg (-1) 6 r)) ([.ref x] : List Value).toArray s 0 0 (Al_ L)) D cy (Al_ L) s.heap L κ ln R I J 54 [(0, .ref x), (1, .int v_7), (2, .int v_8)] [] := by
        intro v_7 rv_7 v_8 rv_8 v_9 rv_9 q_10 hm_11
        obtain ⟨x_12, hx_12, rx_12, tx_12⟩ := ex_add (y := 1) 1 7 rv_8 rc_1 (by decide) (by decide) (by decide) (by decide)
        refine g_iinc C dX11_hungriest_54 (k := 2) (v := x_12) rfl hx_12 (by decide) (lo2 := [(2, .int x_12), (0, .ref x), (1, .int v_7)]) rfl ?_
        refine g_goto C (tgt := 4) dX11_hungriest_57 (by decide) ?_
        refine g_lo (is := [1, 2, 0]) (lo2 := [(0, .ref x), (1, .int v_7), (2, .int x_12)]) rfl ?_
        exact ih_4 v_7 (rv_7) x_12 (rg_w rx_12 (by decide) (by decide)) (ms_1 hm_11 (ti_k tx_12 rc_1) (by decide))
      have j_52 : ∀ (v_13 : Int32) (rv_13 : Rg (-1) 6 v_13) (v_14 : Int32) (rv_14 : Rg 0 6 v_14) (v_15 : Int32) (rv_15 : Rg 1 7 v_15) (q_16 : I b_1 5 = v_15) (hm_17 : 7 < (v_14 : Int32).toInt + ((n_4 + 1 : Nat) : Int)), WG p l e { frames := 1, cells := 0, slots := 0, locals := 21 } s m ([.ref x] : List Value).toArray below meth c 3 0 0 (MQ below (Qi_ D cy L κ ln R (fun r I2 J2 => I = I2 ∧ J = J2 ∧ Rg (-1) 6 r)) ([.ref x] : List Value).toArray s 0 0 (Al_ L)) D cy (Al_ L) s.heap L κ ln R I J 52 [(0, .ref x), (1, .int v_13), (2, .int v_14)] [] := by
        intro v_13 rv_13 v_14 rv_14 v_15 rv_15 q_16 hm_17
        refine g_iload_n C 2 dX11_hungriest_52 rfl rfl ?_
        refine g_istore_n C dX11_hungriest_53 rfl (by decide) (lo2 := [(1, .int v_14), (0, .ref x), (2, .int v_14)]) rfl ?_
        refine g_lo (is := [1, 0, 2]) (lo2 := [(0, .ref x), (1, .int v_14), (2, .int v_14)]) rfl ?_
        exact j_54 v_14 (rg_w rv_14 (by decide) (by decide)) v_14 (rv_14) v_15 (rv_15) q_16 hm_17
      refine g_iload_n C 2 dX11_hungriest_4 rfl rfl ?_
      refine g_aload_n C 0 dX11_hungriest_5 rfl rfl ?_
      refine g_getR C K hLx hkx f_11_19 hb_1 dX11_hungriest_6 ?_
      obtain ⟨x_18, hx_18, rx_18⟩ := ex_get (I := I) (a := b_1) (j := 5) (lo := 0) (hi := 7) hU.1 hb_1L (ro_o hb_1k (by decide)) rfl
      refine g_getI C K hb_1L hb_1k f_11_213 (v := x_18) hx_18 dX11_hungriest_9 ?_
      refine g_icmp_ge C (tgt := 60) dX11_hungriest_12 (by decide) (fun h_19 => ?_) (fun h_19 => ?_)
      · skip
        refine g_iload_n C 1 dX11_hungriest_60 rfl rfl ?_
        exact g_zret (ty := .int) (r := v_4) B K rfl (rfl) ⟨rfl, rfl, rv_4⟩ dX11_hungriest_61
      · skip
        have r_20 := lt_l (hi := 6) (nle h_19) rv_5 rx_18 (by decide)
        have r_21 := lt_r (lo := 1) (nle h_19) rv_5 rx_18 (by decide)
        refine g_aload_n C 0 dX11_hungriest_15 rfl rfl ?_
        refine g_getR C K hLx hkx f_11_28 hb_2 dX11_hungriest_16 ?_
        refine g_iload_n C 2 dX11_hungriest_19 rfl rfl ?_
        refine g_callVI C K (c_X1_lives W9 hb_2L hb_2k v_5 (r_20) hU) hb_2L hb_2k (by decide) rfl v_11_301 rfl ⟨rfl, rfl⟩ ⟨Nat.le_of_ble_eq_true rfl, Nat.le_of_ble_eq_true rfl⟩ (Nat.le_of_ble_eq_true rfl) ⟨Nat.le_of_ble_eq_true rfl, Nat.le_of_ble_eq_true rfl⟩ dX11_hungriest_20 rfl (st := []) (fun x_22 I_23 J_24 h_25 => ?_)
        obtain ⟨rfl, rfl, rx_22⟩ := h_25
        refine g_if_eq C (tgt := 54) dX11_hungriest_23 (by decide) (fun h_26 => ?_) (fun h_26 => ?_)
        · skip
          have r_27 := (⟨(rx_22).1, (eq_rg (h_26) rc_0).2⟩ : Rg 0 0 x_22)
          refine g_lo (is := [0, 1, 2]) (lo2 := [(0, .ref x), (1, .int v_4), (2, .int v_5)]) rfl ?_
          exact j_54 v_4 (rv_4) v_5 (r_20) x_18 (r_21) hx_18 hm_6
        · skip
          have n_28 : ¬ x_22 = 0 := h_26
          have r_29 := ne_lo (lo := 1) n_28 rx_22 rc_0 rfl (by decide)
          refine g_iload_n C 1 dX11_hungriest_26 rfl rfl ?_
          refine g_iconst C (v := (-1)) dX11_hungriest_27 (by decide) ?_
          refine g_icmp_eq C (tgt := 52) dX11_hungriest_28 (by decide) (fun h_30 => ?_) (fun h_30 => ?_)
          · skip
            have r_31 := (⟨(rv_4).1, (eq_rg (h_30) rc_m1).2⟩ : Rg (-1) (-1) v_4)
            refine g_lo (is := [0, 1, 2]) (lo2 := [(0, .ref x), (1, .int v_4), (2, .int v_5)]) rfl ?_
            exact j_52 v_4 (rg_w r_31 (by decide) (by decide)) v_5 (r_20) x_18 (r_21) hx_18 hm_6
          · skip
            have n_32 : ¬ v_4 = (-1) := h_30
            have r_33 := ne_lo (lo := 0) n_32 rv_4 rc_m1 rfl (by decide)
            refine g_aload_n C 0 dX11_hungriest_31 rfl rfl ?_
            refine g_getR C K hLx hkx f_11_28 hb_2 dX11_hungriest_32 ?_
            refine g_getR C K hb_2L hb_2k f_11_163 hb_3 dX11_hungriest_35 ?_
            refine g_iload_n C 2 dX11_hungriest_38 rfl rfl ?_
            obtain ⟨x_34, hx_34, rx_34⟩ := ex_any (z0 := I b_3 (v_5.toNatClampNeg))
            refine h_iald C K hb_3L hb_3k (v := x_34) (v_5.toNatClampNeg) (rfl) (ix_0 r_20 (by decide)) (ix_lt r_20 (by decide) hb_3n (by decide)) hx_34 dX11_hungriest_39 ?_
            refine g_aload_n C 0 dX11_hungriest_40 rfl rfl ?_
            refine g_getR C K hLx hkx f_11_28 hb_2 dX11_hungriest_41 ?_
            refine g_getR C K hb_2L hb_2k f_11_163 hb_3 dX11_hungriest_44 ?_
            refine g_iload_n C 1 dX11_hungriest_47 rfl rfl ?_
            obtain ⟨x_35, hx_35, rx_35⟩ := ex_any (z0 := I b_3 (v_4.toNatClampNeg))
            refine h_iald C K hb_3L hb_3k (v := x_35) (v_4.toNatClampNeg) (rfl) (ix_0 r_33 (by decide)) (ix_lt r_33 (by decide) hb_3n (by decide)) hx_35 dX11_hungriest_48 ?_
            refine g_icmp_le C (tgt := 54) dX11_hungriest_49 (by decide) (fun h_36 => ?_) (fun h_36 => ?_)
            · skip
              refine g_lo (is := [0, 1, 2]) (lo2 := [(0, .ref x), (1, .int v_4), (2, .int v_5)]) rfl ?_
              exact j_54 v_4 (rg_w r_33 (by decide) (by decide)) v_5 (r_20) x_18 (r_21) hx_18 hm_6
            · skip
              have r_37 := lt_l (hi := 2147483646) (nle h_36) rx_35 rx_34 (by decide)
              have r_38 := lt_r (lo := (-2147483647)) (nle h_36) rx_35 rx_34 (by decide)
              refine g_lo (is := [0, 1, 2]) (lo2 := [(0, .ref x), (1, .int v_4), (2, .int v_5)]) rfl ?_
              exact j_52 v_4 (rg_w r_33 (by decide) (by decide)) v_5 (r_20) x_18 (r_21) hx_18 hm_6
  refine g_iconst C (v := (-1)) dX11_hungriest_0 (by decide) ?_
  refine g_istore_n C dX11_hungriest_1 rfl (by decide) (lo2 := [(1, .int (-1)), (0, .ref x)]) rfl ?_
  refine g_iconst C (v := 0) dX11_hungriest_2 (by decide) ?_
  refine g_istore_n C dX11_hungriest_3 rfl (by decide) (lo2 := [(2, .int 0), (1, .int (-1)), (0, .ref x)]) rfl ?_
  refine g_lo (is := [2, 1, 0]) (lo2 := [(0, .ref x), (1, .int (-1)), (2, .int 0)]) rfl ?_
  exact l_4 8 (-1) (rg_w rc_m1 (by decide) (by decide)) 0 (rg_w rc_0 (by decide) (by decide)) (ms_s (a := 0) (b := 7) (N := 8) (rg_w rc_0 (by decide) (by decide)) (by decide))
