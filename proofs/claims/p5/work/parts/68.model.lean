theorem dX12_last_0 : decode cX12_last 0 = .ok (.aload_n 0, 1) := by decide +kernel
theorem dX12_last_1 : decode cX12_last 1 = .ok (.iconst 0, 1) := by decide +kernel
theorem dX12_last_2 : decode cX12_last 2 = .ok (.putfield 82, 3) := by decide +kernel
theorem dX12_last_5 : decode cX12_last 5 = .ok (.aload_n 0, 1) := by decide +kernel
theorem dX12_last_6 : decode cX12_last 6 = .ok (.iload_n 1, 1) := by decide +kernel
theorem dX12_last_7 : decode cX12_last 7 = .ok (.invokevirtual 250, 3) := by decide +kernel
theorem dX12_last_10 : decode cX12_last 10 = .ok (.ifCond .ne 5, 3) := by decide +kernel
theorem dX12_last_13 : decode cX12_last 13 = .ok (.iconst (-1), 1) := by decide +kernel
theorem dX12_last_14 : decode cX12_last 14 = .ok (.ireturn, 1) := by decide +kernel
theorem dX12_last_15 : decode cX12_last 15 = .ok (.aload_n 0, 1) := by decide +kernel
theorem dX12_last_16 : decode cX12_last 16 = .ok (.getfield 13, 3) := by decide +kernel
theorem dX12_last_19 : decode cX12_last 19 = .ok (.bipush 78, 2) := by decide +kernel
theorem dX12_last_21 : decode cX12_last 21 = .ok (.iload_n 1, 1) := by decide +kernel
theorem dX12_last_22 : decode cX12_last 22 = .ok (.iadd, 1) := by decide +kernel
theorem dX12_last_23 : decode cX12_last 23 = .ok (.iaload, 1) := by decide +kernel
theorem dX12_last_24 : decode cX12_last 24 = .ok (.istore_n 2, 1) := by decide +kernel
theorem dX12_last_25 : decode cX12_last 25 = .ok (.aload_n 0, 1) := by decide +kernel
theorem dX12_last_26 : decode cX12_last 26 = .ok (.getfield 61, 3) := by decide +kernel
theorem dX12_last_29 : decode cX12_last 29 = .ok (.iconst 0, 1) := by decide +kernel
theorem dX12_last_30 : decode cX12_last 30 = .ok (.iconst 1, 1) := by decide +kernel
theorem dX12_last_31 : decode cX12_last 31 = .ok (.bastore, 1) := by decide +kernel
theorem dX12_last_32 : decode cX12_last 32 = .ok (.iconst 0, 1) := by decide +kernel
theorem dX12_last_33 : decode cX12_last 33 = .ok (.istore_n 3, 1) := by decide +kernel
theorem dX12_last_34 : decode cX12_last 34 = .ok (.iconst 1, 1) := by decide +kernel
theorem dX12_last_35 : decode cX12_last 35 = .ok (.istore 4, 2) := by decide +kernel
theorem dX12_last_37 : decode cX12_last 37 = .ok (.iload 4, 2) := by decide +kernel
theorem dX12_last_39 : decode cX12_last 39 = .ok (.iload_n 2, 1) := by decide +kernel
theorem dX12_last_40 : decode cX12_last 40 = .ok (.if_icmp .gt 65, 3) := by decide +kernel
theorem dX12_last_43 : decode cX12_last 43 = .ok (.aload_n 0, 1) := by decide +kernel
theorem dX12_last_44 : decode cX12_last 44 = .ok (.getfield 61, 3) := by decide +kernel
theorem dX12_last_47 : decode cX12_last 47 = .ok (.iload 4, 2) := by decide +kernel
theorem dX12_last_49 : decode cX12_last 49 = .ok (.iconst 0, 1) := by decide +kernel
theorem dX12_last_50 : decode cX12_last 50 = .ok (.bastore, 1) := by decide +kernel
theorem dX12_last_51 : decode cX12_last 51 = .ok (.iconst 0, 1) := by decide +kernel
theorem dX12_last_52 : decode cX12_last 52 = .ok (.istore_n 3, 1) := by decide +kernel
theorem dX12_last_53 : decode cX12_last 53 = .ok (.iconst 3, 1) := by decide +kernel
theorem dX12_last_54 : decode cX12_last 54 = .ok (.iload 4, 2) := by decide +kernel
theorem dX12_last_56 : decode cX12_last 56 = .ok (.invokestatic 265, 3) := by decide +kernel
theorem dX12_last_59 : decode cX12_last 59 = .ok (.istore 5, 2) := by decide +kernel
theorem dX12_last_61 : decode cX12_last 61 = .ok (.iload 5, 2) := by decide +kernel
theorem dX12_last_63 : decode cX12_last 63 = .ok (.ifCond .le 36, 3) := by decide +kernel
theorem dX12_last_66 : decode cX12_last 66 = .ok (.aload_n 0, 1) := by decide +kernel
theorem dX12_last_67 : decode cX12_last 67 = .ok (.getfield 61, 3) := by decide +kernel
theorem dX12_last_70 : decode cX12_last 70 = .ok (.iload 4, 2) := by decide +kernel
theorem dX12_last_72 : decode cX12_last 72 = .ok (.iload 5, 2) := by decide +kernel
theorem dX12_last_74 : decode cX12_last 74 = .ok (.isub, 1) := by decide +kernel
theorem dX12_last_75 : decode cX12_last 75 = .ok (.baload, 1) := by decide +kernel
theorem dX12_last_76 : decode cX12_last 76 = .ok (.ifCond .eq 6, 3) := by decide +kernel
theorem dX12_last_79 : decode cX12_last 79 = .ok (.goto 14, 3) := by decide +kernel
theorem dX12_last_82 : decode cX12_last 82 = .ok (.aload_n 0, 1) := by decide +kernel
theorem dX12_last_83 : decode cX12_last 83 = .ok (.getfield 61, 3) := by decide +kernel
theorem dX12_last_86 : decode cX12_last 86 = .ok (.iload 4, 2) := by decide +kernel
theorem dX12_last_88 : decode cX12_last 88 = .ok (.iconst 1, 1) := by decide +kernel
theorem dX12_last_89 : decode cX12_last 89 = .ok (.bastore, 1) := by decide +kernel
theorem dX12_last_90 : decode cX12_last 90 = .ok (.iload 5, 2) := by decide +kernel
theorem dX12_last_92 : decode cX12_last 92 = .ok (.istore_n 3, 1) := by decide +kernel
theorem dX12_last_93 : decode cX12_last 93 = .ok (.iinc 5 (-1), 3) := by decide +kernel
theorem dX12_last_96 : decode cX12_last 96 = .ok (.goto (-35), 3) := by decide +kernel
theorem dX12_last_99 : decode cX12_last 99 = .ok (.iinc 4 1, 3) := by decide +kernel
theorem dX12_last_102 : decode cX12_last 102 = .ok (.goto (-65), 3) := by decide +kernel
theorem dX12_last_105 : decode cX12_last 105 = .ok (.iload_n 3, 1) := by decide +kernel
theorem dX12_last_106 : decode cX12_last 106 = .ok (.ireturn, 1) := by decide +kernel
theorem dX12_layAside_0 : decode cX12_layAside 0 = .ok (.iconst 0, 1) := by decide +kernel
theorem dX12_layAside_1 : decode cX12_layAside 1 = .ok (.istore_n 1, 1) := by decide +kernel
theorem dX12_layAside_2 : decode cX12_layAside 2 = .ok (.iload_n 1, 1) := by decide +kernel
theorem dX12_layAside_3 : decode cX12_layAside 3 = .ok (.bipush 75, 2) := by decide +kernel
theorem dX12_layAside_5 : decode cX12_layAside 5 = .ok (.if_icmp .ge 24, 3) := by decide +kernel
theorem dX12_layAside_8 : decode cX12_layAside 8 = .ok (.aload_n 0, 1) := by decide +kernel
theorem dX12_layAside_9 : decode cX12_layAside 9 = .ok (.getfield 25, 3) := by decide +kernel
theorem dX12_layAside_12 : decode cX12_layAside 12 = .ok (.iload_n 1, 1) := by decide +kernel
theorem dX12_layAside_13 : decode cX12_layAside 13 = .ok (.aload_n 0, 1) := by decide +kernel
theorem dX12_layAside_14 : decode cX12_layAside 14 = .ok (.getfield 13, 3) := by decide +kernel
theorem dX12_layAside_17 : decode cX12_layAside 17 = .ok (.bipush 72, 2) := by decide +kernel
theorem dX12_layAside_19 : decode cX12_layAside 19 = .ok (.iload_n 1, 1) := by decide +kernel
theorem dX12_layAside_20 : decode cX12_layAside 20 = .ok (.iadd, 1) := by decide +kernel
theorem dX12_layAside_21 : decode cX12_layAside 21 = .ok (.iaload, 1) := by decide +kernel
theorem dX12_layAside_22 : decode cX12_layAside 22 = .ok (.iastore, 1) := by decide +kernel
theorem dX12_layAside_23 : decode cX12_layAside 23 = .ok (.iinc 1 1, 3) := by decide +kernel
theorem dX12_layAside_26 : decode cX12_layAside 26 = .ok (.goto (-24), 3) := by decide +kernel
theorem dX12_layAside_29 : decode cX12_layAside 29 = .ok (.return_, 1) := by decide +kernel
theorem dX12_left_0 : decode cX12_left 0 = .ok (.aload_n 0, 1) := by decide +kernel
theorem dX12_left_1 : decode cX12_left 1 = .ok (.iconst 0, 1) := by decide +kernel
theorem dX12_left_2 : decode cX12_left 2 = .ok (.putfield 82, 3) := by decide +kernel
theorem dX12_left_5 : decode cX12_left 5 = .ok (.aload_n 0, 1) := by decide +kernel
theorem dX12_left_6 : decode cX12_left 6 = .ok (.invokevirtual 162, 3) := by decide +kernel
theorem dX12_left_9 : decode cX12_left 9 = .ok (.istore_n 2, 1) := by decide +kernel
theorem dX12_left_10 : decode cX12_left 10 = .ok (.aload_n 0, 1) := by decide +kernel
theorem dX12_left_11 : decode cX12_left 11 = .ok (.iload_n 1, 1) := by decide +kernel
theorem dX12_left_12 : decode cX12_left 12 = .ok (.invokevirtual 238, 3) := by decide +kernel
theorem dX12_left_15 : decode cX12_left 15 = .ok (.ifCond .eq 13, 3) := by decide +kernel
theorem dX12_left_18 : decode cX12_left 18 = .ok (.iload_n 2, 1) := by decide +kernel
theorem dX12_left_19 : decode cX12_left 19 = .ok (.iconst 1, 1) := by decide +kernel
theorem dX12_left_20 : decode cX12_left 20 = .ok (.bipush 7, 2) := by decide +kernel
theorem dX12_left_22 : decode cX12_left 22 = .ok (.invokestatic 149, 3) := by decide +kernel
theorem dX12_left_25 : decode cX12_left 25 = .ok (.ifCond .ne 5, 3) := by decide +kernel
theorem dX12_left_28 : decode cX12_left 28 = .ok (.iconst (-1), 1) := by decide +kernel
theorem dX12_left_29 : decode cX12_left 29 = .ok (.ireturn, 1) := by decide +kernel
theorem dX12_left_30 : decode cX12_left 30 = .ok (.iconst 0, 1) := by decide +kernel
theorem dX12_left_31 : decode cX12_left 31 = .ok (.istore_n 3, 1) := by decide +kernel
theorem dX12_left_32 : decode cX12_left 32 = .ok (.iload_n 3, 1) := by decide +kernel
theorem dX12_left_33 : decode cX12_left 33 = .ok (.iload_n 2, 1) := by decide +kernel
theorem dX12_left_34 : decode cX12_left 34 = .ok (.if_icmp .ge 24, 3) := by decide +kernel
theorem dX12_left_37 : decode cX12_left 37 = .ok (.aload_n 0, 1) := by decide +kernel
theorem dX12_left_38 : decode cX12_left 38 = .ok (.aload_n 0, 1) := by decide +kernel
theorem dX12_left_39 : decode cX12_left 39 = .ok (.getfield 7, 3) := by decide +kernel
theorem dX12_left_42 : decode cX12_left 42 = .ok (.iload_n 3, 1) := by decide +kernel
theorem dX12_left_43 : decode cX12_left 43 = .ok (.iaload, 1) := by decide +kernel
theorem dX12_left_44 : decode cX12_left 44 = .ok (.invokevirtual 238, 3) := by decide +kernel
theorem dX12_left_47 : decode cX12_left 47 = .ok (.ifCond .ne 5, 3) := by decide +kernel
theorem dX12_left_50 : decode cX12_left 50 = .ok (.iconst (-1), 1) := by decide +kernel
theorem dX12_left_51 : decode cX12_left 51 = .ok (.ireturn, 1) := by decide +kernel
theorem dX12_left_52 : decode cX12_left 52 = .ok (.iinc 3 1, 3) := by decide +kernel
theorem dX12_left_55 : decode cX12_left 55 = .ok (.goto (-23), 3) := by decide +kernel
theorem dX12_left_58 : decode cX12_left 58 = .ok (.aload_n 0, 1) := by decide +kernel
theorem dX12_left_59 : decode cX12_left 59 = .ok (.invokevirtual 329, 3) := by decide +kernel
theorem dX12_left_62 : decode cX12_left 62 = .ok (.iconst 0, 1) := by decide +kernel
theorem dX12_left_63 : decode cX12_left 63 = .ok (.istore_n 3, 1) := by decide +kernel
theorem dX12_left_64 : decode cX12_left 64 = .ok (.iload_n 3, 1) := by decide +kernel
theorem dX12_left_65 : decode cX12_left 65 = .ok (.iload_n 2, 1) := by decide +kernel
theorem dX12_left_66 : decode cX12_left 66 = .ok (.if_icmp .ge 35, 3) := by decide +kernel
theorem dX12_left_69 : decode cX12_left 69 = .ok (.aload_n 0, 1) := by decide +kernel
theorem dX12_left_70 : decode cX12_left 70 = .ok (.aload_n 0, 1) := by decide +kernel
theorem dX12_left_71 : decode cX12_left 71 = .ok (.getfield 7, 3) := by decide +kernel
theorem dX12_left_74 : decode cX12_left 74 = .ok (.iload_n 3, 1) := by decide +kernel
theorem dX12_left_75 : decode cX12_left 75 = .ok (.iaload, 1) := by decide +kernel
theorem dX12_left_76 : decode cX12_left 76 = .ok (.invokevirtual 244, 3) := by decide +kernel
theorem dX12_left_79 : decode cX12_left 79 = .ok (.ifCond .ne 16, 3) := by decide +kernel
theorem dX12_left_82 : decode cX12_left 82 = .ok (.aload_n 0, 1) := by decide +kernel
theorem dX12_left_83 : decode cX12_left 83 = .ok (.iconst 5, 1) := by decide +kernel
theorem dX12_left_84 : decode cX12_left 84 = .ok (.aload_n 0, 1) := by decide +kernel
theorem dX12_left_85 : decode cX12_left 85 = .ok (.getfield 7, 3) := by decide +kernel
theorem dX12_left_88 : decode cX12_left 88 = .ok (.iload_n 3, 1) := by decide +kernel
theorem dX12_left_89 : decode cX12_left 89 = .ok (.iaload, 1) := by decide +kernel
theorem dX12_left_90 : decode cX12_left 90 = .ok (.iconst 0, 1) := by decide +kernel
theorem dX12_left_91 : decode cX12_left 91 = .ok (.iconst 0, 1) := by decide +kernel
theorem dX12_left_92 : decode cX12_left 92 = .ok (.invokevirtual 285, 3) := by decide +kernel
theorem dX12_left_95 : decode cX12_left 95 = .ok (.iinc 3 1, 3) := by decide +kernel
theorem dX12_left_98 : decode cX12_left 98 = .ok (.goto (-34), 3) := by decide +kernel
theorem dX12_left_101 : decode cX12_left 101 = .ok (.aload_n 0, 1) := by decide +kernel
theorem dX12_left_102 : decode cX12_left 102 = .ok (.iload_n 1, 1) := by decide +kernel
theorem dX12_left_103 : decode cX12_left 103 = .ok (.invokevirtual 247, 3) := by decide +kernel
theorem dX12_left_106 : decode cX12_left 106 = .ok (.istore_n 3, 1) := by decide +kernel
theorem dX12_left_107 : decode cX12_left 107 = .ok (.aload_n 0, 1) := by decide +kernel
theorem dX12_left_108 : decode cX12_left 108 = .ok (.invokevirtual 332, 3) := by decide +kernel
theorem dX12_left_111 : decode cX12_left 111 = .ok (.iload_n 3, 1) := by decide +kernel
theorem dX12_left_112 : decode cX12_left 112 = .ok (.ireturn, 1) := by decide +kernel
theorem dX12_seatAt_0 : decode cX12_seatAt 0 = .ok (.aload_n 0, 1) := by decide +kernel
theorem dX12_seatAt_1 : decode cX12_seatAt 1 = .ok (.iconst 0, 1) := by decide +kernel
theorem dX12_seatAt_2 : decode cX12_seatAt 2 = .ok (.putfield 82, 3) := by decide +kernel
theorem dX12_seatAt_5 : decode cX12_seatAt 5 = .ok (.iload_n 1, 1) := by decide +kernel
theorem dX12_seatAt_6 : decode cX12_seatAt 6 = .ok (.iconst 0, 1) := by decide +kernel
theorem dX12_seatAt_7 : decode cX12_seatAt 7 = .ok (.aload_n 0, 1) := by decide +kernel
theorem dX12_seatAt_8 : decode cX12_seatAt 8 = .ok (.getfield 326, 3) := by decide +kernel
theorem dX12_seatAt_11 : decode cX12_seatAt 11 = .ok (.iconst 1, 1) := by decide +kernel
theorem dX12_seatAt_12 : decode cX12_seatAt 12 = .ok (.isub, 1) := by decide +kernel
theorem dX12_seatAt_13 : decode cX12_seatAt 13 = .ok (.invokestatic 149, 3) := by decide +kernel
theorem dX12_seatAt_16 : decode cX12_seatAt 16 = .ok (.ifCond .eq 12, 3) := by decide +kernel
theorem dX12_seatAt_19 : decode cX12_seatAt 19 = .ok (.aload_n 0, 1) := by decide +kernel
theorem dX12_seatAt_20 : decode cX12_seatAt 20 = .ok (.getfield 67, 3) := by decide +kernel
theorem dX12_seatAt_23 : decode cX12_seatAt 23 = .ok (.iload_n 1, 1) := by decide +kernel
theorem dX12_seatAt_24 : decode cX12_seatAt 24 = .ok (.iaload, 1) := by decide +kernel
theorem dX12_seatAt_25 : decode cX12_seatAt 25 = .ok (.goto 4, 3) := by decide +kernel
theorem dX12_seatAt_28 : decode cX12_seatAt 28 = .ok (.iconst (-1), 1) := by decide +kernel
theorem dX12_seatAt_29 : decode cX12_seatAt 29 = .ok (.ireturn, 1) := by decide +kernel
theorem dX12_seatFrom_0 : decode cX12_seatFrom 0 = .ok (.iload_n 2, 1) := by decide +kernel
theorem dX12_seatFrom_1 : decode cX12_seatFrom 1 = .ok (.ifCond .ne 47, 3) := by decide +kernel
theorem dX12_seatFrom_4 : decode cX12_seatFrom 4 = .ok (.iload_n 3, 1) := by decide +kernel
theorem dX12_seatFrom_5 : decode cX12_seatFrom 5 = .ok (.aload_n 0, 1) := by decide +kernel
theorem dX12_seatFrom_6 : decode cX12_seatFrom 6 = .ok (.getfield 320, 3) := by decide +kernel
theorem dX12_seatFrom_9 : decode cX12_seatFrom 9 = .ok (.if_icmp .gt 4, 3) := by decide +kernel
theorem dX12_seatFrom_12 : decode cX12_seatFrom 12 = .ok (.return_, 1) := by decide +kernel
theorem dX12_seatFrom_13 : decode cX12_seatFrom 13 = .ok (.aload_n 0, 1) := by decide +kernel
theorem dX12_seatFrom_14 : decode cX12_seatFrom 14 = .ok (.iload_n 3, 1) := by decide +kernel
theorem dX12_seatFrom_15 : decode cX12_seatFrom 15 = .ok (.putfield 320, 3) := by decide +kernel
theorem dX12_seatFrom_18 : decode cX12_seatFrom 18 = .ok (.iconst 0, 1) := by decide +kernel
theorem dX12_seatFrom_19 : decode cX12_seatFrom 19 = .ok (.istore 4, 2) := by decide +kernel
theorem dX12_seatFrom_21 : decode cX12_seatFrom 21 = .ok (.iload 4, 2) := by decide +kernel
theorem dX12_seatFrom_23 : decode cX12_seatFrom 23 = .ok (.iload_n 1, 1) := by decide +kernel
theorem dX12_seatFrom_24 : decode cX12_seatFrom 24 = .ok (.if_icmp .ge 23, 3) := by decide +kernel
theorem dX12_seatFrom_27 : decode cX12_seatFrom 27 = .ok (.aload_n 0, 1) := by decide +kernel
theorem dX12_seatFrom_28 : decode cX12_seatFrom 28 = .ok (.getfield 67, 3) := by decide +kernel
theorem dX12_seatFrom_31 : decode cX12_seatFrom 31 = .ok (.iload 4, 2) := by decide +kernel
theorem dX12_seatFrom_33 : decode cX12_seatFrom 33 = .ok (.aload_n 0, 1) := by decide +kernel
theorem dX12_seatFrom_34 : decode cX12_seatFrom 34 = .ok (.getfield 64, 3) := by decide +kernel
theorem dX12_seatFrom_37 : decode cX12_seatFrom 37 = .ok (.iload 4, 2) := by decide +kernel
theorem dX12_seatFrom_39 : decode cX12_seatFrom 39 = .ok (.iaload, 1) := by decide +kernel
theorem dX12_seatFrom_40 : decode cX12_seatFrom 40 = .ok (.iastore, 1) := by decide +kernel
theorem dX12_seatFrom_41 : decode cX12_seatFrom 41 = .ok (.iinc 4 1, 3) := by decide +kernel
theorem dX12_seatFrom_44 : decode cX12_seatFrom 44 = .ok (.goto (-23), 3) := by decide +kernel
theorem dX12_seatFrom_47 : decode cX12_seatFrom 47 = .ok (.return_, 1) := by decide +kernel
theorem dX12_seatFrom_48 : decode cX12_seatFrom 48 = .ok (.iconst 0, 1) := by decide +kernel
theorem dX12_seatFrom_49 : decode cX12_seatFrom 49 = .ok (.istore 4, 2) := by decide +kernel
theorem dX12_seatFrom_51 : decode cX12_seatFrom 51 = .ok (.iload 4, 2) := by decide +kernel
theorem dX12_seatFrom_53 : decode cX12_seatFrom 53 = .ok (.aload_n 0, 1) := by decide +kernel
theorem dX12_seatFrom_54 : decode cX12_seatFrom 54 = .ok (.getfield 13, 3) := by decide +kernel
theorem dX12_seatFrom_57 : decode cX12_seatFrom 57 = .ok (.iconst 0, 1) := by decide +kernel
theorem dX12_seatFrom_58 : decode cX12_seatFrom 58 = .ok (.iaload, 1) := by decide +kernel
theorem dX12_seatFrom_59 : decode cX12_seatFrom 59 = .ok (.if_icmp .ge 76, 3) := by decide +kernel
theorem dX12_seatFrom_62 : decode cX12_seatFrom 62 = .ok (.iload_n 2, 1) := by decide +kernel
theorem dX12_seatFrom_63 : decode cX12_seatFrom 63 = .ok (.iload 4, 2) := by decide +kernel
theorem dX12_seatFrom_65 : decode cX12_seatFrom 65 = .ok (.invokestatic 231, 3) := by decide +kernel
theorem dX12_seatFrom_68 : decode cX12_seatFrom 68 = .ok (.ifCond .ne 6, 3) := by decide +kernel
theorem dX12_seatFrom_71 : decode cX12_seatFrom 71 = .ok (.goto 58, 3) := by decide +kernel
theorem dX12_seatFrom_74 : decode cX12_seatFrom 74 = .ok (.aload_n 0, 1) := by decide +kernel
theorem dX12_seatFrom_75 : decode cX12_seatFrom 75 = .ok (.getfield 64, 3) := by decide +kernel
theorem dX12_seatFrom_78 : decode cX12_seatFrom 78 = .ok (.iload_n 1, 1) := by decide +kernel
theorem dX12_seatFrom_79 : decode cX12_seatFrom 79 = .ok (.iload 4, 2) := by decide +kernel
theorem dX12_seatFrom_81 : decode cX12_seatFrom 81 = .ok (.iastore, 1) := by decide +kernel
theorem dX12_seatFrom_82 : decode cX12_seatFrom 82 = .ok (.aload_n 0, 1) := by decide +kernel
theorem dX12_seatFrom_83 : decode cX12_seatFrom 83 = .ok (.iload_n 1, 1) := by decide +kernel
theorem dX12_seatFrom_84 : decode cX12_seatFrom 84 = .ok (.iconst 1, 1) := by decide +kernel
theorem dX12_seatFrom_85 : decode cX12_seatFrom 85 = .ok (.iadd, 1) := by decide +kernel
theorem dX12_seatFrom_86 : decode cX12_seatFrom 86 = .ok (.iload_n 2, 1) := by decide +kernel
theorem dX12_seatFrom_87 : decode cX12_seatFrom 87 = .ok (.iconst 1, 1) := by decide +kernel
theorem dX12_seatFrom_88 : decode cX12_seatFrom 88 = .ok (.iload 4, 2) := by decide +kernel
theorem dX12_seatFrom_90 : decode cX12_seatFrom 90 = .ok (.ishl, 1) := by decide +kernel
theorem dX12_seatFrom_91 : decode cX12_seatFrom 91 = .ok (.iconst (-1), 1) := by decide +kernel
theorem dX12_seatFrom_92 : decode cX12_seatFrom 92 = .ok (.ixor, 1) := by decide +kernel
theorem dX12_seatFrom_93 : decode cX12_seatFrom 93 = .ok (.iand, 1) := by decide +kernel
theorem dX12_seatFrom_94 : decode cX12_seatFrom 94 = .ok (.iload_n 1, 1) := by decide +kernel
theorem dX12_seatFrom_95 : decode cX12_seatFrom 95 = .ok (.ifCond .le 30, 3) := by decide +kernel
theorem dX12_seatFrom_98 : decode cX12_seatFrom 98 = .ok (.aload_n 0, 1) := by decide +kernel
theorem dX12_seatFrom_99 : decode cX12_seatFrom 99 = .ok (.getfield 13, 3) := by decide +kernel
theorem dX12_seatFrom_102 : decode cX12_seatFrom 102 = .ok (.bipush 11, 2) := by decide +kernel
theorem dX12_seatFrom_104 : decode cX12_seatFrom 104 = .ok (.iload 4, 2) := by decide +kernel
theorem dX12_seatFrom_106 : decode cX12_seatFrom 106 = .ok (.iadd, 1) := by decide +kernel
theorem dX12_seatFrom_107 : decode cX12_seatFrom 107 = .ok (.iaload, 1) := by decide +kernel
theorem dX12_seatFrom_108 : decode cX12_seatFrom 108 = .ok (.aload_n 0, 1) := by decide +kernel
theorem dX12_seatFrom_109 : decode cX12_seatFrom 109 = .ok (.getfield 64, 3) := by decide +kernel
theorem dX12_seatFrom_112 : decode cX12_seatFrom 112 = .ok (.iload_n 1, 1) := by decide +kernel
theorem dX12_seatFrom_113 : decode cX12_seatFrom 113 = .ok (.iconst 1, 1) := by decide +kernel
theorem dX12_seatFrom_114 : decode cX12_seatFrom 114 = .ok (.isub, 1) := by decide +kernel
theorem dX12_seatFrom_115 : decode cX12_seatFrom 115 = .ok (.iaload, 1) := by decide +kernel
theorem dX12_seatFrom_116 : decode cX12_seatFrom 116 = .ok (.if_icmp .ne 9, 3) := by decide +kernel
theorem dX12_seatFrom_119 : decode cX12_seatFrom 119 = .ok (.iload_n 3, 1) := by decide +kernel
theorem dX12_seatFrom_120 : decode cX12_seatFrom 120 = .ok (.iconst 1, 1) := by decide +kernel
theorem dX12_seatFrom_121 : decode cX12_seatFrom 121 = .ok (.iadd, 1) := by decide +kernel
theorem dX12_seatFrom_122 : decode cX12_seatFrom 122 = .ok (.goto 4, 3) := by decide +kernel
theorem dX12_seatFrom_125 : decode cX12_seatFrom 125 = .ok (.iload_n 3, 1) := by decide +kernel
theorem dX12_seatFrom_126 : decode cX12_seatFrom 126 = .ok (.invokevirtual 323, 3) := by decide +kernel
theorem dX12_seatFrom_129 : decode cX12_seatFrom 129 = .ok (.iinc 4 1, 3) := by decide +kernel
theorem dX12_seatFrom_132 : decode cX12_seatFrom 132 = .ok (.goto (-81), 3) := by decide +kernel
theorem dX12_seatFrom_135 : decode cX12_seatFrom 135 = .ok (.return_, 1) := by decide +kernel
theorem dX12_seats_0 : decode cX12_seats 0 = .ok (.aload_n 0, 1) := by decide +kernel
theorem dX12_seats_1 : decode cX12_seats 1 = .ok (.iconst 0, 1) := by decide +kernel
theorem dX12_seats_2 : decode cX12_seats 2 = .ok (.putfield 82, 3) := by decide +kernel
theorem dX12_seats_5 : decode cX12_seats 5 = .ok (.aload_n 0, 1) := by decide +kernel
theorem dX12_seats_6 : decode cX12_seats 6 = .ok (.iconst (-1), 1) := by decide +kernel
theorem dX12_seats_7 : decode cX12_seats 7 = .ok (.putfield 320, 3) := by decide +kernel
theorem dX12_seats_10 : decode cX12_seats 10 = .ok (.aload_n 0, 1) := by decide +kernel
theorem dX12_seats_11 : decode cX12_seats 11 = .ok (.aload_n 0, 1) := by decide +kernel
theorem dX12_seats_12 : decode cX12_seats 12 = .ok (.invokevirtual 309, 3) := by decide +kernel
theorem dX12_seats_15 : decode cX12_seats 15 = .ok (.invokestatic 312, 3) := by decide +kernel
theorem dX12_seats_18 : decode cX12_seats 18 = .ok (.putfield 326, 3) := by decide +kernel
theorem dX12_seats_21 : decode cX12_seats 21 = .ok (.aload_n 0, 1) := by decide +kernel
theorem dX12_seats_22 : decode cX12_seats 22 = .ok (.iconst 0, 1) := by decide +kernel
theorem dX12_seats_23 : decode cX12_seats 23 = .ok (.aload_n 0, 1) := by decide +kernel
theorem dX12_seats_24 : decode cX12_seats 24 = .ok (.invokevirtual 309, 3) := by decide +kernel
theorem dX12_seats_27 : decode cX12_seats 27 = .ok (.iconst 0, 1) := by decide +kernel
theorem dX12_seats_28 : decode cX12_seats 28 = .ok (.invokevirtual 323, 3) := by decide +kernel
theorem dX12_seats_31 : decode cX12_seats 31 = .ok (.aload_n 0, 1) := by decide +kernel
theorem dX12_seats_32 : decode cX12_seats 32 = .ok (.getfield 320, 3) := by decide +kernel
theorem dX12_seats_35 : decode cX12_seats 35 = .ok (.ireturn, 1) := by decide +kernel
theorem dX12_takeBack_0 : decode cX12_takeBack 0 = .ok (.iconst 0, 1) := by decide +kernel
theorem dX12_takeBack_1 : decode cX12_takeBack 1 = .ok (.istore_n 1, 1) := by decide +kernel
theorem dX12_takeBack_2 : decode cX12_takeBack 2 = .ok (.iload_n 1, 1) := by decide +kernel
theorem dX12_takeBack_3 : decode cX12_takeBack 3 = .ok (.bipush 75, 2) := by decide +kernel
theorem dX12_takeBack_5 : decode cX12_takeBack 5 = .ok (.if_icmp .ge 24, 3) := by decide +kernel
theorem dX12_takeBack_8 : decode cX12_takeBack 8 = .ok (.aload_n 0, 1) := by decide +kernel
theorem dX12_takeBack_9 : decode cX12_takeBack 9 = .ok (.getfield 13, 3) := by decide +kernel
theorem dX12_takeBack_12 : decode cX12_takeBack 12 = .ok (.bipush 72, 2) := by decide +kernel
theorem dX12_takeBack_14 : decode cX12_takeBack 14 = .ok (.iload_n 1, 1) := by decide +kernel
theorem dX12_takeBack_15 : decode cX12_takeBack 15 = .ok (.iadd, 1) := by decide +kernel
theorem dX12_takeBack_16 : decode cX12_takeBack 16 = .ok (.aload_n 0, 1) := by decide +kernel
theorem dX12_takeBack_17 : decode cX12_takeBack 17 = .ok (.getfield 25, 3) := by decide +kernel
theorem dX12_takeBack_20 : decode cX12_takeBack 20 = .ok (.iload_n 1, 1) := by decide +kernel
theorem dX12_takeBack_21 : decode cX12_takeBack 21 = .ok (.iaload, 1) := by decide +kernel
theorem dX12_takeBack_22 : decode cX12_takeBack 22 = .ok (.iastore, 1) := by decide +kernel
theorem dX12_takeBack_23 : decode cX12_takeBack 23 = .ok (.iinc 1 1, 3) := by decide +kernel
theorem dX12_takeBack_26 : decode cX12_takeBack 26 = .ok (.goto (-24), 3) := by decide +kernel
theorem dX12_takeBack_29 : decode cX12_takeBack 29 = .ok (.return_, 1) := by decide +kernel
set_option maxRecDepth 100000 in
set_option maxHeartbeats 8000000 in
theorem c_X12_last {l : Launch} {D : va_G} {cy : Nat → ClassId} {L : List Nat} {κ ln : Nat → Nat} {R : Nat → Nat → Option Nat} {I : Nat → Nat → Int32} {J : Nat → Nat → Int64} {ow : Nat → Nat × Nat} (W9 : ∀ a ∈ L, Shp L κ ln R ow a) {x : Nat} (hLx : x ∈ L) (hkx : κ x = 12) (a0 : Int32) (hU : Iw L κ R ow I) : CtI l yX12_last cX12_last 6 (some .int) { frames := 2, cells := 0, slots := 0, locals := 43 } D cy L κ ln R I J [.ref x, .int a0] (fun r I2 J2 => Iw L κ R ow I2 ∧ Fq L κ ow [1200, 85400] I I2 ∧ Fq L κ ow [] J J2 ∧ Rg (-1) 3 r) := by
  refine CtI.of (by decide +kernel) (Nat.le_of_ble_eq_true rfl) ?_
  intro p e s m below meth c B K
  have C := B.1
  have hF : Fq L κ ow [1200, 85400] I I := fq_rf
  have hG : Fq L κ ow [] J J := fq_rf
  obtain ⟨b_1, hb_1, hb_1L, hb_1k, hb_1n, hb_1o⟩ := shp_a (W9 x hLx) hkx 34 16 500 rfl (by decide)
  obtain ⟨b_2, hb_2, hb_2L, hb_2k, hb_2n, hb_2o⟩ := shp_a (W9 x hLx) hkx 14 14 389 rfl (by decide)
  refine g_lo (is := [0, 1]) (lo2 := [(0, .ref x), (1, .int a0)]) rfl ?_
  have l_37 : ∀ (n_37 : Nat) (I_3 : Nat → Nat → Int32) (J_4 : Nat → Nat → Int64) (hU_5 : Iw L κ R ow I_3) (hF_6 : Fq L κ ow [1200, 85400] I I_3) (hG_7 : Fq L κ ow [] J J_4) (r_8 : Rg 0 5 a0) (v_9 : Int32) (rv_9 : Rg 0 379 v_9) (v_10 : Int32) (rv_10 : Rg 0 3 v_10) (v_11 : Int32) (rv_11 : Rg 1 389 v_11) (q_12 : I_3 x 0 = 0) (hm_13 : 389 < (v_11 : Int32).toInt + (n_37 : Int)), WG p l e { frames := 2, cells := 0, slots := 0, locals := 43 } s m ([.ref x, .int a0] : List Value).toArray below meth c 6 0 0 (MQ below (Qi_ D cy L κ ln R (fun r I2 J2 => Iw L κ R ow I2 ∧ Fq L κ ow [1200, 85400] I I2 ∧ Fq L κ ow [] J J2 ∧ Rg (-1) 3 r)) ([.ref x, .int a0] : List Value).toArray s 0 0 (Al_ L)) D cy (Al_ L) s.heap L κ ln R I_3 J_4 37 [(0, .ref x), (1, .int a0), (2, .int v_9), (3, .int v_10), (4, .int v_11)] [] := by
    intro n_37
    induction n_37 with
    | zero =>
      intro I_3 J_4 hU_5 hF_6 hG_7 r_8 v_9 rv_9 v_10 rv_10 v_11 rv_11 q_12 hm_13
      exact ms_0 rv_11 hm_13
    | succ n_37 ih_37 =>
      intro I_3 J_4 hU_5 hF_6 hG_7 r_8 v_9 rv_9 v_10 rv_10 v_11 rv_11 q_12 hm_13
      have l_61 : ∀ (n_61 : Nat) (I_14 : Nat → Nat → Int32) (J_15 : Nat → Nat → Int64) (hU_16 : Iw L κ R ow I_14) (hF_17 : Fq L κ ow [1200, 85400] I I_14) (hG_18 : Fq L κ ow [] J J_15) (r_19 : Rg 0 5 a0) (v_20 : Int32) (rv_20 : Rg 1 379 v_20) (v_21 : Int32) (rv_21 : Rg 0 3 v_21) (v_22 : Int32) (rv_22 : Rg 1 388 v_22) (v_23 : Int32) (rv_23 : Rg 0 3 v_23) (q_24 : I_14 x 0 = 0) (hm_25 : 389 < (v_22 : Int32).toInt + ((n_37 + 1 : Nat) : Int)) (hj_26 : v_23 ≤ v_22) (hm_27 : (v_23 : Int32).toInt - 0 < (n_61 : Int)), WG p l e { frames := 2, cells := 0, slots := 0, locals := 43 } s m ([.ref x, .int a0] : List Value).toArray below meth c 6 0 0 (MQ below (Qi_ D cy L κ ln R (fun r I2 J2 => Iw L κ R ow I2 ∧ Fq L κ ow [1200, 85400] I I2 ∧ Fq L κ ow [] J J2 ∧ Rg (-1) 3 r)) ([.ref x, .int a0] : List Value).toArray s 0 0 (Al_ L)) D cy (Al_ L) s.heap L κ ln R I_14 J_15 61 [(0, .ref x), (1, .int a0), (2, .int v_20), (3, .int v_21), (4, .int v_22), (5, .int v_23)] [] := by
        intro n_61
        induction n_61 with
        | zero =>
          intro I_14 J_15 hU_16 hF_17 hG_18 r_19 v_20 rv_20 v_21 rv_21 v_22 rv_22 v_23 rv_23 q_24 hm_25 hj_26 hm_27
          exact md_0 rv_23 hm_27
        | succ n_61 ih_61 =>
          intro I_14 J_15 hU_16 hF_17 hG_18 r_19 v_20 rv_20 v_21 rv_21 v_22 rv_22 v_23 rv_23 q_24 hm_25 hj_26 hm_27
          have j_93 : ∀ (I_28 : Nat → Nat → Int32) (J_29 : Nat → Nat → Int64) (hU_30 : Iw L κ R ow I_28) (hF_31 : Fq L κ ow [1200, 85400] I I_28) (hG_32 : Fq L κ ow [] J J_29) (r_33 : Rg 0 5 a0) (v_34 : Int32) (rv_34 : Rg 1 379 v_34) (v_35 : Int32) (rv_35 : Rg 0 3 v_35) (v_36 : Int32) (rv_36 : Rg 1 388 v_36) (v_37 : Int32) (rv_37 : Rg 1 3 v_37) (q_38 : I_28 x 0 = 0) (hm_39 : 389 < (v_36 : Int32).toInt + ((n_37 + 1 : Nat) : Int)) (hm_40 : (v_37 : Int32).toInt - 0 < ((n_61 + 1 : Nat) : Int)) (hj_41 : v_37 ≤ v_36), WG p l e { frames := 2, cells := 0, slots := 0, locals := 43 } s m ([.ref x, .int a0] : List Value).toArray below meth c 6 0 0 (MQ below (Qi_ D cy L κ ln R (fun r I2 J2 => Iw L κ R ow I2 ∧ Fq L κ ow [1200, 85400] I I2 ∧ Fq L κ ow [] J J2 ∧ Rg (-1) 3 r)) ([.ref x, .int a0] : List Value).toArray s 0 0 (Al_ L)) D cy (Al_ L) s.heap L κ ln R I_28 J_29 93 [(0, .ref x), (1, .int a0), (2, .int v_34), (3, .int v_35), (4, .int v_36), (5, .int v_37)] [] := by
            intro I_28 J_29 hU_30 hF_31 hG_32 r_33 v_34 rv_34 v_35 rv_35 v_36 rv_36 v_37 rv_37 q_38 hm_39 hm_40 hj_41
            obtain ⟨x_42, hx_42, rx_42, tx_42⟩ := ex_add (y := (-1)) 0 2 rv_37 rc_m1 (by decide) (by decide) (by decide) (by decide)
            refine g_iinc C dX12_last_93 (k := 5) (v := x_42) rfl hx_42 (by decide) (lo2 := [(5, .int x_42), (0, .ref x), (1, .int a0), (2, .int v_34), (3, .int v_35), (4, .int v_36)]) rfl ?_
            refine g_goto C (tgt := 61) dX12_last_96 (by decide) ?_
            refine g_lo (is := [1, 2, 3, 4, 5, 0]) (lo2 := [(0, .ref x), (1, .int a0), (2, .int v_34), (3, .int v_35), (4, .int v_36), (5, .int x_42)]) rfl ?_
            exact ih_61 I_28 J_29 hU_30 hF_31 hG_32 (r_33) v_34 (rv_34) v_35 (rv_35) v_36 (rv_36) x_42 (rg_w rx_42 (by decide) (by decide)) q_38 hm_39 (Int32.le_iff_toInt_le.mpr (by have q1 := Int32.le_iff_toInt_le.mp (hj_41); have q2 := (ti_k tx_42 rc_m1); omega)) (md_1 hm_40 (ti_k tx_42 rc_m1) (by decide))
          refine g_iload C 5 dX12_last_61 rfl ?_
          refine g_if_le C (tgt := 99) dX12_last_63 (by decide) (fun h_43 => ?_) (fun h_43 => ?_)
          · skip
            have r_44 := le_l (h_43) rv_23 rc_0
            obtain ⟨x_45, hx_45, rx_45, tx_45⟩ := ex_add (y := 1) 2 389 rv_22 rc_1 (by decide) (by decide) (by decide) (by decide)
            refine g_iinc C dX12_last_99 (k := 4) (v := x_45) rfl hx_45 (by decide) (lo2 := [(4, .int x_45), (0, .ref x), (1, .int a0), (2, .int v_20), (3, .int v_21), (5, .int v_23)]) rfl ?_
            refine g_goto C (tgt := 37) dX12_last_102 (by decide) ?_
            refine g_lo (is := [1, 2, 3, 4, 0]) (lo2 := [(0, .ref x), (1, .int a0), (2, .int v_20), (3, .int v_21), (4, .int x_45)]) rfl ?_
            exact ih_37 I_14 J_15 hU_16 hF_17 hG_18 (r_19) v_20 (rg_w rv_20 (by decide) (by decide)) v_21 (rv_21) x_45 (rg_w rx_45 (by decide) (by decide)) q_24 (ms_1 hm_25 (ti_k tx_45 rc_1) (by decide))
          · skip
            have r_46 := lt_r (lo := 1) (nle h_43) rc_0 rv_23 (by decide)
            refine g_aload_n C 0 dX12_last_66 rfl rfl ?_
            refine g_getR C K hLx hkx f_12_61 hb_1 dX12_last_67 ?_
            refine g_iload C 4 dX12_last_70 rfl ?_
            refine g_iload C 5 dX12_last_72 rfl ?_
            obtain ⟨x_47, hx_47, rx_47, tx_47⟩ := ex_suble 387 rv_22 r_46 (hj_26) (by decide) (by decide)
            refine g_isub C (v := x_47) dX12_last_74 hx_47 ?_
            obtain ⟨x_48, hx_48, rx_48⟩ := ex_getw (I := I_14) (a := b_1) (j := x_47.toNatClampNeg) (lo := 0) (hi := 1) hU_16.1 hb_1L (ro_a hb_1k (by decide) hb_1o hkx rfl) (rfl)
            refine h_zald C K hb_1L hb_1k (v := x_48) (x_47.toNatClampNeg) (rfl) (ix_0 rx_47 (by decide)) (ix_lt rx_47 (by decide) hb_1n (by decide)) hx_48 dX12_last_75 ?_
            refine g_if_eq C (tgt := 82) dX12_last_76 (by decide) (fun h_49 => ?_) (fun h_49 => ?_)
            · skip
              have r_50 := (⟨(rx_48).1, (eq_rg (h_49) rc_0).2⟩ : Rg 0 0 x_48)
              refine g_aload_n C 0 dX12_last_82 rfl rfl ?_
              refine g_getR C K hLx hkx f_12_61 hb_1 dX12_last_83 ?_
              refine g_iload C 4 dX12_last_86 rfl ?_
              refine g_iconst C (v := 1) dX12_last_88 (by decide) ?_
              refine h_zast C K hb_1L hb_1k (v_22.toNatClampNeg) (rfl) (ix_0 rv_22 (by decide)) (ix_lt rv_22 (by decide) hb_1n (by decide)) dX12_last_89 (fun I_51 hI_51 => ?_)
              have hU_52 := iw_put W9 hU_16 hI_51 (ro_a hb_1k (by decide) hb_1o hkx rfl) (lo := 0) (hi := 1) (rfl) (nar_zz _) rfl
              have hF_53 := fq_puta hF_17 hI_51 (ro_a hb_1k (by decide) hb_1o hkx rfl) (by decide) (by decide)
              refine g_iload C 5 dX12_last_90 rfl ?_
              refine g_istore_n C dX12_last_92 rfl (by decide) (lo2 := [(3, .int v_23), (0, .ref x), (1, .int a0), (2, .int v_20), (4, .int v_22), (5, .int v_23)]) rfl ?_
              refine g_lo (is := [1, 2, 3, 0, 4, 5]) (lo2 := [(0, .ref x), (1, .int a0), (2, .int v_20), (3, .int v_23), (4, .int v_22), (5, .int v_23)]) rfl ?_
              exact j_93 I_51 J_15 hU_52 hF_53 hG_18 (r_19) v_20 (rv_20) v_23 (rg_w r_46 (by decide) (by decide)) v_22 (rv_22) v_23 (r_46) (kp_k (κ := κ) hI_51 (by rw [hkx, hb_1k]; decide) q_24) hm_25 hm_27 (hj_26)
            · skip
              have n_54 : ¬ x_48 = 0 := h_49
              have r_55 := ne_lo (lo := 1) n_54 rx_48 rc_0 rfl (by decide)
              refine g_goto C (tgt := 93) dX12_last_79 (by decide) ?_
              refine g_lo (is := [0, 1, 2, 3, 4, 5]) (lo2 := [(0, .ref x), (1, .int a0), (2, .int v_20), (3, .int v_21), (4, .int v_22), (5, .int v_23)]) rfl ?_
              exact j_93 I_14 J_15 hU_16 hF_17 hG_18 (r_19) v_20 (rv_20) v_21 (rv_21) v_22 (rv_22) v_23 (r_46) q_24 hm_25 hm_27 (hj_26)
      refine g_iload C 4 dX12_last_37 rfl ?_
      refine g_iload_n C 2 dX12_last_39 rfl rfl ?_
      refine g_icmp_gt C (tgt := 105) dX12_last_40 (by decide) (fun h_56 => ?_) (fun h_56 => ?_)
      · skip
        refine g_iload_n C 3 dX12_last_105 rfl rfl ?_
        exact g_zret (ty := .int) (r := v_10) B K rfl (rfl) ⟨hU_5, hF_6, hG_7, rg_w rv_10 (by decide) (by decide)⟩ dX12_last_106
      · skip
        have r_57 := le_l (nlt h_56) rv_11 rv_9
        have r_58 := le_r (nlt h_56) rv_11 rv_9
        refine g_aload_n C 0 dX12_last_43 rfl rfl ?_
        refine g_getR C K hLx hkx f_12_61 hb_1 dX12_last_44 ?_
        refine g_iload C 4 dX12_last_47 rfl ?_
        refine g_iconst C (v := 0) dX12_last_49 (by decide) ?_
        refine h_zast C K hb_1L hb_1k (v_11.toNatClampNeg) (rfl) (ix_0 r_57 (by decide)) (ix_lt r_57 (by decide) hb_1n (by decide)) dX12_last_50 (fun I_59 hI_59 => ?_)
        have hU_60 := iw_put W9 hU_5 hI_59 (ro_a hb_1k (by decide) hb_1o hkx rfl) (lo := 0) (hi := 1) (rfl) (nar_zz _) rfl
        have hF_61 := fq_puta hF_6 hI_59 (ro_a hb_1k (by decide) hb_1o hkx rfl) (by decide) (by decide)
        refine g_iconst C (v := 0) dX12_last_51 (by decide) ?_
        refine g_istore_n C dX12_last_52 rfl (by decide) (lo2 := [(3, .int 0), (0, .ref x), (1, .int a0), (2, .int v_9), (4, .int v_11)]) rfl ?_
        refine g_iconst C (v := 3) dX12_last_53 (by decide) ?_
        refine g_iload C 4 dX12_last_54 rfl ?_
        refine g_callSI C K (c_X12_least W9 3 v_11  hU_60) s_12_265 rfl ⟨rfl, rfl⟩ ⟨Nat.le_of_ble_eq_true rfl, Nat.le_of_ble_eq_true rfl⟩ (Nat.le_of_ble_eq_true rfl) ⟨Nat.le_of_ble_eq_true rfl, Nat.le_of_ble_eq_true rfl⟩ dX12_last_56 rfl (st := []) (fun x_62 I_63 J_64 h_65 => ?_)
        obtain ⟨rfl, rfl, rx_62, ex_62⟩ := h_65
        have r_66 := ls_rg ex_62 rc_3 r_57 (lo := 1) (hi := 3) (by decide) (by decide)
        refine g_istore C dX12_last_59 (by decide) (lo2 := [(5, .int x_62), (3, .int 0), (0, .ref x), (1, .int a0), (2, .int v_9), (4, .int v_11)]) rfl ?_
        refine g_lo (is := [2, 3, 4, 1, 5, 0]) (lo2 := [(0, .ref x), (1, .int a0), (2, .int v_9), (3, .int 0), (4, .int v_11), (5, .int x_62)]) rfl ?_
        exact l_61 4 I_59 J_4 hU_60 hF_61 hG_7 (r_8) v_9 (r_58) 0 (rg_w rc_0 (by decide) (by decide)) v_11 (rg_w r_57 (by decide) (by decide)) x_62 (rg_w r_66 (by decide) (by decide)) (kp_k (κ := κ) hI_59 (by rw [hkx, hb_1k]; decide) q_12) hm_13 (ex_62.2.1) (md_s (a := 0) (b := 3) (N := 4) (rg_w r_66 (by decide) (by decide)) (by decide))
  refine g_aload_n C 0 dX12_last_0 rfl rfl ?_
  refine g_iconst C (v := 0) dX12_last_1 (by decide) ?_
  refine h_putI C K hLx hkx f_12_82 p_12_0 dX12_last_2 (fun I_67 hI_67 => ?_)
  have hU_68 := iw_put W9 hU hI_67 (ro_o hkx (by decide)) (lo := (-2147483648)) (hi := 2147483647) (rfl) (rg_all _) rfl
  have hF_69 := fq_puto hF hI_67 hkx (by decide) (by decide)
  refine g_aload_n C 0 dX12_last_5 rfl rfl ?_
  refine g_iload_n C 1 dX12_last_6 rfl rfl ?_
  refine g_callVI C K (c_X12_isDish W9 hLx hkx a0  hU_68) hLx hkx (by decide) rfl v_12_250 rfl ⟨rfl, rfl⟩ ⟨Nat.le_of_ble_eq_true rfl, Nat.le_of_ble_eq_true rfl⟩ (Nat.le_of_ble_eq_true rfl) ⟨Nat.le_of_ble_eq_true rfl, Nat.le_of_ble_eq_true rfl⟩ dX12_last_7 rfl (st := []) (fun x_70 I_71 J_72 h_73 => ?_)
  obtain ⟨rfl, rfl, rx_70, ex_70⟩ := h_73
  refine g_if_ne C (tgt := 15) dX12_last_10 (by decide) (fun h_74 => ?_) (fun h_74 => ?_)
  · skip
    have n_75 : ¬ x_70 = 0 := h_74
    have r_76 := ne_lo (lo := 1) n_75 rx_70 rc_0 rfl (by decide)
    have r_77 := rg_i (rg_all a0) ((ex_70) n_75) (lo := 0) (hi := 5) (by decide) (by decide)
    refine g_aload_n C 0 dX12_last_15 rfl rfl ?_
    refine g_getR C K hLx hkx f_12_13 hb_2 dX12_last_16 ?_
    refine g_bipush C (v := 78) dX12_last_19 (by decide) ?_
    refine g_iload_n C 1 dX12_last_21 rfl rfl ?_
    obtain ⟨x_78, hx_78, rx_78, tx_78⟩ := ex_add 78 83 rc_78 r_77 (by decide) (by decide) (by decide) (by decide)
    refine g_iadd C (v := x_78) dX12_last_22 hx_78 ?_
    obtain ⟨x_79, hx_79, rx_79⟩ := ex_getw (I := I_67) (a := b_2) (j := x_78.toNatClampNeg) (lo := 0) (hi := 379) hU_68.1 hb_2L (ro_a hb_2k (by decide) hb_2o hkx rfl) (bn_834.trans (zq_78 (ix_k (lo := 78) (hi := 83) rx_78 (by decide) (by decide) (by decide))))
    refine h_iald C K hb_2L hb_2k (v := x_79) (x_78.toNatClampNeg) (rfl) (ix_0 rx_78 (by decide)) (ix_lt rx_78 (by decide) hb_2n (by decide)) hx_79 dX12_last_23 ?_
    refine g_istore_n C dX12_last_24 rfl (by decide) (lo2 := [(2, .int x_79), (0, .ref x), (1, .int a0)]) rfl ?_
    refine g_aload_n C 1 dX12_last_25 rfl rfl ?_
    refine g_getR C K hLx hkx f_12_61 hb_1 dX12_last_26 ?_
    refine g_iconst C (v := 0) dX12_last_29 (by decide) ?_
    refine g_iconst C (v := 1) dX12_last_30 (by decide) ?_
    refine h_zast C K hb_1L hb_1k (0) (by decide) (by decide) (by rw [hb_1n]; decide) dX12_last_31 (fun I_80 hI_80 => ?_)
    have hU_81 := iw_put W9 hU_68 hI_80 (ro_a hb_1k (by decide) hb_1o hkx rfl) (lo := 0) (hi := 1) (rfl) (nar_zz _) rfl
    have hF_82 := fq_puta hF_69 hI_80 (ro_a hb_1k (by decide) hb_1o hkx rfl) (by decide) (by decide)
    refine g_iconst C (v := 0) dX12_last_32 (by decide) ?_
    refine g_istore_n C dX12_last_33 rfl (by decide) (lo2 := [(3, .int 0), (2, .int x_79), (0, .ref x), (1, .int a0)]) rfl ?_
    refine g_iconst C (v := 1) dX12_last_34 (by decide) ?_
    refine g_istore C dX12_last_35 (by decide) (lo2 := [(4, .int 1), (3, .int 0), (2, .int x_79), (0, .ref x), (1, .int a0)]) rfl ?_
    refine g_lo (is := [3, 4, 2, 1, 0]) (lo2 := [(0, .ref x), (1, .int a0), (2, .int x_79), (3, .int 0), (4, .int 1)]) rfl ?_
    exact l_37 389 I_80 J hU_81 hF_82 hG (r_77) x_79 (rx_79) 0 (rg_w rc_0 (by decide) (by decide)) 1 (rg_w rc_1 (by decide) (by decide)) (kp_k (κ := κ) hI_80 (by rw [hkx, hb_1k]; decide) (kp_s hI_67)) (ms_s (a := 1) (b := 389) (N := 389) (rg_w rc_1 (by decide) (by decide)) (by decide))
  · skip
    have r_83 := (⟨(rx_70).1, (eq_rg (h_74) rc_0).2⟩ : Rg 0 0 x_70)
    refine g_iconst C (v := (-1)) dX12_last_13 (by decide) ?_
    exact g_zret (ty := .int) (r := (-1)) B K rfl (rfl) ⟨hU_68, hF_69, hG, rg_w rc_m1 (by decide) (by decide)⟩ dX12_last_14
set_option maxRecDepth 100000 in
set_option maxHeartbeats 8000000 in
theorem c_X12_seatFrom_7 {l : Launch} {D : va_G} {cy : Nat → ClassId} {L : List Nat} {κ ln : Nat → Nat} {R : Nat → Nat → Option Nat} {I : Nat → Nat → Int32} {J : Nat → Nat → Int64} {ow : Nat → Nat × Nat} (W9 : ∀ a ∈ L, Shp L κ ln R ow a) {x : Nat} (hLx : x ∈ L) (hkx : κ x = 12) (a0 : Int32) (a1 : Int32) (a2 : Int32) (ra0 : Rg 7 7 a0) (ra1 : Rg 0 127 a1) (ra2 : Rg 0 6 a2) (hU : Iw L κ R ow I) (hbc : (bc_ a1).toInt ≤ 0) : CtV l yX12_seatFrom cX12_seatFrom 5 none { frames := 0, cells := 0, slots := 0, locals := 0 } D cy L κ ln R I J [.ref x, .int a0, .int a1, .int a2] (fun I2 J2 => Iw L κ R ow I2 ∧ Fq L κ ow [1238, 85600] I I2 ∧ Fq L κ ow [] J J2) := by
  have r_1 := bc_z ra1 hbc
  refine CtV.of (by decide +kernel) (Nat.le_of_ble_eq_true rfl) ?_
  intro p e s m below meth c B K
  have C := B.1
  have hF : Fq L κ ow [1238, 85600] I I := fq_rf
  have hG : Fq L κ ow [] J J := fq_rf
  obtain ⟨b_2, hb_2, hb_2L, hb_2k, hb_2n, hb_2o⟩ := shp_a (W9 x hLx) hkx 35 14 7 rfl (by decide)
  obtain ⟨b_3, hb_3, hb_3L, hb_3k, hb_3n, hb_3o⟩ := shp_a (W9 x hLx) hkx 36 14 7 rfl (by decide)
  refine g_lo (is := [0, 1, 2, 3]) (lo2 := [(0, .ref x), (1, .int a0), (2, .int a1), (3, .int a2)]) rfl ?_
  have l_21 : ∀ (n_21 : Nat) (I_4 : Nat → Nat → Int32) (J_5 : Nat → Nat → Int64) (hU_6 : Iw L κ R ow I_4) (hF_7 : Fq L κ ow [1238, 85600] I I_4) (hG_8 : Fq L κ ow [] J J_5) (v_9 : Int32) (rv_9 : Rg 0 7 v_9) (q_10 : I_4 x 38 = a2) (hm_11 : 7 < (v_9 : Int32).toInt + (n_21 : Int)), WG p l e { frames := 0, cells := 0, slots := 0, locals := 0 } s m ([.ref x, .int a0, .int a1, .int a2] : List Value).toArray below meth c 5 0 0 (MQ below (Qv_ D cy L κ ln R (fun I2 J2 => Iw L κ R ow I2 ∧ Fq L κ ow [1238, 85600] I I2 ∧ Fq L κ ow [] J J2)) ([.ref x, .int a0, .int a1, .int a2] : List Value).toArray s 0 0 (Al_ L)) D cy (Al_ L) s.heap L κ ln R I_4 J_5 21 [(0, .ref x), (1, .int a0), (2, .int a1), (3, .int a2), (4, .int v_9)] [] := by
    intro n_21
    induction n_21 with
    | zero =>
      intro I_4 J_5 hU_6 hF_7 hG_8 v_9 rv_9 q_10 hm_11
      exact ms_0 rv_9 hm_11
    | succ n_21 ih_21 =>
      intro I_4 J_5 hU_6 hF_7 hG_8 v_9 rv_9 q_10 hm_11
      refine g_iload C 4 dX12_seatFrom_21 rfl ?_
      refine g_iload_n C 1 dX12_seatFrom_23 rfl rfl ?_
      refine g_icmp_ge C (tgt := 47) dX12_seatFrom_24 (by decide) (fun h_12 => ?_) (fun h_12 => ?_)
      · skip
        have r_13 := le_r (h_12) ra0 rv_9
        exact g_vret B K rfl ⟨hU_6, hF_7, hG_8⟩ dX12_seatFrom_47
      · skip
        have r_14 := lt_l (hi := 6) (nle h_12) rv_9 ra0 (by decide)
        refine g_aload_n C 0 dX12_seatFrom_27 rfl rfl ?_
        refine g_getR C K hLx hkx f_12_67 hb_3 dX12_seatFrom_28 ?_
        refine g_iload C 4 dX12_seatFrom_31 rfl ?_
        refine g_aload_n C 0 dX12_seatFrom_33 rfl rfl ?_
        refine g_getR C K hLx hkx f_12_64 hb_2 dX12_seatFrom_34 ?_
        refine g_iload C 4 dX12_seatFrom_37 rfl ?_
        obtain ⟨x_15, hx_15, rx_15⟩ := ex_any (z0 := I_4 b_2 (v_9.toNatClampNeg))
        refine h_iald C K hb_2L hb_2k (v := x_15) (v_9.toNatClampNeg) (rfl) (ix_0 r_14 (by decide)) (ix_lt r_14 (by decide) hb_2n (by decide)) hx_15 dX12_seatFrom_39 ?_
        refine h_iast C K hb_3L hb_3k (v_9.toNatClampNeg) (rfl) (ix_0 r_14 (by decide)) (ix_lt r_14 (by decide) hb_3n (by decide)) dX12_seatFrom_40 (fun I_16 hI_16 => ?_)
        have hU_17 := iw_put W9 hU_6 hI_16 (ro_a hb_3k (by decide) hb_3o hkx rfl) (lo := (-2147483648)) (hi := 2147483647) (rfl) (rx_15) rfl
        have hF_18 := fq_puta hF_7 hI_16 (ro_a hb_3k (by decide) hb_3o hkx rfl) (by decide) (by decide)
        obtain ⟨x_19, hx_19, rx_19, tx_19⟩ := ex_add (y := 1) 1 7 r_14 rc_1 (by decide) (by decide) (by decide) (by decide)
        refine g_iinc C dX12_seatFrom_41 (k := 4) (v := x_19) rfl hx_19 (by decide) (lo2 := [(4, .int x_19), (0, .ref x), (1, .int a0), (2, .int a1), (3, .int a2)]) rfl ?_
        refine g_goto C (tgt := 21) dX12_seatFrom_44 (by decide) ?_
        refine g_lo (is := [1, 2, 3, 4, 0]) (lo2 := [(0, .ref x), (1, .int a0), (2, .int a1), (3, .int a2), (4, .int x_19)]) rfl ?_
        exact ih_21 I_16 J_5 hU_17 hF_18 hG_8 x_19 (rg_w rx_19 (by decide) (by decide)) (kp_k (κ := κ) hI_16 (by rw [hkx, hb_3k]; decide) q_10) (ms_1 hm_11 (ti_k tx_19 rc_1) (by decide))
  refine g_iload_n C 2 dX12_seatFrom_0 rfl rfl ?_
  refine g_if_ne C (tgt := 48) dX12_seatFrom_1 (by decide) (fun h_20 => ?_) (fun h_20 => ?_)
  · skip
    exact ne_no (h_20) r_1 rc_0
  · skip
    refine g_iload_n C 3 dX12_seatFrom_4 rfl rfl ?_
    refine g_aload_n C 0 dX12_seatFrom_5 rfl rfl ?_
    obtain ⟨x_21, hx_21, rx_21⟩ := ex_getw (I := I) (a := x) (j := 38) (lo := (-2147483648)) (hi := 2147483647) hU.1 hLx (ro_o hkx (by decide)) rfl
    refine g_getI C K hLx hkx f_12_320 (v := x_21) hx_21 dX12_seatFrom_6 ?_
    refine g_icmp_gt C (tgt := 13) dX12_seatFrom_9 (by decide) (fun h_22 => ?_) (fun h_22 => ?_)
    · skip
      have r_23 := lt_l (hi := 5) (h_22) rx_21 ra2 (by decide)
      refine g_aload_n C 0 dX12_seatFrom_13 rfl rfl ?_
      refine g_iload_n C 3 dX12_seatFrom_14 rfl rfl ?_
      refine h_putI C K hLx hkx f_12_320 p_12_38 dX12_seatFrom_15 (fun I_24 hI_24 => ?_)
      have hU_25 := iw_put W9 hU hI_24 (ro_o hkx (by decide)) (lo := (-2147483648)) (hi := 2147483647) (rfl) (rg_all _) rfl
      have hF_26 := fq_puto hF hI_24 hkx (by decide) (by decide)
      refine g_iconst C (v := 0) dX12_seatFrom_18 (by decide) ?_
      refine g_istore C dX12_seatFrom_19 (by decide) (lo2 := [(4, .int 0), (0, .ref x), (1, .int a0), (2, .int a1), (3, .int a2)]) rfl ?_
      refine g_lo (is := [1, 2, 3, 4, 0]) (lo2 := [(0, .ref x), (1, .int a0), (2, .int a1), (3, .int a2), (4, .int 0)]) rfl ?_
      exact l_21 8 I_24 J hU_25 hF_26 hG 0 (rg_w rc_0 (by decide) (by decide)) (kp_s hI_24) (ms_s (a := 0) (b := 7) (N := 8) (rg_w rc_0 (by decide) (by decide)) (by decide))
    · skip
      have r_27 := le_r (nlt h_22) ra2 rx_21
      exact g_vret B K rfl ⟨hU, hF, hG⟩ dX12_seatFrom_12
set_option maxRecDepth 100000 in
set_option maxHeartbeats 8000000 in
theorem c_X12_seatFrom_6 {l : Launch} {D : va_G} {cy : Nat → ClassId} {L : List Nat} {κ ln : Nat → Nat} {R : Nat → Nat → Option Nat} {I : Nat → Nat → Int32} {J : Nat → Nat → Int64} {ow : Nat → Nat × Nat} (W9 : ∀ a ∈ L, Shp L κ ln R ow a) {x : Nat} (hLx : x ∈ L) (hkx : κ x = 12) (a0 : Int32) (a1 : Int32) (a2 : Int32) (ra0 : Rg 6 6 a0) (ra1 : Rg 0 127 a1) (ra2 : Rg 0 5 a2) (hU : Iw L κ R ow I) (hbc : (bc_ a1).toInt ≤ 1) : CtV l yX12_seatFrom cX12_seatFrom 5 none { frames := 1, cells := 0, slots := 0, locals := 24 } D cy L κ ln R I J [.ref x, .int a0, .int a1, .int a2] (fun I2 J2 => Iw L κ R ow I2 ∧ Fq L κ ow [1238, 85500, 85600] I I2 ∧ Fq L κ ow [] J J2) := by
  refine CtV.of (by decide +kernel) (Nat.le_of_ble_eq_true rfl) ?_
  intro p e s m below meth c B K
  have C := B.1
  have hF : Fq L κ ow [1238, 85500, 85600] I I := fq_rf
  have hG : Fq L κ ow [] J J := fq_rf
  obtain ⟨b_1, hb_1, hb_1L, hb_1k, hb_1n, hb_1o⟩ := shp_a (W9 x hLx) hkx 35 14 7 rfl (by decide)
  obtain ⟨b_2, hb_2, hb_2L, hb_2k, hb_2n, hb_2o⟩ := shp_a (W9 x hLx) hkx 36 14 7 rfl (by decide)
  obtain ⟨b_3, hb_3, hb_3L, hb_3k, hb_3n, hb_3o⟩ := shp_a (W9 x hLx) hkx 14 14 389 rfl (by decide)
  refine g_lo (is := [0, 1, 2, 3]) (lo2 := [(0, .ref x), (1, .int a0), (2, .int a1), (3, .int a2)]) rfl ?_
  have l_21 : ∀ (n_21 : Nat) (I_4 : Nat → Nat → Int32) (J_5 : Nat → Nat → Int64) (hU_6 : Iw L κ R ow I_4) (hF_7 : Fq L κ ow [1238, 85500, 85600] I I_4) (hG_8 : Fq L κ ow [] J J_5) (r_9 : Rg 0 0 a1) (v_10 : Int32) (rv_10 : Rg 0 6 v_10) (q_11 : I_4 x 38 = a2) (hm_12 : 6 < (v_10 : Int32).toInt + (n_21 : Int)), WG p l e { frames := 1, cells := 0, slots := 0, locals := 24 } s m ([.ref x, .int a0, .int a1, .int a2] : List Value).toArray below meth c 5 0 0 (MQ below (Qv_ D cy L κ ln R (fun I2 J2 => Iw L κ R ow I2 ∧ Fq L κ ow [1238, 85500, 85600] I I2 ∧ Fq L κ ow [] J J2)) ([.ref x, .int a0, .int a1, .int a2] : List Value).toArray s 0 0 (Al_ L)) D cy (Al_ L) s.heap L κ ln R I_4 J_5 21 [(0, .ref x), (1, .int a0), (2, .int a1), (3, .int a2), (4, .int v_10)] [] := by
    intro n_21
    induction n_21 with
    | zero =>
      intro I_4 J_5 hU_6 hF_7 hG_8 r_9 v_10 rv_10 q_11 hm_12
      exact ms_0 rv_10 hm_12
    | succ n_21 ih_21 =>
      intro I_4 J_5 hU_6 hF_7 hG_8 r_9 v_10 rv_10 q_11 hm_12
      refine g_iload C 4 dX12_seatFrom_21 rfl ?_
      refine g_iload_n C 1 dX12_seatFrom_23 rfl rfl ?_
      refine g_icmp_ge C (tgt := 47) dX12_seatFrom_24 (by decide) (fun h_13 => ?_) (fun h_13 => ?_)
      · skip
        have r_14 := le_r (h_13) ra0 rv_10
        exact g_vret B K rfl ⟨hU_6, hF_7, hG_8⟩ dX12_seatFrom_47
      · skip
        have r_15 := lt_l (hi := 5) (nle h_13) rv_10 ra0 (by decide)
        refine g_aload_n C 0 dX12_seatFrom_27 rfl rfl ?_
        refine g_getR C K hLx hkx f_12_67 hb_2 dX12_seatFrom_28 ?_
        refine g_iload C 4 dX12_seatFrom_31 rfl ?_
        refine g_aload_n C 0 dX12_seatFrom_33 rfl rfl ?_
        refine g_getR C K hLx hkx f_12_64 hb_1 dX12_seatFrom_34 ?_
        refine g_iload C 4 dX12_seatFrom_37 rfl ?_
        obtain ⟨x_16, hx_16, rx_16⟩ := ex_any (z0 := I_4 b_1 (v_10.toNatClampNeg))
        refine h_iald C K hb_1L hb_1k (v := x_16) (v_10.toNatClampNeg) (rfl) (ix_0 r_15 (by decide)) (ix_lt r_15 (by decide) hb_1n (by decide)) hx_16 dX12_seatFrom_39 ?_
        refine h_iast C K hb_2L hb_2k (v_10.toNatClampNeg) (rfl) (ix_0 r_15 (by decide)) (ix_lt r_15 (by decide) hb_2n (by decide)) dX12_seatFrom_40 (fun I_17 hI_17 => ?_)
        have hU_18 := iw_put W9 hU_6 hI_17 (ro_a hb_2k (by decide) hb_2o hkx rfl) (lo := (-2147483648)) (hi := 2147483647) (rfl) (rx_16) rfl
        have hF_19 := fq_puta hF_7 hI_17 (ro_a hb_2k (by decide) hb_2o hkx rfl) (by decide) (by decide)
        obtain ⟨x_20, hx_20, rx_20, tx_20⟩ := ex_add (y := 1) 1 6 r_15 rc_1 (by decide) (by decide) (by decide) (by decide)
        refine g_iinc C dX12_seatFrom_41 (k := 4) (v := x_20) rfl hx_20 (by decide) (lo2 := [(4, .int x_20), (0, .ref x), (1, .int a0), (2, .int a1), (3, .int a2)]) rfl ?_
        refine g_goto C (tgt := 21) dX12_seatFrom_44 (by decide) ?_
        refine g_lo (is := [1, 2, 3, 4, 0]) (lo2 := [(0, .ref x), (1, .int a0), (2, .int a1), (3, .int a2), (4, .int x_20)]) rfl ?_
        exact ih_21 I_17 J_5 hU_18 hF_19 hG_8 (r_9) x_20 (rg_w rx_20 (by decide) (by decide)) (kp_k (κ := κ) hI_17 (by rw [hkx, hb_2k]; decide) q_11) (ms_1 hm_12 (ti_k tx_20 rc_1) (by decide))
  have l_51 : ∀ (n_51 : Nat) (I_21 : Nat → Nat → Int32) (J_22 : Nat → Nat → Int64) (hU_23 : Iw L κ R ow I_21) (hF_24 : Fq L κ ow [1238, 85500, 85600] I I_21) (hG_25 : Fq L κ ow [] J J_22) (r_26 : Rg 1 127 a1) (n_27 : ¬ a1 = 0) (v_28 : Int32) (rv_28 : Rg 0 7 v_28) (hm_29 : 7 < (v_28 : Int32).toInt + (n_51 : Int)), WG p l e { frames := 1, cells := 0, slots := 0, locals := 24 } s m ([.ref x, .int a0, .int a1, .int a2] : List Value).toArray below meth c 5 0 0 (MQ below (Qv_ D cy L κ ln R (fun I2 J2 => Iw L κ R ow I2 ∧ Fq L κ ow [1238, 85500, 85600] I I2 ∧ Fq L κ ow [] J J2)) ([.ref x, .int a0, .int a1, .int a2] : List Value).toArray s 0 0 (Al_ L)) D cy (Al_ L) s.heap L κ ln R I_21 J_22 51 [(0, .ref x), (1, .int a0), (2, .int a1), (3, .int a2), (4, .int v_28)] [] := by
    intro n_51
    induction n_51 with
    | zero =>
      intro I_21 J_22 hU_23 hF_24 hG_25 r_26 n_27 v_28 rv_28 hm_29
      exact ms_0 rv_28 hm_29
    | succ n_51 ih_51 =>
      intro I_21 J_22 hU_23 hF_24 hG_25 r_26 n_27 v_28 rv_28 hm_29
      have j_129 : ∀ (I_30 : Nat → Nat → Int32) (J_31 : Nat → Nat → Int64) (hU_32 : Iw L κ R ow I_30) (hF_33 : Fq L κ ow [1238, 85500, 85600] I I_30) (hG_34 : Fq L κ ow [] J J_31) (r_35 : Rg 1 127 a1) (n_36 : ¬ a1 = 0) (v_37 : Int32) (rv_37 : Rg 0 6 v_37) (hm_38 : 7 < (v_37 : Int32).toInt + ((n_51 + 1 : Nat) : Int)), WG p l e { frames := 1, cells := 0, slots := 0, locals := 24 } s m ([.ref x, .int a0, .int a1, .int a2] : List Value).toArray below meth c 5 0 0 (MQ below (Qv_ D cy L κ ln R (fun I2 J2 => Iw L κ R ow I2 ∧ Fq L κ ow [1238, 85500, 85600] I I2 ∧ Fq L κ ow [] J J2)) ([.ref x, .int a0, .int a1, .int a2] : List Value).toArray s 0 0 (Al_ L)) D cy (Al_ L) s.heap L κ ln R I_30 J_31 129 [(0, .ref x), (1, .int a0), (2, .int a1), (3, .int a2), (4, .int v_37)] [] := by
        intro I_30 J_31 hU_32 hF_33 hG_34 r_35 n_36 v_37 rv_37 hm_38
        obtain ⟨x_39, hx_39, rx_39, tx_39⟩ := ex_add (y := 1) 1 7 rv_37 rc_1 (by decide) (by decide) (by decide) (by decide)
        refine g_iinc C dX12_seatFrom_129 (k := 4) (v := x_39) rfl hx_39 (by decide) (lo2 := [(4, .int x_39), (0, .ref x), (1, .int a0), (2, .int a1), (3, .int a2)]) rfl ?_
        refine g_goto C (tgt := 51) dX12_seatFrom_132 (by decide) ?_
        refine g_lo (is := [1, 2, 3, 4, 0]) (lo2 := [(0, .ref x), (1, .int a0), (2, .int a1), (3, .int a2), (4, .int x_39)]) rfl ?_
        exact ih_51 I_30 J_31 hU_32 hF_33 hG_34 (r_35) (n_36) x_39 (rg_w rx_39 (by decide) (by decide)) (ms_1 hm_38 (ti_k tx_39 rc_1) (by decide))
      refine g_iload C 4 dX12_seatFrom_51 rfl ?_
      refine g_aload_n C 0 dX12_seatFrom_53 rfl rfl ?_
      refine g_getR C K hLx hkx f_12_13 hb_3 dX12_seatFrom_54 ?_
      refine g_iconst C (v := 0) dX12_seatFrom_57 (by decide) ?_
      obtain ⟨x_40, hx_40, rx_40⟩ := ex_getw (I := I_21) (a := b_3) (j := 0) (lo := 0) (hi := 7) hU_23.1 hb_3L (ro_a hb_3k (by decide) hb_3o hkx rfl) (by decide)
      refine h_iald C K hb_3L hb_3k (v := x_40) (0) (by decide) (by decide) (by rw [hb_3n]; decide) hx_40 dX12_seatFrom_58 ?_
      refine g_icmp_ge C (tgt := 135) dX12_seatFrom_59 (by decide) (fun h_41 => ?_) (fun h_41 => ?_)
      · skip
        exact g_vret B K rfl ⟨hU_23, hF_24, hG_25⟩ dX12_seatFrom_135
      · skip
        have r_42 := lt_l (hi := 6) (nle h_41) rv_28 rx_40 (by decide)
        have r_43 := lt_r (lo := 1) (nle h_41) rv_28 rx_40 (by decide)
        refine g_iload_n C 2 dX12_seatFrom_62 rfl rfl ?_
        refine g_iload C 4 dX12_seatFrom_63 rfl ?_
        refine g_callSI C K (c_X12_has W9 a1 v_28  hU_23) s_12_231 rfl ⟨rfl, rfl⟩ ⟨Nat.le_of_ble_eq_true rfl, Nat.le_of_ble_eq_true rfl⟩ (Nat.le_of_ble_eq_true rfl) ⟨Nat.le_of_ble_eq_true rfl, Nat.le_of_ble_eq_true rfl⟩ dX12_seatFrom_65 rfl (st := []) (fun x_44 I_45 J_46 h_47 => ?_)
        obtain ⟨rfl, rfl, rx_44, ex_44⟩ := h_47
        refine g_if_ne C (tgt := 74) dX12_seatFrom_68 (by decide) (fun h_48 => ?_) (fun h_48 => ?_)
        · skip
          have n_49 : ¬ x_44 = 0 := h_48
          have r_50 := ne_lo (lo := 1) n_49 rx_44 rc_0 rfl (by decide)
          refine g_aload_n C 0 dX12_seatFrom_74 rfl rfl ?_
          refine g_getR C K hLx hkx f_12_64 hb_1 dX12_seatFrom_75 ?_
          refine g_iload_n C 1 dX12_seatFrom_78 rfl rfl ?_
          refine g_iload C 4 dX12_seatFrom_79 rfl ?_
          refine h_iast C K hb_1L hb_1k (a0.toNatClampNeg) (rfl) (ix_0 ra0 (by decide)) (ix_lt ra0 (by decide) hb_1n (by decide)) dX12_seatFrom_81 (fun I_51 hI_51 => ?_)
          have hU_52 := iw_put W9 hU_23 hI_51 (ro_a hb_1k (by decide) hb_1o hkx rfl) (lo := (-2147483648)) (hi := 2147483647) (rfl) (rg_all _) rfl
          have hF_53 := fq_puta hF_24 hI_51 (ro_a hb_1k (by decide) hb_1o hkx rfl) (by decide) (by decide)
          refine g_aload_n C 0 dX12_seatFrom_82 rfl rfl ?_
          refine g_iload_n C 1 dX12_seatFrom_83 rfl rfl ?_
          refine g_iconst C (v := 1) dX12_seatFrom_84 (by decide) ?_
          obtain ⟨x_54, hx_54, rx_54, tx_54⟩ := ex_add 7 7 ra0 rc_1 (by decide) (by decide) (by decide) (by decide)
          refine g_iadd C (v := x_54) dX12_seatFrom_85 hx_54 ?_
          refine g_iload_n C 2 dX12_seatFrom_86 rfl rfl ?_
          refine g_iconst C (v := 1) dX12_seatFrom_87 (by decide) ?_
          refine g_iload C 4 dX12_seatFrom_88 rfl ?_
          obtain ⟨x_55, hx_55, rx_55⟩ := ex_shl (x := 1) (y := v_28) 6 64 rfl (r_42) (by decide)
          refine g_ishl C (v := x_55) dX12_seatFrom_90 hx_55 ?_
          refine g_iconst C (v := (-1)) dX12_seatFrom_91 (by decide) ?_
          obtain ⟨x_56, hx_56, rx_56⟩ := ex_any (z0 := x_55 ^^^ (-1))
          refine g_ixor C (v := x_56) dX12_seatFrom_92 hx_56 ?_
          obtain ⟨x_57, hx_57, rx_57⟩ := ex_andl (x := a1) (y := x_56) (b := 127) (rg_w r_26 (by decide) (by decide))
          refine g_iand C (v := x_57) dX12_seatFrom_93 hx_57 ?_
          refine g_iload_n C 1 dX12_seatFrom_94 rfl rfl ?_
          refine g_if_le C (tgt := 125) dX12_seatFrom_95 (by decide) (fun h_58 => ?_) (fun h_58 => ?_)
          · skip
            have r_59 := le_l (h_58) ra0 rc_0
            exact rg_no r_59 (by decide)
          · skip
            refine g_aload_n C 0 dX12_seatFrom_98 rfl rfl ?_
            refine g_getR C K hLx hkx f_12_13 hb_3 dX12_seatFrom_99 ?_
            refine g_bipush C (v := 11) dX12_seatFrom_102 (by decide) ?_
            refine g_iload C 4 dX12_seatFrom_104 rfl ?_
            obtain ⟨x_60, hx_60, rx_60, tx_60⟩ := ex_add 11 17 rc_11 r_42 (by decide) (by decide) (by decide) (by decide)
            refine g_iadd C (v := x_60) dX12_seatFrom_106 hx_60 ?_
            obtain ⟨x_61, hx_61, rx_61⟩ := ex_any (z0 := I_51 b_3 (x_60.toNatClampNeg))
            refine h_iald C K hb_3L hb_3k (v := x_61) (x_60.toNatClampNeg) (rfl) (ix_0 rx_60 (by decide)) (ix_lt rx_60 (by decide) hb_3n (by decide)) hx_61 dX12_seatFrom_107 ?_
            refine g_aload_n C 0 dX12_seatFrom_108 rfl rfl ?_
            refine g_getR C K hLx hkx f_12_64 hb_1 dX12_seatFrom_109 ?_
            refine g_iload_n C 1 dX12_seatFrom_112 rfl rfl ?_
            refine g_iconst C (v := 1) dX12_seatFrom_113 (by decide) ?_
            obtain ⟨x_62, hx_62, rx_62, tx_62⟩ := ex_sub 5 5 ra0 rc_1 (by decide) (by decide) (by decide) (by decide)
            refine g_isub C (v := x_62) dX12_seatFrom_114 hx_62 ?_
            obtain ⟨x_63, hx_63, rx_63⟩ := ex_any (z0 := I_51 b_1 (x_62.toNatClampNeg))
            refine h_iald C K hb_1L hb_1k (v := x_63) (x_62.toNatClampNeg) (rfl) (ix_0 rx_62 (by decide)) (ix_lt rx_62 (by decide) hb_1n (by decide)) hx_63 dX12_seatFrom_115 ?_
            refine g_icmp_ne C (tgt := 125) dX12_seatFrom_116 (by decide) (fun h_64 => ?_) (fun h_64 => ?_)
            · skip
              refine g_iload_n C 3 dX12_seatFrom_125 rfl rfl ?_
              refine g_callVV C K (c_X12_seatFrom_7 W9 hLx hkx x_54 x_57 a2 (rx_54) (rx_57) (rg_w ra2 (by decide) (by decide)) hU_52  (by have q1 := bc_rm (z := x_57) (rg_w r_26 (by decide) (by decide)) (r_42) (ex_44 n_49) (by rw [hx_55, hx_56]; exact hx_57); have q2 := hbc; omega)) hLx hkx (by decide) rfl v_12_323 rfl ⟨rfl, rfl⟩ ⟨Nat.le_of_ble_eq_true rfl, Nat.le_of_ble_eq_true rfl⟩ (Nat.le_of_ble_eq_true rfl) ⟨Nat.le_of_ble_eq_true rfl, Nat.le_of_ble_eq_true rfl⟩ dX12_seatFrom_126 rfl (st := []) (fun I_66 J_67 h_68 => ?_)
              obtain ⟨hUI_66, hFI_66, hGJ_67⟩ := h_68
              have hF_69 := fq_tr hF_53 hFI_66 (by decide)
              have hG_70 := fq_tr hG_25 hGJ_67 (by decide)
              refine g_lo (is := [0, 1, 2, 3, 4]) (lo2 := [(0, .ref x), (1, .int a0), (2, .int a1), (3, .int a2), (4, .int v_28)]) rfl ?_
              exact j_129 I_66 J_67 hUI_66 hF_69 hG_70 (r_26) (n_27) v_28 (r_42) hm_29
            · skip
              refine g_iload_n C 3 dX12_seatFrom_119 rfl rfl ?_
              refine g_iconst C (v := 1) dX12_seatFrom_120 (by decide) ?_
              obtain ⟨x_71, hx_71, rx_71, tx_71⟩ := ex_add 1 6 ra2 rc_1 (by decide) (by decide) (by decide) (by decide)
              refine g_iadd C (v := x_71) dX12_seatFrom_121 hx_71 ?_
              refine g_goto C (tgt := 126) dX12_seatFrom_122 (by decide) ?_
              refine g_callVV C K (c_X12_seatFrom_7 W9 hLx hkx x_54 x_57 x_71 (rx_54) (rx_57) (rg_w rx_71 (by decide) (by decide)) hU_52  (by have q1 := bc_rm (z := x_57) (rg_w r_26 (by decide) (by decide)) (r_42) (ex_44 n_49) (by rw [hx_55, hx_56]; exact hx_57); have q2 := hbc; omega)) hLx hkx (by decide) rfl v_12_323 rfl ⟨rfl, rfl⟩ ⟨Nat.le_of_ble_eq_true rfl, Nat.le_of_ble_eq_true rfl⟩ (Nat.le_of_ble_eq_true rfl) ⟨Nat.le_of_ble_eq_true rfl, Nat.le_of_ble_eq_true rfl⟩ dX12_seatFrom_126 rfl (st := []) (fun I_73 J_74 h_75 => ?_)
              obtain ⟨hUI_73, hFI_73, hGJ_74⟩ := h_75
              have hF_76 := fq_tr hF_53 hFI_73 (by decide)
              have hG_77 := fq_tr hG_25 hGJ_74 (by decide)
              refine g_lo (is := [0, 1, 2, 3, 4]) (lo2 := [(0, .ref x), (1, .int a0), (2, .int a1), (3, .int a2), (4, .int v_28)]) rfl ?_
              exact j_129 I_73 J_74 hUI_73 hF_76 hG_77 (r_26) (n_27) v_28 (r_42) hm_29
        · skip
          have r_78 := (⟨(rx_44).1, (eq_rg (h_48) rc_0).2⟩ : Rg 0 0 x_44)
          refine g_goto C (tgt := 129) dX12_seatFrom_71 (by decide) ?_
          refine g_lo (is := [0, 1, 2, 3, 4]) (lo2 := [(0, .ref x), (1, .int a0), (2, .int a1), (3, .int a2), (4, .int v_28)]) rfl ?_
          exact j_129 I_21 J_22 hU_23 hF_24 hG_25 (r_26) (n_27) v_28 (r_42) hm_29
  refine g_iload_n C 2 dX12_seatFrom_0 rfl rfl ?_
  refine g_if_ne C (tgt := 48) dX12_seatFrom_1 (by decide) (fun h_79 => ?_) (fun h_79 => ?_)
  · skip
    have n_80 : ¬ a1 = 0 := h_79
    have r_81 := ne_lo (lo := 1) n_80 ra1 rc_0 rfl (by decide)
    refine g_iconst C (v := 0) dX12_seatFrom_48 (by decide) ?_
    refine g_istore C dX12_seatFrom_49 (by decide) (lo2 := [(4, .int 0), (0, .ref x), (1, .int a0), (2, .int a1), (3, .int a2)]) rfl ?_
    refine g_lo (is := [1, 2, 3, 4, 0]) (lo2 := [(0, .ref x), (1, .int a0), (2, .int a1), (3, .int a2), (4, .int 0)]) rfl ?_
    exact l_51 8 I J hU hF hG (r_81) (n_80) 0 (rg_w rc_0 (by decide) (by decide)) (ms_s (a := 0) (b := 7) (N := 8) (rg_w rc_0 (by decide) (by decide)) (by decide))
  · skip
    have r_82 := (⟨(ra1).1, (eq_rg (h_79) rc_0).2⟩ : Rg 0 0 a1)
    refine g_iload_n C 3 dX12_seatFrom_4 rfl rfl ?_
    refine g_aload_n C 0 dX12_seatFrom_5 rfl rfl ?_
    obtain ⟨x_83, hx_83, rx_83⟩ := ex_getw (I := I) (a := x) (j := 38) (lo := (-2147483648)) (hi := 2147483647) hU.1 hLx (ro_o hkx (by decide)) rfl
    refine g_getI C K hLx hkx f_12_320 (v := x_83) hx_83 dX12_seatFrom_6 ?_
    refine g_icmp_gt C (tgt := 13) dX12_seatFrom_9 (by decide) (fun h_84 => ?_) (fun h_84 => ?_)
    · skip
      have r_85 := lt_l (hi := 4) (h_84) rx_83 ra2 (by decide)
      refine g_aload_n C 0 dX12_seatFrom_13 rfl rfl ?_
      refine g_iload_n C 3 dX12_seatFrom_14 rfl rfl ?_
      refine h_putI C K hLx hkx f_12_320 p_12_38 dX12_seatFrom_15 (fun I_86 hI_86 => ?_)
      have hU_87 := iw_put W9 hU hI_86 (ro_o hkx (by decide)) (lo := (-2147483648)) (hi := 2147483647) (rfl) (rg_all _) rfl
      have hF_88 := fq_puto hF hI_86 hkx (by decide) (by decide)
      refine g_iconst C (v := 0) dX12_seatFrom_18 (by decide) ?_
      refine g_istore C dX12_seatFrom_19 (by decide) (lo2 := [(4, .int 0), (0, .ref x), (1, .int a0), (2, .int a1), (3, .int a2)]) rfl ?_
      refine g_lo (is := [1, 2, 3, 4, 0]) (lo2 := [(0, .ref x), (1, .int a0), (2, .int a1), (3, .int a2), (4, .int 0)]) rfl ?_
      exact l_21 7 I_86 J hU_87 hF_88 hG (r_82) 0 (rg_w rc_0 (by decide) (by decide)) (kp_s hI_86) (ms_s (a := 0) (b := 6) (N := 7) (rg_w rc_0 (by decide) (by decide)) (by decide))
    · skip
      have r_89 := le_r (nlt h_84) ra2 rx_83
      exact g_vret B K rfl ⟨hU, hF, hG⟩ dX12_seatFrom_12
set_option maxRecDepth 100000 in
set_option maxHeartbeats 8000000 in
theorem c_X12_seatFrom_5 {l : Launch} {D : va_G} {cy : Nat → ClassId} {L : List Nat} {κ ln : Nat → Nat} {R : Nat → Nat → Option Nat} {I : Nat → Nat → Int32} {J : Nat → Nat → Int64} {ow : Nat → Nat × Nat} (W9 : ∀ a ∈ L, Shp L κ ln R ow a) {x : Nat} (hLx : x ∈ L) (hkx : κ x = 12) (a0 : Int32) (a1 : Int32) (a2 : Int32) (ra0 : Rg 5 5 a0) (ra1 : Rg 0 127 a1) (ra2 : Rg 0 4 a2) (hU : Iw L κ R ow I) (hbc : (bc_ a1).toInt ≤ 2) : CtV l yX12_seatFrom cX12_seatFrom 5 none { frames := 2, cells := 0, slots := 0, locals := 48 } D cy L κ ln R I J [.ref x, .int a0, .int a1, .int a2] (fun I2 J2 => Iw L κ R ow I2 ∧ Fq L κ ow [1238, 85500, 85600] I I2 ∧ Fq L κ ow [] J J2) := by
  refine CtV.of (by decide +kernel) (Nat.le_of_ble_eq_true rfl) ?_
  intro p e s m below meth c B K
  have C := B.1
  have hF : Fq L κ ow [1238, 85500, 85600] I I := fq_rf
  have hG : Fq L κ ow [] J J := fq_rf
  obtain ⟨b_1, hb_1, hb_1L, hb_1k, hb_1n, hb_1o⟩ := shp_a (W9 x hLx) hkx 35 14 7 rfl (by decide)
  obtain ⟨b_2, hb_2, hb_2L, hb_2k, hb_2n, hb_2o⟩ := shp_a (W9 x hLx) hkx 36 14 7 rfl (by decide)
  obtain ⟨b_3, hb_3, hb_3L, hb_3k, hb_3n, hb_3o⟩ := shp_a (W9 x hLx) hkx 14 14 389 rfl (by decide)
  refine g_lo (is := [0, 1, 2, 3]) (lo2 := [(0, .ref x), (1, .int a0), (2, .int a1), (3, .int a2)]) rfl ?_
  have l_21 : ∀ (n_21 : Nat) (I_4 : Nat → Nat → Int32) (J_5 : Nat → Nat → Int64) (hU_6 : Iw L κ R ow I_4) (hF_7 : Fq L κ ow [1238, 85500, 85600] I I_4) (hG_8 : Fq L κ ow [] J J_5) (r_9 : Rg 0 0 a1) (v_10 : Int32) (rv_10 : Rg 0 5 v_10) (q_11 : I_4 x 38 = a2) (hm_12 : 5 < (v_10 : Int32).toInt + (n_21 : Int)), WG p l e { frames := 2, cells := 0, slots := 0, locals := 48 } s m ([.ref x, .int a0, .int a1, .int a2] : List Value).toArray below meth c 5 0 0 (MQ below (Qv_ D cy L κ ln R (fun I2 J2 => Iw L κ R ow I2 ∧ Fq L κ ow [1238, 85500, 85600] I I2 ∧ Fq L κ ow [] J J2)) ([.ref x, .int a0, .int a1, .int a2] : List Value).toArray s 0 0 (Al_ L)) D cy (Al_ L) s.heap L κ ln R I_4 J_5 21 [(0, .ref x), (1, .int a0), (2, .int a1), (3, .int a2), (4, .int v_10)] [] := by
    intro n_21
    induction n_21 with
    | zero =>
      intro I_4 J_5 hU_6 hF_7 hG_8 r_9 v_10 rv_10 q_11 hm_12
      exact ms_0 rv_10 hm_12
    | succ n_21 ih_21 =>
      intro I_4 J_5 hU_6 hF_7 hG_8 r_9 v_10 rv_10 q_11 hm_12
      refine g_iload C 4 dX12_seatFrom_21 rfl ?_
      refine g_iload_n C 1 dX12_seatFrom_23 rfl rfl ?_
      refine g_icmp_ge C (tgt := 47) dX12_seatFrom_24 (by decide) (fun h_13 => ?_) (fun h_13 => ?_)
      · skip
        have r_14 := le_r (h_13) ra0 rv_10
        exact g_vret B K rfl ⟨hU_6, hF_7, hG_8⟩ dX12_seatFrom_47
      · skip
        have r_15 := lt_l (hi := 4) (nle h_13) rv_10 ra0 (by decide)
        refine g_aload_n C 0 dX12_seatFrom_27 rfl rfl ?_
        refine g_getR C K hLx hkx f_12_67 hb_2 dX12_seatFrom_28 ?_
        refine g_iload C 4 dX12_seatFrom_31 rfl ?_
        refine g_aload_n C 0 dX12_seatFrom_33 rfl rfl ?_
        refine g_getR C K hLx hkx f_12_64 hb_1 dX12_seatFrom_34 ?_
        refine g_iload C 4 dX12_seatFrom_37 rfl ?_
        obtain ⟨x_16, hx_16, rx_16⟩ := ex_any (z0 := I_4 b_1 (v_10.toNatClampNeg))
        refine h_iald C K hb_1L hb_1k (v := x_16) (v_10.toNatClampNeg) (rfl) (ix_0 r_15 (by decide)) (ix_lt r_15 (by decide) hb_1n (by decide)) hx_16 dX12_seatFrom_39 ?_
        refine h_iast C K hb_2L hb_2k (v_10.toNatClampNeg) (rfl) (ix_0 r_15 (by decide)) (ix_lt r_15 (by decide) hb_2n (by decide)) dX12_seatFrom_40 (fun I_17 hI_17 => ?_)
        have hU_18 := iw_put W9 hU_6 hI_17 (ro_a hb_2k (by decide) hb_2o hkx rfl) (lo := (-2147483648)) (hi := 2147483647) (rfl) (rx_16) rfl
        have hF_19 := fq_puta hF_7 hI_17 (ro_a hb_2k (by decide) hb_2o hkx rfl) (by decide) (by decide)
        obtain ⟨x_20, hx_20, rx_20, tx_20⟩ := ex_add (y := 1) 1 5 r_15 rc_1 (by decide) (by decide) (by decide) (by decide)
        refine g_iinc C dX12_seatFrom_41 (k := 4) (v := x_20) rfl hx_20 (by decide) (lo2 := [(4, .int x_20), (0, .ref x), (1, .int a0), (2, .int a1), (3, .int a2)]) rfl ?_
        refine g_goto C (tgt := 21) dX12_seatFrom_44 (by decide) ?_
        refine g_lo (is := [1, 2, 3, 4, 0]) (lo2 := [(0, .ref x), (1, .int a0), (2, .int a1), (3, .int a2), (4, .int x_20)]) rfl ?_
        exact ih_21 I_17 J_5 hU_18 hF_19 hG_8 (r_9) x_20 (rg_w rx_20 (by decide) (by decide)) (kp_k (κ := κ) hI_17 (by rw [hkx, hb_2k]; decide) q_11) (ms_1 hm_12 (ti_k tx_20 rc_1) (by decide))
  have l_51 : ∀ (n_51 : Nat) (I_21 : Nat → Nat → Int32) (J_22 : Nat → Nat → Int64) (hU_23 : Iw L κ R ow I_21) (hF_24 : Fq L κ ow [1238, 85500, 85600] I I_21) (hG_25 : Fq L κ ow [] J J_22) (r_26 : Rg 1 127 a1) (n_27 : ¬ a1 = 0) (v_28 : Int32) (rv_28 : Rg 0 7 v_28) (hm_29 : 7 < (v_28 : Int32).toInt + (n_51 : Int)), WG p l e { frames := 2, cells := 0, slots := 0, locals := 48 } s m ([.ref x, .int a0, .int a1, .int a2] : List Value).toArray below meth c 5 0 0 (MQ below (Qv_ D cy L κ ln R (fun I2 J2 => Iw L κ R ow I2 ∧ Fq L κ ow [1238, 85500, 85600] I I2 ∧ Fq L κ ow [] J J2)) ([.ref x, .int a0, .int a1, .int a2] : List Value).toArray s 0 0 (Al_ L)) D cy (Al_ L) s.heap L κ ln R I_21 J_22 51 [(0, .ref x), (1, .int a0), (2, .int a1), (3, .int a2), (4, .int v_28)] [] := by
    intro n_51
    induction n_51 with
    | zero =>
      intro I_21 J_22 hU_23 hF_24 hG_25 r_26 n_27 v_28 rv_28 hm_29
      exact ms_0 rv_28 hm_29
    | succ n_51 ih_51 =>
      intro I_21 J_22 hU_23 hF_24 hG_25 r_26 n_27 v_28 rv_28 hm_29
      have j_129 : ∀ (I_30 : Nat → Nat → Int32) (J_31 : Nat → Nat → Int64) (hU_32 : Iw L κ R ow I_30) (hF_33 : Fq L κ ow [1238, 85500, 85600] I I_30) (hG_34 : Fq L κ ow [] J J_31) (r_35 : Rg 1 127 a1) (n_36 : ¬ a1 = 0) (v_37 : Int32) (rv_37 : Rg 0 6 v_37) (hm_38 : 7 < (v_37 : Int32).toInt + ((n_51 + 1 : Nat) : Int)), WG p l e { frames := 2, cells := 0, slots := 0, locals := 48 } s m ([.ref x, .int a0, .int a1, .int a2] : List Value).toArray below meth c 5 0 0 (MQ below (Qv_ D cy L κ ln R (fun I2 J2 => Iw L κ R ow I2 ∧ Fq L κ ow [1238, 85500, 85600] I I2 ∧ Fq L κ ow [] J J2)) ([.ref x, .int a0, .int a1, .int a2] : List Value).toArray s 0 0 (Al_ L)) D cy (Al_ L) s.heap L κ ln R I_30 J_31 129 [(0, .ref x), (1, .int a0), (2, .int a1), (3, .int a2), (4, .int v_37)] [] := by
        intro I_30 J_31 hU_32 hF_33 hG_34 r_35 n_36 v_37 rv_37 hm_38
        obtain ⟨x_39, hx_39, rx_39, tx_39⟩ := ex_add (y := 1) 1 7 rv_37 rc_1 (by decide) (by decide) (by decide) (by decide)
        refine g_iinc C dX12_seatFrom_129 (k := 4) (v := x_39) rfl hx_39 (by decide) (lo2 := [(4, .int x_39), (0, .ref x), (1, .int a0), (2, .int a1), (3, .int a2)]) rfl ?_
        refine g_goto C (tgt := 51) dX12_seatFrom_132 (by decide) ?_
        refine g_lo (is := [1, 2, 3, 4, 0]) (lo2 := [(0, .ref x), (1, .int a0), (2, .int a1), (3, .int a2), (4, .int x_39)]) rfl ?_
        exact ih_51 I_30 J_31 hU_32 hF_33 hG_34 (r_35) (n_36) x_39 (rg_w rx_39 (by decide) (by decide)) (ms_1 hm_38 (ti_k tx_39 rc_1) (by decide))
      refine g_iload C 4 dX12_seatFrom_51 rfl ?_
      refine g_aload_n C 0 dX12_seatFrom_53 rfl rfl ?_
      refine g_getR C K hLx hkx f_12_13 hb_3 dX12_seatFrom_54 ?_
      refine g_iconst C (v := 0) dX12_seatFrom_57 (by decide) ?_
      obtain ⟨x_40, hx_40, rx_40⟩ := ex_getw (I := I_21) (a := b_3) (j := 0) (lo := 0) (hi := 7) hU_23.1 hb_3L (ro_a hb_3k (by decide) hb_3o hkx rfl) (by decide)
      refine h_iald C K hb_3L hb_3k (v := x_40) (0) (by decide) (by decide) (by rw [hb_3n]; decide) hx_40 dX12_seatFrom_58 ?_
      refine g_icmp_ge C (tgt := 135) dX12_seatFrom_59 (by decide) (fun h_41 => ?_) (fun h_41 => ?_)
      · skip
        exact g_vret B K rfl ⟨hU_23, hF_24, hG_25⟩ dX12_seatFrom_135
      · skip
        have r_42 := lt_l (hi := 6) (nle h_41) rv_28 rx_40 (by decide)
        have r_43 := lt_r (lo := 1) (nle h_41) rv_28 rx_40 (by decide)
        refine g_iload_n C 2 dX12_seatFrom_62 rfl rfl ?_
        refine g_iload C 4 dX12_seatFrom_63 rfl ?_
        refine g_callSI C K (c_X12_has W9 a1 v_28  hU_23) s_12_231 rfl ⟨rfl, rfl⟩ ⟨Nat.le_of_ble_eq_true rfl, Nat.le_of_ble_eq_true rfl⟩ (Nat.le_of_ble_eq_true rfl) ⟨Nat.le_of_ble_eq_true rfl, Nat.le_of_ble_eq_true rfl⟩ dX12_seatFrom_65 rfl (st := []) (fun x_44 I_45 J_46 h_47 => ?_)
        obtain ⟨rfl, rfl, rx_44, ex_44⟩ := h_47
        refine g_if_ne C (tgt := 74) dX12_seatFrom_68 (by decide) (fun h_48 => ?_) (fun h_48 => ?_)
        · skip
          have n_49 : ¬ x_44 = 0 := h_48
          have r_50 := ne_lo (lo := 1) n_49 rx_44 rc_0 rfl (by decide)
          refine g_aload_n C 0 dX12_seatFrom_74 rfl rfl ?_
          refine g_getR C K hLx hkx f_12_64 hb_1 dX12_seatFrom_75 ?_
          refine g_iload_n C 1 dX12_seatFrom_78 rfl rfl ?_
          refine g_iload C 4 dX12_seatFrom_79 rfl ?_
          refine h_iast C K hb_1L hb_1k (a0.toNatClampNeg) (rfl) (ix_0 ra0 (by decide)) (ix_lt ra0 (by decide) hb_1n (by decide)) dX12_seatFrom_81 (fun I_51 hI_51 => ?_)
          have hU_52 := iw_put W9 hU_23 hI_51 (ro_a hb_1k (by decide) hb_1o hkx rfl) (lo := (-2147483648)) (hi := 2147483647) (rfl) (rg_all _) rfl
          have hF_53 := fq_puta hF_24 hI_51 (ro_a hb_1k (by decide) hb_1o hkx rfl) (by decide) (by decide)
          refine g_aload_n C 0 dX12_seatFrom_82 rfl rfl ?_
          refine g_iload_n C 1 dX12_seatFrom_83 rfl rfl ?_
          refine g_iconst C (v := 1) dX12_seatFrom_84 (by decide) ?_
          obtain ⟨x_54, hx_54, rx_54, tx_54⟩ := ex_add 6 6 ra0 rc_1 (by decide) (by decide) (by decide) (by decide)
          refine g_iadd C (v := x_54) dX12_seatFrom_85 hx_54 ?_
          refine g_iload_n C 2 dX12_seatFrom_86 rfl rfl ?_
          refine g_iconst C (v := 1) dX12_seatFrom_87 (by decide) ?_
          refine g_iload C 4 dX12_seatFrom_88 rfl ?_
          obtain ⟨x_55, hx_55, rx_55⟩ := ex_shl (x := 1) (y := v_28) 6 64 rfl (r_42) (by decide)
          refine g_ishl C (v := x_55) dX12_seatFrom_90 hx_55 ?_
          refine g_iconst C (v := (-1)) dX12_seatFrom_91 (by decide) ?_
          obtain ⟨x_56, hx_56, rx_56⟩ := ex_any (z0 := x_55 ^^^ (-1))
          refine g_ixor C (v := x_56) dX12_seatFrom_92 hx_56 ?_
          obtain ⟨x_57, hx_57, rx_57⟩ := ex_andl (x := a1) (y := x_56) (b := 127) (rg_w r_26 (by decide) (by decide))
          refine g_iand C (v := x_57) dX12_seatFrom_93 hx_57 ?_
          refine g_iload_n C 1 dX12_seatFrom_94 rfl rfl ?_
          refine g_if_le C (tgt := 125) dX12_seatFrom_95 (by decide) (fun h_58 => ?_) (fun h_58 => ?_)
          · skip
            have r_59 := le_l (h_58) ra0 rc_0
            exact rg_no r_59 (by decide)
          · skip
            refine g_aload_n C 0 dX12_seatFrom_98 rfl rfl ?_
            refine g_getR C K hLx hkx f_12_13 hb_3 dX12_seatFrom_99 ?_
            refine g_bipush C (v := 11) dX12_seatFrom_102 (by decide) ?_
            refine g_iload C 4 dX12_seatFrom_104 rfl ?_
            obtain ⟨x_60, hx_60, rx_60, tx_60⟩ := ex_add 11 17 rc_11 r_42 (by decide) (by decide) (by decide) (by decide)
            refine g_iadd C (v := x_60) dX12_seatFrom_106 hx_60 ?_
            obtain ⟨x_61, hx_61, rx_61⟩ := ex_any (z0 := I_51 b_3 (x_60.toNatClampNeg))
            refine h_iald C K hb_3L hb_3k (v := x_61) (x_60.toNatClampNeg) (rfl) (ix_0 rx_60 (by decide)) (ix_lt rx_60 (by decide) hb_3n (by decide)) hx_61 dX12_seatFrom_107 ?_
            refine g_aload_n C 0 dX12_seatFrom_108 rfl rfl ?_
            refine g_getR C K hLx hkx f_12_64 hb_1 dX12_seatFrom_109 ?_
            refine g_iload_n C 1 dX12_seatFrom_112 rfl rfl ?_
            refine g_iconst C (v := 1) dX12_seatFrom_113 (by decide) ?_
            obtain ⟨x_62, hx_62, rx_62, tx_62⟩ := ex_sub 4 4 ra0 rc_1 (by decide) (by decide) (by decide) (by decide)
            refine g_isub C (v := x_62) dX12_seatFrom_114 hx_62 ?_
            obtain ⟨x_63, hx_63, rx_63⟩ := ex_any (z0 := I_51 b_1 (x_62.toNatClampNeg))
            refine h_iald C K hb_1L hb_1k (v := x_63) (x_62.toNatClampNeg) (rfl) (ix_0 rx_62 (by decide)) (ix_lt rx_62 (by decide) hb_1n (by decide)) hx_63 dX12_seatFrom_115 ?_
            refine g_icmp_ne C (tgt := 125) dX12_seatFrom_116 (by decide) (fun h_64 => ?_) (fun h_64 => ?_)
            · skip
              refine g_iload_n C 3 dX12_seatFrom_125 rfl rfl ?_
              refine g_callVV C K (c_X12_seatFrom_6 W9 hLx hkx x_54 x_57 a2 (rx_54) (rx_57) (rg_w ra2 (by decide) (by decide)) hU_52  (by have q1 := bc_rm (z := x_57) (rg_w r_26 (by decide) (by decide)) (r_42) (ex_44 n_49) (by rw [hx_55, hx_56]; exact hx_57); have q2 := hbc; omega)) hLx hkx (by decide) rfl v_12_323 rfl ⟨rfl, rfl⟩ ⟨Nat.le_of_ble_eq_true rfl, Nat.le_of_ble_eq_true rfl⟩ (Nat.le_of_ble_eq_true rfl) ⟨Nat.le_of_ble_eq_true rfl, Nat.le_of_ble_eq_true rfl⟩ dX12_seatFrom_126 rfl (st := []) (fun I_66 J_67 h_68 => ?_)
              obtain ⟨hUI_66, hFI_66, hGJ_67⟩ := h_68
              have hF_69 := fq_tr hF_53 hFI_66 (by decide)
              have hG_70 := fq_tr hG_25 hGJ_67 (by decide)
              refine g_lo (is := [0, 1, 2, 3, 4]) (lo2 := [(0, .ref x), (1, .int a0), (2, .int a1), (3, .int a2), (4, .int v_28)]) rfl ?_
              exact j_129 I_66 J_67 hUI_66 hF_69 hG_70 (r_26) (n_27) v_28 (r_42) hm_29
            · skip
              refine g_iload_n C 3 dX12_seatFrom_119 rfl rfl ?_
              refine g_iconst C (v := 1) dX12_seatFrom_120 (by decide) ?_
              obtain ⟨x_71, hx_71, rx_71, tx_71⟩ := ex_add 1 5 ra2 rc_1 (by decide) (by decide) (by decide) (by decide)
              refine g_iadd C (v := x_71) dX12_seatFrom_121 hx_71 ?_
              refine g_goto C (tgt := 126) dX12_seatFrom_122 (by decide) ?_
              refine g_callVV C K (c_X12_seatFrom_6 W9 hLx hkx x_54 x_57 x_71 (rx_54) (rx_57) (rg_w rx_71 (by decide) (by decide)) hU_52  (by have q1 := bc_rm (z := x_57) (rg_w r_26 (by decide) (by decide)) (r_42) (ex_44 n_49) (by rw [hx_55, hx_56]; exact hx_57); have q2 := hbc; omega)) hLx hkx (by decide) rfl v_12_323 rfl ⟨rfl, rfl⟩ ⟨Nat.le_of_ble_eq_true rfl, Nat.le_of_ble_eq_true rfl⟩ (Nat.le_of_ble_eq_true rfl) ⟨Nat.le_of_ble_eq_true rfl, Nat.le_of_ble_eq_true rfl⟩ dX12_seatFrom_126 rfl (st := []) (fun I_73 J_74 h_75 => ?_)
              obtain ⟨hUI_73, hFI_73, hGJ_74⟩ := h_75
              have hF_76 := fq_tr hF_53 hFI_73 (by decide)
              have hG_77 := fq_tr hG_25 hGJ_74 (by decide)
              refine g_lo (is := [0, 1, 2, 3, 4]) (lo2 := [(0, .ref x), (1, .int a0), (2, .int a1), (3, .int a2), (4, .int v_28)]) rfl ?_
              exact j_129 I_73 J_74 hUI_73 hF_76 hG_77 (r_26) (n_27) v_28 (r_42) hm_29
        · skip
          have r_78 := (⟨(rx_44).1, (eq_rg (h_48) rc_0).2⟩ : Rg 0 0 x_44)
          refine g_goto C (tgt := 129) dX12_seatFrom_71 (by decide) ?_
          refine g_lo (is := [0, 1, 2, 3, 4]) (lo2 := [(0, .ref x), (1, .int a0), (2, .int a1), (3, .int a2), (4, .int v_28)]) rfl ?_
          exact j_129 I_21 J_22 hU_23 hF_24 hG_25 (r_26) (n_27) v_28 (r_42) hm_29
  refine g_iload_n C 2 dX12_seatFrom_0 rfl rfl ?_
  refine g_if_ne C (tgt := 48) dX12_seatFrom_1 (by decide) (fun h_79 => ?_) (fun h_79 => ?_)
  · skip
    have n_80 : ¬ a1 = 0 := h_79
    have r_81 := ne_lo (lo := 1) n_80 ra1 rc_0 rfl (by decide)
    refine g_iconst C (v := 0) dX12_seatFrom_48 (by decide) ?_
    refine g_istore C dX12_seatFrom_49 (by decide) (lo2 := [(4, .int 0), (0, .ref x), (1, .int a0), (2, .int a1), (3, .int a2)]) rfl ?_
    refine g_lo (is := [1, 2, 3, 4, 0]) (lo2 := [(0, .ref x), (1, .int a0), (2, .int a1), (3, .int a2), (4, .int 0)]) rfl ?_
    exact l_51 8 I J hU hF hG (r_81) (n_80) 0 (rg_w rc_0 (by decide) (by decide)) (ms_s (a := 0) (b := 7) (N := 8) (rg_w rc_0 (by decide) (by decide)) (by decide))
  · skip
    have r_82 := (⟨(ra1).1, (eq_rg (h_79) rc_0).2⟩ : Rg 0 0 a1)
    refine g_iload_n C 3 dX12_seatFrom_4 rfl rfl ?_
    refine g_aload_n C 0 dX12_seatFrom_5 rfl rfl ?_
    obtain ⟨x_83, hx_83, rx_83⟩ := ex_getw (I := I) (a := x) (j := 38) (lo := (-2147483648)) (hi := 2147483647) hU.1 hLx (ro_o hkx (by decide)) rfl
    refine g_getI C K hLx hkx f_12_320 (v := x_83) hx_83 dX12_seatFrom_6 ?_
    refine g_icmp_gt C (tgt := 13) dX12_seatFrom_9 (by decide) (fun h_84 => ?_) (fun h_84 => ?_)
    · skip
      have r_85 := lt_l (hi := 3) (h_84) rx_83 ra2 (by decide)
      refine g_aload_n C 0 dX12_seatFrom_13 rfl rfl ?_
      refine g_iload_n C 3 dX12_seatFrom_14 rfl rfl ?_
      refine h_putI C K hLx hkx f_12_320 p_12_38 dX12_seatFrom_15 (fun I_86 hI_86 => ?_)
      have hU_87 := iw_put W9 hU hI_86 (ro_o hkx (by decide)) (lo := (-2147483648)) (hi := 2147483647) (rfl) (rg_all _) rfl
      have hF_88 := fq_puto hF hI_86 hkx (by decide) (by decide)
      refine g_iconst C (v := 0) dX12_seatFrom_18 (by decide) ?_
      refine g_istore C dX12_seatFrom_19 (by decide) (lo2 := [(4, .int 0), (0, .ref x), (1, .int a0), (2, .int a1), (3, .int a2)]) rfl ?_
      refine g_lo (is := [1, 2, 3, 4, 0]) (lo2 := [(0, .ref x), (1, .int a0), (2, .int a1), (3, .int a2), (4, .int 0)]) rfl ?_
      exact l_21 6 I_86 J hU_87 hF_88 hG (r_82) 0 (rg_w rc_0 (by decide) (by decide)) (kp_s hI_86) (ms_s (a := 0) (b := 5) (N := 6) (rg_w rc_0 (by decide) (by decide)) (by decide))
    · skip
      have r_89 := le_r (nlt h_84) ra2 rx_83
      exact g_vret B K rfl ⟨hU, hF, hG⟩ dX12_seatFrom_12
set_option maxRecDepth 100000 in
set_option maxHeartbeats 8000000 in
theorem c_X12_seatFrom_4 {l : Launch} {D : va_G} {cy : Nat → ClassId} {L : List Nat} {κ ln : Nat → Nat} {R : Nat → Nat → Option Nat} {I : Nat → Nat → Int32} {J : Nat → Nat → Int64} {ow : Nat → Nat × Nat} (W9 : ∀ a ∈ L, Shp L κ ln R ow a) {x : Nat} (hLx : x ∈ L) (hkx : κ x = 12) (a0 : Int32) (a1 : Int32) (a2 : Int32) (ra0 : Rg 4 4 a0) (ra1 : Rg 0 127 a1) (ra2 : Rg 0 3 a2) (hU : Iw L κ R ow I) (hbc : (bc_ a1).toInt ≤ 3) : CtV l yX12_seatFrom cX12_seatFrom 5 none { frames := 3, cells := 0, slots := 0, locals := 72 } D cy L κ ln R I J [.ref x, .int a0, .int a1, .int a2] (fun I2 J2 => Iw L κ R ow I2 ∧ Fq L κ ow [1238, 85500, 85600] I I2 ∧ Fq L κ ow [] J J2) := by
  refine CtV.of (by decide +kernel) (Nat.le_of_ble_eq_true rfl) ?_
  intro p e s m below meth c B K
  have C := B.1
  have hF : Fq L κ ow [1238, 85500, 85600] I I := fq_rf
  have hG : Fq L κ ow [] J J := fq_rf
  obtain ⟨b_1, hb_1, hb_1L, hb_1k, hb_1n, hb_1o⟩ := shp_a (W9 x hLx) hkx 35 14 7 rfl (by decide)
  obtain ⟨b_2, hb_2, hb_2L, hb_2k, hb_2n, hb_2o⟩ := shp_a (W9 x hLx) hkx 36 14 7 rfl (by decide)
  obtain ⟨b_3, hb_3, hb_3L, hb_3k, hb_3n, hb_3o⟩ := shp_a (W9 x hLx) hkx 14 14 389 rfl (by decide)
  refine g_lo (is := [0, 1, 2, 3]) (lo2 := [(0, .ref x), (1, .int a0), (2, .int a1), (3, .int a2)]) rfl ?_
  have l_21 : ∀ (n_21 : Nat) (I_4 : Nat → Nat → Int32) (J_5 : Nat → Nat → Int64) (hU_6 : Iw L κ R ow I_4) (hF_7 : Fq L κ ow [1238, 85500, 85600] I I_4) (hG_8 : Fq L κ ow [] J J_5) (r_9 : Rg 0 0 a1) (v_10 : Int32) (rv_10 : Rg 0 4 v_10) (q_11 : I_4 x 38 = a2) (hm_12 : 4 < (v_10 : Int32).toInt + (n_21 : Int)), WG p l e { frames := 3, cells := 0, slots := 0, locals := 72 } s m ([.ref x, .int a0, .int a1, .int a2] : List Value).toArray below meth c 5 0 0 (MQ below (Qv_ D cy L κ ln R (fun I2 J2 => Iw L κ R ow I2 ∧ Fq L κ ow [1238, 85500, 85600] I I2 ∧ Fq L κ ow [] J J2)) ([.ref x, .int a0, .int a1, .int a2] : List Value).toArray s 0 0 (Al_ L)) D cy (Al_ L) s.heap L κ ln R I_4 J_5 21 [(0, .ref x), (1, .int a0), (2, .int a1), (3, .int a2), (4, .int v_10)] [] := by
    intro n_21
    induction n_21 with
    | zero =>
      intro I_4 J_5 hU_6 hF_7 hG_8 r_9 v_10 rv_10 q_11 hm_12
      exact ms_0 rv_10 hm_12
    | succ n_21 ih_21 =>
      intro I_4 J_5 hU_6 hF_7 hG_8 r_9 v_10 rv_10 q_11 hm_12
      refine g_iload C 4 dX12_seatFrom_21 rfl ?_
      refine g_iload_n C 1 dX12_seatFrom_23 rfl rfl ?_
      refine g_icmp_ge C (tgt := 47) dX12_seatFrom_24 (by decide) (fun h_13 => ?_) (fun h_13 => ?_)
      · skip
        have r_14 := le_r (h_13) ra0 rv_10
        exact g_vret B K rfl ⟨hU_6, hF_7, hG_8⟩ dX12_seatFrom_47
      · skip
        have r_15 := lt_l (hi := 3) (nle h_13) rv_10 ra0 (by decide)
        refine g_aload_n C 0 dX12_seatFrom_27 rfl rfl ?_
        refine g_getR C K hLx hkx f_12_67 hb_2 dX12_seatFrom_28 ?_
        refine g_iload C 4 dX12_seatFrom_31 rfl ?_
        refine g_aload_n C 0 dX12_seatFrom_33 rfl rfl ?_
        refine g_getR C K hLx hkx f_12_64 hb_1 dX12_seatFrom_34 ?_
        refine g_iload C 4 dX12_seatFrom_37 rfl ?_
        obtain ⟨x_16, hx_16, rx_16⟩ := ex_any (z0 := I_4 b_1 (v_10.toNatClampNeg))
        refine h_iald C K hb_1L hb_1k (v := x_16) (v_10.toNatClampNeg) (rfl) (ix_0 r_15 (by decide)) (ix_lt r_15 (by decide) hb_1n (by decide)) hx_16 dX12_seatFrom_39 ?_
        refine h_iast C K hb_2L hb_2k (v_10.toNatClampNeg) (rfl) (ix_0 r_15 (by decide)) (ix_lt r_15 (by decide) hb_2n (by decide)) dX12_seatFrom_40 (fun I_17 hI_17 => ?_)
        have hU_18 := iw_put W9 hU_6 hI_17 (ro_a hb_2k (by decide) hb_2o hkx rfl) (lo := (-2147483648)) (hi := 2147483647) (rfl) (rx_16) rfl
        have hF_19 := fq_puta hF_7 hI_17 (ro_a hb_2k (by decide) hb_2o hkx rfl) (by decide) (by decide)
        obtain ⟨x_20, hx_20, rx_20, tx_20⟩ := ex_add (y := 1) 1 4 r_15 rc_1 (by decide) (by decide) (by decide) (by decide)
        refine g_iinc C dX12_seatFrom_41 (k := 4) (v := x_20) rfl hx_20 (by decide) (lo2 := [(4, .int x_20), (0, .ref x), (1, .int a0), (2, .int a1), (3, .int a2)]) rfl ?_
        refine g_goto C (tgt := 21) dX12_seatFrom_44 (by decide) ?_
        refine g_lo (is := [1, 2, 3, 4, 0]) (lo2 := [(0, .ref x), (1, .int a0), (2, .int a1), (3, .int a2), (4, .int x_20)]) rfl ?_
        exact ih_21 I_17 J_5 hU_18 hF_19 hG_8 (r_9) x_20 (rg_w rx_20 (by decide) (by decide)) (kp_k (κ := κ) hI_17 (by rw [hkx, hb_2k]; decide) q_11) (ms_1 hm_12 (ti_k tx_20 rc_1) (by decide))
  have l_51 : ∀ (n_51 : Nat) (I_21 : Nat → Nat → Int32) (J_22 : Nat → Nat → Int64) (hU_23 : Iw L κ R ow I_21) (hF_24 : Fq L κ ow [1238, 85500, 85600] I I_21) (hG_25 : Fq L κ ow [] J J_22) (r_26 : Rg 1 127 a1) (n_27 : ¬ a1 = 0) (v_28 : Int32) (rv_28 : Rg 0 7 v_28) (hm_29 : 7 < (v_28 : Int32).toInt + (n_51 : Int)), WG p l e { frames := 3, cells := 0, slots := 0, locals := 72 } s m ([.ref x, .int a0, .int a1, .int a2] : List Value).toArray below meth c 5 0 0 (MQ below (Qv_ D cy L κ ln R (fun I2 J2 => Iw L κ R ow I2 ∧ Fq L κ ow [1238, 85500, 85600] I I2 ∧ Fq L κ ow [] J J2)) ([.ref x, .int a0, .int a1, .int a2] : List Value).toArray s 0 0 (Al_ L)) D cy (Al_ L) s.heap L κ ln R I_21 J_22 51 [(0, .ref x), (1, .int a0), (2, .int a1), (3, .int a2), (4, .int v_28)] [] := by
    intro n_51
    induction n_51 with
    | zero =>
      intro I_21 J_22 hU_23 hF_24 hG_25 r_26 n_27 v_28 rv_28 hm_29
      exact ms_0 rv_28 hm_29
    | succ n_51 ih_51 =>
      intro I_21 J_22 hU_23 hF_24 hG_25 r_26 n_27 v_28 rv_28 hm_29
      have j_129 : ∀ (I_30 : Nat → Nat → Int32) (J_31 : Nat → Nat → Int64) (hU_32 : Iw L κ R ow I_30) (hF_33 : Fq L κ ow [1238, 85500, 85600] I I_30) (hG_34 : Fq L κ ow [] J J_31) (r_35 : Rg 1 127 a1) (n_36 : ¬ a1 = 0) (v_37 : Int32) (rv_37 : Rg 0 6 v_37) (hm_38 : 7 < (v_37 : Int32).toInt + ((n_51 + 1 : Nat) : Int)), WG p l e { frames := 3, cells := 0, slots := 0, locals := 72 } s m ([.ref x, .int a0, .int a1, .int a2] : List Value).toArray below meth c 5 0 0 (MQ below (Qv_ D cy L κ ln R (fun I2 J2 => Iw L κ R ow I2 ∧ Fq L κ ow [1238, 85500, 85600] I I2 ∧ Fq L κ ow [] J J2)) ([.ref x, .int a0, .int a1, .int a2] : List Value).toArray s 0 0 (Al_ L)) D cy (Al_ L) s.heap L κ ln R I_30 J_31 129 [(0, .ref x), (1, .int a0), (2, .int a1), (3, .int a2), (4, .int v_37)] [] := by
        intro I_30 J_31 hU_32 hF_33 hG_34 r_35 n_36 v_37 rv_37 hm_38
        obtain ⟨x_39, hx_39, rx_39, tx_39⟩ := ex_add (y := 1) 1 7 rv_37 rc_1 (by decide) (by decide) (by decide) (by decide)
        refine g_iinc C dX12_seatFrom_129 (k := 4) (v := x_39) rfl hx_39 (by decide) (lo2 := [(4, .int x_39), (0, .ref x), (1, .int a0), (2, .int a1), (3, .int a2)]) rfl ?_
        refine g_goto C (tgt := 51) dX12_seatFrom_132 (by decide) ?_
        refine g_lo (is := [1, 2, 3, 4, 0]) (lo2 := [(0, .ref x), (1, .int a0), (2, .int a1), (3, .int a2), (4, .int x_39)]) rfl ?_
        exact ih_51 I_30 J_31 hU_32 hF_33 hG_34 (r_35) (n_36) x_39 (rg_w rx_39 (by decide) (by decide)) (ms_1 hm_38 (ti_k tx_39 rc_1) (by decide))
      refine g_iload C 4 dX12_seatFrom_51 rfl ?_
      refine g_aload_n C 0 dX12_seatFrom_53 rfl rfl ?_
      refine g_getR C K hLx hkx f_12_13 hb_3 dX12_seatFrom_54 ?_
      refine g_iconst C (v := 0) dX12_seatFrom_57 (by decide) ?_
      obtain ⟨x_40, hx_40, rx_40⟩ := ex_getw (I := I_21) (a := b_3) (j := 0) (lo := 0) (hi := 7) hU_23.1 hb_3L (ro_a hb_3k (by decide) hb_3o hkx rfl) (by decide)
      refine h_iald C K hb_3L hb_3k (v := x_40) (0) (by decide) (by decide) (by rw [hb_3n]; decide) hx_40 dX12_seatFrom_58 ?_
      refine g_icmp_ge C (tgt := 135) dX12_seatFrom_59 (by decide) (fun h_41 => ?_) (fun h_41 => ?_)
      · skip
        exact g_vret B K rfl ⟨hU_23, hF_24, hG_25⟩ dX12_seatFrom_135
      · skip
        have r_42 := lt_l (hi := 6) (nle h_41) rv_28 rx_40 (by decide)
        have r_43 := lt_r (lo := 1) (nle h_41) rv_28 rx_40 (by decide)
        refine g_iload_n C 2 dX12_seatFrom_62 rfl rfl ?_
        refine g_iload C 4 dX12_seatFrom_63 rfl ?_
        refine g_callSI C K (c_X12_has W9 a1 v_28  hU_23) s_12_231 rfl ⟨rfl, rfl⟩ ⟨Nat.le_of_ble_eq_true rfl, Nat.le_of_ble_eq_true rfl⟩ (Nat.le_of_ble_eq_true rfl) ⟨Nat.le_of_ble_eq_true rfl, Nat.le_of_ble_eq_true rfl⟩ dX12_seatFrom_65 rfl (st := []) (fun x_44 I_45 J_46 h_47 => ?_)
        obtain ⟨rfl, rfl, rx_44, ex_44⟩ := h_47
        refine g_if_ne C (tgt := 74) dX12_seatFrom_68 (by decide) (fun h_48 => ?_) (fun h_48 => ?_)
        · skip
          have n_49 : ¬ x_44 = 0 := h_48
          have r_50 := ne_lo (lo := 1) n_49 rx_44 rc_0 rfl (by decide)
          refine g_aload_n C 0 dX12_seatFrom_74 rfl rfl ?_
          refine g_getR C K hLx hkx f_12_64 hb_1 dX12_seatFrom_75 ?_
          refine g_iload_n C 1 dX12_seatFrom_78 rfl rfl ?_
          refine g_iload C 4 dX12_seatFrom_79 rfl ?_
          refine h_iast C K hb_1L hb_1k (a0.toNatClampNeg) (rfl) (ix_0 ra0 (by decide)) (ix_lt ra0 (by decide) hb_1n (by decide)) dX12_seatFrom_81 (fun I_51 hI_51 => ?_)
          have hU_52 := iw_put W9 hU_23 hI_51 (ro_a hb_1k (by decide) hb_1o hkx rfl) (lo := (-2147483648)) (hi := 2147483647) (rfl) (rg_all _) rfl
          have hF_53 := fq_puta hF_24 hI_51 (ro_a hb_1k (by decide) hb_1o hkx rfl) (by decide) (by decide)
          refine g_aload_n C 0 dX12_seatFrom_82 rfl rfl ?_
          refine g_iload_n C 1 dX12_seatFrom_83 rfl rfl ?_
          refine g_iconst C (v := 1) dX12_seatFrom_84 (by decide) ?_
          obtain ⟨x_54, hx_54, rx_54, tx_54⟩ := ex_add 5 5 ra0 rc_1 (by decide) (by decide) (by decide) (by decide)
          refine g_iadd C (v := x_54) dX12_seatFrom_85 hx_54 ?_
          refine g_iload_n C 2 dX12_seatFrom_86 rfl rfl ?_
          refine g_iconst C (v := 1) dX12_seatFrom_87 (by decide) ?_
          refine g_iload C 4 dX12_seatFrom_88 rfl ?_
          obtain ⟨x_55, hx_55, rx_55⟩ := ex_shl (x := 1) (y := v_28) 6 64 rfl (r_42) (by decide)
          refine g_ishl C (v := x_55) dX12_seatFrom_90 hx_55 ?_
          refine g_iconst C (v := (-1)) dX12_seatFrom_91 (by decide) ?_
          obtain ⟨x_56, hx_56, rx_56⟩ := ex_any (z0 := x_55 ^^^ (-1))
          refine g_ixor C (v := x_56) dX12_seatFrom_92 hx_56 ?_
          obtain ⟨x_57, hx_57, rx_57⟩ := ex_andl (x := a1) (y := x_56) (b := 127) (rg_w r_26 (by decide) (by decide))
          refine g_iand C (v := x_57) dX12_seatFrom_93 hx_57 ?_
          refine g_iload_n C 1 dX12_seatFrom_94 rfl rfl ?_
          refine g_if_le C (tgt := 125) dX12_seatFrom_95 (by decide) (fun h_58 => ?_) (fun h_58 => ?_)
          · skip
            have r_59 := le_l (h_58) ra0 rc_0
            exact rg_no r_59 (by decide)
          · skip
            refine g_aload_n C 0 dX12_seatFrom_98 rfl rfl ?_
            refine g_getR C K hLx hkx f_12_13 hb_3 dX12_seatFrom_99 ?_
            refine g_bipush C (v := 11) dX12_seatFrom_102 (by decide) ?_
            refine g_iload C 4 dX12_seatFrom_104 rfl ?_
            obtain ⟨x_60, hx_60, rx_60, tx_60⟩ := ex_add 11 17 rc_11 r_42 (by decide) (by decide) (by decide) (by decide)
            refine g_iadd C (v := x_60) dX12_seatFrom_106 hx_60 ?_
            obtain ⟨x_61, hx_61, rx_61⟩ := ex_any (z0 := I_51 b_3 (x_60.toNatClampNeg))
            refine h_iald C K hb_3L hb_3k (v := x_61) (x_60.toNatClampNeg) (rfl) (ix_0 rx_60 (by decide)) (ix_lt rx_60 (by decide) hb_3n (by decide)) hx_61 dX12_seatFrom_107 ?_
            refine g_aload_n C 0 dX12_seatFrom_108 rfl rfl ?_
            refine g_getR C K hLx hkx f_12_64 hb_1 dX12_seatFrom_109 ?_
            refine g_iload_n C 1 dX12_seatFrom_112 rfl rfl ?_
            refine g_iconst C (v := 1) dX12_seatFrom_113 (by decide) ?_
            obtain ⟨x_62, hx_62, rx_62, tx_62⟩ := ex_sub 3 3 ra0 rc_1 (by decide) (by decide) (by decide) (by decide)
            refine g_isub C (v := x_62) dX12_seatFrom_114 hx_62 ?_
            obtain ⟨x_63, hx_63, rx_63⟩ := ex_any (z0 := I_51 b_1 (x_62.toNatClampNeg))
            refine h_iald C K hb_1L hb_1k (v := x_63) (x_62.toNatClampNeg) (rfl) (ix_0 rx_62 (by decide)) (ix_lt rx_62 (by decide) hb_1n (by decide)) hx_63 dX12_seatFrom_115 ?_
            refine g_icmp_ne C (tgt := 125) dX12_seatFrom_116 (by decide) (fun h_64 => ?_) (fun h_64 => ?_)
            · skip
              refine g_iload_n C 3 dX12_seatFrom_125 rfl rfl ?_
              refine g_callVV C K (c_X12_seatFrom_5 W9 hLx hkx x_54 x_57 a2 (rx_54) (rx_57) (rg_w ra2 (by decide) (by decide)) hU_52  (by have q1 := bc_rm (z := x_57) (rg_w r_26 (by decide) (by decide)) (r_42) (ex_44 n_49) (by rw [hx_55, hx_56]; exact hx_57); have q2 := hbc; omega)) hLx hkx (by decide) rfl v_12_323 rfl ⟨rfl, rfl⟩ ⟨Nat.le_of_ble_eq_true rfl, Nat.le_of_ble_eq_true rfl⟩ (Nat.le_of_ble_eq_true rfl) ⟨Nat.le_of_ble_eq_true rfl, Nat.le_of_ble_eq_true rfl⟩ dX12_seatFrom_126 rfl (st := []) (fun I_66 J_67 h_68 => ?_)
              obtain ⟨hUI_66, hFI_66, hGJ_67⟩ := h_68
              have hF_69 := fq_tr hF_53 hFI_66 (by decide)
              have hG_70 := fq_tr hG_25 hGJ_67 (by decide)
              refine g_lo (is := [0, 1, 2, 3, 4]) (lo2 := [(0, .ref x), (1, .int a0), (2, .int a1), (3, .int a2), (4, .int v_28)]) rfl ?_
              exact j_129 I_66 J_67 hUI_66 hF_69 hG_70 (r_26) (n_27) v_28 (r_42) hm_29
            · skip
              refine g_iload_n C 3 dX12_seatFrom_119 rfl rfl ?_
              refine g_iconst C (v := 1) dX12_seatFrom_120 (by decide) ?_
              obtain ⟨x_71, hx_71, rx_71, tx_71⟩ := ex_add 1 4 ra2 rc_1 (by decide) (by decide) (by decide) (by decide)
              refine g_iadd C (v := x_71) dX12_seatFrom_121 hx_71 ?_
              refine g_goto C (tgt := 126) dX12_seatFrom_122 (by decide) ?_
              refine g_callVV C K (c_X12_seatFrom_5 W9 hLx hkx x_54 x_57 x_71 (rx_54) (rx_57) (rg_w rx_71 (by decide) (by decide)) hU_52  (by have q1 := bc_rm (z := x_57) (rg_w r_26 (by decide) (by decide)) (r_42) (ex_44 n_49) (by rw [hx_55, hx_56]; exact hx_57); have q2 := hbc; omega)) hLx hkx (by decide) rfl v_12_323 rfl ⟨rfl, rfl⟩ ⟨Nat.le_of_ble_eq_true rfl, Nat.le_of_ble_eq_true rfl⟩ (Nat.le_of_ble_eq_true rfl) ⟨Nat.le_of_ble_eq_true rfl, Nat.le_of_ble_eq_true rfl⟩ dX12_seatFrom_126 rfl (st := []) (fun I_73 J_74 h_75 => ?_)
              obtain ⟨hUI_73, hFI_73, hGJ_74⟩ := h_75
              have hF_76 := fq_tr hF_53 hFI_73 (by decide)
              have hG_77 := fq_tr hG_25 hGJ_74 (by decide)
              refine g_lo (is := [0, 1, 2, 3, 4]) (lo2 := [(0, .ref x), (1, .int a0), (2, .int a1), (3, .int a2), (4, .int v_28)]) rfl ?_
              exact j_129 I_73 J_74 hUI_73 hF_76 hG_77 (r_26) (n_27) v_28 (r_42) hm_29
        · skip
          have r_78 := (⟨(rx_44).1, (eq_rg (h_48) rc_0).2⟩ : Rg 0 0 x_44)
          refine g_goto C (tgt := 129) dX12_seatFrom_71 (by decide) ?_
          refine g_lo (is := [0, 1, 2, 3, 4]) (lo2 := [(0, .ref x), (1, .int a0), (2, .int a1), (3, .int a2), (4, .int v_28)]) rfl ?_
          exact j_129 I_21 J_22 hU_23 hF_24 hG_25 (r_26) (n_27) v_28 (r_42) hm_29
  refine g_iload_n C 2 dX12_seatFrom_0 rfl rfl ?_
  refine g_if_ne C (tgt := 48) dX12_seatFrom_1 (by decide) (fun h_79 => ?_) (fun h_79 => ?_)
  · skip
    have n_80 : ¬ a1 = 0 := h_79
    have r_81 := ne_lo (lo := 1) n_80 ra1 rc_0 rfl (by decide)
    refine g_iconst C (v := 0) dX12_seatFrom_48 (by decide) ?_
    refine g_istore C dX12_seatFrom_49 (by decide) (lo2 := [(4, .int 0), (0, .ref x), (1, .int a0), (2, .int a1), (3, .int a2)]) rfl ?_
    refine g_lo (is := [1, 2, 3, 4, 0]) (lo2 := [(0, .ref x), (1, .int a0), (2, .int a1), (3, .int a2), (4, .int 0)]) rfl ?_
    exact l_51 8 I J hU hF hG (r_81) (n_80) 0 (rg_w rc_0 (by decide) (by decide)) (ms_s (a := 0) (b := 7) (N := 8) (rg_w rc_0 (by decide) (by decide)) (by decide))
  · skip
    have r_82 := (⟨(ra1).1, (eq_rg (h_79) rc_0).2⟩ : Rg 0 0 a1)
    refine g_iload_n C 3 dX12_seatFrom_4 rfl rfl ?_
    refine g_aload_n C 0 dX12_seatFrom_5 rfl rfl ?_
    obtain ⟨x_83, hx_83, rx_83⟩ := ex_getw (I := I) (a := x) (j := 38) (lo := (-2147483648)) (hi := 2147483647) hU.1 hLx (ro_o hkx (by decide)) rfl
    refine g_getI C K hLx hkx f_12_320 (v := x_83) hx_83 dX12_seatFrom_6 ?_
    refine g_icmp_gt C (tgt := 13) dX12_seatFrom_9 (by decide) (fun h_84 => ?_) (fun h_84 => ?_)
    · skip
      have r_85 := lt_l (hi := 2) (h_84) rx_83 ra2 (by decide)
      refine g_aload_n C 0 dX12_seatFrom_13 rfl rfl ?_
      refine g_iload_n C 3 dX12_seatFrom_14 rfl rfl ?_
      refine h_putI C K hLx hkx f_12_320 p_12_38 dX12_seatFrom_15 (fun I_86 hI_86 => ?_)
      have hU_87 := iw_put W9 hU hI_86 (ro_o hkx (by decide)) (lo := (-2147483648)) (hi := 2147483647) (rfl) (rg_all _) rfl
      have hF_88 := fq_puto hF hI_86 hkx (by decide) (by decide)
      refine g_iconst C (v := 0) dX12_seatFrom_18 (by decide) ?_
      refine g_istore C dX12_seatFrom_19 (by decide) (lo2 := [(4, .int 0), (0, .ref x), (1, .int a0), (2, .int a1), (3, .int a2)]) rfl ?_
      refine g_lo (is := [1, 2, 3, 4, 0]) (lo2 := [(0, .ref x), (1, .int a0), (2, .int a1), (3, .int a2), (4, .int 0)]) rfl ?_
      exact l_21 5 I_86 J hU_87 hF_88 hG (r_82) 0 (rg_w rc_0 (by decide) (by decide)) (kp_s hI_86) (ms_s (a := 0) (b := 4) (N := 5) (rg_w rc_0 (by decide) (by decide)) (by decide))
    · skip
      have r_89 := le_r (nlt h_84) ra2 rx_83
      exact g_vret B K rfl ⟨hU, hF, hG⟩ dX12_seatFrom_12
set_option maxRecDepth 100000 in
set_option maxHeartbeats 8000000 in
theorem c_X12_seatFrom_3 {l : Launch} {D : va_G} {cy : Nat → ClassId} {L : List Nat} {κ ln : Nat → Nat} {R : Nat → Nat → Option Nat} {I : Nat → Nat → Int32} {J : Nat → Nat → Int64} {ow : Nat → Nat × Nat} (W9 : ∀ a ∈ L, Shp L κ ln R ow a) {x : Nat} (hLx : x ∈ L) (hkx : κ x = 12) (a0 : Int32) (a1 : Int32) (a2 : Int32) (ra0 : Rg 3 3 a0) (ra1 : Rg 0 127 a1) (ra2 : Rg 0 2 a2) (hU : Iw L κ R ow I) (hbc : (bc_ a1).toInt ≤ 4) : CtV l yX12_seatFrom cX12_seatFrom 5 none { frames := 4, cells := 0, slots := 0, locals := 96 } D cy L κ ln R I J [.ref x, .int a0, .int a1, .int a2] (fun I2 J2 => Iw L κ R ow I2 ∧ Fq L κ ow [1238, 85500, 85600] I I2 ∧ Fq L κ ow [] J J2) := by
  refine CtV.of (by decide +kernel) (Nat.le_of_ble_eq_true rfl) ?_
  intro p e s m below meth c B K
  have C := B.1
  have hF : Fq L κ ow [1238, 85500, 85600] I I := fq_rf
  have hG : Fq L κ ow [] J J := fq_rf
  obtain ⟨b_1, hb_1, hb_1L, hb_1k, hb_1n, hb_1o⟩ := shp_a (W9 x hLx) hkx 35 14 7 rfl (by decide)
  obtain ⟨b_2, hb_2, hb_2L, hb_2k, hb_2n, hb_2o⟩ := shp_a (W9 x hLx) hkx 36 14 7 rfl (by decide)
  obtain ⟨b_3, hb_3, hb_3L, hb_3k, hb_3n, hb_3o⟩ := shp_a (W9 x hLx) hkx 14 14 389 rfl (by decide)
  refine g_lo (is := [0, 1, 2, 3]) (lo2 := [(0, .ref x), (1, .int a0), (2, .int a1), (3, .int a2)]) rfl ?_
  have l_21 : ∀ (n_21 : Nat) (I_4 : Nat → Nat → Int32) (J_5 : Nat → Nat → Int64) (hU_6 : Iw L κ R ow I_4) (hF_7 : Fq L κ ow [1238, 85500, 85600] I I_4) (hG_8 : Fq L κ ow [] J J_5) (r_9 : Rg 0 0 a1) (v_10 : Int32) (rv_10 : Rg 0 3 v_10) (q_11 : I_4 x 38 = a2) (hm_12 : 3 < (v_10 : Int32).toInt + (n_21 : Int)), WG p l e { frames := 4, cells := 0, slots := 0, locals := 96 } s m ([.ref x, .int a0, .int a1, .int a2] : List Value).toArray below meth c 5 0 0 (MQ below (Qv_ D cy L κ ln R (fun I2 J2 => Iw L κ R ow I2 ∧ Fq L κ ow [1238, 85500, 85600] I I2 ∧ Fq L κ ow [] J J2)) ([.ref x, .int a0, .int a1, .int a2] : List Value).toArray s 0 0 (Al_ L)) D cy (Al_ L) s.heap L κ ln R I_4 J_5 21 [(0, .ref x), (1, .int a0), (2, .int a1), (3, .int a2), (4, .int v_10)] [] := by
    intro n_21
    induction n_21 with
    | zero =>
      intro I_4 J_5 hU_6 hF_7 hG_8 r_9 v_10 rv_10 q_11 hm_12
      exact ms_0 rv_10 hm_12
    | succ n_21 ih_21 =>
      intro I_4 J_5 hU_6 hF_7 hG_8 r_9 v_10 rv_10 q_11 hm_12
      refine g_iload C 4 dX12_seatFrom_21 rfl ?_
      refine g_iload_n C 1 dX12_seatFrom_23 rfl rfl ?_
      refine g_icmp_ge C (tgt := 47) dX12_seatFrom_24 (by decide) (fun h_13 => ?_) (fun h_13 => ?_)
      · skip
        have r_14 := le_r (h_13) ra0 rv_10
        exact g_vret B K rfl ⟨hU_6, hF_7, hG_8⟩ dX12_seatFrom_47
      · skip
        have r_15 := lt_l (hi := 2) (nle h_13) rv_10 ra0 (by decide)
        refine g_aload_n C 0 dX12_seatFrom_27 rfl rfl ?_
        refine g_getR C K hLx hkx f_12_67 hb_2 dX12_seatFrom_28 ?_
        refine g_iload C 4 dX12_seatFrom_31 rfl ?_
        refine g_aload_n C 0 dX12_seatFrom_33 rfl rfl ?_
        refine g_getR C K hLx hkx f_12_64 hb_1 dX12_seatFrom_34 ?_
        refine g_iload C 4 dX12_seatFrom_37 rfl ?_
        obtain ⟨x_16, hx_16, rx_16⟩ := ex_any (z0 := I_4 b_1 (v_10.toNatClampNeg))
        refine h_iald C K hb_1L hb_1k (v := x_16) (v_10.toNatClampNeg) (rfl) (ix_0 r_15 (by decide)) (ix_lt r_15 (by decide) hb_1n (by decide)) hx_16 dX12_seatFrom_39 ?_
        refine h_iast C K hb_2L hb_2k (v_10.toNatClampNeg) (rfl) (ix_0 r_15 (by decide)) (ix_lt r_15 (by decide) hb_2n (by decide)) dX12_seatFrom_40 (fun I_17 hI_17 => ?_)
        have hU_18 := iw_put W9 hU_6 hI_17 (ro_a hb_2k (by decide) hb_2o hkx rfl) (lo := (-2147483648)) (hi := 2147483647) (rfl) (rx_16) rfl
        have hF_19 := fq_puta hF_7 hI_17 (ro_a hb_2k (by decide) hb_2o hkx rfl) (by decide) (by decide)
        obtain ⟨x_20, hx_20, rx_20, tx_20⟩ := ex_add (y := 1) 1 3 r_15 rc_1 (by decide) (by decide) (by decide) (by decide)
        refine g_iinc C dX12_seatFrom_41 (k := 4) (v := x_20) rfl hx_20 (by decide) (lo2 := [(4, .int x_20), (0, .ref x), (1, .int a0), (2, .int a1), (3, .int a2)]) rfl ?_
        refine g_goto C (tgt := 21) dX12_seatFrom_44 (by decide) ?_
        refine g_lo (is := [1, 2, 3, 4, 0]) (lo2 := [(0, .ref x), (1, .int a0), (2, .int a1), (3, .int a2), (4, .int x_20)]) rfl ?_
        exact ih_21 I_17 J_5 hU_18 hF_19 hG_8 (r_9) x_20 (rg_w rx_20 (by decide) (by decide)) (kp_k (κ := κ) hI_17 (by rw [hkx, hb_2k]; decide) q_11) (ms_1 hm_12 (ti_k tx_20 rc_1) (by decide))
  have l_51 : ∀ (n_51 : Nat) (I_21 : Nat → Nat → Int32) (J_22 : Nat → Nat → Int64) (hU_23 : Iw L κ R ow I_21) (hF_24 : Fq L κ ow [1238, 85500, 85600] I I_21) (hG_25 : Fq L κ ow [] J J_22) (r_26 : Rg 1 127 a1) (n_27 : ¬ a1 = 0) (v_28 : Int32) (rv_28 : Rg 0 7 v_28) (hm_29 : 7 < (v_28 : Int32).toInt + (n_51 : Int)), WG p l e { frames := 4, cells := 0, slots := 0, locals := 96 } s m ([.ref x, .int a0, .int a1, .int a2] : List Value).toArray below meth c 5 0 0 (MQ below (Qv_ D cy L κ ln R (fun I2 J2 => Iw L κ R ow I2 ∧ Fq L κ ow [1238, 85500, 85600] I I2 ∧ Fq L κ ow [] J J2)) ([.ref x, .int a0, .int a1, .int a2] : List Value).toArray s 0 0 (Al_ L)) D cy (Al_ L) s.heap L κ ln R I_21 J_22 51 [(0, .ref x), (1, .int a0), (2, .int a1), (3, .int a2), (4, .int v_28)] [] := by
    intro n_51
    induction n_51 with
    | zero =>
      intro I_21 J_22 hU_23 hF_24 hG_25 r_26 n_27 v_28 rv_28 hm_29
      exact ms_0 rv_28 hm_29
    | succ n_51 ih_51 =>
      intro I_21 J_22 hU_23 hF_24 hG_25 r_26 n_27 v_28 rv_28 hm_29
      have j_129 : ∀ (I_30 : Nat → Nat → Int32) (J_31 : Nat → Nat → Int64) (hU_32 : Iw L κ R ow I_30) (hF_33 : Fq L κ ow [1238, 85500, 85600] I I_30) (hG_34 : Fq L κ ow [] J J_31) (r_35 : Rg 1 127 a1) (n_36 : ¬ a1 = 0) (v_37 : Int32) (rv_37 : Rg 0 6 v_37) (hm_38 : 7 < (v_37 : Int32).toInt + ((n_51 + 1 : Nat) : Int)), WG p l e { frames := 4, cells := 0, slots := 0, locals := 96 } s m ([.ref x, .int a0, .int a1, .int a2] : List Value).toArray below meth c 5 0 0 (MQ below (Qv_ D cy L κ ln R (fun I2 J2 => Iw L κ R ow I2 ∧ Fq L κ ow [1238, 85500, 85600] I I2 ∧ Fq L κ ow [] J J2)) ([.ref x, .int a0, .int a1, .int a2] : List Value).toArray s 0 0 (Al_ L)) D cy (Al_ L) s.heap L κ ln R I_30 J_31 129 [(0, .ref x), (1, .int a0), (2, .int a1), (3, .int a2), (4, .int v_37)] [] := by
        intro I_30 J_31 hU_32 hF_33 hG_34 r_35 n_36 v_37 rv_37 hm_38
        obtain ⟨x_39, hx_39, rx_39, tx_39⟩ := ex_add (y := 1) 1 7 rv_37 rc_1 (by decide) (by decide) (by decide) (by decide)
        refine g_iinc C dX12_seatFrom_129 (k := 4) (v := x_39) rfl hx_39 (by decide) (lo2 := [(4, .int x_39), (0, .ref x), (1, .int a0), (2, .int a1), (3, .int a2)]) rfl ?_
        refine g_goto C (tgt := 51) dX12_seatFrom_132 (by decide) ?_
        refine g_lo (is := [1, 2, 3, 4, 0]) (lo2 := [(0, .ref x), (1, .int a0), (2, .int a1), (3, .int a2), (4, .int x_39)]) rfl ?_
        exact ih_51 I_30 J_31 hU_32 hF_33 hG_34 (r_35) (n_36) x_39 (rg_w rx_39 (by decide) (by decide)) (ms_1 hm_38 (ti_k tx_39 rc_1) (by decide))
      refine g_iload C 4 dX12_seatFrom_51 rfl ?_
      refine g_aload_n C 0 dX12_seatFrom_53 rfl rfl ?_
      refine g_getR C K hLx hkx f_12_13 hb_3 dX12_seatFrom_54 ?_
      refine g_iconst C (v := 0) dX12_seatFrom_57 (by decide) ?_
      obtain ⟨x_40, hx_40, rx_40⟩ := ex_getw (I := I_21) (a := b_3) (j := 0) (lo := 0) (hi := 7) hU_23.1 hb_3L (ro_a hb_3k (by decide) hb_3o hkx rfl) (by decide)
      refine h_iald C K hb_3L hb_3k (v := x_40) (0) (by decide) (by decide) (by rw [hb_3n]; decide) hx_40 dX12_seatFrom_58 ?_
      refine g_icmp_ge C (tgt := 135) dX12_seatFrom_59 (by decide) (fun h_41 => ?_) (fun h_41 => ?_)
      · skip
        exact g_vret B K rfl ⟨hU_23, hF_24, hG_25⟩ dX12_seatFrom_135
      · skip
        have r_42 := lt_l (hi := 6) (nle h_41) rv_28 rx_40 (by decide)
        have r_43 := lt_r (lo := 1) (nle h_41) rv_28 rx_40 (by decide)
        refine g_iload_n C 2 dX12_seatFrom_62 rfl rfl ?_
        refine g_iload C 4 dX12_seatFrom_63 rfl ?_
        refine g_callSI C K (c_X12_has W9 a1 v_28  hU_23) s_12_231 rfl ⟨rfl, rfl⟩ ⟨Nat.le_of_ble_eq_true rfl, Nat.le_of_ble_eq_true rfl⟩ (Nat.le_of_ble_eq_true rfl) ⟨Nat.le_of_ble_eq_true rfl, Nat.le_of_ble_eq_true rfl⟩ dX12_seatFrom_65 rfl (st := []) (fun x_44 I_45 J_46 h_47 => ?_)
        obtain ⟨rfl, rfl, rx_44, ex_44⟩ := h_47
        refine g_if_ne C (tgt := 74) dX12_seatFrom_68 (by decide) (fun h_48 => ?_) (fun h_48 => ?_)
        · skip
          have n_49 : ¬ x_44 = 0 := h_48
          have r_50 := ne_lo (lo := 1) n_49 rx_44 rc_0 rfl (by decide)
          refine g_aload_n C 0 dX12_seatFrom_74 rfl rfl ?_
          refine g_getR C K hLx hkx f_12_64 hb_1 dX12_seatFrom_75 ?_
          refine g_iload_n C 1 dX12_seatFrom_78 rfl rfl ?_
          refine g_iload C 4 dX12_seatFrom_79 rfl ?_
          refine h_iast C K hb_1L hb_1k (a0.toNatClampNeg) (rfl) (ix_0 ra0 (by decide)) (ix_lt ra0 (by decide) hb_1n (by decide)) dX12_seatFrom_81 (fun I_51 hI_51 => ?_)
          have hU_52 := iw_put W9 hU_23 hI_51 (ro_a hb_1k (by decide) hb_1o hkx rfl) (lo := (-2147483648)) (hi := 2147483647) (rfl) (rg_all _) rfl
          have hF_53 := fq_puta hF_24 hI_51 (ro_a hb_1k (by decide) hb_1o hkx rfl) (by decide) (by decide)
          refine g_aload_n C 0 dX12_seatFrom_82 rfl rfl ?_
          refine g_iload_n C 1 dX12_seatFrom_83 rfl rfl ?_
          refine g_iconst C (v := 1) dX12_seatFrom_84 (by decide) ?_
          obtain ⟨x_54, hx_54, rx_54, tx_54⟩ := ex_add 4 4 ra0 rc_1 (by decide) (by decide) (by decide) (by decide)
          refine g_iadd C (v := x_54) dX12_seatFrom_85 hx_54 ?_
          refine g_iload_n C 2 dX12_seatFrom_86 rfl rfl ?_
          refine g_iconst C (v := 1) dX12_seatFrom_87 (by decide) ?_
          refine g_iload C 4 dX12_seatFrom_88 rfl ?_
          obtain ⟨x_55, hx_55, rx_55⟩ := ex_shl (x := 1) (y := v_28) 6 64 rfl (r_42) (by decide)
          refine g_ishl C (v := x_55) dX12_seatFrom_90 hx_55 ?_
          refine g_iconst C (v := (-1)) dX12_seatFrom_91 (by decide) ?_
          obtain ⟨x_56, hx_56, rx_56⟩ := ex_any (z0 := x_55 ^^^ (-1))
          refine g_ixor C (v := x_56) dX12_seatFrom_92 hx_56 ?_
          obtain ⟨x_57, hx_57, rx_57⟩ := ex_andl (x := a1) (y := x_56) (b := 127) (rg_w r_26 (by decide) (by decide))
          refine g_iand C (v := x_57) dX12_seatFrom_93 hx_57 ?_
          refine g_iload_n C 1 dX12_seatFrom_94 rfl rfl ?_
          refine g_if_le C (tgt := 125) dX12_seatFrom_95 (by decide) (fun h_58 => ?_) (fun h_58 => ?_)
          · skip
            have r_59 := le_l (h_58) ra0 rc_0
            exact rg_no r_59 (by decide)
          · skip
            refine g_aload_n C 0 dX12_seatFrom_98 rfl rfl ?_
            refine g_getR C K hLx hkx f_12_13 hb_3 dX12_seatFrom_99 ?_
            refine g_bipush C (v := 11) dX12_seatFrom_102 (by decide) ?_
            refine g_iload C 4 dX12_seatFrom_104 rfl ?_
            obtain ⟨x_60, hx_60, rx_60, tx_60⟩ := ex_add 11 17 rc_11 r_42 (by decide) (by decide) (by decide) (by decide)
            refine g_iadd C (v := x_60) dX12_seatFrom_106 hx_60 ?_
            obtain ⟨x_61, hx_61, rx_61⟩ := ex_any (z0 := I_51 b_3 (x_60.toNatClampNeg))
            refine h_iald C K hb_3L hb_3k (v := x_61) (x_60.toNatClampNeg) (rfl) (ix_0 rx_60 (by decide)) (ix_lt rx_60 (by decide) hb_3n (by decide)) hx_61 dX12_seatFrom_107 ?_
            refine g_aload_n C 0 dX12_seatFrom_108 rfl rfl ?_
            refine g_getR C K hLx hkx f_12_64 hb_1 dX12_seatFrom_109 ?_
            refine g_iload_n C 1 dX12_seatFrom_112 rfl rfl ?_
            refine g_iconst C (v := 1) dX12_seatFrom_113 (by decide) ?_
            obtain ⟨x_62, hx_62, rx_62, tx_62⟩ := ex_sub 2 2 ra0 rc_1 (by decide) (by decide) (by decide) (by decide)
            refine g_isub C (v := x_62) dX12_seatFrom_114 hx_62 ?_
            obtain ⟨x_63, hx_63, rx_63⟩ := ex_any (z0 := I_51 b_1 (x_62.toNatClampNeg))
            refine h_iald C K hb_1L hb_1k (v := x_63) (x_62.toNatClampNeg) (rfl) (ix_0 rx_62 (by decide)) (ix_lt rx_62 (by decide) hb_1n (by decide)) hx_63 dX12_seatFrom_115 ?_
            refine g_icmp_ne C (tgt := 125) dX12_seatFrom_116 (by decide) (fun h_64 => ?_) (fun h_64 => ?_)
            · skip
              refine g_iload_n C 3 dX12_seatFrom_125 rfl rfl ?_
              refine g_callVV C K (c_X12_seatFrom_4 W9 hLx hkx x_54 x_57 a2 (rx_54) (rx_57) (rg_w ra2 (by decide) (by decide)) hU_52  (by have q1 := bc_rm (z := x_57) (rg_w r_26 (by decide) (by decide)) (r_42) (ex_44 n_49) (by rw [hx_55, hx_56]; exact hx_57); have q2 := hbc; omega)) hLx hkx (by decide) rfl v_12_323 rfl ⟨rfl, rfl⟩ ⟨Nat.le_of_ble_eq_true rfl, Nat.le_of_ble_eq_true rfl⟩ (Nat.le_of_ble_eq_true rfl) ⟨Nat.le_of_ble_eq_true rfl, Nat.le_of_ble_eq_true rfl⟩ dX12_seatFrom_126 rfl (st := []) (fun I_66 J_67 h_68 => ?_)
              obtain ⟨hUI_66, hFI_66, hGJ_67⟩ := h_68
              have hF_69 := fq_tr hF_53 hFI_66 (by decide)
              have hG_70 := fq_tr hG_25 hGJ_67 (by decide)
              refine g_lo (is := [0, 1, 2, 3, 4]) (lo2 := [(0, .ref x), (1, .int a0), (2, .int a1), (3, .int a2), (4, .int v_28)]) rfl ?_
              exact j_129 I_66 J_67 hUI_66 hF_69 hG_70 (r_26) (n_27) v_28 (r_42) hm_29
            · skip
              refine g_iload_n C 3 dX12_seatFrom_119 rfl rfl ?_
              refine g_iconst C (v := 1) dX12_seatFrom_120 (by decide) ?_
              obtain ⟨x_71, hx_71, rx_71, tx_71⟩ := ex_add 1 3 ra2 rc_1 (by decide) (by decide) (by decide) (by decide)
              refine g_iadd C (v := x_71) dX12_seatFrom_121 hx_71 ?_
              refine g_goto C (tgt := 126) dX12_seatFrom_122 (by decide) ?_
              refine g_callVV C K (c_X12_seatFrom_4 W9 hLx hkx x_54 x_57 x_71 (rx_54) (rx_57) (rg_w rx_71 (by decide) (by decide)) hU_52  (by have q1 := bc_rm (z := x_57) (rg_w r_26 (by decide) (by decide)) (r_42) (ex_44 n_49) (by rw [hx_55, hx_56]; exact hx_57); have q2 := hbc; omega)) hLx hkx (by decide) rfl v_12_323 rfl ⟨rfl, rfl⟩ ⟨Nat.le_of_ble_eq_true rfl, Nat.le_of_ble_eq_true rfl⟩ (Nat.le_of_ble_eq_true rfl) ⟨Nat.le_of_ble_eq_true rfl, Nat.le_of_ble_eq_true rfl⟩ dX12_seatFrom_126 rfl (st := []) (fun I_73 J_74 h_75 => ?_)
              obtain ⟨hUI_73, hFI_73, hGJ_74⟩ := h_75
              have hF_76 := fq_tr hF_53 hFI_73 (by decide)
              have hG_77 := fq_tr hG_25 hGJ_74 (by decide)
              refine g_lo (is := [0, 1, 2, 3, 4]) (lo2 := [(0, .ref x), (1, .int a0), (2, .int a1), (3, .int a2), (4, .int v_28)]) rfl ?_
              exact j_129 I_73 J_74 hUI_73 hF_76 hG_77 (r_26) (n_27) v_28 (r_42) hm_29
        · skip
          have r_78 := (⟨(rx_44).1, (eq_rg (h_48) rc_0).2⟩ : Rg 0 0 x_44)
          refine g_goto C (tgt := 129) dX12_seatFrom_71 (by decide) ?_
          refine g_lo (is := [0, 1, 2, 3, 4]) (lo2 := [(0, .ref x), (1, .int a0), (2, .int a1), (3, .int a2), (4, .int v_28)]) rfl ?_
          exact j_129 I_21 J_22 hU_23 hF_24 hG_25 (r_26) (n_27) v_28 (r_42) hm_29
  refine g_iload_n C 2 dX12_seatFrom_0 rfl rfl ?_
  refine g_if_ne C (tgt := 48) dX12_seatFrom_1 (by decide) (fun h_79 => ?_) (fun h_79 => ?_)
  · skip
    have n_80 : ¬ a1 = 0 := h_79
    have r_81 := ne_lo (lo := 1) n_80 ra1 rc_0 rfl (by decide)
    refine g_iconst C (v := 0) dX12_seatFrom_48 (by decide) ?_
    refine g_istore C dX12_seatFrom_49 (by decide) (lo2 := [(4, .int 0), (0, .ref x), (1, .int a0), (2, .int a1), (3, .int a2)]) rfl ?_
    refine g_lo (is := [1, 2, 3, 4, 0]) (lo2 := [(0, .ref x), (1, .int a0), (2, .int a1), (3, .int a2), (4, .int 0)]) rfl ?_
    exact l_51 8 I J hU hF hG (r_81) (n_80) 0 (rg_w rc_0 (by decide) (by decide)) (ms_s (a := 0) (b := 7) (N := 8) (rg_w rc_0 (by decide) (by decide)) (by decide))
  · skip
    have r_82 := (⟨(ra1).1, (eq_rg (h_79) rc_0).2⟩ : Rg 0 0 a1)
    refine g_iload_n C 3 dX12_seatFrom_4 rfl rfl ?_
    refine g_aload_n C 0 dX12_seatFrom_5 rfl rfl ?_
    obtain ⟨x_83, hx_83, rx_83⟩ := ex_getw (I := I) (a := x) (j := 38) (lo := (-2147483648)) (hi := 2147483647) hU.1 hLx (ro_o hkx (by decide)) rfl
    refine g_getI C K hLx hkx f_12_320 (v := x_83) hx_83 dX12_seatFrom_6 ?_
    refine g_icmp_gt C (tgt := 13) dX12_seatFrom_9 (by decide) (fun h_84 => ?_) (fun h_84 => ?_)
    · skip
      have r_85 := lt_l (hi := 1) (h_84) rx_83 ra2 (by decide)
      refine g_aload_n C 0 dX12_seatFrom_13 rfl rfl ?_
      refine g_iload_n C 3 dX12_seatFrom_14 rfl rfl ?_
      refine h_putI C K hLx hkx f_12_320 p_12_38 dX12_seatFrom_15 (fun I_86 hI_86 => ?_)
      have hU_87 := iw_put W9 hU hI_86 (ro_o hkx (by decide)) (lo := (-2147483648)) (hi := 2147483647) (rfl) (rg_all _) rfl
      have hF_88 := fq_puto hF hI_86 hkx (by decide) (by decide)
      refine g_iconst C (v := 0) dX12_seatFrom_18 (by decide) ?_
      refine g_istore C dX12_seatFrom_19 (by decide) (lo2 := [(4, .int 0), (0, .ref x), (1, .int a0), (2, .int a1), (3, .int a2)]) rfl ?_
      refine g_lo (is := [1, 2, 3, 4, 0]) (lo2 := [(0, .ref x), (1, .int a0), (2, .int a1), (3, .int a2), (4, .int 0)]) rfl ?_
      exact l_21 4 I_86 J hU_87 hF_88 hG (r_82) 0 (rg_w rc_0 (by decide) (by decide)) (kp_s hI_86) (ms_s (a := 0) (b := 3) (N := 4) (rg_w rc_0 (by decide) (by decide)) (by decide))
    · skip
      have r_89 := le_r (nlt h_84) ra2 rx_83
      exact g_vret B K rfl ⟨hU, hF, hG⟩ dX12_seatFrom_12
set_option maxRecDepth 100000 in
set_option maxHeartbeats 8000000 in
theorem c_X12_seatFrom_2 {l : Launch} {D : va_G} {cy : Nat → ClassId} {L : List Nat} {κ ln : Nat → Nat} {R : Nat → Nat → Option Nat} {I : Nat → Nat → Int32} {J : Nat → Nat → Int64} {ow : Nat → Nat × Nat} (W9 : ∀ a ∈ L, Shp L κ ln R ow a) {x : Nat} (hLx : x ∈ L) (hkx : κ x = 12) (a0 : Int32) (a1 : Int32) (a2 : Int32) (ra0 : Rg 2 2 a0) (ra1 : Rg 0 127 a1) (ra2 : Rg 0 1 a2) (hU : Iw L κ R ow I) (hbc : (bc_ a1).toInt ≤ 5) : CtV l yX12_seatFrom cX12_seatFrom 5 none { frames := 5, cells := 0, slots := 0, locals := 120 } D cy L κ ln R I J [.ref x, .int a0, .int a1, .int a2] (fun I2 J2 => Iw L κ R ow I2 ∧ Fq L κ ow [1238, 85500, 85600] I I2 ∧ Fq L κ ow [] J J2) := by
  refine CtV.of (by decide +kernel) (Nat.le_of_ble_eq_true rfl) ?_
  intro p e s m below meth c B K
  have C := B.1
  have hF : Fq L κ ow [1238, 85500, 85600] I I := fq_rf
  have hG : Fq L κ ow [] J J := fq_rf
  obtain ⟨b_1, hb_1, hb_1L, hb_1k, hb_1n, hb_1o⟩ := shp_a (W9 x hLx) hkx 35 14 7 rfl (by decide)
  obtain ⟨b_2, hb_2, hb_2L, hb_2k, hb_2n, hb_2o⟩ := shp_a (W9 x hLx) hkx 36 14 7 rfl (by decide)
  obtain ⟨b_3, hb_3, hb_3L, hb_3k, hb_3n, hb_3o⟩ := shp_a (W9 x hLx) hkx 14 14 389 rfl (by decide)
  refine g_lo (is := [0, 1, 2, 3]) (lo2 := [(0, .ref x), (1, .int a0), (2, .int a1), (3, .int a2)]) rfl ?_
  have l_21 : ∀ (n_21 : Nat) (I_4 : Nat → Nat → Int32) (J_5 : Nat → Nat → Int64) (hU_6 : Iw L κ R ow I_4) (hF_7 : Fq L κ ow [1238, 85500, 85600] I I_4) (hG_8 : Fq L κ ow [] J J_5) (r_9 : Rg 0 0 a1) (v_10 : Int32) (rv_10 : Rg 0 2 v_10) (q_11 : I_4 x 38 = a2) (hm_12 : 2 < (v_10 : Int32).toInt + (n_21 : Int)), WG p l e { frames := 5, cells := 0, slots := 0, locals := 120 } s m ([.ref x, .int a0, .int a1, .int a2] : List Value).toArray below meth c 5 0 0 (MQ below (Qv_ D cy L κ ln R (fun I2 J2 => Iw L κ R ow I2 ∧ Fq L κ ow [1238, 85500, 85600] I I2 ∧ Fq L κ ow [] J J2)) ([.ref x, .int a0, .int a1, .int a2] : List Value).toArray s 0 0 (Al_ L)) D cy (Al_ L) s.heap L κ ln R I_4 J_5 21 [(0, .ref x), (1, .int a0), (2, .int a1), (3, .int a2), (4, .int v_10)] [] := by
    intro n_21
    induction n_21 with
    | zero =>
      intro I_4 J_5 hU_6 hF_7 hG_8 r_9 v_10 rv_10 q_11 hm_12
      exact ms_0 rv_10 hm_12
    | succ n_21 ih_21 =>
      intro I_4 J_5 hU_6 hF_7 hG_8 r_9 v_10 rv_10 q_11 hm_12
      refine g_iload C 4 dX12_seatFrom_21 rfl ?_
      refine g_iload_n C 1 dX12_seatFrom_23 rfl rfl ?_
      refine g_icmp_ge C (tgt := 47) dX12_seatFrom_24 (by decide) (fun h_13 => ?_) (fun h_13 => ?_)
      · skip
        have r_14 := le_r (h_13) ra0 rv_10
        exact g_vret B K rfl ⟨hU_6, hF_7, hG_8⟩ dX12_seatFrom_47
      · skip
        have r_15 := lt_l (hi := 1) (nle h_13) rv_10 ra0 (by decide)
        refine g_aload_n C 0 dX12_seatFrom_27 rfl rfl ?_
        refine g_getR C K hLx hkx f_12_67 hb_2 dX12_seatFrom_28 ?_
        refine g_iload C 4 dX12_seatFrom_31 rfl ?_
        refine g_aload_n C 0 dX12_seatFrom_33 rfl rfl ?_
        refine g_getR C K hLx hkx f_12_64 hb_1 dX12_seatFrom_34 ?_
        refine g_iload C 4 dX12_seatFrom_37 rfl ?_
        obtain ⟨x_16, hx_16, rx_16⟩ := ex_any (z0 := I_4 b_1 (v_10.toNatClampNeg))
        refine h_iald C K hb_1L hb_1k (v := x_16) (v_10.toNatClampNeg) (rfl) (ix_0 r_15 (by decide)) (ix_lt r_15 (by decide) hb_1n (by decide)) hx_16 dX12_seatFrom_39 ?_
        refine h_iast C K hb_2L hb_2k (v_10.toNatClampNeg) (rfl) (ix_0 r_15 (by decide)) (ix_lt r_15 (by decide) hb_2n (by decide)) dX12_seatFrom_40 (fun I_17 hI_17 => ?_)
        have hU_18 := iw_put W9 hU_6 hI_17 (ro_a hb_2k (by decide) hb_2o hkx rfl) (lo := (-2147483648)) (hi := 2147483647) (rfl) (rx_16) rfl
        have hF_19 := fq_puta hF_7 hI_17 (ro_a hb_2k (by decide) hb_2o hkx rfl) (by decide) (by decide)
        obtain ⟨x_20, hx_20, rx_20, tx_20⟩ := ex_add (y := 1) 1 2 r_15 rc_1 (by decide) (by decide) (by decide) (by decide)
        refine g_iinc C dX12_seatFrom_41 (k := 4) (v := x_20) rfl hx_20 (by decide) (lo2 := [(4, .int x_20), (0, .ref x), (1, .int a0), (2, .int a1), (3, .int a2)]) rfl ?_
        refine g_goto C (tgt := 21) dX12_seatFrom_44 (by decide) ?_
        refine g_lo (is := [1, 2, 3, 4, 0]) (lo2 := [(0, .ref x), (1, .int a0), (2, .int a1), (3, .int a2), (4, .int x_20)]) rfl ?_
        exact ih_21 I_17 J_5 hU_18 hF_19 hG_8 (r_9) x_20 (rg_w rx_20 (by decide) (by decide)) (kp_k (κ := κ) hI_17 (by rw [hkx, hb_2k]; decide) q_11) (ms_1 hm_12 (ti_k tx_20 rc_1) (by decide))
  have l_51 : ∀ (n_51 : Nat) (I_21 : Nat → Nat → Int32) (J_22 : Nat → Nat → Int64) (hU_23 : Iw L κ R ow I_21) (hF_24 : Fq L κ ow [1238, 85500, 85600] I I_21) (hG_25 : Fq L κ ow [] J J_22) (r_26 : Rg 1 127 a1) (n_27 : ¬ a1 = 0) (v_28 : Int32) (rv_28 : Rg 0 7 v_28) (hm_29 : 7 < (v_28 : Int32).toInt + (n_51 : Int)), WG p l e { frames := 5, cells := 0, slots := 0, locals := 120 } s m ([.ref x, .int a0, .int a1, .int a2] : List Value).toArray below meth c 5 0 0 (MQ below (Qv_ D cy L κ ln R (fun I2 J2 => Iw L κ R ow I2 ∧ Fq L κ ow [1238, 85500, 85600] I I2 ∧ Fq L κ ow [] J J2)) ([.ref x, .int a0, .int a1, .int a2] : List Value).toArray s 0 0 (Al_ L)) D cy (Al_ L) s.heap L κ ln R I_21 J_22 51 [(0, .ref x), (1, .int a0), (2, .int a1), (3, .int a2), (4, .int v_28)] [] := by
    intro n_51
    induction n_51 with
    | zero =>
      intro I_21 J_22 hU_23 hF_24 hG_25 r_26 n_27 v_28 rv_28 hm_29
      exact ms_0 rv_28 hm_29
    | succ n_51 ih_51 =>
      intro I_21 J_22 hU_23 hF_24 hG_25 r_26 n_27 v_28 rv_28 hm_29
      have j_129 : ∀ (I_30 : Nat → Nat → Int32) (J_31 : Nat → Nat → Int64) (hU_32 : Iw L κ R ow I_30) (hF_33 : Fq L κ ow [1238, 85500, 85600] I I_30) (hG_34 : Fq L κ ow [] J J_31) (r_35 : Rg 1 127 a1) (n_36 : ¬ a1 = 0) (v_37 : Int32) (rv_37 : Rg 0 6 v_37) (hm_38 : 7 < (v_37 : Int32).toInt + ((n_51 + 1 : Nat) : Int)), WG p l e { frames := 5, cells := 0, slots := 0, locals := 120 } s m ([.ref x, .int a0, .int a1, .int a2] : List Value).toArray below meth c 5 0 0 (MQ below (Qv_ D cy L κ ln R (fun I2 J2 => Iw L κ R ow I2 ∧ Fq L κ ow [1238, 85500, 85600] I I2 ∧ Fq L κ ow [] J J2)) ([.ref x, .int a0, .int a1, .int a2] : List Value).toArray s 0 0 (Al_ L)) D cy (Al_ L) s.heap L κ ln R I_30 J_31 129 [(0, .ref x), (1, .int a0), (2, .int a1), (3, .int a2), (4, .int v_37)] [] := by
        intro I_30 J_31 hU_32 hF_33 hG_34 r_35 n_36 v_37 rv_37 hm_38
        obtain ⟨x_39, hx_39, rx_39, tx_39⟩ := ex_add (y := 1) 1 7 rv_37 rc_1 (by decide) (by decide) (by decide) (by decide)
        refine g_iinc C dX12_seatFrom_129 (k := 4) (v := x_39) rfl hx_39 (by decide) (lo2 := [(4, .int x_39), (0, .ref x), (1, .int a0), (2, .int a1), (3, .int a2)]) rfl ?_
        refine g_goto C (tgt := 51) dX12_seatFrom_132 (by decide) ?_
        refine g_lo (is := [1, 2, 3, 4, 0]) (lo2 := [(0, .ref x), (1, .int a0), (2, .int a1), (3, .int a2), (4, .int x_39)]) rfl ?_
        exact ih_51 I_30 J_31 hU_32 hF_33 hG_34 (r_35) (n_36) x_39 (rg_w rx_39 (by decide) (by decide)) (ms_1 hm_38 (ti_k tx_39 rc_1) (by decide))
      refine g_iload C 4 dX12_seatFrom_51 rfl ?_
      refine g_aload_n C 0 dX12_seatFrom_53 rfl rfl ?_
      refine g_getR C K hLx hkx f_12_13 hb_3 dX12_seatFrom_54 ?_
      refine g_iconst C (v := 0) dX12_seatFrom_57 (by decide) ?_
      obtain ⟨x_40, hx_40, rx_40⟩ := ex_getw (I := I_21) (a := b_3) (j := 0) (lo := 0) (hi := 7) hU_23.1 hb_3L (ro_a hb_3k (by decide) hb_3o hkx rfl) (by decide)
      refine h_iald C K hb_3L hb_3k (v := x_40) (0) (by decide) (by decide) (by rw [hb_3n]; decide) hx_40 dX12_seatFrom_58 ?_
      refine g_icmp_ge C (tgt := 135) dX12_seatFrom_59 (by decide) (fun h_41 => ?_) (fun h_41 => ?_)
      · skip
        exact g_vret B K rfl ⟨hU_23, hF_24, hG_25⟩ dX12_seatFrom_135
      · skip
        have r_42 := lt_l (hi := 6) (nle h_41) rv_28 rx_40 (by decide)
        have r_43 := lt_r (lo := 1) (nle h_41) rv_28 rx_40 (by decide)
        refine g_iload_n C 2 dX12_seatFrom_62 rfl rfl ?_
        refine g_iload C 4 dX12_seatFrom_63 rfl ?_
        refine g_callSI C K (c_X12_has W9 a1 v_28  hU_23) s_12_231 rfl ⟨rfl, rfl⟩ ⟨Nat.le_of_ble_eq_true rfl, Nat.le_of_ble_eq_true rfl⟩ (Nat.le_of_ble_eq_true rfl) ⟨Nat.le_of_ble_eq_true rfl, Nat.le_of_ble_eq_true rfl⟩ dX12_seatFrom_65 rfl (st := []) (fun x_44 I_45 J_46 h_47 => ?_)
        obtain ⟨rfl, rfl, rx_44, ex_44⟩ := h_47
        refine g_if_ne C (tgt := 74) dX12_seatFrom_68 (by decide) (fun h_48 => ?_) (fun h_48 => ?_)
        · skip
          have n_49 : ¬ x_44 = 0 := h_48
          have r_50 := ne_lo (lo := 1) n_49 rx_44 rc_0 rfl (by decide)
          refine g_aload_n C 0 dX12_seatFrom_74 rfl rfl ?_
          refine g_getR C K hLx hkx f_12_64 hb_1 dX12_seatFrom_75 ?_
          refine g_iload_n C 1 dX12_seatFrom_78 rfl rfl ?_
          refine g_iload C 4 dX12_seatFrom_79 rfl ?_
          refine h_iast C K hb_1L hb_1k (a0.toNatClampNeg) (rfl) (ix_0 ra0 (by decide)) (ix_lt ra0 (by decide) hb_1n (by decide)) dX12_seatFrom_81 (fun I_51 hI_51 => ?_)
          have hU_52 := iw_put W9 hU_23 hI_51 (ro_a hb_1k (by decide) hb_1o hkx rfl) (lo := (-2147483648)) (hi := 2147483647) (rfl) (rg_all _) rfl
          have hF_53 := fq_puta hF_24 hI_51 (ro_a hb_1k (by decide) hb_1o hkx rfl) (by decide) (by decide)
          refine g_aload_n C 0 dX12_seatFrom_82 rfl rfl ?_
          refine g_iload_n C 1 dX12_seatFrom_83 rfl rfl ?_
          refine g_iconst C (v := 1) dX12_seatFrom_84 (by decide) ?_
          obtain ⟨x_54, hx_54, rx_54, tx_54⟩ := ex_add 3 3 ra0 rc_1 (by decide) (by decide) (by decide) (by decide)
          refine g_iadd C (v := x_54) dX12_seatFrom_85 hx_54 ?_
          refine g_iload_n C 2 dX12_seatFrom_86 rfl rfl ?_
          refine g_iconst C (v := 1) dX12_seatFrom_87 (by decide) ?_
          refine g_iload C 4 dX12_seatFrom_88 rfl ?_
          obtain ⟨x_55, hx_55, rx_55⟩ := ex_shl (x := 1) (y := v_28) 6 64 rfl (r_42) (by decide)
          refine g_ishl C (v := x_55) dX12_seatFrom_90 hx_55 ?_
          refine g_iconst C (v := (-1)) dX12_seatFrom_91 (by decide) ?_
          obtain ⟨x_56, hx_56, rx_56⟩ := ex_any (z0 := x_55 ^^^ (-1))
          refine g_ixor C (v := x_56) dX12_seatFrom_92 hx_56 ?_
          obtain ⟨x_57, hx_57, rx_57⟩ := ex_andl (x := a1) (y := x_56) (b := 127) (rg_w r_26 (by decide) (by decide))
          refine g_iand C (v := x_57) dX12_seatFrom_93 hx_57 ?_
          refine g_iload_n C 1 dX12_seatFrom_94 rfl rfl ?_
          refine g_if_le C (tgt := 125) dX12_seatFrom_95 (by decide) (fun h_58 => ?_) (fun h_58 => ?_)
          · skip
            have r_59 := le_l (h_58) ra0 rc_0
            exact rg_no r_59 (by decide)
          · skip
            refine g_aload_n C 0 dX12_seatFrom_98 rfl rfl ?_
            refine g_getR C K hLx hkx f_12_13 hb_3 dX12_seatFrom_99 ?_
            refine g_bipush C (v := 11) dX12_seatFrom_102 (by decide) ?_
            refine g_iload C 4 dX12_seatFrom_104 rfl ?_
            obtain ⟨x_60, hx_60, rx_60, tx_60⟩ := ex_add 11 17 rc_11 r_42 (by decide) (by decide) (by decide) (by decide)
            refine g_iadd C (v := x_60) dX12_seatFrom_106 hx_60 ?_
            obtain ⟨x_61, hx_61, rx_61⟩ := ex_any (z0 := I_51 b_3 (x_60.toNatClampNeg))
            refine h_iald C K hb_3L hb_3k (v := x_61) (x_60.toNatClampNeg) (rfl) (ix_0 rx_60 (by decide)) (ix_lt rx_60 (by decide) hb_3n (by decide)) hx_61 dX12_seatFrom_107 ?_
            refine g_aload_n C 0 dX12_seatFrom_108 rfl rfl ?_
            refine g_getR C K hLx hkx f_12_64 hb_1 dX12_seatFrom_109 ?_
            refine g_iload_n C 1 dX12_seatFrom_112 rfl rfl ?_
            refine g_iconst C (v := 1) dX12_seatFrom_113 (by decide) ?_
            obtain ⟨x_62, hx_62, rx_62, tx_62⟩ := ex_sub 1 1 ra0 rc_1 (by decide) (by decide) (by decide) (by decide)
            refine g_isub C (v := x_62) dX12_seatFrom_114 hx_62 ?_
            obtain ⟨x_63, hx_63, rx_63⟩ := ex_any (z0 := I_51 b_1 (x_62.toNatClampNeg))
            refine h_iald C K hb_1L hb_1k (v := x_63) (x_62.toNatClampNeg) (rfl) (ix_0 rx_62 (by decide)) (ix_lt rx_62 (by decide) hb_1n (by decide)) hx_63 dX12_seatFrom_115 ?_
            refine g_icmp_ne C (tgt := 125) dX12_seatFrom_116 (by decide) (fun h_64 => ?_) (fun h_64 => ?_)
            · skip
              refine g_iload_n C 3 dX12_seatFrom_125 rfl rfl ?_
              refine g_callVV C K (c_X12_seatFrom_3 W9 hLx hkx x_54 x_57 a2 (rx_54) (rx_57) (rg_w ra2 (by decide) (by decide)) hU_52  (by have q1 := bc_rm (z := x_57) (rg_w r_26 (by decide) (by decide)) (r_42) (ex_44 n_49) (by rw [hx_55, hx_56]; exact hx_57); have q2 := hbc; omega)) hLx hkx (by decide) rfl v_12_323 rfl ⟨rfl, rfl⟩ ⟨Nat.le_of_ble_eq_true rfl, Nat.le_of_ble_eq_true rfl⟩ (Nat.le_of_ble_eq_true rfl) ⟨Nat.le_of_ble_eq_true rfl, Nat.le_of_ble_eq_true rfl⟩ dX12_seatFrom_126 rfl (st := []) (fun I_66 J_67 h_68 => ?_)
              obtain ⟨hUI_66, hFI_66, hGJ_67⟩ := h_68
              have hF_69 := fq_tr hF_53 hFI_66 (by decide)
              have hG_70 := fq_tr hG_25 hGJ_67 (by decide)
              refine g_lo (is := [0, 1, 2, 3, 4]) (lo2 := [(0, .ref x), (1, .int a0), (2, .int a1), (3, .int a2), (4, .int v_28)]) rfl ?_
              exact j_129 I_66 J_67 hUI_66 hF_69 hG_70 (r_26) (n_27) v_28 (r_42) hm_29
            · skip
              refine g_iload_n C 3 dX12_seatFrom_119 rfl rfl ?_
              refine g_iconst C (v := 1) dX12_seatFrom_120 (by decide) ?_
              obtain ⟨x_71, hx_71, rx_71, tx_71⟩ := ex_add 1 2 ra2 rc_1 (by decide) (by decide) (by decide) (by decide)
              refine g_iadd C (v := x_71) dX12_seatFrom_121 hx_71 ?_
              refine g_goto C (tgt := 126) dX12_seatFrom_122 (by decide) ?_
              refine g_callVV C K (c_X12_seatFrom_3 W9 hLx hkx x_54 x_57 x_71 (rx_54) (rx_57) (rg_w rx_71 (by decide) (by decide)) hU_52  (by have q1 := bc_rm (z := x_57) (rg_w r_26 (by decide) (by decide)) (r_42) (ex_44 n_49) (by rw [hx_55, hx_56]; exact hx_57); have q2 := hbc; omega)) hLx hkx (by decide) rfl v_12_323 rfl ⟨rfl, rfl⟩ ⟨Nat.le_of_ble_eq_true rfl, Nat.le_of_ble_eq_true rfl⟩ (Nat.le_of_ble_eq_true rfl) ⟨Nat.le_of_ble_eq_true rfl, Nat.le_of_ble_eq_true rfl⟩ dX12_seatFrom_126 rfl (st := []) (fun I_73 J_74 h_75 => ?_)
              obtain ⟨hUI_73, hFI_73, hGJ_74⟩ := h_75
              have hF_76 := fq_tr hF_53 hFI_73 (by decide)
              have hG_77 := fq_tr hG_25 hGJ_74 (by decide)
              refine g_lo (is := [0, 1, 2, 3, 4]) (lo2 := [(0, .ref x), (1, .int a0), (2, .int a1), (3, .int a2), (4, .int v_28)]) rfl ?_
              exact j_129 I_73 J_74 hUI_73 hF_76 hG_77 (r_26) (n_27) v_28 (r_42) hm_29
        · skip
          have r_78 := (⟨(rx_44).1, (eq_rg (h_48) rc_0).2⟩ : Rg 0 0 x_44)
          refine g_goto C (tgt := 129) dX12_seatFrom_71 (by decide) ?_
          refine g_lo (is := [0, 1, 2, 3, 4]) (lo2 := [(0, .ref x), (1, .int a0), (2, .int a1), (3, .int a2), (4, .int v_28)]) rfl ?_
          exact j_129 I_21 J_22 hU_23 hF_24 hG_25 (r_26) (n_27) v_28 (r_42) hm_29
  refine g_iload_n C 2 dX12_seatFrom_0 rfl rfl ?_
  refine g_if_ne C (tgt := 48) dX12_seatFrom_1 (by decide) (fun h_79 => ?_) (fun h_79 => ?_)
  · skip
    have n_80 : ¬ a1 = 0 := h_79
    have r_81 := ne_lo (lo := 1) n_80 ra1 rc_0 rfl (by decide)
    refine g_iconst C (v := 0) dX12_seatFrom_48 (by decide) ?_
    refine g_istore C dX12_seatFrom_49 (by decide) (lo2 := [(4, .int 0), (0, .ref x), (1, .int a0), (2, .int a1), (3, .int a2)]) rfl ?_
    refine g_lo (is := [1, 2, 3, 4, 0]) (lo2 := [(0, .ref x), (1, .int a0), (2, .int a1), (3, .int a2), (4, .int 0)]) rfl ?_
    exact l_51 8 I J hU hF hG (r_81) (n_80) 0 (rg_w rc_0 (by decide) (by decide)) (ms_s (a := 0) (b := 7) (N := 8) (rg_w rc_0 (by decide) (by decide)) (by decide))
  · skip
    have r_82 := (⟨(ra1).1, (eq_rg (h_79) rc_0).2⟩ : Rg 0 0 a1)
    refine g_iload_n C 3 dX12_seatFrom_4 rfl rfl ?_
    refine g_aload_n C 0 dX12_seatFrom_5 rfl rfl ?_
    obtain ⟨x_83, hx_83, rx_83⟩ := ex_getw (I := I) (a := x) (j := 38) (lo := (-2147483648)) (hi := 2147483647) hU.1 hLx (ro_o hkx (by decide)) rfl
    refine g_getI C K hLx hkx f_12_320 (v := x_83) hx_83 dX12_seatFrom_6 ?_
    refine g_icmp_gt C (tgt := 13) dX12_seatFrom_9 (by decide) (fun h_84 => ?_) (fun h_84 => ?_)
    · skip
      have r_85 := lt_l (hi := 0) (h_84) rx_83 ra2 (by decide)
      refine g_aload_n C 0 dX12_seatFrom_13 rfl rfl ?_
      refine g_iload_n C 3 dX12_seatFrom_14 rfl rfl ?_
      refine h_putI C K hLx hkx f_12_320 p_12_38 dX12_seatFrom_15 (fun I_86 hI_86 => ?_)
      have hU_87 := iw_put W9 hU hI_86 (ro_o hkx (by decide)) (lo := (-2147483648)) (hi := 2147483647) (rfl) (rg_all _) rfl
      have hF_88 := fq_puto hF hI_86 hkx (by decide) (by decide)
      refine g_iconst C (v := 0) dX12_seatFrom_18 (by decide) ?_
      refine g_istore C dX12_seatFrom_19 (by decide) (lo2 := [(4, .int 0), (0, .ref x), (1, .int a0), (2, .int a1), (3, .int a2)]) rfl ?_
      refine g_lo (is := [1, 2, 3, 4, 0]) (lo2 := [(0, .ref x), (1, .int a0), (2, .int a1), (3, .int a2), (4, .int 0)]) rfl ?_
      exact l_21 3 I_86 J hU_87 hF_88 hG (r_82) 0 (rg_w rc_0 (by decide) (by decide)) (kp_s hI_86) (ms_s (a := 0) (b := 2) (N := 3) (rg_w rc_0 (by decide) (by decide)) (by decide))
    · skip
      have r_89 := le_r (nlt h_84) ra2 rx_83
      exact g_vret B K rfl ⟨hU, hF, hG⟩ dX12_seatFrom_12
set_option maxRecDepth 100000 in
set_option maxHeartbeats 8000000 in
theorem c_X12_seatFrom_1 {l : Launch} {D : va_G} {cy : Nat → ClassId} {L : List Nat} {κ ln : Nat → Nat} {R : Nat → Nat → Option Nat} {I : Nat → Nat → Int32} {J : Nat → Nat → Int64} {ow : Nat → Nat × Nat} (W9 : ∀ a ∈ L, Shp L κ ln R ow a) {x : Nat} (hLx : x ∈ L) (hkx : κ x = 12) (a0 : Int32) (a1 : Int32) (a2 : Int32) (ra0 : Rg 1 1 a0) (ra1 : Rg 0 127 a1) (ra2 : Rg 0 0 a2) (hU : Iw L κ R ow I) (hbc : (bc_ a1).toInt ≤ 6) : CtV l yX12_seatFrom cX12_seatFrom 5 none { frames := 6, cells := 0, slots := 0, locals := 144 } D cy L κ ln R I J [.ref x, .int a0, .int a1, .int a2] (fun I2 J2 => Iw L κ R ow I2 ∧ Fq L κ ow [1238, 85500, 85600] I I2 ∧ Fq L κ ow [] J J2) := by
  refine CtV.of (by decide +kernel) (Nat.le_of_ble_eq_true rfl) ?_
  intro p e s m below meth c B K
  have C := B.1
  have hF : Fq L κ ow [1238, 85500, 85600] I I := fq_rf
  have hG : Fq L κ ow [] J J := fq_rf
  obtain ⟨b_1, hb_1, hb_1L, hb_1k, hb_1n, hb_1o⟩ := shp_a (W9 x hLx) hkx 35 14 7 rfl (by decide)
  obtain ⟨b_2, hb_2, hb_2L, hb_2k, hb_2n, hb_2o⟩ := shp_a (W9 x hLx) hkx 36 14 7 rfl (by decide)
  obtain ⟨b_3, hb_3, hb_3L, hb_3k, hb_3n, hb_3o⟩ := shp_a (W9 x hLx) hkx 14 14 389 rfl (by decide)
  refine g_lo (is := [0, 1, 2, 3]) (lo2 := [(0, .ref x), (1, .int a0), (2, .int a1), (3, .int a2)]) rfl ?_
  have l_21 : ∀ (n_21 : Nat) (I_4 : Nat → Nat → Int32) (J_5 : Nat → Nat → Int64) (hU_6 : Iw L κ R ow I_4) (hF_7 : Fq L κ ow [1238, 85500, 85600] I I_4) (hG_8 : Fq L κ ow [] J J_5) (r_9 : Rg 0 0 a1) (v_10 : Int32) (rv_10 : Rg 0 1 v_10) (q_11 : I_4 x 38 = a2) (hm_12 : 1 < (v_10 : Int32).toInt + (n_21 : Int)), WG p l e { frames := 6, cells := 0, slots := 0, locals := 144 } s m ([.ref x, .int a0, .int a1, .int a2] : List Value).toArray below meth c 5 0 0 (MQ below (Qv_ D cy L κ ln R (fun I2 J2 => Iw L κ R ow I2 ∧ Fq L κ ow [1238, 85500, 85600] I I2 ∧ Fq L κ ow [] J J2)) ([.ref x, .int a0, .int a1, .int a2] : List Value).toArray s 0 0 (Al_ L)) D cy (Al_ L) s.heap L κ ln R I_4 J_5 21 [(0, .ref x), (1, .int a0), (2, .int a1), (3, .int a2), (4, .int v_10)] [] := by
    intro n_21
    induction n_21 with
    | zero =>
      intro I_4 J_5 hU_6 hF_7 hG_8 r_9 v_10 rv_10 q_11 hm_12
      exact ms_0 rv_10 hm_12
    | succ n_21 ih_21 =>
      intro I_4 J_5 hU_6 hF_7 hG_8 r_9 v_10 rv_10 q_11 hm_12
      refine g_iload C 4 dX12_seatFrom_21 rfl ?_
      refine g_iload_n C 1 dX12_seatFrom_23 rfl rfl ?_
      refine g_icmp_ge C (tgt := 47) dX12_seatFrom_24 (by decide) (fun h_13 => ?_) (fun h_13 => ?_)
      · skip
        have r_14 := le_r (h_13) ra0 rv_10
        exact g_vret B K rfl ⟨hU_6, hF_7, hG_8⟩ dX12_seatFrom_47
      · skip
        have r_15 := lt_l (hi := 0) (nle h_13) rv_10 ra0 (by decide)
        refine g_aload_n C 0 dX12_seatFrom_27 rfl rfl ?_
        refine g_getR C K hLx hkx f_12_67 hb_2 dX12_seatFrom_28 ?_
        refine g_iload C 4 dX12_seatFrom_31 rfl ?_
        refine g_aload_n C 0 dX12_seatFrom_33 rfl rfl ?_
        refine g_getR C K hLx hkx f_12_64 hb_1 dX12_seatFrom_34 ?_
        refine g_iload C 4 dX12_seatFrom_37 rfl ?_
        obtain ⟨x_16, hx_16, rx_16⟩ := ex_any (z0 := I_4 b_1 (v_10.toNatClampNeg))
        refine h_iald C K hb_1L hb_1k (v := x_16) (v_10.toNatClampNeg) (rfl) (ix_0 r_15 (by decide)) (ix_lt r_15 (by decide) hb_1n (by decide)) hx_16 dX12_seatFrom_39 ?_
        refine h_iast C K hb_2L hb_2k (v_10.toNatClampNeg) (rfl) (ix_0 r_15 (by decide)) (ix_lt r_15 (by decide) hb_2n (by decide)) dX12_seatFrom_40 (fun I_17 hI_17 => ?_)
        have hU_18 := iw_put W9 hU_6 hI_17 (ro_a hb_2k (by decide) hb_2o hkx rfl) (lo := (-2147483648)) (hi := 2147483647) (rfl) (rx_16) rfl
        have hF_19 := fq_puta hF_7 hI_17 (ro_a hb_2k (by decide) hb_2o hkx rfl) (by decide) (by decide)
        obtain ⟨x_20, hx_20, rx_20, tx_20⟩ := ex_add (y := 1) 1 1 r_15 rc_1 (by decide) (by decide) (by decide) (by decide)
        refine g_iinc C dX12_seatFrom_41 (k := 4) (v := x_20) rfl hx_20 (by decide) (lo2 := [(4, .int x_20), (0, .ref x), (1, .int a0), (2, .int a1), (3, .int a2)]) rfl ?_
        refine g_goto C (tgt := 21) dX12_seatFrom_44 (by decide) ?_
        refine g_lo (is := [1, 2, 3, 4, 0]) (lo2 := [(0, .ref x), (1, .int a0), (2, .int a1), (3, .int a2), (4, .int x_20)]) rfl ?_
        exact ih_21 I_17 J_5 hU_18 hF_19 hG_8 (r_9) x_20 (rg_w rx_20 (by decide) (by decide)) (kp_k (κ := κ) hI_17 (by rw [hkx, hb_2k]; decide) q_11) (ms_1 hm_12 (ti_k tx_20 rc_1) (by decide))
  have l_51 : ∀ (n_51 : Nat) (I_21 : Nat → Nat → Int32) (J_22 : Nat → Nat → Int64) (hU_23 : Iw L κ R ow I_21) (hF_24 : Fq L κ ow [1238, 85500, 85600] I I_21) (hG_25 : Fq L κ ow [] J J_22) (r_26 : Rg 1 127 a1) (n_27 : ¬ a1 = 0) (v_28 : Int32) (rv_28 : Rg 0 7 v_28) (hm_29 : 7 < (v_28 : Int32).toInt + (n_51 : Int)), WG p l e { frames := 6, cells := 0, slots := 0, locals := 144 } s m ([.ref x, .int a0, .int a1, .int a2] : List Value).toArray below meth c 5 0 0 (MQ below (Qv_ D cy L κ ln R (fun I2 J2 => Iw L κ R ow I2 ∧ Fq L κ ow [1238, 85500, 85600] I I2 ∧ Fq L κ ow [] J J2)) ([.ref x, .int a0, .int a1, .int a2] : List Value).toArray s 0 0 (Al_ L)) D cy (Al_ L) s.heap L κ ln R I_21 J_22 51 [(0, .ref x), (1, .int a0), (2, .int a1), (3, .int a2), (4, .int v_28)] [] := by
    intro n_51
    induction n_51 with
    | zero =>
      intro I_21 J_22 hU_23 hF_24 hG_25 r_26 n_27 v_28 rv_28 hm_29
      exact ms_0 rv_28 hm_29
    | succ n_51 ih_51 =>
      intro I_21 J_22 hU_23 hF_24 hG_25 r_26 n_27 v_28 rv_28 hm_29
      have j_129 : ∀ (I_30 : Nat → Nat → Int32) (J_31 : Nat → Nat → Int64) (hU_32 : Iw L κ R ow I_30) (hF_33 : Fq L κ ow [1238, 85500, 85600] I I_30) (hG_34 : Fq L κ ow [] J J_31) (r_35 : Rg 1 127 a1) (n_36 : ¬ a1 = 0) (v_37 : Int32) (rv_37 : Rg 0 6 v_37) (hm_38 : 7 < (v_37 : Int32).toInt + ((n_51 + 1 : Nat) : Int)), WG p l e { frames := 6, cells := 0, slots := 0, locals := 144 } s m ([.ref x, .int a0, .int a1, .int a2] : List Value).toArray below meth c 5 0 0 (MQ below (Qv_ D cy L κ ln R (fun I2 J2 => Iw L κ R ow I2 ∧ Fq L κ ow [1238, 85500, 85600] I I2 ∧ Fq L κ ow [] J J2)) ([.ref x, .int a0, .int a1, .int a2] : List Value).toArray s 0 0 (Al_ L)) D cy (Al_ L) s.heap L κ ln R I_30 J_31 129 [(0, .ref x), (1, .int a0), (2, .int a1), (3, .int a2), (4, .int v_37)] [] := by
        intro I_30 J_31 hU_32 hF_33 hG_34 r_35 n_36 v_37 rv_37 hm_38
        obtain ⟨x_39, hx_39, rx_39, tx_39⟩ := ex_add (y := 1) 1 7 rv_37 rc_1 (by decide) (by decide) (by decide) (by decide)
        refine g_iinc C dX12_seatFrom_129 (k := 4) (v := x_39) rfl hx_39 (by decide) (lo2 := [(4, .int x_39), (0, .ref x), (1, .int a0), (2, .int a1), (3, .int a2)]) rfl ?_
        refine g_goto C (tgt := 51) dX12_seatFrom_132 (by decide) ?_
        refine g_lo (is := [1, 2, 3, 4, 0]) (lo2 := [(0, .ref x), (1, .int a0), (2, .int a1), (3, .int a2), (4, .int x_39)]) rfl ?_
        exact ih_51 I_30 J_31 hU_32 hF_33 hG_34 (r_35) (n_36) x_39 (rg_w rx_39 (by decide) (by decide)) (ms_1 hm_38 (ti_k tx_39 rc_1) (by decide))
      refine g_iload C 4 dX12_seatFrom_51 rfl ?_
      refine g_aload_n C 0 dX12_seatFrom_53 rfl rfl ?_
      refine g_getR C K hLx hkx f_12_13 hb_3 dX12_seatFrom_54 ?_
      refine g_iconst C (v := 0) dX12_seatFrom_57 (by decide) ?_
      obtain ⟨x_40, hx_40, rx_40⟩ := ex_getw (I := I_21) (a := b_3) (j := 0) (lo := 0) (hi := 7) hU_23.1 hb_3L (ro_a hb_3k (by decide) hb_3o hkx rfl) (by decide)
      refine h_iald C K hb_3L hb_3k (v := x_40) (0) (by decide) (by decide) (by rw [hb_3n]; decide) hx_40 dX12_seatFrom_58 ?_
      refine g_icmp_ge C (tgt := 135) dX12_seatFrom_59 (by decide) (fun h_41 => ?_) (fun h_41 => ?_)
      · skip
        exact g_vret B K rfl ⟨hU_23, hF_24, hG_25⟩ dX12_seatFrom_135
      · skip
        have r_42 := lt_l (hi := 6) (nle h_41) rv_28 rx_40 (by decide)
        have r_43 := lt_r (lo := 1) (nle h_41) rv_28 rx_40 (by decide)
        refine g_iload_n C 2 dX12_seatFrom_62 rfl rfl ?_
        refine g_iload C 4 dX12_seatFrom_63 rfl ?_
        refine g_callSI C K (c_X12_has W9 a1 v_28  hU_23) s_12_231 rfl ⟨rfl, rfl⟩ ⟨Nat.le_of_ble_eq_true rfl, Nat.le_of_ble_eq_true rfl⟩ (Nat.le_of_ble_eq_true rfl) ⟨Nat.le_of_ble_eq_true rfl, Nat.le_of_ble_eq_true rfl⟩ dX12_seatFrom_65 rfl (st := []) (fun x_44 I_45 J_46 h_47 => ?_)
        obtain ⟨rfl, rfl, rx_44, ex_44⟩ := h_47
        refine g_if_ne C (tgt := 74) dX12_seatFrom_68 (by decide) (fun h_48 => ?_) (fun h_48 => ?_)
        · skip
          have n_49 : ¬ x_44 = 0 := h_48
          have r_50 := ne_lo (lo := 1) n_49 rx_44 rc_0 rfl (by decide)
          refine g_aload_n C 0 dX12_seatFrom_74 rfl rfl ?_
          refine g_getR C K hLx hkx f_12_64 hb_1 dX12_seatFrom_75 ?_
          refine g_iload_n C 1 dX12_seatFrom_78 rfl rfl ?_
          refine g_iload C 4 dX12_seatFrom_79 rfl ?_
          refine h_iast C K hb_1L hb_1k (a0.toNatClampNeg) (rfl) (ix_0 ra0 (by decide)) (ix_lt ra0 (by decide) hb_1n (by decide)) dX12_seatFrom_81 (fun I_51 hI_51 => ?_)
          have hU_52 := iw_put W9 hU_23 hI_51 (ro_a hb_1k (by decide) hb_1o hkx rfl) (lo := (-2147483648)) (hi := 2147483647) (rfl) (rg_all _) rfl
          have hF_53 := fq_puta hF_24 hI_51 (ro_a hb_1k (by decide) hb_1o hkx rfl) (by decide) (by decide)
          refine g_aload_n C 0 dX12_seatFrom_82 rfl rfl ?_
          refine g_iload_n C 1 dX12_seatFrom_83 rfl rfl ?_
          refine g_iconst C (v := 1) dX12_seatFrom_84 (by decide) ?_
          obtain ⟨x_54, hx_54, rx_54, tx_54⟩ := ex_add 2 2 ra0 rc_1 (by decide) (by decide) (by decide) (by decide)
          refine g_iadd C (v := x_54) dX12_seatFrom_85 hx_54 ?_
          refine g_iload_n C 2 dX12_seatFrom_86 rfl rfl ?_
          refine g_iconst C (v := 1) dX12_seatFrom_87 (by decide) ?_
          refine g_iload C 4 dX12_seatFrom_88 rfl ?_
          obtain ⟨x_55, hx_55, rx_55⟩ := ex_shl (x := 1) (y := v_28) 6 64 rfl (r_42) (by decide)
          refine g_ishl C (v := x_55) dX12_seatFrom_90 hx_55 ?_
          refine g_iconst C (v := (-1)) dX12_seatFrom_91 (by decide) ?_
          obtain ⟨x_56, hx_56, rx_56⟩ := ex_any (z0 := x_55 ^^^ (-1))
          refine g_ixor C (v := x_56) dX12_seatFrom_92 hx_56 ?_
          obtain ⟨x_57, hx_57, rx_57⟩ := ex_andl (x := a1) (y := x_56) (b := 127) (rg_w r_26 (by decide) (by decide))
          refine g_iand C (v := x_57) dX12_seatFrom_93 hx_57 ?_
          refine g_iload_n C 1 dX12_seatFrom_94 rfl rfl ?_
          refine g_if_le C (tgt := 125) dX12_seatFrom_95 (by decide) (fun h_58 => ?_) (fun h_58 => ?_)
          · skip
            have r_59 := le_l (h_58) ra0 rc_0
            exact rg_no r_59 (by decide)
          · skip
            refine g_aload_n C 0 dX12_seatFrom_98 rfl rfl ?_
            refine g_getR C K hLx hkx f_12_13 hb_3 dX12_seatFrom_99 ?_
            refine g_bipush C (v := 11) dX12_seatFrom_102 (by decide) ?_
            refine g_iload C 4 dX12_seatFrom_104 rfl ?_
            obtain ⟨x_60, hx_60, rx_60, tx_60⟩ := ex_add 11 17 rc_11 r_42 (by decide) (by decide) (by decide) (by decide)
            refine g_iadd C (v := x_60) dX12_seatFrom_106 hx_60 ?_
            obtain ⟨x_61, hx_61, rx_61⟩ := ex_any (z0 := I_51 b_3 (x_60.toNatClampNeg))
            refine h_iald C K hb_3L hb_3k (v := x_61) (x_60.toNatClampNeg) (rfl) (ix_0 rx_60 (by decide)) (ix_lt rx_60 (by decide) hb_3n (by decide)) hx_61 dX12_seatFrom_107 ?_
            refine g_aload_n C 0 dX12_seatFrom_108 rfl rfl ?_
            refine g_getR C K hLx hkx f_12_64 hb_1 dX12_seatFrom_109 ?_
            refine g_iload_n C 1 dX12_seatFrom_112 rfl rfl ?_
            refine g_iconst C (v := 1) dX12_seatFrom_113 (by decide) ?_
            obtain ⟨x_62, hx_62, rx_62, tx_62⟩ := ex_sub 0 0 ra0 rc_1 (by decide) (by decide) (by decide) (by decide)
            refine g_isub C (v := x_62) dX12_seatFrom_114 hx_62 ?_
            obtain ⟨x_63, hx_63, rx_63⟩ := ex_any (z0 := I_51 b_1 (x_62.toNatClampNeg))
            refine h_iald C K hb_1L hb_1k (v := x_63) (x_62.toNatClampNeg) (rfl) (ix_0 rx_62 (by decide)) (ix_lt rx_62 (by decide) hb_1n (by decide)) hx_63 dX12_seatFrom_115 ?_
            refine g_icmp_ne C (tgt := 125) dX12_seatFrom_116 (by decide) (fun h_64 => ?_) (fun h_64 => ?_)
            · skip
              refine g_iload_n C 3 dX12_seatFrom_125 rfl rfl ?_
              refine g_callVV C K (c_X12_seatFrom_2 W9 hLx hkx x_54 x_57 a2 (rx_54) (rx_57) (rg_w ra2 (by decide) (by decide)) hU_52  (by have q1 := bc_rm (z := x_57) (rg_w r_26 (by decide) (by decide)) (r_42) (ex_44 n_49) (by rw [hx_55, hx_56]; exact hx_57); have q2 := hbc; omega)) hLx hkx (by decide) rfl v_12_323 rfl ⟨rfl, rfl⟩ ⟨Nat.le_of_ble_eq_true rfl, Nat.le_of_ble_eq_true rfl⟩ (Nat.le_of_ble_eq_true rfl) ⟨Nat.le_of_ble_eq_true rfl, Nat.le_of_ble_eq_true rfl⟩ dX12_seatFrom_126 rfl (st := []) (fun I_66 J_67 h_68 => ?_)
              obtain ⟨hUI_66, hFI_66, hGJ_67⟩ := h_68
              have hF_69 := fq_tr hF_53 hFI_66 (by decide)
              have hG_70 := fq_tr hG_25 hGJ_67 (by decide)
              refine g_lo (is := [0, 1, 2, 3, 4]) (lo2 := [(0, .ref x), (1, .int a0), (2, .int a1), (3, .int a2), (4, .int v_28)]) rfl ?_
              exact j_129 I_66 J_67 hUI_66 hF_69 hG_70 (r_26) (n_27) v_28 (r_42) hm_29
            · skip
              refine g_iload_n C 3 dX12_seatFrom_119 rfl rfl ?_
              refine g_iconst C (v := 1) dX12_seatFrom_120 (by decide) ?_
              obtain ⟨x_71, hx_71, rx_71, tx_71⟩ := ex_add 1 1 ra2 rc_1 (by decide) (by decide) (by decide) (by decide)
              refine g_iadd C (v := x_71) dX12_seatFrom_121 hx_71 ?_
              refine g_goto C (tgt := 126) dX12_seatFrom_122 (by decide) ?_
              refine g_callVV C K (c_X12_seatFrom_2 W9 hLx hkx x_54 x_57 x_71 (rx_54) (rx_57) (rg_w rx_71 (by decide) (by decide)) hU_52  (by have q1 := bc_rm (z := x_57) (rg_w r_26 (by decide) (by decide)) (r_42) (ex_44 n_49) (by rw [hx_55, hx_56]; exact hx_57); have q2 := hbc; omega)) hLx hkx (by decide) rfl v_12_323 rfl ⟨rfl, rfl⟩ ⟨Nat.le_of_ble_eq_true rfl, Nat.le_of_ble_eq_true rfl⟩ (Nat.le_of_ble_eq_true rfl) ⟨Nat.le_of_ble_eq_true rfl, Nat.le_of_ble_eq_true rfl⟩ dX12_seatFrom_126 rfl (st := []) (fun I_73 J_74 h_75 => ?_)
              obtain ⟨hUI_73, hFI_73, hGJ_74⟩ := h_75
              have hF_76 := fq_tr hF_53 hFI_73 (by decide)
              have hG_77 := fq_tr hG_25 hGJ_74 (by decide)
              refine g_lo (is := [0, 1, 2, 3, 4]) (lo2 := [(0, .ref x), (1, .int a0), (2, .int a1), (3, .int a2), (4, .int v_28)]) rfl ?_
              exact j_129 I_73 J_74 hUI_73 hF_76 hG_77 (r_26) (n_27) v_28 (r_42) hm_29
        · skip
          have r_78 := (⟨(rx_44).1, (eq_rg (h_48) rc_0).2⟩ : Rg 0 0 x_44)
          refine g_goto C (tgt := 129) dX12_seatFrom_71 (by decide) ?_
          refine g_lo (is := [0, 1, 2, 3, 4]) (lo2 := [(0, .ref x), (1, .int a0), (2, .int a1), (3, .int a2), (4, .int v_28)]) rfl ?_
          exact j_129 I_21 J_22 hU_23 hF_24 hG_25 (r_26) (n_27) v_28 (r_42) hm_29
  refine g_iload_n C 2 dX12_seatFrom_0 rfl rfl ?_
  refine g_if_ne C (tgt := 48) dX12_seatFrom_1 (by decide) (fun h_79 => ?_) (fun h_79 => ?_)
  · skip
    have n_80 : ¬ a1 = 0 := h_79
    have r_81 := ne_lo (lo := 1) n_80 ra1 rc_0 rfl (by decide)
    refine g_iconst C (v := 0) dX12_seatFrom_48 (by decide) ?_
    refine g_istore C dX12_seatFrom_49 (by decide) (lo2 := [(4, .int 0), (0, .ref x), (1, .int a0), (2, .int a1), (3, .int a2)]) rfl ?_
    refine g_lo (is := [1, 2, 3, 4, 0]) (lo2 := [(0, .ref x), (1, .int a0), (2, .int a1), (3, .int a2), (4, .int 0)]) rfl ?_
    exact l_51 8 I J hU hF hG (r_81) (n_80) 0 (rg_w rc_0 (by decide) (by decide)) (ms_s (a := 0) (b := 7) (N := 8) (rg_w rc_0 (by decide) (by decide)) (by decide))
  · skip
    have r_82 := (⟨(ra1).1, (eq_rg (h_79) rc_0).2⟩ : Rg 0 0 a1)
    refine g_iload_n C 3 dX12_seatFrom_4 rfl rfl ?_
    refine g_aload_n C 0 dX12_seatFrom_5 rfl rfl ?_
    obtain ⟨x_83, hx_83, rx_83⟩ := ex_getw (I := I) (a := x) (j := 38) (lo := (-2147483648)) (hi := 2147483647) hU.1 hLx (ro_o hkx (by decide)) rfl
    refine g_getI C K hLx hkx f_12_320 (v := x_83) hx_83 dX12_seatFrom_6 ?_
    refine g_icmp_gt C (tgt := 13) dX12_seatFrom_9 (by decide) (fun h_84 => ?_) (fun h_84 => ?_)
    · skip
      have r_85 := lt_l (hi := (-1)) (h_84) rx_83 ra2 (by decide)
      refine g_aload_n C 0 dX12_seatFrom_13 rfl rfl ?_
      refine g_iload_n C 3 dX12_seatFrom_14 rfl rfl ?_
      refine h_putI C K hLx hkx f_12_320 p_12_38 dX12_seatFrom_15 (fun I_86 hI_86 => ?_)
      have hU_87 := iw_put W9 hU hI_86 (ro_o hkx (by decide)) (lo := (-2147483648)) (hi := 2147483647) (rfl) (rg_all _) rfl
      have hF_88 := fq_puto hF hI_86 hkx (by decide) (by decide)
      refine g_iconst C (v := 0) dX12_seatFrom_18 (by decide) ?_
      refine g_istore C dX12_seatFrom_19 (by decide) (lo2 := [(4, .int 0), (0, .ref x), (1, .int a0), (2, .int a1), (3, .int a2)]) rfl ?_
      refine g_lo (is := [1, 2, 3, 4, 0]) (lo2 := [(0, .ref x), (1, .int a0), (2, .int a1), (3, .int a2), (4, .int 0)]) rfl ?_
      exact l_21 2 I_86 J hU_87 hF_88 hG (r_82) 0 (rg_w rc_0 (by decide) (by decide)) (kp_s hI_86) (ms_s (a := 0) (b := 1) (N := 2) (rg_w rc_0 (by decide) (by decide)) (by decide))
    · skip
      have r_89 := le_r (nlt h_84) ra2 rx_83
      exact g_vret B K rfl ⟨hU, hF, hG⟩ dX12_seatFrom_12
set_option maxRecDepth 100000 in
set_option maxHeartbeats 8000000 in
theorem c_X12_seatFrom_0 {l : Launch} {D : va_G} {cy : Nat → ClassId} {L : List Nat} {κ ln : Nat → Nat} {R : Nat → Nat → Option Nat} {I : Nat → Nat → Int32} {J : Nat → Nat → Int64} {ow : Nat → Nat × Nat} (W9 : ∀ a ∈ L, Shp L κ ln R ow a) {x : Nat} (hLx : x ∈ L) (hkx : κ x = 12) (a0 : Int32) (a1 : Int32) (a2 : Int32) (ra0 : Rg 0 0 a0) (ra1 : Rg 0 127 a1) (ra2 : Rg 0 0 a2) (hU : Iw L κ R ow I) (hbc : (bc_ a1).toInt ≤ 7) : CtV l yX12_seatFrom cX12_seatFrom 5 none { frames := 7, cells := 0, slots := 0, locals := 168 } D cy L κ ln R I J [.ref x, .int a0, .int a1, .int a2] (fun I2 J2 => Iw L κ R ow I2 ∧ Fq L κ ow [1238, 85500, 85600] I I2 ∧ Fq L κ ow [] J J2) := by
  refine CtV.of (by decide +kernel) (Nat.le_of_ble_eq_true rfl) ?_
  intro p e s m below meth c B K
  have C := B.1
  have hF : Fq L κ ow [1238, 85500, 85600] I I := fq_rf
  have hG : Fq L κ ow [] J J := fq_rf
  obtain ⟨b_1, hb_1, hb_1L, hb_1k, hb_1n, hb_1o⟩ := shp_a (W9 x hLx) hkx 35 14 7 rfl (by decide)
  obtain ⟨b_2, hb_2, hb_2L, hb_2k, hb_2n, hb_2o⟩ := shp_a (W9 x hLx) hkx 14 14 389 rfl (by decide)
  refine g_lo (is := [0, 1, 2, 3]) (lo2 := [(0, .ref x), (1, .int a0), (2, .int a1), (3, .int a2)]) rfl ?_
  have j_21 : ∀ (I_3 : Nat → Nat → Int32) (J_4 : Nat → Nat → Int64) (hU_5 : Iw L κ R ow I_3) (hF_6 : Fq L κ ow [1238, 85500, 85600] I I_3) (hG_7 : Fq L κ ow [] J J_4) (r_8 : Rg 0 0 a1) (q_9 : I_3 x 38 = a2), WG p l e { frames := 7, cells := 0, slots := 0, locals := 168 } s m ([.ref x, .int a0, .int a1, .int a2] : List Value).toArray below meth c 5 0 0 (MQ below (Qv_ D cy L κ ln R (fun I2 J2 => Iw L κ R ow I2 ∧ Fq L κ ow [1238, 85500, 85600] I I2 ∧ Fq L κ ow [] J J2)) ([.ref x, .int a0, .int a1, .int a2] : List Value).toArray s 0 0 (Al_ L)) D cy (Al_ L) s.heap L κ ln R I_3 J_4 21 [(0, .ref x), (1, .int a0), (2, .int a1), (3, .int a2), (4, .int 0)] [] := by
    intro I_3 J_4 hU_5 hF_6 hG_7 r_8 q_9
    refine g_iload C 4 dX12_seatFrom_21 rfl ?_
    refine g_iload_n C 1 dX12_seatFrom_23 rfl rfl ?_
    refine g_icmp_ge C (tgt := 47) dX12_seatFrom_24 (by decide) (fun h_10 => ?_) (fun h_10 => ?_)
    · skip
      exact g_vret B K rfl ⟨hU_5, hF_6, hG_7⟩ dX12_seatFrom_47
    · skip
      have r_11 := lt_r (lo := 1) (nle h_10) rc_0 ra0 (by decide)
      exact rg_no r_11 (by decide)
  have l_51 : ∀ (n_51 : Nat) (I_12 : Nat → Nat → Int32) (J_13 : Nat → Nat → Int64) (hU_14 : Iw L κ R ow I_12) (hF_15 : Fq L κ ow [1238, 85500, 85600] I I_12) (hG_16 : Fq L κ ow [] J J_13) (r_17 : Rg 1 127 a1) (n_18 : ¬ a1 = 0) (v_19 : Int32) (rv_19 : Rg 0 7 v_19) (hm_20 : 7 < (v_19 : Int32).toInt + (n_51 : Int)), WG p l e { frames := 7, cells := 0, slots := 0, locals := 168 } s m ([.ref x, .int a0, .int a1, .int a2] : List Value).toArray below meth c 5 0 0 (MQ below (Qv_ D cy L κ ln R (fun I2 J2 => Iw L κ R ow I2 ∧ Fq L κ ow [1238, 85500, 85600] I I2 ∧ Fq L κ ow [] J J2)) ([.ref x, .int a0, .int a1, .int a2] : List Value).toArray s 0 0 (Al_ L)) D cy (Al_ L) s.heap L κ ln R I_12 J_13 51 [(0, .ref x), (1, .int a0), (2, .int a1), (3, .int a2), (4, .int v_19)] [] := by
    intro n_51
    induction n_51 with
    | zero =>
      intro I_12 J_13 hU_14 hF_15 hG_16 r_17 n_18 v_19 rv_19 hm_20
      exact ms_0 rv_19 hm_20
    | succ n_51 ih_51 =>
      intro I_12 J_13 hU_14 hF_15 hG_16 r_17 n_18 v_19 rv_19 hm_20
      have j_129 : ∀ (I_21 : Nat → Nat → Int32) (J_22 : Nat → Nat → Int64) (hU_23 : Iw L κ R ow I_21) (hF_24 : Fq L κ ow [1238, 85500, 85600] I I_21) (hG_25 : Fq L κ ow [] J J_22) (r_26 : Rg 1 127 a1) (n_27 : ¬ a1 = 0) (v_28 : Int32) (rv_28 : Rg 0 6 v_28) (hm_29 : 7 < (v_28 : Int32).toInt + ((n_51 + 1 : Nat) : Int)), WG p l e { frames := 7, cells := 0, slots := 0, locals := 168 } s m ([.ref x, .int a0, .int a1, .int a2] : List Value).toArray below meth c 5 0 0 (MQ below (Qv_ D cy L κ ln R (fun I2 J2 => Iw L κ R ow I2 ∧ Fq L κ ow [1238, 85500, 85600] I I2 ∧ Fq L κ ow [] J J2)) ([.ref x, .int a0, .int a1, .int a2] : List Value).toArray s 0 0 (Al_ L)) D cy (Al_ L) s.heap L κ ln R I_21 J_22 129 [(0, .ref x), (1, .int a0), (2, .int a1), (3, .int a2), (4, .int v_28)] [] := by
        intro I_21 J_22 hU_23 hF_24 hG_25 r_26 n_27 v_28 rv_28 hm_29
        obtain ⟨x_30, hx_30, rx_30, tx_30⟩ := ex_add (y := 1) 1 7 rv_28 rc_1 (by decide) (by decide) (by decide) (by decide)
        refine g_iinc C dX12_seatFrom_129 (k := 4) (v := x_30) rfl hx_30 (by decide) (lo2 := [(4, .int x_30), (0, .ref x), (1, .int a0), (2, .int a1), (3, .int a2)]) rfl ?_
        refine g_goto C (tgt := 51) dX12_seatFrom_132 (by decide) ?_
        refine g_lo (is := [1, 2, 3, 4, 0]) (lo2 := [(0, .ref x), (1, .int a0), (2, .int a1), (3, .int a2), (4, .int x_30)]) rfl ?_
        exact ih_51 I_21 J_22 hU_23 hF_24 hG_25 (r_26) (n_27) x_30 (rg_w rx_30 (by decide) (by decide)) (ms_1 hm_29 (ti_k tx_30 rc_1) (by decide))
      refine g_iload C 4 dX12_seatFrom_51 rfl ?_
      refine g_aload_n C 0 dX12_seatFrom_53 rfl rfl ?_
      refine g_getR C K hLx hkx f_12_13 hb_2 dX12_seatFrom_54 ?_
      refine g_iconst C (v := 0) dX12_seatFrom_57 (by decide) ?_
      obtain ⟨x_31, hx_31, rx_31⟩ := ex_getw (I := I_12) (a := b_2) (j := 0) (lo := 0) (hi := 7) hU_14.1 hb_2L (ro_a hb_2k (by decide) hb_2o hkx rfl) (by decide)
      refine h_iald C K hb_2L hb_2k (v := x_31) (0) (by decide) (by decide) (by rw [hb_2n]; decide) hx_31 dX12_seatFrom_58 ?_
      refine g_icmp_ge C (tgt := 135) dX12_seatFrom_59 (by decide) (fun h_32 => ?_) (fun h_32 => ?_)
      · skip
        exact g_vret B K rfl ⟨hU_14, hF_15, hG_16⟩ dX12_seatFrom_135
      · skip
        have r_33 := lt_l (hi := 6) (nle h_32) rv_19 rx_31 (by decide)
        have r_34 := lt_r (lo := 1) (nle h_32) rv_19 rx_31 (by decide)
        refine g_iload_n C 2 dX12_seatFrom_62 rfl rfl ?_
        refine g_iload C 4 dX12_seatFrom_63 rfl ?_
        refine g_callSI C K (c_X12_has W9 a1 v_19  hU_14) s_12_231 rfl ⟨rfl, rfl⟩ ⟨Nat.le_of_ble_eq_true rfl, Nat.le_of_ble_eq_true rfl⟩ (Nat.le_of_ble_eq_true rfl) ⟨Nat.le_of_ble_eq_true rfl, Nat.le_of_ble_eq_true rfl⟩ dX12_seatFrom_65 rfl (st := []) (fun x_35 I_36 J_37 h_38 => ?_)
        obtain ⟨rfl, rfl, rx_35, ex_35⟩ := h_38
        refine g_if_ne C (tgt := 74) dX12_seatFrom_68 (by decide) (fun h_39 => ?_) (fun h_39 => ?_)
        · skip
          have n_40 : ¬ x_35 = 0 := h_39
          have r_41 := ne_lo (lo := 1) n_40 rx_35 rc_0 rfl (by decide)
          refine g_aload_n C 0 dX12_seatFrom_74 rfl rfl ?_
          refine g_getR C K hLx hkx f_12_64 hb_1 dX12_seatFrom_75 ?_
          refine g_iload_n C 1 dX12_seatFrom_78 rfl rfl ?_
          refine g_iload C 4 dX12_seatFrom_79 rfl ?_
          refine h_iast C K hb_1L hb_1k (a0.toNatClampNeg) (rfl) (ix_0 ra0 (by decide)) (ix_lt ra0 (by decide) hb_1n (by decide)) dX12_seatFrom_81 (fun I_42 hI_42 => ?_)
          have hU_43 := iw_put W9 hU_14 hI_42 (ro_a hb_1k (by decide) hb_1o hkx rfl) (lo := (-2147483648)) (hi := 2147483647) (rfl) (rg_all _) rfl
          have hF_44 := fq_puta hF_15 hI_42 (ro_a hb_1k (by decide) hb_1o hkx rfl) (by decide) (by decide)
          refine g_aload_n C 0 dX12_seatFrom_82 rfl rfl ?_
          refine g_iload_n C 1 dX12_seatFrom_83 rfl rfl ?_
          refine g_iconst C (v := 1) dX12_seatFrom_84 (by decide) ?_
          obtain ⟨x_45, hx_45, rx_45, tx_45⟩ := ex_add 1 1 ra0 rc_1 (by decide) (by decide) (by decide) (by decide)
          refine g_iadd C (v := x_45) dX12_seatFrom_85 hx_45 ?_
          refine g_iload_n C 2 dX12_seatFrom_86 rfl rfl ?_
          refine g_iconst C (v := 1) dX12_seatFrom_87 (by decide) ?_
          refine g_iload C 4 dX12_seatFrom_88 rfl ?_
          obtain ⟨x_46, hx_46, rx_46⟩ := ex_shl (x := 1) (y := v_19) 6 64 rfl (r_33) (by decide)
          refine g_ishl C (v := x_46) dX12_seatFrom_90 hx_46 ?_
          refine g_iconst C (v := (-1)) dX12_seatFrom_91 (by decide) ?_
          obtain ⟨x_47, hx_47, rx_47⟩ := ex_any (z0 := x_46 ^^^ (-1))
          refine g_ixor C (v := x_47) dX12_seatFrom_92 hx_47 ?_
          obtain ⟨x_48, hx_48, rx_48⟩ := ex_andl (x := a1) (y := x_47) (b := 127) (rg_w r_17 (by decide) (by decide))
          refine g_iand C (v := x_48) dX12_seatFrom_93 hx_48 ?_
          refine g_iload_n C 1 dX12_seatFrom_94 rfl rfl ?_
          refine g_if_le C (tgt := 125) dX12_seatFrom_95 (by decide) (fun h_49 => ?_) (fun h_49 => ?_)
          · skip
            refine g_iload_n C 3 dX12_seatFrom_125 rfl rfl ?_
            refine g_callVV C K (c_X12_seatFrom_1 W9 hLx hkx x_45 x_48 a2 (rx_45) (rx_48) (ra2) hU_43  (by have q1 := bc_rm (z := x_48) (rg_w r_17 (by decide) (by decide)) (r_33) (ex_35 n_40) (by rw [hx_46, hx_47]; exact hx_48); have q2 := hbc; omega)) hLx hkx (by decide) rfl v_12_323 rfl ⟨rfl, rfl⟩ ⟨Nat.le_of_ble_eq_true rfl, Nat.le_of_ble_eq_true rfl⟩ (Nat.le_of_ble_eq_true rfl) ⟨Nat.le_of_ble_eq_true rfl, Nat.le_of_ble_eq_true rfl⟩ dX12_seatFrom_126 rfl (st := []) (fun I_51 J_52 h_53 => ?_)
            obtain ⟨hUI_51, hFI_51, hGJ_52⟩ := h_53
            have hF_54 := fq_tr hF_44 hFI_51 (by decide)
            have hG_55 := fq_tr hG_16 hGJ_52 (by decide)
            refine g_lo (is := [0, 1, 2, 3, 4]) (lo2 := [(0, .ref x), (1, .int a0), (2, .int a1), (3, .int a2), (4, .int v_19)]) rfl ?_
            exact j_129 I_51 J_52 hUI_51 hF_54 hG_55 (r_17) (n_18) v_19 (r_33) hm_20
          · skip
            have r_56 := lt_r (lo := 1) (nle h_49) rc_0 ra0 (by decide)
            exact rg_no r_56 (by decide)
        · skip
          have r_57 := (⟨(rx_35).1, (eq_rg (h_39) rc_0).2⟩ : Rg 0 0 x_35)
          refine g_goto C (tgt := 129) dX12_seatFrom_71 (by decide) ?_
          refine g_lo (is := [0, 1, 2, 3, 4]) (lo2 := [(0, .ref x), (1, .int a0), (2, .int a1), (3, .int a2), (4, .int v_19)]) rfl ?_
          exact j_129 I_12 J_13 hU_14 hF_15 hG_16 (r_17) (n_18) v_19 (r_33) hm_20
  refine g_iload_n C 2 dX12_seatFrom_0 rfl rfl ?_
  refine g_if_ne C (tgt := 48) dX12_seatFrom_1 (by decide) (fun h_58 => ?_) (fun h_58 => ?_)
  · skip
    have n_59 : ¬ a1 = 0 := h_58
    have r_60 := ne_lo (lo := 1) n_59 ra1 rc_0 rfl (by decide)
    refine g_iconst C (v := 0) dX12_seatFrom_48 (by decide) ?_
    refine g_istore C dX12_seatFrom_49 (by decide) (lo2 := [(4, .int 0), (0, .ref x), (1, .int a0), (2, .int a1), (3, .int a2)]) rfl ?_
    refine g_lo (is := [1, 2, 3, 4, 0]) (lo2 := [(0, .ref x), (1, .int a0), (2, .int a1), (3, .int a2), (4, .int 0)]) rfl ?_
    exact l_51 8 I J hU hF hG (r_60) (n_59) 0 (rg_w rc_0 (by decide) (by decide)) (ms_s (a := 0) (b := 7) (N := 8) (rg_w rc_0 (by decide) (by decide)) (by decide))
  · skip
    have r_61 := (⟨(ra1).1, (eq_rg (h_58) rc_0).2⟩ : Rg 0 0 a1)
    refine g_iload_n C 3 dX12_seatFrom_4 rfl rfl ?_
    refine g_aload_n C 0 dX12_seatFrom_5 rfl rfl ?_
    obtain ⟨x_62, hx_62, rx_62⟩ := ex_getw (I := I) (a := x) (j := 38) (lo := (-2147483648)) (hi := 2147483647) hU.1 hLx (ro_o hkx (by decide)) rfl
    refine g_getI C K hLx hkx f_12_320 (v := x_62) hx_62 dX12_seatFrom_6 ?_
    refine g_icmp_gt C (tgt := 13) dX12_seatFrom_9 (by decide) (fun h_63 => ?_) (fun h_63 => ?_)
    · skip
      have r_64 := lt_l (hi := (-1)) (h_63) rx_62 ra2 (by decide)
      refine g_aload_n C 0 dX12_seatFrom_13 rfl rfl ?_
      refine g_iload_n C 3 dX12_seatFrom_14 rfl rfl ?_
      refine h_putI C K hLx hkx f_12_320 p_12_38 dX12_seatFrom_15 (fun I_65 hI_65 => ?_)
      have hU_66 := iw_put W9 hU hI_65 (ro_o hkx (by decide)) (lo := (-2147483648)) (hi := 2147483647) (rfl) (rg_all _) rfl
      have hF_67 := fq_puto hF hI_65 hkx (by decide) (by decide)
      refine g_iconst C (v := 0) dX12_seatFrom_18 (by decide) ?_
      refine g_istore C dX12_seatFrom_19 (by decide) (lo2 := [(4, .int 0), (0, .ref x), (1, .int a0), (2, .int a1), (3, .int a2)]) rfl ?_
      refine g_lo (is := [1, 2, 3, 4, 0]) (lo2 := [(0, .ref x), (1, .int a0), (2, .int a1), (3, .int a2), (4, .int 0)]) rfl ?_
      exact j_21 I_65 J hU_66 hF_67 hG (r_61) (kp_s hI_65)
    · skip
      have r_68 := le_r (nlt h_63) ra2 rx_62
      exact g_vret B K rfl ⟨hU, hF, hG⟩ dX12_seatFrom_12
set_option maxRecDepth 100000 in
set_option maxHeartbeats 8000000 in
theorem c_X12_seats {l : Launch} {D : va_G} {cy : Nat → ClassId} {L : List Nat} {κ ln : Nat → Nat} {R : Nat → Nat → Option Nat} {I : Nat → Nat → Int32} {J : Nat → Nat → Int64} {ow : Nat → Nat × Nat} (W9 : ∀ a ∈ L, Shp L κ ln R ow a) {x : Nat} (hLx : x ∈ L) (hkx : κ x = 12) (hU : Iw L κ R ow I) : CtI l yX12_seats cX12_seats 1 (some .int) { frames := 8, cells := 0, slots := 0, locals := 192 } D cy L κ ln R I J [.ref x] (fun r I2 J2 => Iw L κ R ow I2 ∧ Fq L κ ow [1200, 1237, 1238, 85500, 85600] I I2 ∧ Fq L κ ow [] J J2 ∧ Rg (-2147483648) 2147483647 r) := by
  refine CtI.of (by decide +kernel) (Nat.le_of_ble_eq_true rfl) ?_
  intro p e s m below meth c B K
  have C := B.1
  have hF : Fq L κ ow [1200, 1237, 1238, 85500, 85600] I I := fq_rf
  have hG : Fq L κ ow [] J J := fq_rf
  refine g_lo (is := [0]) (lo2 := [(0, .ref x)]) rfl ?_
  refine g_aload_n C 0 dX12_seats_0 rfl rfl ?_
  refine g_iconst C (v := 0) dX12_seats_1 (by decide) ?_
  refine h_putI C K hLx hkx f_12_82 p_12_0 dX12_seats_2 (fun I_1 hI_1 => ?_)
  have hU_2 := iw_put W9 hU hI_1 (ro_o hkx (by decide)) (lo := (-2147483648)) (hi := 2147483647) (rfl) (rg_all _) rfl
  have hF_3 := fq_puto hF hI_1 hkx (by decide) (by decide)
  refine g_aload_n C 0 dX12_seats_5 rfl rfl ?_
  refine g_iconst C (v := (-1)) dX12_seats_6 (by decide) ?_
  refine h_putI C K hLx hkx f_12_320 p_12_38 dX12_seats_7 (fun I_4 hI_4 => ?_)
  have hU_5 := iw_put W9 hU_2 hI_4 (ro_o hkx (by decide)) (lo := (-2147483648)) (hi := 2147483647) (rfl) (rg_all _) rfl
  have hF_6 := fq_puto hF_3 hI_4 hkx (by decide) (by decide)
  refine g_aload_n C 0 dX12_seats_10 rfl rfl ?_
  refine g_aload_n C 0 dX12_seats_11 rfl rfl ?_
  refine g_callVI C K (c_X12_living W9 hLx hkx   hU_5) hLx hkx (by decide) rfl v_12_309 rfl ⟨rfl, rfl⟩ ⟨Nat.le_of_ble_eq_true rfl, Nat.le_of_ble_eq_true rfl⟩ (Nat.le_of_ble_eq_true rfl) ⟨Nat.le_of_ble_eq_true rfl, Nat.le_of_ble_eq_true rfl⟩ dX12_seats_12 rfl (st := [.ref x]) (fun x_7 I_8 J_9 h_10 => ?_)
  obtain ⟨rfl, rfl, rx_7⟩ := h_10
  refine g_callSI C K (c_X12_bits W9 x_7 (rx_7) hU_5) s_12_312 rfl ⟨rfl, rfl⟩ ⟨Nat.le_of_ble_eq_true rfl, Nat.le_of_ble_eq_true rfl⟩ (Nat.le_of_ble_eq_true rfl) ⟨Nat.le_of_ble_eq_true rfl, Nat.le_of_ble_eq_true rfl⟩ dX12_seats_15 rfl (st := [.ref x]) (fun x_11 I_12 J_13 h_14 => ?_)
  obtain ⟨rfl, rfl, rx_11⟩ := h_14
  refine h_putI C K hLx hkx f_12_326 p_12_37 dX12_seats_18 (fun I_15 hI_15 => ?_)
  have hU_16 := iw_put W9 hU_5 hI_15 (ro_o hkx (by decide)) (lo := 0) (hi := 7) (rfl) (rx_11) rfl
  have hF_17 := fq_puto hF_6 hI_15 hkx (by decide) (by decide)
  refine g_aload_n C 0 dX12_seats_21 rfl rfl ?_
  refine g_iconst C (v := 0) dX12_seats_22 (by decide) ?_
  refine g_aload_n C 0 dX12_seats_23 rfl rfl ?_
  refine g_callVI C K (c_X12_living W9 hLx hkx   hU_16) hLx hkx (by decide) rfl v_12_309 rfl ⟨rfl, rfl⟩ ⟨Nat.le_of_ble_eq_true rfl, Nat.le_of_ble_eq_true rfl⟩ (Nat.le_of_ble_eq_true rfl) ⟨Nat.le_of_ble_eq_true rfl, Nat.le_of_ble_eq_true rfl⟩ dX12_seats_24 rfl (st := [.int 0, .ref x]) (fun x_18 I_19 J_20 h_21 => ?_)
  obtain ⟨rfl, rfl, rx_18⟩ := h_21
  refine g_iconst C (v := 0) dX12_seats_27 (by decide) ?_
  refine g_callVV C K (c_X12_seatFrom_0 W9 hLx hkx 0 x_18 0 (rc_0) (rx_18) (rc_0) hU_16  ((bc_0 (rx_18)).2)) hLx hkx (by decide) rfl v_12_323 rfl ⟨rfl, rfl⟩ ⟨Nat.le_of_ble_eq_true rfl, Nat.le_of_ble_eq_true rfl⟩ (Nat.le_of_ble_eq_true rfl) ⟨Nat.le_of_ble_eq_true rfl, Nat.le_of_ble_eq_true rfl⟩ dX12_seats_28 rfl (st := []) (fun I_23 J_24 h_25 => ?_)
  obtain ⟨hUI_23, hFI_23, hGJ_24⟩ := h_25
  have hF_26 := fq_tr hF_17 hFI_23 (by decide)
  have hG_27 := fq_tr hG hGJ_24 (by decide)
  refine g_aload_n C 0 dX12_seats_31 rfl rfl ?_
  obtain ⟨x_28, hx_28, rx_28⟩ := ex_getw (I := I_23) (a := x) (j := 38) (lo := (-2147483648)) (hi := 2147483647) hUI_23.1 hLx (ro_o hkx (by decide)) rfl
  refine g_getI C K hLx hkx f_12_320 (v := x_28) hx_28 dX12_seats_32 ?_
  exact g_zret (ty := .int) (r := x_28) B K rfl (rfl) ⟨hUI_23, hF_26, hG_27, rx_28⟩ dX12_seats_35
set_option maxRecDepth 100000 in
set_option maxHeartbeats 8000000 in
theorem c_X12_seatAt {l : Launch} {D : va_G} {cy : Nat → ClassId} {L : List Nat} {κ ln : Nat → Nat} {R : Nat → Nat → Option Nat} {I : Nat → Nat → Int32} {J : Nat → Nat → Int64} {ow : Nat → Nat × Nat} (W9 : ∀ a ∈ L, Shp L κ ln R ow a) {x : Nat} (hLx : x ∈ L) (hkx : κ x = 12) (a0 : Int32) (hU : Iw L κ R ow I) : CtI l yX12_seatAt cX12_seatAt 2 (some .int) { frames := 1, cells := 0, slots := 0, locals := 22 } D cy L κ ln R I J [.ref x, .int a0] (fun r I2 J2 => Iw L κ R ow I2 ∧ Fq L κ ow [1200] I I2 ∧ Fq L κ ow [] J J2 ∧ Rg (-2147483648) 2147483647 r) := by
  refine CtI.of (by decide +kernel) (Nat.le_of_ble_eq_true rfl) ?_
  intro p e s m below meth c B K
  have C := B.1
  have hF : Fq L κ ow [1200] I I := fq_rf
  have hG : Fq L κ ow [] J J := fq_rf
  obtain ⟨b_1, hb_1, hb_1L, hb_1k, hb_1n, hb_1o⟩ := shp_a (W9 x hLx) hkx 36 14 7 rfl (by decide)
  refine g_lo (is := [0, 1]) (lo2 := [(0, .ref x), (1, .int a0)]) rfl ?_
  refine g_aload_n C 0 dX12_seatAt_0 rfl rfl ?_
  refine g_iconst C (v := 0) dX12_seatAt_1 (by decide) ?_
  refine h_putI C K hLx hkx f_12_82 p_12_0 dX12_seatAt_2 (fun I_2 hI_2 => ?_)
  have hU_3 := iw_put W9 hU hI_2 (ro_o hkx (by decide)) (lo := (-2147483648)) (hi := 2147483647) (rfl) (rg_all _) rfl
  have hF_4 := fq_puto hF hI_2 hkx (by decide) (by decide)
  refine g_iload_n C 1 dX12_seatAt_5 rfl rfl ?_
  refine g_iconst C (v := 0) dX12_seatAt_6 (by decide) ?_
  refine g_aload_n C 0 dX12_seatAt_7 rfl rfl ?_
  obtain ⟨x_5, hx_5, rx_5⟩ := ex_getw (I := I_2) (a := x) (j := 37) (lo := 0) (hi := 7) hU_3.1 hLx (ro_o hkx (by decide)) rfl
  refine g_getI C K hLx hkx f_12_326 (v := x_5) hx_5 dX12_seatAt_8 ?_
  refine g_iconst C (v := 1) dX12_seatAt_11 (by decide) ?_
  obtain ⟨x_6, hx_6, rx_6, tx_6⟩ := ex_sub (-1) 6 rx_5 rc_1 (by decide) (by decide) (by decide) (by decide)
  refine g_isub C (v := x_6) dX12_seatAt_12 hx_6 ?_
  refine g_callSI C K (c_X12_isIn W9 a0 0 x_6 (rg_w rc_0 (by decide) (by decide)) (rg_w rx_6 (by decide) (by decide)) hU_3) s_12_149 rfl ⟨rfl, rfl⟩ ⟨Nat.le_of_ble_eq_true rfl, Nat.le_of_ble_eq_true rfl⟩ (Nat.le_of_ble_eq_true rfl) ⟨Nat.le_of_ble_eq_true rfl, Nat.le_of_ble_eq_true rfl⟩ dX12_seatAt_13 rfl (st := []) (fun x_7 I_8 J_9 h_10 => ?_)
  obtain ⟨rfl, rfl, rx_7, fx_7, ex_7⟩ := h_10
  refine g_if_eq C (tgt := 28) dX12_seatAt_16 (by decide) (fun h_11 => ?_) (fun h_11 => ?_)
  · skip
    have r_12 := (⟨(rx_7).1, (eq_rg (h_11) rc_0).2⟩ : Rg 0 0 x_7)
    refine g_iconst C (v := (-1)) dX12_seatAt_28 (by decide) ?_
    exact g_zret (ty := .int) (r := (-1)) B K rfl (rfl) ⟨hU_3, hF_4, hG, rg_all _⟩ dX12_seatAt_29
  · skip
    have n_13 : ¬ x_7 = 0 := h_11
    have r_14 := ne_lo (lo := 1) n_13 rx_7 rc_0 rfl (by decide)
    have r_15 := le_r (((ex_7.1) n_13)) rc_0 (rg_all a0)
    have r_16 := le_l (((ex_7.2) n_13)) r_15 rx_6
    have r_17 := le_r (((ex_7.2) n_13)) r_15 rx_6
    have r_18 := rg_der (k := (-1)) (lo := 1) (hi := 7) (ti_s tx_6 rc_1 (by decide)) r_17 rx_5 (by decide) (by decide)
    refine g_aload_n C 0 dX12_seatAt_19 rfl rfl ?_
    refine g_getR C K hLx hkx f_12_67 hb_1 dX12_seatAt_20 ?_
    refine g_iload_n C 1 dX12_seatAt_23 rfl rfl ?_
    obtain ⟨x_19, hx_19, rx_19⟩ := ex_any (z0 := I_2 b_1 (a0.toNatClampNeg))
    refine h_iald C K hb_1L hb_1k (v := x_19) (a0.toNatClampNeg) (rfl) (ix_0 r_16 (by decide)) (ix_lt r_16 (by decide) hb_1n (by decide)) hx_19 dX12_seatAt_24 ?_
    refine g_goto C (tgt := 29) dX12_seatAt_25 (by decide) ?_
    exact g_zret (ty := .int) (r := x_19) B K rfl (rfl) ⟨hU_3, hF_4, hG, rx_19⟩ dX12_seatAt_29
set_option maxRecDepth 100000 in
set_option maxHeartbeats 8000000 in
theorem c_X12_layAside {l : Launch} {D : va_G} {cy : Nat → ClassId} {L : List Nat} {κ ln : Nat → Nat} {R : Nat → Nat → Option Nat} {I : Nat → Nat → Int32} {J : Nat → Nat → Int64} {ow : Nat → Nat × Nat} (W9 : ∀ a ∈ L, Shp L κ ln R ow a) {x : Nat} (hLx : x ∈ L) (hkx : κ x = 12) (hU : Iw L κ R ow I) : CtV l yX12_layAside cX12_layAside 2 none { frames := 0, cells := 0, slots := 0, locals := 0 } D cy L κ ln R I J [.ref x] (fun I2 J2 => Iw L κ R ow I2 ∧ Fq L κ ow [83800] I I2 ∧ Fq L κ ow [] J J2 ∧ (Hd_ R x I I2) ∧ (Ga_ R x I2)) := by
  refine CtV.of (by decide +kernel) (Nat.le_of_ble_eq_true rfl) ?_
  intro p e s m below meth c B K
  have C := B.1
  have hF : Fq L κ ow [83800] I I := fq_rf
  have hG : Fq L κ ow [] J J := fq_rf
  obtain ⟨b_1, hb_1, hb_1L, hb_1k, hb_1n, hb_1o⟩ := shp_a (W9 x hLx) hkx 18 14 75 rfl (by decide)
  obtain ⟨b_2, hb_2, hb_2L, hb_2k, hb_2n, hb_2o⟩ := shp_a (W9 x hLx) hkx 14 14 389 rfl (by decide)
  refine g_lo (is := [0]) (lo2 := [(0, .ref x)]) rfl ?_
  refine g_iconst C (v := 0) dX12_layAside_0 (by decide) ?_
  refine g_istore_n C dX12_layAside_1 rfl (by decide) (lo2 := [(1, .int 0), (0, .ref x)]) rfl ?_
  refine g_lo (is := [1, 0]) (lo2 := [(0, .ref x), (1, .int 0)]) rfl ?_
  have ex_2 : ∀ (I_4 : Nat → Nat → Int32) (hI_4 : I_4 = cpn_ I b_2 b_1 (72) (0) 75) (v_3 : Int32) (rv_3 : Rg 75 75 v_3), WG p l e { frames := 0, cells := 0, slots := 0, locals := 0 } s m ([.ref x] : List Value).toArray below meth c 2 0 0 (MQ below (Qv_ D cy L κ ln R (fun I2 J2 => Iw L κ R ow I2 ∧ Fq L κ ow [83800] I I2 ∧ Fq L κ ow [] J J2 ∧ (Hd_ R x I I2) ∧ (Ga_ R x I2))) ([.ref x] : List Value).toArray s 0 0 (Al_ L)) D cy (Al_ L) s.heap L κ ln R I_4 J 29 [(0, .ref x), (1, .int v_3)] [] := by
    intro I_4 hI_4 v_3 rv_3
    have hF_5 := fq_cpn hF hI_4 (ro_a hb_1k (by decide) hb_1o hkx rfl) (by decide) (by decide)
    have hU_6 := uw_cpn hU.1 hb_2L hI_4 (ro_a hb_1k (by decide) hb_1o hkx rfl) (ro_a hb_2k (by decide) hb_2o hkx rfl) (fun i _ => by rw [bn_838, bn_834, Nat.zero_add]; exact ⟨Int.le_refl _, Int.le_refl _⟩)
    have hU_7 := iw_cpo W9 hU.2 hU_6 hI_4 (ro_a hb_1k (by decide) hb_1o hkx rfl) (fun _ => rfl)
    exact g_vret B K rfl ⟨hU_7, hF_5, hG, (hd_c (r := 838) W9 hLx hkx hd_rf hI_4 (Or.inl ⟨(ro_a hb_1k (by decide) hb_1o hkx rfl), by decide⟩)), (ga_lay W9 hU.2 hLx hkx hb_2 hb_1 hI_4)⟩ dX12_layAside_29
  have l_2 : ∀ (m_2 : Nat) (v_8 : Int32) (I_9 : Nat → Nat → Int32), v_8.toInt + (m_2 : Int) = 75 → 0 ≤ v_8.toInt → I_9 = cpn_ I b_2 b_1 (72) (0) v_8.toNatClampNeg → WG p l e { frames := 0, cells := 0, slots := 0, locals := 0 } s m ([.ref x] : List Value).toArray below meth c 2 0 0 (MQ below (Qv_ D cy L κ ln R (fun I2 J2 => Iw L κ R ow I2 ∧ Fq L κ ow [83800] I I2 ∧ Fq L κ ow [] J J2 ∧ (Hd_ R x I I2) ∧ (Ga_ R x I2))) ([.ref x] : List Value).toArray s 0 0 (Al_ L)) D cy (Al_ L) s.heap L κ ln R I_9 J 2 [(0, .ref x), (1, .int v_8)] [] := by
    intro m_2
    induction m_2 with
    | zero =>
      intro v_8 I_9 hk_2 h0_2 hI_9
      have rv_8 : Rg 75 75 v_8 := by unfold Rg; omega
      refine g_iload_n C 1 dX12_layAside_2 rfl rfl ?_
      refine g_bipush C (v := 75) dX12_layAside_3 (by decide) ?_
      refine g_icmp_ge C (tgt := 29) dX12_layAside_5 (by decide) (fun h_10 => ?_) (fun h_10 => ?_)
      · skip
        refine g_lo (is := [0, 1]) (lo2 := [(0, .ref x), (1, .int v_8)]) rfl ?_
        exact ex_2 I_9 (hI_9.trans (congrArg (fun q => cpn_ I b_2 b_1 (72) (0) q) (show v_8.toNatClampNeg = 75 from by have := ix_n rv_8 (by decide); have := rv_8.1; have := rv_8.2; omega))) v_8 rv_8
      · skip
        have r_11 := lt_l (hi := 74) (nle h_10) rv_8 rc_75 (by decide)
        exact rg_no r_11 (by decide)
    | succ m_2 ih_2 =>
      intro v_8 I_9 hk_2 h0_2 hI_9
      have rv_8 : Rg 0 74 v_8 := by unfold Rg; omega
      refine g_iload_n C 1 dX12_layAside_2 rfl rfl ?_
      refine g_bipush C (v := 75) dX12_layAside_3 (by decide) ?_
      refine g_icmp_ge C (tgt := 29) dX12_layAside_5 (by decide) (fun h_12 => ?_) (fun h_12 => ?_)
      · skip
        have r_13 := le_r (h_12) rc_75 rv_8
        exact rg_no r_13 (by decide)
      · skip
        refine g_aload_n C 0 dX12_layAside_8 rfl rfl ?_
        refine g_getR C K hLx hkx f_12_25 hb_1 dX12_layAside_9 ?_
        refine g_iload_n C 1 dX12_layAside_12 rfl rfl ?_
        refine g_aload_n C 0 dX12_layAside_13 rfl rfl ?_
        refine g_getR C K hLx hkx f_12_13 hb_2 dX12_layAside_14 ?_
        refine g_bipush C (v := 72) dX12_layAside_17 (by decide) ?_
        refine g_iload_n C 1 dX12_layAside_19 rfl rfl ?_
        obtain ⟨x_14, hx_14, rx_14, tx_14⟩ := ex_add 72 146 rc_72 rv_8 (by decide) (by decide) (by decide) (by decide)
        refine g_iadd C (v := x_14) dX12_layAside_20 hx_14 ?_
        obtain ⟨x_15, hx_15, rx_15⟩ := ex_any (z0 := I_9 b_2 (x_14.toNatClampNeg))
        refine h_iald C K hb_2L hb_2k (v := x_15) (x_14.toNatClampNeg) (rfl) (ix_0 rx_14 (by decide)) (ix_lt rx_14 (by decide) hb_2n (by decide)) hx_15 dX12_layAside_21 ?_
        refine h_iast C K hb_1L hb_1k (v_8.toNatClampNeg) (rfl) (ix_0 rv_8 (by decide)) (ix_lt rv_8 (by decide) hb_1n (by decide)) dX12_layAside_22 (fun I_16 hI_16 => ?_)
        obtain ⟨x_17, hx_17, rx_17, tx_17⟩ := ex_add (y := 1) 1 75 rv_8 rc_1 (by decide) (by decide) (by decide) (by decide)
        refine g_iinc C dX12_layAside_23 (k := 1) (v := x_17) rfl hx_17 (by decide) (lo2 := [(1, .int x_17), (0, .ref x)]) rfl ?_
        refine g_goto C (tgt := 2) dX12_layAside_26 (by decide) ?_
        refine g_lo (is := [1, 0]) (lo2 := [(0, .ref x), (1, .int x_17)]) rfl ?_
        have kk_2 : x_17.toNatClampNeg = v_8.toNatClampNeg + 1 := by have q1 := ix_n rv_8 (by decide); have q2 := (ti_k tx_17 rc_1); have q3 : x_17.toNatClampNeg = x_17.toInt.toNat := rfl; omega
        exact ih_2 x_17 I_16 (by have := (ti_k tx_17 rc_1); omega) (by have := (ti_k tx_17 rc_1); omega) (by rw [kk_2]; exact cpn_s hI_9 hx_15 hI_16 (show x_14.toNatClampNeg = (72) + v_8.toNatClampNeg from by rw [nx_a tx_14 rc_72 rv_8 (by decide)]; simp only [show (72 : Int32).toNatClampNeg = 72 from rfl] <;> omega) (show v_8.toNatClampNeg = (0) + v_8.toNatClampNeg from by omega) (Or.inl (ne_ro (ro_a hb_2k (by decide) hb_2o hkx rfl) (ro_a hb_1k (by decide) hb_1o hkx rfl) (by decide))))
  exact l_2 75 0 I (by decide) (by decide) cpn_0
set_option maxRecDepth 100000 in
set_option maxHeartbeats 8000000 in
theorem c_X12_takeBack {l : Launch} {D : va_G} {cy : Nat → ClassId} {L : List Nat} {κ ln : Nat → Nat} {R : Nat → Nat → Option Nat} {I : Nat → Nat → Int32} {J : Nat → Nat → Int64} {ow : Nat → Nat × Nat} (W9 : ∀ a ∈ L, Shp L κ ln R ow a) {x : Nat} (hLx : x ∈ L) (hkx : κ x = 12) (hU : Iw L κ R ow I) (hga : Ga_ R x I) : CtV l yX12_takeBack cX12_takeBack 2 none { frames := 0, cells := 0, slots := 0, locals := 0 } D cy L κ ln R I J [.ref x] (fun I2 J2 => Iw L κ R ow I2 ∧ Fq L κ ow [83400] I I2 ∧ Fq L κ ow [] J J2 ∧ (Hd_ R x I I2)) := by
  refine CtV.of (by decide +kernel) (Nat.le_of_ble_eq_true rfl) ?_
  intro p e s m below meth c B K
  have C := B.1
  have hF : Fq L κ ow [83400] I I := fq_rf
  have hG : Fq L κ ow [] J J := fq_rf
  obtain ⟨b_1, hb_1, hb_1L, hb_1k, hb_1n, hb_1o⟩ := shp_a (W9 x hLx) hkx 18 14 75 rfl (by decide)
  obtain ⟨b_2, hb_2, hb_2L, hb_2k, hb_2n, hb_2o⟩ := shp_a (W9 x hLx) hkx 14 14 389 rfl (by decide)
  refine g_lo (is := [0]) (lo2 := [(0, .ref x)]) rfl ?_
  refine g_iconst C (v := 0) dX12_takeBack_0 (by decide) ?_
  refine g_istore_n C dX12_takeBack_1 rfl (by decide) (lo2 := [(1, .int 0), (0, .ref x)]) rfl ?_
  refine g_lo (is := [1, 0]) (lo2 := [(0, .ref x), (1, .int 0)]) rfl ?_
  have ex_2 : ∀ (I_4 : Nat → Nat → Int32) (hI_4 : I_4 = cpn_ I b_1 b_2 (0) (72) 75) (v_3 : Int32) (rv_3 : Rg 75 75 v_3), WG p l e { frames := 0, cells := 0, slots := 0, locals := 0 } s m ([.ref x] : List Value).toArray below meth c 2 0 0 (MQ below (Qv_ D cy L κ ln R (fun I2 J2 => Iw L κ R ow I2 ∧ Fq L κ ow [83400] I I2 ∧ Fq L κ ow [] J J2 ∧ (Hd_ R x I I2))) ([.ref x] : List Value).toArray s 0 0 (Al_ L)) D cy (Al_ L) s.heap L κ ln R I_4 J 29 [(0, .ref x), (1, .int v_3)] [] := by
    intro I_4 hI_4 v_3 rv_3
    have hF_5 := fq_cpn hF hI_4 (ro_a hb_2k (by decide) hb_2o hkx rfl) (by decide) (by decide)
    have hU_6 := uw_cpn hU.1 hb_1L hI_4 (ro_a hb_2k (by decide) hb_2o hkx rfl) (ro_a hb_1k (by decide) hb_1o hkx rfl) (fun i _ => by rw [bn_834, bn_838, Nat.zero_add]; exact ⟨Int.le_refl _, Int.le_refl _⟩)
    have hU_7 := iw_set W9 hU.2 hU_6 hLx hkx hb_2 hI_4 (hga _ _ hb_2 hb_1)
    exact g_vret B K rfl ⟨hU_7, hF_5, hG, (hd_c (r := 0) W9 hLx hkx hd_rf hI_4 (Or.inr (by omega)))⟩ dX12_takeBack_29
  have l_2 : ∀ (m_2 : Nat) (v_8 : Int32) (I_9 : Nat → Nat → Int32), v_8.toInt + (m_2 : Int) = 75 → 0 ≤ v_8.toInt → I_9 = cpn_ I b_1 b_2 (0) (72) v_8.toNatClampNeg → WG p l e { frames := 0, cells := 0, slots := 0, locals := 0 } s m ([.ref x] : List Value).toArray below meth c 2 0 0 (MQ below (Qv_ D cy L κ ln R (fun I2 J2 => Iw L κ R ow I2 ∧ Fq L κ ow [83400] I I2 ∧ Fq L κ ow [] J J2 ∧ (Hd_ R x I I2))) ([.ref x] : List Value).toArray s 0 0 (Al_ L)) D cy (Al_ L) s.heap L κ ln R I_9 J 2 [(0, .ref x), (1, .int v_8)] [] := by
    intro m_2
    induction m_2 with
    | zero =>
      intro v_8 I_9 hk_2 h0_2 hI_9
      have rv_8 : Rg 75 75 v_8 := by unfold Rg; omega
      refine g_iload_n C 1 dX12_takeBack_2 rfl rfl ?_
      refine g_bipush C (v := 75) dX12_takeBack_3 (by decide) ?_
      refine g_icmp_ge C (tgt := 29) dX12_takeBack_5 (by decide) (fun h_10 => ?_) (fun h_10 => ?_)
      · skip
        refine g_lo (is := [0, 1]) (lo2 := [(0, .ref x), (1, .int v_8)]) rfl ?_
        exact ex_2 I_9 (hI_9.trans (congrArg (fun q => cpn_ I b_1 b_2 (0) (72) q) (show v_8.toNatClampNeg = 75 from by have := ix_n rv_8 (by decide); have := rv_8.1; have := rv_8.2; omega))) v_8 rv_8
      · skip
        have r_11 := lt_l (hi := 74) (nle h_10) rv_8 rc_75 (by decide)
        exact rg_no r_11 (by decide)
    | succ m_2 ih_2 =>
      intro v_8 I_9 hk_2 h0_2 hI_9
      have rv_8 : Rg 0 74 v_8 := by unfold Rg; omega
      refine g_iload_n C 1 dX12_takeBack_2 rfl rfl ?_
      refine g_bipush C (v := 75) dX12_takeBack_3 (by decide) ?_
      refine g_icmp_ge C (tgt := 29) dX12_takeBack_5 (by decide) (fun h_12 => ?_) (fun h_12 => ?_)
      · skip
        have r_13 := le_r (h_12) rc_75 rv_8
        exact rg_no r_13 (by decide)
      · skip
        refine g_aload_n C 0 dX12_takeBack_8 rfl rfl ?_
        refine g_getR C K hLx hkx f_12_13 hb_2 dX12_takeBack_9 ?_
        refine g_bipush C (v := 72) dX12_takeBack_12 (by decide) ?_
        refine g_iload_n C 1 dX12_takeBack_14 rfl rfl ?_
        obtain ⟨x_14, hx_14, rx_14, tx_14⟩ := ex_add 72 146 rc_72 rv_8 (by decide) (by decide) (by decide) (by decide)
        refine g_iadd C (v := x_14) dX12_takeBack_15 hx_14 ?_
        refine g_aload_n C 0 dX12_takeBack_16 rfl rfl ?_
        refine g_getR C K hLx hkx f_12_25 hb_1 dX12_takeBack_17 ?_
        refine g_iload_n C 1 dX12_takeBack_20 rfl rfl ?_
        obtain ⟨x_15, hx_15, rx_15⟩ := ex_any (z0 := I_9 b_1 (v_8.toNatClampNeg))
        refine h_iald C K hb_1L hb_1k (v := x_15) (v_8.toNatClampNeg) (rfl) (ix_0 rv_8 (by decide)) (ix_lt rv_8 (by decide) hb_1n (by decide)) hx_15 dX12_takeBack_21 ?_
        refine h_iast C K hb_2L hb_2k (x_14.toNatClampNeg) (rfl) (ix_0 rx_14 (by decide)) (ix_lt rx_14 (by decide) hb_2n (by decide)) dX12_takeBack_22 (fun I_16 hI_16 => ?_)
        obtain ⟨x_17, hx_17, rx_17, tx_17⟩ := ex_add (y := 1) 1 75 rv_8 rc_1 (by decide) (by decide) (by decide) (by decide)
        refine g_iinc C dX12_takeBack_23 (k := 1) (v := x_17) rfl hx_17 (by decide) (lo2 := [(1, .int x_17), (0, .ref x)]) rfl ?_
        refine g_goto C (tgt := 2) dX12_takeBack_26 (by decide) ?_
        refine g_lo (is := [1, 0]) (lo2 := [(0, .ref x), (1, .int x_17)]) rfl ?_
        have kk_2 : x_17.toNatClampNeg = v_8.toNatClampNeg + 1 := by have q1 := ix_n rv_8 (by decide); have q2 := (ti_k tx_17 rc_1); have q3 : x_17.toNatClampNeg = x_17.toInt.toNat := rfl; omega
        exact ih_2 x_17 I_16 (by have := (ti_k tx_17 rc_1); omega) (by have := (ti_k tx_17 rc_1); omega) (by rw [kk_2]; exact cpn_s hI_9 hx_15 hI_16 (show v_8.toNatClampNeg = (0) + v_8.toNatClampNeg from by omega) (show x_14.toNatClampNeg = (72) + v_8.toNatClampNeg from by rw [nx_a tx_14 rc_72 rv_8 (by decide)]; simp only [show (72 : Int32).toNatClampNeg = 72 from rfl] <;> omega) (Or.inl (ne_ro (ro_a hb_1k (by decide) hb_1o hkx rfl) (ro_a hb_2k (by decide) hb_2o hkx rfl) (by decide))))
  exact l_2 75 0 I (by decide) (by decide) cpn_0
set_option maxRecDepth 100000 in
set_option maxHeartbeats 8000000 in
theorem c_X12_left {l : Launch} {D : va_G} {cy : Nat → ClassId} {L : List Nat} {κ ln : Nat → Nat} {R : Nat → Nat → Option Nat} {I : Nat → Nat → Int32} {J : Nat → Nat → Int64} {ow : Nat → Nat × Nat} (W9 : ∀ a ∈ L, Shp L κ ln R ow a) {x : Nat} (hLx : x ∈ L) (hkx : κ x = 12) (a0 : Int32) (hU : Iw L κ R ow I) : CtI l yX12_left cX12_left 4 (some .int) { frames := 5, cells := 0, slots := 0, locals := 120 } D cy L κ ln R I J [.ref x, .int a0] (fun r I2 J2 => Iw L κ R ow I2 ∧ Fq L κ ow [1200, 1202, 83400, 83800] I I2 ∧ Fq L κ ow [] J J2 ∧ Rg (-1) 2274 r ∧ (Hd_ R x I I2)) := by
  refine CtI.of (by decide +kernel) (Nat.le_of_ble_eq_true rfl) ?_
  intro p e s m below meth c B K
  have C := B.1
  have hF : Fq L κ ow [1200, 1202, 83400, 83800] I I := fq_rf
  have hG : Fq L κ ow [] J J := fq_rf
  obtain ⟨b_1, hb_1, hb_1L, hb_1k, hb_1n, hb_1o⟩ := shp_a (W9 x hLx) hkx 1 14 940 rfl (by decide)
  refine g_lo (is := [0, 1]) (lo2 := [(0, .ref x), (1, .int a0)]) rfl ?_
  have l_64 : ∀ (n_64 : Nat) (I_2 : Nat → Nat → Int32) (J_3 : Nat → Nat → Int64) (hU_4 : Iw L κ R ow I_2) (hF_5 : Fq L κ ow [1200, 1202, 83400, 83800] I I_2) (hG_6 : Fq L κ ow [] J J_3) (r_7 : Rg 0 6 a0) (v_8 : Int32) (rv_8 : Rg 1 7 v_8) (v_9 : Int32) (rv_9 : Rg 0 7 v_9) (q_10 : I_2 x 0 = 0) (hd_11 : Hd_ R x I I_2) (ga_12 : Ga_ R x I_2) (hj_13 : ∀ j : Nat, (j : Int) < v_8.toInt → Rg 0 6 (I_2 b_1 j)) (hm_14 : 7 < (v_9 : Int32).toInt + (n_64 : Int)), WG p l e { frames := 5, cells := 0, slots := 0, locals := 120 } s m ([.ref x, .int a0] : List Value).toArray below meth c 4 0 0 (MQ below (Qi_ D cy L κ ln R (fun r I2 J2 => Iw L κ R ow I2 ∧ Fq L κ ow [1200, 1202, 83400, 83800] I I2 ∧ Fq L κ ow [] J J2 ∧ Rg (-1) 2274 r ∧ (Hd_ R x I I2))) ([.ref x, .int a0] : List Value).toArray s 0 0 (Al_ L)) D cy (Al_ L) s.heap L κ ln R I_2 J_3 64 [(0, .ref x), (1, .int a0), (2, .int v_8), (3, .int v_9)] [] := by
    intro n_64
    induction n_64 with
    | zero =>
      intro I_2 J_3 hU_4 hF_5 hG_6 r_7 v_8 rv_8 v_9 rv_9 q_10 hd_11 ga_12 hj_13 hm_14
      exact ms_0 rv_9 hm_14
    | succ n_64 ih_64 =>
      intro I_2 J_3 hU_4 hF_5 hG_6 r_7 v_8 rv_8 v_9 rv_9 q_10 hd_11 ga_12 hj_13 hm_14
      have j_95 : ∀ (I_15 : Nat → Nat → Int32) (J_16 : Nat → Nat → Int64) (hU_17 : Iw L κ R ow I_15) (hF_18 : Fq L κ ow [1200, 1202, 83400, 83800] I I_15) (hG_19 : Fq L κ ow [] J J_16) (r_20 : Rg 0 6 a0) (v_21 : Int32) (rv_21 : Rg 1 7 v_21) (v_22 : Int32) (rv_22 : Rg 0 6 v_22) (q_23 : I_15 x 0 = 0) (hm_24 : 7 < (v_22 : Int32).toInt + ((n_64 + 1 : Nat) : Int)) (hd_25 : Hd_ R x I I_15) (ga_26 : Ga_ R x I_15) (hj_27 : ∀ j : Nat, (j : Int) < v_21.toInt → Rg 0 6 (I_15 b_1 j)), WG p l e { frames := 5, cells := 0, slots := 0, locals := 120 } s m ([.ref x, .int a0] : List Value).toArray below meth c 4 0 0 (MQ below (Qi_ D cy L κ ln R (fun r I2 J2 => Iw L κ R ow I2 ∧ Fq L κ ow [1200, 1202, 83400, 83800] I I2 ∧ Fq L κ ow [] J J2 ∧ Rg (-1) 2274 r ∧ (Hd_ R x I I2))) ([.ref x, .int a0] : List Value).toArray s 0 0 (Al_ L)) D cy (Al_ L) s.heap L κ ln R I_15 J_16 95 [(0, .ref x), (1, .int a0), (2, .int v_21), (3, .int v_22)] [] := by
        intro I_15 J_16 hU_17 hF_18 hG_19 r_20 v_21 rv_21 v_22 rv_22 q_23 hm_24 hd_25 ga_26 hj_27
        obtain ⟨x_28, hx_28, rx_28, tx_28⟩ := ex_add (y := 1) 1 7 rv_22 rc_1 (by decide) (by decide) (by decide) (by decide)
        refine g_iinc C dX12_left_95 (k := 3) (v := x_28) rfl hx_28 (by decide) (lo2 := [(3, .int x_28), (0, .ref x), (1, .int a0), (2, .int v_21)]) rfl ?_
        refine g_goto C (tgt := 64) dX12_left_98 (by decide) ?_
        refine g_lo (is := [1, 2, 3, 0]) (lo2 := [(0, .ref x), (1, .int a0), (2, .int v_21), (3, .int x_28)]) rfl ?_
        exact ih_64 I_15 J_16 hU_17 hF_18 hG_19 (r_20) v_21 (rv_21) x_28 (rg_w rx_28 (by decide) (by decide)) q_23 hd_25 ga_26 hj_27 (ms_1 hm_24 (ti_k tx_28 rc_1) (by decide))
      refine g_iload_n C 3 dX12_left_64 rfl rfl ?_
      refine g_iload_n C 2 dX12_left_65 rfl rfl ?_
      refine g_icmp_ge C (tgt := 101) dX12_left_66 (by decide) (fun h_29 => ?_) (fun h_29 => ?_)
      · skip
        have r_30 := le_r (h_29) rv_8 rv_9
        refine g_aload_n C 0 dX12_left_101 rfl rfl ?_
        refine g_iload_n C 1 dX12_left_102 rfl rfl ?_
        refine g_callVI C K (c_X12_plateOf W9 hLx hkx a0 (r_7) hU_4) hLx hkx (by decide) rfl v_12_247 rfl ⟨rfl, rfl⟩ ⟨Nat.le_of_ble_eq_true rfl, Nat.le_of_ble_eq_true rfl⟩ (Nat.le_of_ble_eq_true rfl) ⟨Nat.le_of_ble_eq_true rfl, Nat.le_of_ble_eq_true rfl⟩ dX12_left_103 rfl (st := []) (fun x_31 I_32 J_33 h_34 => ?_)
        obtain ⟨rfl, rfl, rx_31⟩ := h_34
        refine g_istore_n C dX12_left_106 rfl (by decide) (lo2 := [(3, .int x_31), (0, .ref x), (1, .int a0), (2, .int v_8)]) rfl ?_
        refine g_aload_n C 1 dX12_left_107 rfl rfl ?_
        refine g_callVV C K (c_X12_takeBack W9 hLx hkx   hU_4  (ga_12)) hLx hkx (by decide) rfl v_12_332 rfl ⟨rfl, rfl⟩ ⟨Nat.le_of_ble_eq_true rfl, Nat.le_of_ble_eq_true rfl⟩ (Nat.le_of_ble_eq_true rfl) ⟨Nat.le_of_ble_eq_true rfl, Nat.le_of_ble_eq_true rfl⟩ dX12_left_108 rfl (st := []) (fun I_36 J_37 h_38 => ?_)
        obtain ⟨hUI_36, hFI_36, hGJ_37, ex_35⟩ := h_38
        have hF_39 := fq_tr hF_5 hFI_36 (by decide)
        have hG_40 := fq_tr hG_6 hGJ_37 (by decide)
        refine g_iload_n C 0 dX12_left_111 rfl rfl ?_
        exact g_zret (ty := .int) (r := x_31) B K rfl (rfl) ⟨hUI_36, hF_39, hG_40, rg_w rx_31 (by decide) (by decide), (hd_t hd_11 ex_35)⟩ dX12_left_112
      · skip
        have r_41 := lt_l (hi := 6) (nle h_29) rv_9 rv_8 (by decide)
        refine g_aload_n C 0 dX12_left_69 rfl rfl ?_
        refine g_aload_n C 0 dX12_left_70 rfl rfl ?_
        refine g_getR C K hLx hkx f_12_7 hb_1 dX12_left_71 ?_
        refine g_iload_n C 3 dX12_left_74 rfl rfl ?_
        obtain ⟨x_42, hx_42, rx_42⟩ := ex_getw (I := I_2) (a := b_1) (j := v_9.toNatClampNeg) (lo := 0) (hi := 255) hU_4.1 hb_1L (ro_a hb_1k (by decide) hb_1o hkx rfl) (rfl)
        refine h_iald C K hb_1L hb_1k (v := x_42) (v_9.toNatClampNeg) (rfl) (ix_0 r_41 (by decide)) (ix_lt r_41 (by decide) hb_1n (by decide)) hx_42 dX12_left_75 ?_
        have r_43 := eq_rg (Eq.symm hx_42) (hj_13 v_9.toNatClampNeg (by rw [ix_n r_41 (by decide)]; exact Int32.lt_iff_toInt_lt.mp (nle h_29)))
        refine g_callVI C K (c_X12_isDead W9 hLx hkx x_42 (r_43) hU_4) hLx hkx (by decide) rfl v_12_244 rfl ⟨rfl, rfl⟩ ⟨Nat.le_of_ble_eq_true rfl, Nat.le_of_ble_eq_true rfl⟩ (Nat.le_of_ble_eq_true rfl) ⟨Nat.le_of_ble_eq_true rfl, Nat.le_of_ble_eq_true rfl⟩ dX12_left_76 rfl (st := []) (fun x_44 I_45 J_46 h_47 => ?_)
        obtain ⟨rfl, rfl, rx_44⟩ := h_47
        refine g_if_ne C (tgt := 95) dX12_left_79 (by decide) (fun h_48 => ?_) (fun h_48 => ?_)
        · skip
          have n_49 : ¬ x_44 = 0 := h_48
          have r_50 := ne_lo (lo := 1) n_49 rx_44 rc_0 rfl (by decide)
          refine g_lo (is := [0, 1, 2, 3]) (lo2 := [(0, .ref x), (1, .int a0), (2, .int v_8), (3, .int v_9)]) rfl ?_
          exact j_95 I_2 J_3 hU_4 hF_5 hG_6 (r_7) v_8 (rv_8) v_9 (r_41) q_10 hm_14 hd_11 ga_12 hj_13
        · skip
          have r_51 := (⟨(rx_44).1, (eq_rg (h_48) rc_0).2⟩ : Rg 0 0 x_44)
          refine g_aload_n C 0 dX12_left_82 rfl rfl ?_
          refine g_iconst C (v := 5) dX12_left_83 (by decide) ?_
          refine g_aload_n C 0 dX12_left_84 rfl rfl ?_
          refine g_getR C K hLx hkx f_12_7 hb_1 dX12_left_85 ?_
          refine g_iload_n C 3 dX12_left_88 rfl rfl ?_
          refine h_iald C K hb_1L hb_1k (v := x_42) (v_9.toNatClampNeg) (rfl) (ix_0 r_41 (by decide)) (ix_lt r_41 (by decide) hb_1n (by decide)) hx_42 dX12_left_89 ?_
          refine g_iconst C (v := 0) dX12_left_90 (by decide) ?_
          refine g_iconst C (v := 0) dX12_left_91 (by decide) ?_
          refine g_callVV C K (c_X12_live W9 hLx hkx 5 x_42 0 0 (rg_w rc_5 (by decide) (by decide)) (r_43) (rg_w rc_0 (by decide) (by decide)) (rg_w rc_0 (by decide) (by decide)) hU_4  (fun a ha => ⟨fun q => absurd q (by decide), fun q => absurd q (by decide)⟩)) hLx hkx (by decide) rfl v_12_285 rfl ⟨rfl, rfl⟩ ⟨Nat.le_of_ble_eq_true rfl, Nat.le_of_ble_eq_true rfl⟩ (Nat.le_of_ble_eq_true rfl) ⟨Nat.le_of_ble_eq_true rfl, Nat.le_of_ble_eq_true rfl⟩ dX12_left_92 rfl (st := []) (fun I_54 J_55 h_56 => ?_)
          obtain ⟨hUI_54, hFI_54, hGJ_55, ex_53⟩ := h_56
          have hF_57 := fq_tr hF_5 hFI_54 (by decide)
          have hG_58 := fq_tr hG_6 hGJ_55 (by decide)
          refine g_lo (is := [0, 1, 2, 3]) (lo2 := [(0, .ref x), (1, .int a0), (2, .int v_8), (3, .int v_9)]) rfl ?_
          exact j_95 I_54 J_55 hUI_54 hF_57 hG_58 (r_7) v_8 (rv_8) v_9 (r_41) (fq_at hFI_54 hLx hkx (by decide) (by decide) q_10) hm_14 (hd_t hd_11 ex_53) (ga_mv W9 hLx hkx ga_12 ex_53 hFI_54 (by decide)) (fun j hj => eq_rg (fq_ar hFI_54 hb_1L (ro_a hb_1k (by decide) hb_1o hkx rfl) (by decide) (by decide) rfl) (hj_13 j hj))
  have l_32 : ∀ (n_32 : Nat) (I_59 : Nat → Nat → Int32) (J_60 : Nat → Nat → Int64) (hU_61 : Iw L κ R ow I_59) (hF_62 : Fq L κ ow [1200, 1202, 83400, 83800] I I_59) (hG_63 : Fq L κ ow [] J J_60) (r_64 : Rg 0 6 a0) (v_65 : Int32) (rv_65 : Rg 1 7 v_65) (v_66 : Int32) (rv_66 : Rg 0 7 v_66) (q_67 : I_59 x 0 = 0) (hd_68 : Hd_ R x I I_59) (hj_69 : ∀ j : Nat, (j : Int) < v_66.toInt → Rg 0 6 (I_59 b_1 j)) (hm_70 : 7 < (v_66 : Int32).toInt + (n_32 : Int)), WG p l e { frames := 5, cells := 0, slots := 0, locals := 120 } s m ([.ref x, .int a0] : List Value).toArray below meth c 4 0 0 (MQ below (Qi_ D cy L κ ln R (fun r I2 J2 => Iw L κ R ow I2 ∧ Fq L κ ow [1200, 1202, 83400, 83800] I I2 ∧ Fq L κ ow [] J J2 ∧ Rg (-1) 2274 r ∧ (Hd_ R x I I2))) ([.ref x, .int a0] : List Value).toArray s 0 0 (Al_ L)) D cy (Al_ L) s.heap L κ ln R I_59 J_60 32 [(0, .ref x), (1, .int a0), (2, .int v_65), (3, .int v_66)] [] := by
    intro n_32
    induction n_32 with
    | zero =>
      intro I_59 J_60 hU_61 hF_62 hG_63 r_64 v_65 rv_65 v_66 rv_66 q_67 hd_68 hj_69 hm_70
      exact ms_0 rv_66 hm_70
    | succ n_32 ih_32 =>
      intro I_59 J_60 hU_61 hF_62 hG_63 r_64 v_65 rv_65 v_66 rv_66 q_67 hd_68 hj_69 hm_70
      refine g_iload_n C 3 dX12_left_32 rfl rfl ?_
      refine g_iload_n C 2 dX12_left_33 rfl rfl ?_
      refine g_icmp_ge C (tgt := 58) dX12_left_34 (by decide) (fun h_71 => ?_) (fun h_71 => ?_)
      · skip
        have r_72 := le_r (h_71) rv_65 rv_66
        refine g_aload_n C 0 dX12_left_58 rfl rfl ?_
        refine g_callVV C K (c_X12_layAside W9 hLx hkx   hU_61) hLx hkx (by decide) rfl v_12_329 rfl ⟨rfl, rfl⟩ ⟨Nat.le_of_ble_eq_true rfl, Nat.le_of_ble_eq_true rfl⟩ (Nat.le_of_ble_eq_true rfl) ⟨Nat.le_of_ble_eq_true rfl, Nat.le_of_ble_eq_true rfl⟩ dX12_left_59 rfl (st := []) (fun I_74 J_75 h_76 => ?_)
        obtain ⟨hUI_74, hFI_74, hGJ_75, ex_73⟩ := h_76
        have hF_77 := fq_tr hF_62 hFI_74 (by decide)
        have hG_78 := fq_tr hG_63 hGJ_75 (by decide)
        refine g_iconst C (v := 0) dX12_left_62 (by decide) ?_
        refine g_istore_n C dX12_left_63 rfl (by decide) (lo2 := [(3, .int 0), (0, .ref x), (1, .int a0), (2, .int v_65)]) rfl ?_
        refine g_lo (is := [1, 2, 3, 0]) (lo2 := [(0, .ref x), (1, .int a0), (2, .int v_65), (3, .int 0)]) rfl ?_
        exact l_64 8 I_74 J_75 hUI_74 hF_77 hG_78 (r_64) v_65 (rv_65) 0 (rg_w rc_0 (by decide) (by decide)) (fq_at hFI_74 hLx hkx (by decide) (by decide) q_67) (hd_t hd_68 ex_73.1) ex_73.2 (fun j hj => eq_rg (fq_ar hFI_74 hb_1L (ro_a hb_1k (by decide) hb_1o hkx rfl) (by decide) (by decide) rfl) ((fun j hj => hj_69 j (Int.lt_of_lt_of_le hj (Int32.le_iff_toInt_le.mp (h_71)))) j hj)) (ms_s (a := 0) (b := 7) (N := 8) (rg_w rc_0 (by decide) (by decide)) (by decide))
      · skip
        have r_79 := lt_l (hi := 6) (nle h_71) rv_66 rv_65 (by decide)
        refine g_aload_n C 0 dX12_left_37 rfl rfl ?_
        refine g_aload_n C 0 dX12_left_38 rfl rfl ?_
        refine g_getR C K hLx hkx f_12_7 hb_1 dX12_left_39 ?_
        refine g_iload_n C 3 dX12_left_42 rfl rfl ?_
        obtain ⟨x_80, hx_80, rx_80⟩ := ex_getw (I := I_59) (a := b_1) (j := v_66.toNatClampNeg) (lo := 0) (hi := 255) hU_61.1 hb_1L (ro_a hb_1k (by decide) hb_1o hkx rfl) (rfl)
        refine h_iald C K hb_1L hb_1k (v := x_80) (v_66.toNatClampNeg) (rfl) (ix_0 r_79 (by decide)) (ix_lt r_79 (by decide) hb_1n (by decide)) hx_80 dX12_left_43 ?_
        refine g_callVI C K (c_X12_isPerson W9 hLx hkx x_80  hU_61) hLx hkx (by decide) rfl v_12_238 rfl ⟨rfl, rfl⟩ ⟨Nat.le_of_ble_eq_true rfl, Nat.le_of_ble_eq_true rfl⟩ (Nat.le_of_ble_eq_true rfl) ⟨Nat.le_of_ble_eq_true rfl, Nat.le_of_ble_eq_true rfl⟩ dX12_left_44 rfl (st := []) (fun x_81 I_82 J_83 h_84 => ?_)
        obtain ⟨rfl, rfl, rx_81, ex_81⟩ := h_84
        refine g_if_ne C (tgt := 52) dX12_left_47 (by decide) (fun h_85 => ?_) (fun h_85 => ?_)
        · skip
          have n_86 : ¬ x_81 = 0 := h_85
          have r_87 := ne_lo (lo := 1) n_86 rx_81 rc_0 rfl (by decide)
          have r_88 := rg_i rx_80 ((ex_81) n_86) (lo := 0) (hi := 6) (by decide) (by decide)
          obtain ⟨x_89, hx_89, rx_89, tx_89⟩ := ex_add (y := 1) 1 7 r_79 rc_1 (by decide) (by decide) (by decide) (by decide)
          refine g_iinc C dX12_left_52 (k := 3) (v := x_89) rfl hx_89 (by decide) (lo2 := [(3, .int x_89), (0, .ref x), (1, .int a0), (2, .int v_65)]) rfl ?_
          refine g_goto C (tgt := 32) dX12_left_55 (by decide) ?_
          refine g_lo (is := [1, 2, 3, 0]) (lo2 := [(0, .ref x), (1, .int a0), (2, .int v_65), (3, .int x_89)]) rfl ?_
          exact ih_32 I_59 J_60 hU_61 hF_62 hG_63 (r_64) v_65 (rv_65) x_89 (rg_w rx_89 (by decide) (by decide)) q_67 hd_68 (fun j hj => by by_cases q : (j : Int) < v_66.toInt; exact hj_69 j q; have q1 := ix_n r_79 (by decide); have q2 := (ti_k tx_89 rc_1); rw [show j = v_66.toNatClampNeg from by omega]; exact eq_rg hx_80 (r_88)) (ms_1 hm_70 (ti_k tx_89 rc_1) (by decide))
        · skip
          have r_90 := (⟨(rx_81).1, (eq_rg (h_85) rc_0).2⟩ : Rg 0 0 x_81)
          refine g_iconst C (v := (-1)) dX12_left_50 (by decide) ?_
          exact g_zret (ty := .int) (r := (-1)) B K rfl (rfl) ⟨hU_61, hF_62, hG_63, rg_w rc_m1 (by decide) (by decide), hd_68⟩ dX12_left_51
  refine g_aload_n C 0 dX12_left_0 rfl rfl ?_
  refine g_iconst C (v := 0) dX12_left_1 (by decide) ?_
  refine h_putI C K hLx hkx f_12_82 p_12_0 dX12_left_2 (fun I_91 hI_91 => ?_)
  have hU_92 := iw_put W9 hU hI_91 (ro_o hkx (by decide)) (lo := (-2147483648)) (hi := 2147483647) (rfl) (rg_all _) rfl
  have hF_93 := fq_puto hF hI_91 hkx (by decide) (by decide)
  refine g_aload_n C 0 dX12_left_5 rfl rfl ?_
  refine g_callVI C K (c_X12_take W9 hLx hkx   hU_92) hLx hkx (by decide) rfl v_12_162 rfl ⟨rfl, rfl⟩ ⟨Nat.le_of_ble_eq_true rfl, Nat.le_of_ble_eq_true rfl⟩ (Nat.le_of_ble_eq_true rfl) ⟨Nat.le_of_ble_eq_true rfl, Nat.le_of_ble_eq_true rfl⟩ dX12_left_6 rfl (st := []) (fun x_94 I_95 J_96 h_97 => ?_)
  obtain ⟨hUI_95, hFI_95, hGJ_96, rx_94, fx_94⟩ := h_97
  have hF_98 := fq_tr hF_93 hFI_95 (by decide)
  have hG_99 := fq_tr hG hGJ_96 (by decide)
  refine g_istore_n C dX12_left_9 rfl (by decide) (lo2 := [(2, .int x_94), (0, .ref x), (1, .int a0)]) rfl ?_
  refine g_aload_n C 1 dX12_left_10 rfl rfl ?_
  refine g_iload_n C 2 dX12_left_11 rfl rfl ?_
  refine g_callVI C K (c_X12_isPerson W9 hLx hkx a0  hUI_95) hLx hkx (by decide) rfl v_12_238 rfl ⟨rfl, rfl⟩ ⟨Nat.le_of_ble_eq_true rfl, Nat.le_of_ble_eq_true rfl⟩ (Nat.le_of_ble_eq_true rfl) ⟨Nat.le_of_ble_eq_true rfl, Nat.le_of_ble_eq_true rfl⟩ dX12_left_12 rfl (st := []) (fun x_100 I_101 J_102 h_103 => ?_)
  obtain ⟨rfl, rfl, rx_100, ex_100⟩ := h_103
  refine g_if_eq C (tgt := 28) dX12_left_15 (by decide) (fun h_104 => ?_) (fun h_104 => ?_)
  · skip
    have r_105 := (⟨(rx_100).1, (eq_rg (h_104) rc_0).2⟩ : Rg 0 0 x_100)
    refine g_iconst C (v := (-1)) dX12_left_28 (by decide) ?_
    exact g_zret (ty := .int) (r := (-1)) B K rfl (rfl) ⟨hUI_95, hF_98, hG_99, rg_w rc_m1 (by decide) (by decide), (hd_fq W9 hLx hkx (hd_u (r := 0) W9 hLx hkx hd_rf hI_91 (Or.inl (ro_o hkx (by decide)))) hFI_95 (by decide))⟩ dX12_left_29
  · skip
    have n_106 : ¬ x_100 = 0 := h_104
    have r_107 := ne_lo (lo := 1) n_106 rx_100 rc_0 rfl (by decide)
    have r_108 := rg_i (rg_all a0) ((ex_100) n_106) (lo := 0) (hi := 6) (by decide) (by decide)
    refine g_iload_n C 0 dX12_left_18 rfl rfl ?_
    refine g_iconst C (v := 1) dX12_left_19 (by decide) ?_
    refine g_bipush C (v := 7) dX12_left_20 (by decide) ?_
    refine g_callSI C K (c_X12_isIn W9 x_94 1 7 (rg_w rc_1 (by decide) (by decide)) (rg_w rc_7 (by decide) (by decide)) hUI_95) s_12_149 rfl ⟨rfl, rfl⟩ ⟨Nat.le_of_ble_eq_true rfl, Nat.le_of_ble_eq_true rfl⟩ (Nat.le_of_ble_eq_true rfl) ⟨Nat.le_of_ble_eq_true rfl, Nat.le_of_ble_eq_true rfl⟩ dX12_left_22 rfl (st := []) (fun x_109 I_110 J_111 h_112 => ?_)
    obtain ⟨rfl, rfl, rx_109, fx_109, ex_109⟩ := h_112
    refine g_if_ne C (tgt := 30) dX12_left_25 (by decide) (fun h_113 => ?_) (fun h_113 => ?_)
    · skip
      have n_114 : ¬ x_109 = 0 := h_113
      have r_115 := ne_lo (lo := 1) n_114 rx_109 rc_0 rfl (by decide)
      have r_116 := le_r (((ex_109.1) n_114)) rc_1 rx_94
      have r_117 := le_l (((ex_109.2) n_114)) r_116 rc_7
      refine g_iconst C (v := 0) dX12_left_30 (by decide) ?_
      refine g_istore_n C dX12_left_31 rfl (by decide) (lo2 := [(3, .int 0), (2, .int x_94), (0, .ref x), (1, .int a0)]) rfl ?_
      refine g_lo (is := [2, 3, 1, 0]) (lo2 := [(0, .ref x), (1, .int a0), (2, .int x_94), (3, .int 0)]) rfl ?_
      exact l_32 8 I_95 J_96 hUI_95 hF_98 hG_99 (r_108) x_94 (r_117) 0 (rg_w rc_0 (by decide) (by decide)) (fq_at hFI_95 hLx hkx (by decide) (by decide) (kp_s hI_91)) (hd_fq W9 hLx hkx (hd_u (r := 0) W9 hLx hkx hd_rf hI_91 (Or.inl (ro_o hkx (by decide)))) hFI_95 (by decide)) (fun j hj => by rw [show (0 : Int32).toInt = 0 from by decide] at hj; omega) (ms_s (a := 0) (b := 7) (N := 8) (rg_w rc_0 (by decide) (by decide)) (by decide))
    · skip
      have r_118 := (⟨(rx_109).1, (eq_rg (h_113) rc_0).2⟩ : Rg 0 0 x_109)
      refine g_iconst C (v := (-1)) dX12_left_28 (by decide) ?_
      exact g_zret (ty := .int) (r := (-1)) B K rfl (rfl) ⟨hUI_95, hF_98, hG_99, rg_w rc_m1 (by decide) (by decide), (hd_fq W9 hLx hkx (hd_u (r := 0) W9 hLx hkx hd_rf hI_91 (Or.inl (ro_o hkx (by decide)))) hFI_95 (by decide))⟩ dX12_left_29
