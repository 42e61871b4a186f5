theorem dX12_ask_0 : decode cX12_ask 0 = .ok (.aload_n 0, 1) := by decide +kernel
theorem dX12_ask_1 : decode cX12_ask 1 = .ok (.iconst 0, 1) := by decide +kernel
theorem dX12_ask_2 : decode cX12_ask 2 = .ok (.putfield 82, 3) := by decide +kernel
theorem dX12_ask_5 : decode cX12_ask 5 = .ok (.aload_n 0, 1) := by decide +kernel
theorem dX12_ask_6 : decode cX12_ask 6 = .ok (.getfield 58, 3) := by decide +kernel
theorem dX12_ask_9 : decode cX12_ask 9 = .ok (.ireturn, 1) := by decide +kernel
theorem dX12_byteAt_0 : decode cX12_byteAt 0 = .ok (.aload_n 0, 1) := by decide +kernel
theorem dX12_byteAt_1 : decode cX12_byteAt 1 = .ok (.iconst 0, 1) := by decide +kernel
theorem dX12_byteAt_2 : decode cX12_byteAt 2 = .ok (.putfield 82, 3) := by decide +kernel
theorem dX12_byteAt_5 : decode cX12_byteAt 5 = .ok (.iload_n 1, 1) := by decide +kernel
theorem dX12_byteAt_6 : decode cX12_byteAt 6 = .ok (.iconst 0, 1) := by decide +kernel
theorem dX12_byteAt_7 : decode cX12_byteAt 7 = .ok (.aload_n 0, 1) := by decide +kernel
theorem dX12_byteAt_8 : decode cX12_byteAt 8 = .ok (.getfield 335, 3) := by decide +kernel
theorem dX12_byteAt_11 : decode cX12_byteAt 11 = .ok (.iconst 1, 1) := by decide +kernel
theorem dX12_byteAt_12 : decode cX12_byteAt 12 = .ok (.isub, 1) := by decide +kernel
theorem dX12_byteAt_13 : decode cX12_byteAt 13 = .ok (.invokestatic 149, 3) := by decide +kernel
theorem dX12_byteAt_16 : decode cX12_byteAt 16 = .ok (.ifCond .eq 12, 3) := by decide +kernel
theorem dX12_byteAt_19 : decode cX12_byteAt 19 = .ok (.aload_n 0, 1) := by decide +kernel
theorem dX12_byteAt_20 : decode cX12_byteAt 20 = .ok (.getfield 70, 3) := by decide +kernel
theorem dX12_byteAt_23 : decode cX12_byteAt 23 = .ok (.iload_n 1, 1) := by decide +kernel
theorem dX12_byteAt_24 : decode cX12_byteAt 24 = .ok (.iaload, 1) := by decide +kernel
theorem dX12_byteAt_25 : decode cX12_byteAt 25 = .ok (.goto 4, 3) := by decide +kernel
theorem dX12_byteAt_28 : decode cX12_byteAt 28 = .ok (.iconst (-1), 1) := by decide +kernel
theorem dX12_byteAt_29 : decode cX12_byteAt 29 = .ok (.ireturn, 1) := by decide +kernel
theorem dX12_count_0 : decode cX12_count 0 = .ok (.aload_n 0, 1) := by decide +kernel
theorem dX12_count_1 : decode cX12_count 1 = .ok (.iconst 0, 1) := by decide +kernel
theorem dX12_count_2 : decode cX12_count 2 = .ok (.putfield 82, 3) := by decide +kernel
theorem dX12_count_5 : decode cX12_count 5 = .ok (.iload_n 1, 1) := by decide +kernel
theorem dX12_count_6 : decode cX12_count 6 = .ok (.tableswitch 67 0 4 #[34, 41, 48, 55, 62], 34) := by decide +kernel
theorem dX12_count_40 : decode cX12_count 40 = .ok (.aload_n 0, 1) := by decide +kernel
theorem dX12_count_41 : decode cX12_count 41 = .ok (.getfield 13, 3) := by decide +kernel
theorem dX12_count_44 : decode cX12_count 44 = .ok (.iconst 0, 1) := by decide +kernel
theorem dX12_count_45 : decode cX12_count 45 = .ok (.iaload, 1) := by decide +kernel
theorem dX12_count_46 : decode cX12_count 46 = .ok (.ireturn, 1) := by decide +kernel
theorem dX12_count_47 : decode cX12_count 47 = .ok (.aload_n 0, 1) := by decide +kernel
theorem dX12_count_48 : decode cX12_count 48 = .ok (.getfield 13, 3) := by decide +kernel
theorem dX12_count_51 : decode cX12_count 51 = .ok (.iconst 1, 1) := by decide +kernel
theorem dX12_count_52 : decode cX12_count 52 = .ok (.iaload, 1) := by decide +kernel
theorem dX12_count_53 : decode cX12_count 53 = .ok (.ireturn, 1) := by decide +kernel
theorem dX12_count_54 : decode cX12_count 54 = .ok (.aload_n 0, 1) := by decide +kernel
theorem dX12_count_55 : decode cX12_count 55 = .ok (.getfield 13, 3) := by decide +kernel
theorem dX12_count_58 : decode cX12_count 58 = .ok (.iconst 2, 1) := by decide +kernel
theorem dX12_count_59 : decode cX12_count 59 = .ok (.iaload, 1) := by decide +kernel
theorem dX12_count_60 : decode cX12_count 60 = .ok (.ireturn, 1) := by decide +kernel
theorem dX12_count_61 : decode cX12_count 61 = .ok (.aload_n 0, 1) := by decide +kernel
theorem dX12_count_62 : decode cX12_count 62 = .ok (.getfield 13, 3) := by decide +kernel
theorem dX12_count_65 : decode cX12_count 65 = .ok (.iconst 3, 1) := by decide +kernel
theorem dX12_count_66 : decode cX12_count 66 = .ok (.iaload, 1) := by decide +kernel
theorem dX12_count_67 : decode cX12_count 67 = .ok (.ireturn, 1) := by decide +kernel
theorem dX12_count_68 : decode cX12_count 68 = .ok (.aload_n 0, 1) := by decide +kernel
theorem dX12_count_69 : decode cX12_count 69 = .ok (.getfield 85, 3) := by decide +kernel
theorem dX12_count_72 : decode cX12_count 72 = .ok (.ireturn, 1) := by decide +kernel
theorem dX12_count_73 : decode cX12_count 73 = .ok (.iconst (-1), 1) := by decide +kernel
theorem dX12_count_74 : decode cX12_count 74 = .ok (.ireturn, 1) := by decide +kernel
theorem dX12_fault_0 : decode cX12_fault 0 = .ok (.aload_n 0, 1) := by decide +kernel
theorem dX12_fault_1 : decode cX12_fault 1 = .ok (.iconst 0, 1) := by decide +kernel
theorem dX12_fault_2 : decode cX12_fault 2 = .ok (.putfield 82, 3) := by decide +kernel
theorem dX12_fault_5 : decode cX12_fault 5 = .ok (.aload_n 0, 1) := by decide +kernel
theorem dX12_fault_6 : decode cX12_fault 6 = .ok (.getfield 140, 3) := by decide +kernel
theorem dX12_fault_9 : decode cX12_fault 9 = .ok (.ireturn, 1) := by decide +kernel
theorem dX12_isDish_0 : decode cX12_isDish 0 = .ok (.iload_n 1, 1) := by decide +kernel
theorem dX12_isDish_1 : decode cX12_isDish 1 = .ok (.iconst 0, 1) := by decide +kernel
theorem dX12_isDish_2 : decode cX12_isDish 2 = .ok (.aload_n 0, 1) := by decide +kernel
theorem dX12_isDish_3 : decode cX12_isDish 3 = .ok (.getfield 13, 3) := by decide +kernel
theorem dX12_isDish_6 : decode cX12_isDish 6 = .ok (.iconst 1, 1) := by decide +kernel
theorem dX12_isDish_7 : decode cX12_isDish 7 = .ok (.iaload, 1) := by decide +kernel
theorem dX12_isDish_8 : decode cX12_isDish 8 = .ok (.iconst 1, 1) := by decide +kernel
theorem dX12_isDish_9 : decode cX12_isDish 9 = .ok (.isub, 1) := by decide +kernel
theorem dX12_isDish_10 : decode cX12_isDish 10 = .ok (.invokestatic 149, 3) := by decide +kernel
theorem dX12_isDish_13 : decode cX12_isDish 13 = .ok (.ireturn, 1) := by decide +kernel
theorem dX12_isIn_0 : decode cX12_isIn 0 = .ok (.iload_n 0, 1) := by decide +kernel
theorem dX12_isIn_1 : decode cX12_isIn 1 = .ok (.iload_n 1, 1) := by decide +kernel
theorem dX12_isIn_2 : decode cX12_isIn 2 = .ok (.if_icmp .lt 12, 3) := by decide +kernel
theorem dX12_isIn_5 : decode cX12_isIn 5 = .ok (.iload_n 0, 1) := by decide +kernel
theorem dX12_isIn_6 : decode cX12_isIn 6 = .ok (.iload_n 2, 1) := by decide +kernel
theorem dX12_isIn_7 : decode cX12_isIn 7 = .ok (.if_icmp .gt 7, 3) := by decide +kernel
theorem dX12_isIn_10 : decode cX12_isIn 10 = .ok (.iconst 1, 1) := by decide +kernel
theorem dX12_isIn_11 : decode cX12_isIn 11 = .ok (.goto 4, 3) := by decide +kernel
theorem dX12_isIn_14 : decode cX12_isIn 14 = .ok (.iconst 0, 1) := by decide +kernel
theorem dX12_isIn_15 : decode cX12_isIn 15 = .ok (.ireturn, 1) := by decide +kernel
theorem dX12_isPerson_0 : decode cX12_isPerson 0 = .ok (.iload_n 1, 1) := by decide +kernel
theorem dX12_isPerson_1 : decode cX12_isPerson 1 = .ok (.iconst 0, 1) := by decide +kernel
theorem dX12_isPerson_2 : decode cX12_isPerson 2 = .ok (.aload_n 0, 1) := by decide +kernel
theorem dX12_isPerson_3 : decode cX12_isPerson 3 = .ok (.getfield 13, 3) := by decide +kernel
theorem dX12_isPerson_6 : decode cX12_isPerson 6 = .ok (.iconst 0, 1) := by decide +kernel
theorem dX12_isPerson_7 : decode cX12_isPerson 7 = .ok (.iaload, 1) := by decide +kernel
theorem dX12_isPerson_8 : decode cX12_isPerson 8 = .ok (.iconst 1, 1) := by decide +kernel
theorem dX12_isPerson_9 : decode cX12_isPerson 9 = .ok (.isub, 1) := by decide +kernel
theorem dX12_isPerson_10 : decode cX12_isPerson 10 = .ok (.invokestatic 149, 3) := by decide +kernel
theorem dX12_isPerson_13 : decode cX12_isPerson 13 = .ok (.ireturn, 1) := by decide +kernel
theorem dX12_now_0 : decode cX12_now 0 = .ok (.aload_n 0, 1) := by decide +kernel
theorem dX12_now_1 : decode cX12_now 1 = .ok (.iconst 0, 1) := by decide +kernel
theorem dX12_now_2 : decode cX12_now 2 = .ok (.putfield 82, 3) := by decide +kernel
theorem dX12_now_5 : decode cX12_now 5 = .ok (.iload_n 1, 1) := by decide +kernel
theorem dX12_now_6 : decode cX12_now 6 = .ok (.tableswitch 108 0 7 #[46, 54, 62, 70, 78, 86, 93, 100], 46) := by decide +kernel
theorem dX12_now_52 : decode cX12_now 52 = .ok (.aload_n 0, 1) := by decide +kernel
theorem dX12_now_53 : decode cX12_now 53 = .ok (.getfield 13, 3) := by decide +kernel
theorem dX12_now_56 : decode cX12_now 56 = .ok (.bipush 72, 2) := by decide +kernel
theorem dX12_now_58 : decode cX12_now 58 = .ok (.iaload, 1) := by decide +kernel
theorem dX12_now_59 : decode cX12_now 59 = .ok (.ireturn, 1) := by decide +kernel
theorem dX12_now_60 : decode cX12_now 60 = .ok (.aload_n 0, 1) := by decide +kernel
theorem dX12_now_61 : decode cX12_now 61 = .ok (.getfield 13, 3) := by decide +kernel
theorem dX12_now_64 : decode cX12_now 64 = .ok (.bipush 73, 2) := by decide +kernel
theorem dX12_now_66 : decode cX12_now 66 = .ok (.iaload, 1) := by decide +kernel
theorem dX12_now_67 : decode cX12_now 67 = .ok (.ireturn, 1) := by decide +kernel
theorem dX12_now_68 : decode cX12_now 68 = .ok (.aload_n 0, 1) := by decide +kernel
theorem dX12_now_69 : decode cX12_now 69 = .ok (.getfield 13, 3) := by decide +kernel
theorem dX12_now_72 : decode cX12_now 72 = .ok (.bipush 74, 2) := by decide +kernel
theorem dX12_now_74 : decode cX12_now 74 = .ok (.iaload, 1) := by decide +kernel
theorem dX12_now_75 : decode cX12_now 75 = .ok (.ireturn, 1) := by decide +kernel
theorem dX12_now_76 : decode cX12_now 76 = .ok (.aload_n 0, 1) := by decide +kernel
theorem dX12_now_77 : decode cX12_now 77 = .ok (.getfield 13, 3) := by decide +kernel
theorem dX12_now_80 : decode cX12_now 80 = .ok (.bipush 75, 2) := by decide +kernel
theorem dX12_now_82 : decode cX12_now 82 = .ok (.iaload, 1) := by decide +kernel
theorem dX12_now_83 : decode cX12_now 83 = .ok (.ireturn, 1) := by decide +kernel
theorem dX12_now_84 : decode cX12_now 84 = .ok (.aload_n 0, 1) := by decide +kernel
theorem dX12_now_85 : decode cX12_now 85 = .ok (.getfield 13, 3) := by decide +kernel
theorem dX12_now_88 : decode cX12_now 88 = .ok (.bipush 76, 2) := by decide +kernel
theorem dX12_now_90 : decode cX12_now 90 = .ok (.iaload, 1) := by decide +kernel
theorem dX12_now_91 : decode cX12_now 91 = .ok (.ireturn, 1) := by decide +kernel
theorem dX12_now_92 : decode cX12_now 92 = .ok (.aload_n 0, 1) := by decide +kernel
theorem dX12_now_93 : decode cX12_now 93 = .ok (.bipush 84, 2) := by decide +kernel
theorem dX12_now_95 : decode cX12_now 95 = .ok (.invokevirtual 253, 3) := by decide +kernel
theorem dX12_now_98 : decode cX12_now 98 = .ok (.ireturn, 1) := by decide +kernel
theorem dX12_now_99 : decode cX12_now 99 = .ok (.aload_n 0, 1) := by decide +kernel
theorem dX12_now_100 : decode cX12_now 100 = .ok (.bipush 98, 2) := by decide +kernel
theorem dX12_now_102 : decode cX12_now 102 = .ok (.invokevirtual 253, 3) := by decide +kernel
theorem dX12_now_105 : decode cX12_now 105 = .ok (.ireturn, 1) := by decide +kernel
theorem dX12_now_106 : decode cX12_now 106 = .ok (.aload_n 0, 1) := by decide +kernel
theorem dX12_now_107 : decode cX12_now 107 = .ok (.getfield 13, 3) := by decide +kernel
theorem dX12_now_110 : decode cX12_now 110 = .ok (.bipush 77, 2) := by decide +kernel
theorem dX12_now_112 : decode cX12_now 112 = .ok (.iaload, 1) := by decide +kernel
theorem dX12_now_113 : decode cX12_now 113 = .ok (.ireturn, 1) := by decide +kernel
theorem dX12_now_114 : decode cX12_now 114 = .ok (.iconst (-1), 1) := by decide +kernel
theorem dX12_now_115 : decode cX12_now 115 = .ok (.ireturn, 1) := by decide +kernel
theorem dX12_orderAt_0 : decode cX12_orderAt 0 = .ok (.aload_n 0, 1) := by decide +kernel
theorem dX12_orderAt_1 : decode cX12_orderAt 1 = .ok (.iconst 0, 1) := by decide +kernel
theorem dX12_orderAt_2 : decode cX12_orderAt 2 = .ok (.putfield 82, 3) := by decide +kernel
theorem dX12_orderAt_5 : decode cX12_orderAt 5 = .ok (.iload_n 1, 1) := by decide +kernel
theorem dX12_orderAt_6 : decode cX12_orderAt 6 = .ok (.iconst 0, 1) := by decide +kernel
theorem dX12_orderAt_7 : decode cX12_orderAt 7 = .ok (.aload_n 0, 1) := by decide +kernel
theorem dX12_orderAt_8 : decode cX12_orderAt 8 = .ok (.getfield 315, 3) := by decide +kernel
theorem dX12_orderAt_11 : decode cX12_orderAt 11 = .ok (.iconst 1, 1) := by decide +kernel
theorem dX12_orderAt_12 : decode cX12_orderAt 12 = .ok (.isub, 1) := by decide +kernel
theorem dX12_orderAt_13 : decode cX12_orderAt 13 = .ok (.invokestatic 149, 3) := by decide +kernel
theorem dX12_orderAt_16 : decode cX12_orderAt 16 = .ok (.ifCond .eq 12, 3) := by decide +kernel
theorem dX12_orderAt_19 : decode cX12_orderAt 19 = .ok (.aload_n 0, 1) := by decide +kernel
theorem dX12_orderAt_20 : decode cX12_orderAt 20 = .ok (.getfield 45, 3) := by decide +kernel
theorem dX12_orderAt_23 : decode cX12_orderAt 23 = .ok (.iload_n 1, 1) := by decide +kernel
theorem dX12_orderAt_24 : decode cX12_orderAt 24 = .ok (.iaload, 1) := by decide +kernel
theorem dX12_orderAt_25 : decode cX12_orderAt 25 = .ok (.goto 4, 3) := by decide +kernel
theorem dX12_orderAt_28 : decode cX12_orderAt 28 = .ok (.iconst (-1), 1) := by decide +kernel
theorem dX12_orderAt_29 : decode cX12_orderAt 29 = .ok (.ireturn, 1) := by decide +kernel
theorem dX12_seatAt_0 : decode cX12_seatAt 0 = .ok (.aload_n 0, 1) := by decide +kernel
theorem dX12_seatAt_1 : decode cX12_seatAt 1 = .ok (.iconst 0, 1) := by decide +kernel
theorem dX12_seatAt_2 : decode cX12_seatAt 2 = .ok (.putfield 82, 3) := by decide +kernel
theorem dX12_seatAt_5 : decode cX12_seatAt 5 = .ok (.iload_n 1, 1) := by decide +kernel
theorem dX12_seatAt_6 : decode cX12_seatAt 6 = .ok (.iconst 0, 1) := by decide +kernel
theorem dX12_seatAt_7 : decode cX12_seatAt 7 = .ok (.aload_n 0, 1) := by decide +kernel
theorem dX12_seatAt_8 : decode cX12_seatAt 8 = .ok (.getfield 326, 3) := by decide +kernel
theorem dX12_seatAt_11 : decode cX12_seatAt 11 = .ok (.iconst 1, 1) := by decide +kernel
theorem dX12_seatAt_12 : decode cX12_seatAt 12 = .ok (.isub, 1) := by decide +kernel
theorem dX12_seatAt_13 : decode cX12_seatAt 13 = .ok (.invokestatic 149, 3) := by decide +kernel
theorem dX12_seatAt_16 : decode cX12_seatAt 16 = .ok (.ifCond .eq 12, 3) := by decide +kernel
theorem dX12_seatAt_19 : decode cX12_seatAt 19 = .ok (.aload_n 0, 1) := by decide +kernel
theorem dX12_seatAt_20 : decode cX12_seatAt 20 = .ok (.getfield 67, 3) := by decide +kernel
theorem dX12_seatAt_23 : decode cX12_seatAt 23 = .ok (.iload_n 1, 1) := by decide +kernel
theorem dX12_seatAt_24 : decode cX12_seatAt 24 = .ok (.iaload, 1) := by decide +kernel
theorem dX12_seatAt_25 : decode cX12_seatAt 25 = .ok (.goto 4, 3) := by decide +kernel
theorem dX12_seatAt_28 : decode cX12_seatAt 28 = .ok (.iconst (-1), 1) := by decide +kernel
theorem dX12_seatAt_29 : decode cX12_seatAt 29 = .ok (.ireturn, 1) := by decide +kernel
theorem dX12_sumOf_0 : decode cX12_sumOf 0 = .ok (.iconst 0, 1) := by decide +kernel
theorem dX12_sumOf_1 : decode cX12_sumOf 1 = .ok (.istore_n 2, 1) := by decide +kernel
theorem dX12_sumOf_2 : decode cX12_sumOf 2 = .ok (.iconst 0, 1) := by decide +kernel
theorem dX12_sumOf_3 : decode cX12_sumOf 3 = .ok (.istore_n 3, 1) := by decide +kernel
theorem dX12_sumOf_4 : decode cX12_sumOf 4 = .ok (.iload_n 3, 1) := by decide +kernel
theorem dX12_sumOf_5 : decode cX12_sumOf 5 = .ok (.aload_n 0, 1) := by decide +kernel
theorem dX12_sumOf_6 : decode cX12_sumOf 6 = .ok (.getfield 13, 3) := by decide +kernel
theorem dX12_sumOf_9 : decode cX12_sumOf 9 = .ok (.iconst 0, 1) := by decide +kernel
theorem dX12_sumOf_10 : decode cX12_sumOf 10 = .ok (.iaload, 1) := by decide +kernel
theorem dX12_sumOf_11 : decode cX12_sumOf 11 = .ok (.if_icmp .ge 20, 3) := by decide +kernel
theorem dX12_sumOf_14 : decode cX12_sumOf 14 = .ok (.iload_n 2, 1) := by decide +kernel
theorem dX12_sumOf_15 : decode cX12_sumOf 15 = .ok (.aload_n 0, 1) := by decide +kernel
theorem dX12_sumOf_16 : decode cX12_sumOf 16 = .ok (.getfield 13, 3) := by decide +kernel
theorem dX12_sumOf_19 : decode cX12_sumOf 19 = .ok (.iload_n 1, 1) := by decide +kernel
theorem dX12_sumOf_20 : decode cX12_sumOf 20 = .ok (.iload_n 3, 1) := by decide +kernel
theorem dX12_sumOf_21 : decode cX12_sumOf 21 = .ok (.iadd, 1) := by decide +kernel
theorem dX12_sumOf_22 : decode cX12_sumOf 22 = .ok (.iaload, 1) := by decide +kernel
theorem dX12_sumOf_23 : decode cX12_sumOf 23 = .ok (.iadd, 1) := by decide +kernel
theorem dX12_sumOf_24 : decode cX12_sumOf 24 = .ok (.istore_n 2, 1) := by decide +kernel
theorem dX12_sumOf_25 : decode cX12_sumOf 25 = .ok (.iinc 3 1, 3) := by decide +kernel
theorem dX12_sumOf_28 : decode cX12_sumOf 28 = .ok (.goto (-24), 3) := by decide +kernel
theorem dX12_sumOf_31 : decode cX12_sumOf 31 = .ok (.iload_n 2, 1) := by decide +kernel
theorem dX12_sumOf_32 : decode cX12_sumOf 32 = .ok (.ireturn, 1) := by decide +kernel
theorem dX12_surely_0 : decode cX12_surely 0 = .ok (.aload_n 0, 1) := by decide +kernel
theorem dX12_surely_1 : decode cX12_surely 1 = .ok (.iconst 0, 1) := by decide +kernel
theorem dX12_surely_2 : decode cX12_surely 2 = .ok (.putfield 82, 3) := by decide +kernel
theorem dX12_surely_5 : decode cX12_surely 5 = .ok (.aload_n 0, 1) := by decide +kernel
theorem dX12_surely_6 : decode cX12_surely 6 = .ok (.getfield 54, 3) := by decide +kernel
theorem dX12_surely_9 : decode cX12_surely 9 = .ok (.ireturn, 1) := by decide +kernel
theorem dX12_told_0 : decode cX12_told 0 = .ok (.aload_n 0, 1) := by decide +kernel
theorem dX12_told_1 : decode cX12_told 1 = .ok (.iconst 0, 1) := by decide +kernel
theorem dX12_told_2 : decode cX12_told 2 = .ok (.putfield 82, 3) := by decide +kernel
theorem dX12_told_5 : decode cX12_told 5 = .ok (.aload_n 0, 1) := by decide +kernel
theorem dX12_told_6 : decode cX12_told 6 = .ok (.getfield 373, 3) := by decide +kernel
theorem dX12_told_9 : decode cX12_told 9 = .ok (.ifCond .eq 21, 3) := by decide +kernel
theorem dX12_told_12 : decode cX12_told 12 = .ok (.iload_n 1, 1) := by decide +kernel
theorem dX12_told_13 : decode cX12_told 13 = .ok (.iconst 0, 1) := by decide +kernel
theorem dX12_told_14 : decode cX12_told 14 = .ok (.iconst 3, 1) := by decide +kernel
theorem dX12_told_15 : decode cX12_told 15 = .ok (.invokestatic 149, 3) := by decide +kernel
theorem dX12_told_18 : decode cX12_told 18 = .ok (.ifCond .eq 12, 3) := by decide +kernel
theorem dX12_told_21 : decode cX12_told 21 = .ok (.aload_n 0, 1) := by decide +kernel
theorem dX12_told_22 : decode cX12_told 22 = .ok (.getfield 76, 3) := by decide +kernel
theorem dX12_told_25 : decode cX12_told 25 = .ok (.iload_n 1, 1) := by decide +kernel
theorem dX12_told_26 : decode cX12_told 26 = .ok (.iaload, 1) := by decide +kernel
theorem dX12_told_27 : decode cX12_told 27 = .ok (.goto 4, 3) := by decide +kernel
theorem dX12_told_30 : decode cX12_told 30 = .ok (.iconst (-1), 1) := by decide +kernel
theorem dX12_told_31 : decode cX12_told 31 = .ok (.ireturn, 1) := by decide +kernel
theorem rc_72 : Rg 72 72 72 := ⟨by decide, by decide⟩
theorem rc_73 : Rg 73 73 73 := ⟨by decide, by decide⟩
theorem rc_74 : Rg 74 74 74 := ⟨by decide, by decide⟩
theorem rc_75 : Rg 75 75 75 := ⟨by decide, by decide⟩
theorem rc_76 : Rg 76 76 76 := ⟨by decide, by decide⟩
theorem rc_77 : Rg 77 77 77 := ⟨by decide, by decide⟩
theorem rc_84 : Rg 84 84 84 := ⟨by decide, by decide⟩
theorem rc_98 : Rg 98 98 98 := ⟨by decide, by decide⟩
set_option maxRecDepth 100000 in
set_option maxHeartbeats 8000000 in
theorem c_X12_fault {l : Launch} {D : va_G} {cy : Nat → ClassId} {L : List Nat} {κ ln : Nat → Nat} {R : Nat → Nat → Option Nat} {I : Nat → Nat → Int32} {J : Nat → Nat → Int64} {ow : Nat → Nat × Nat} (W9 : ∀ a ∈ L, Shp L κ ln R ow a) {x : Nat} (hLx : x ∈ L) (hkx : κ x = 12) (hU : Iw L κ R ow I) : CtI l yX12_fault cX12_fault 1 (some .int) { frames := 0, cells := 0, slots := 0, locals := 0 } D cy L κ ln R I J [.ref x] (fun r I2 J2 => Iw L κ R ow I2 ∧ Fq L κ ow [1200] I I2 ∧ Fq L κ ow [] J J2 ∧ Rg (-2147483648) 2147483647 r) := by
  refine CtI.of (by decide +kernel) (Nat.le_of_ble_eq_true rfl) ?_
  intro p e s m below meth c B K
  have C := B.1
  have hF : Fq L κ ow [1200] I I := fq_rf
  have hG : Fq L κ ow [] J J := fq_rf
  refine g_lo (is := [0]) (lo2 := [(0, .ref x)]) rfl ?_
  refine g_aload_n C 0 dX12_fault_0 rfl rfl ?_
  refine g_iconst C (v := 0) dX12_fault_1 (by decide) ?_
  refine h_putI C K hLx hkx f_12_82 p_12_0 dX12_fault_2 (fun I_1 hI_1 => ?_)
  have hU_2 := iw_put W9 hU hI_1 (ro_o hkx (by decide)) (lo := (-2147483648)) (hi := 2147483647) (rfl) (rg_all _) rfl
  have hF_3 := fq_puto hF hI_1 hkx (by decide) (by decide)
  refine g_aload_n C 0 dX12_fault_5 rfl rfl ?_
  obtain ⟨x_4, hx_4, rx_4⟩ := ex_getw (I := I_1) (a := x) (j := 10) (lo := (-2147483648)) (hi := 2147483647) hU_2.1 hLx (ro_o hkx (by decide)) rfl
  refine g_getI C K hLx hkx f_12_140 (v := x_4) hx_4 dX12_fault_6 ?_
  exact g_zret (ty := .int) (r := x_4) B K rfl (rfl) ⟨hU_2, hF_3, hG, rx_4⟩ dX12_fault_9
set_option maxRecDepth 100000 in
set_option maxHeartbeats 8000000 in
theorem c_X12_surely {l : Launch} {D : va_G} {cy : Nat → ClassId} {L : List Nat} {κ ln : Nat → Nat} {R : Nat → Nat → Option Nat} {I : Nat → Nat → Int32} {J : Nat → Nat → Int64} {ow : Nat → Nat × Nat} (W9 : ∀ a ∈ L, Shp L κ ln R ow a) {x : Nat} (hLx : x ∈ L) (hkx : κ x = 12) (hU : Iw L κ R ow I) : CtI l yX12_surely cX12_surely 1 (some .int) { frames := 0, cells := 0, slots := 0, locals := 0 } D cy L κ ln R I J [.ref x] (fun r I2 J2 => Iw L κ R ow I2 ∧ Fq L κ ow [1200] I I2 ∧ Fq L κ ow [] J J2 ∧ Rg (-2147483648) 2147483647 r) := by
  refine CtI.of (by decide +kernel) (Nat.le_of_ble_eq_true rfl) ?_
  intro p e s m below meth c B K
  have C := B.1
  have hF : Fq L κ ow [1200] I I := fq_rf
  have hG : Fq L κ ow [] J J := fq_rf
  refine g_lo (is := [0]) (lo2 := [(0, .ref x)]) rfl ?_
  refine g_aload_n C 0 dX12_surely_0 rfl rfl ?_
  refine g_iconst C (v := 0) dX12_surely_1 (by decide) ?_
  refine h_putI C K hLx hkx f_12_82 p_12_0 dX12_surely_2 (fun I_1 hI_1 => ?_)
  have hU_2 := iw_put W9 hU hI_1 (ro_o hkx (by decide)) (lo := (-2147483648)) (hi := 2147483647) (rfl) (rg_all _) rfl
  have hF_3 := fq_puto hF hI_1 hkx (by decide) (by decide)
  refine g_aload_n C 0 dX12_surely_5 rfl rfl ?_
  obtain ⟨x_4, hx_4, rx_4⟩ := ex_getw (I := I_1) (a := x) (j := 32) (lo := (-2147483648)) (hi := 2147483647) hU_2.1 hLx (ro_o hkx (by decide)) rfl
  refine g_getI C K hLx hkx f_12_54 (v := x_4) hx_4 dX12_surely_6 ?_
  exact g_zret (ty := .int) (r := x_4) B K rfl (rfl) ⟨hU_2, hF_3, hG, rx_4⟩ dX12_surely_9
set_option maxRecDepth 100000 in
set_option maxHeartbeats 8000000 in
theorem c_X12_ask {l : Launch} {D : va_G} {cy : Nat → ClassId} {L : List Nat} {κ ln : Nat → Nat} {R : Nat → Nat → Option Nat} {I : Nat → Nat → Int32} {J : Nat → Nat → Int64} {ow : Nat → Nat × Nat} (W9 : ∀ a ∈ L, Shp L κ ln R ow a) {x : Nat} (hLx : x ∈ L) (hkx : κ x = 12) (hU : Iw L κ R ow I) : CtI l yX12_ask cX12_ask 1 (some .int) { frames := 0, cells := 0, slots := 0, locals := 0 } D cy L κ ln R I J [.ref x] (fun r I2 J2 => Iw L κ R ow I2 ∧ Fq L κ ow [1200] I I2 ∧ Fq L κ ow [] J J2 ∧ Rg (-2147483648) 2147483647 r) := by
  refine CtI.of (by decide +kernel) (Nat.le_of_ble_eq_true rfl) ?_
  intro p e s m below meth c B K
  have C := B.1
  have hF : Fq L κ ow [1200] I I := fq_rf
  have hG : Fq L κ ow [] J J := fq_rf
  refine g_lo (is := [0]) (lo2 := [(0, .ref x)]) rfl ?_
  refine g_aload_n C 0 dX12_ask_0 rfl rfl ?_
  refine g_iconst C (v := 0) dX12_ask_1 (by decide) ?_
  refine h_putI C K hLx hkx f_12_82 p_12_0 dX12_ask_2 (fun I_1 hI_1 => ?_)
  have hU_2 := iw_put W9 hU hI_1 (ro_o hkx (by decide)) (lo := (-2147483648)) (hi := 2147483647) (rfl) (rg_all _) rfl
  have hF_3 := fq_puto hF hI_1 hkx (by decide) (by decide)
  refine g_aload_n C 0 dX12_ask_5 rfl rfl ?_
  obtain ⟨x_4, hx_4, rx_4⟩ := ex_getw (I := I_1) (a := x) (j := 33) (lo := (-2147483648)) (hi := 2147483647) hU_2.1 hLx (ro_o hkx (by decide)) rfl
  refine g_getI C K hLx hkx f_12_58 (v := x_4) hx_4 dX12_ask_6 ?_
  exact g_zret (ty := .int) (r := x_4) B K rfl (rfl) ⟨hU_2, hF_3, hG, rx_4⟩ dX12_ask_9
set_option maxRecDepth 100000 in
set_option maxHeartbeats 8000000 in
theorem c_X12_isIn {l : Launch} {D : va_G} {cy : Nat → ClassId} {L : List Nat} {κ ln : Nat → Nat} {R : Nat → Nat → Option Nat} {I : Nat → Nat → Int32} {J : Nat → Nat → Int64} {ow : Nat → Nat × Nat} (W9 : ∀ a ∈ L, Shp L κ ln R ow a) (a0 : Int32) (a1 : Int32) (a2 : Int32) (ra1 : Rg 0 1 a1) (ra2 : Rg (-1) 99 a2) (hU : Iw L κ R ow I) : CtI l yX12_isIn cX12_isIn 3 (some .boolean) { frames := 0, cells := 0, slots := 0, locals := 0 } D cy L κ ln R I J [.int a0, .int a1, .int a2] (fun r I2 J2 => I = I2 ∧ J = J2 ∧ Rg 0 1 r ∧ (¬ r = 0 → a1 ≤ a0) ∧ (¬ r = 0 → a0 ≤ a2)) := by
  refine CtI.of (by decide +kernel) (Nat.le_of_ble_eq_true rfl) ?_
  intro p e s m below meth c B K
  have C := B.1
  refine g_lo (is := [0, 1, 2]) (lo2 := [(0, .int a0), (1, .int a1), (2, .int a2)]) rfl ?_
  refine g_iload_n C 0 dX12_isIn_0 rfl rfl ?_
  refine g_iload_n C 1 dX12_isIn_1 rfl rfl ?_
  refine g_icmp_lt C (tgt := 14) dX12_isIn_2 (by decide) (fun h_1 => ?_) (fun h_1 => ?_)
  · skip
    have r_2 := lt_l (hi := 0) (h_1) (rg_all a0) ra1 (by decide)
    refine g_iconst C (v := 0) dX12_isIn_14 (by decide) ?_
    exact g_zret (ty := .boolean) (r := 0) B K rfl (rfl) ⟨rfl, rfl, rg_w rc_0 (by decide) (by decide), (fun q => absurd rfl q), (fun q => absurd rfl q)⟩ dX12_isIn_15
  · skip
    have r_3 := le_r (nlt h_1) ra1 (rg_all a0)
    refine g_iload_n C 0 dX12_isIn_5 rfl rfl ?_
    refine g_iload_n C 2 dX12_isIn_6 rfl rfl ?_
    refine g_icmp_gt C (tgt := 14) dX12_isIn_7 (by decide) (fun h_4 => ?_) (fun h_4 => ?_)
    · skip
      refine g_iconst C (v := 0) dX12_isIn_14 (by decide) ?_
      exact g_zret (ty := .boolean) (r := 0) B K rfl (rfl) ⟨rfl, rfl, rg_w rc_0 (by decide) (by decide), (fun q => absurd rfl q), (fun q => absurd rfl q)⟩ dX12_isIn_15
    · skip
      have r_5 := le_l (nlt h_4) r_3 ra2
      have r_6 := le_r (nlt h_4) r_3 ra2
      refine g_iconst C (v := 1) dX12_isIn_10 (by decide) ?_
      refine g_goto C (tgt := 15) dX12_isIn_11 (by decide) ?_
      exact g_zret (ty := .boolean) (r := 1) B K rfl (rfl) ⟨rfl, rfl, rg_w rc_1 (by decide) (by decide), (fun _ => nlt h_1), (fun _ => nlt h_4)⟩ dX12_isIn_15
set_option maxRecDepth 100000 in
set_option maxHeartbeats 8000000 in
theorem c_X12_orderAt {l : Launch} {D : va_G} {cy : Nat → ClassId} {L : List Nat} {κ ln : Nat → Nat} {R : Nat → Nat → Option Nat} {I : Nat → Nat → Int32} {J : Nat → Nat → Int64} {ow : Nat → Nat × Nat} (W9 : ∀ a ∈ L, Shp L κ ln R ow a) {x : Nat} (hLx : x ∈ L) (hkx : κ x = 12) (a0 : Int32) (hU : Iw L κ R ow I) : CtI l yX12_orderAt cX12_orderAt 2 (some .int) { frames := 1, cells := 0, slots := 0, locals := 22 } D cy L κ ln R I J [.ref x, .int a0] (fun r I2 J2 => Iw L κ R ow I2 ∧ Fq L κ ow [1200] I I2 ∧ Fq L κ ow [] J J2 ∧ Rg (-2147483648) 2147483647 r) := by
  refine CtI.of (by decide +kernel) (Nat.le_of_ble_eq_true rfl) ?_
  intro p e s m below meth c B K
  have C := B.1
  have hF : Fq L κ ow [1200] I I := fq_rf
  have hG : Fq L κ ow [] J J := fq_rf
  obtain ⟨b_1, hb_1, hb_1L, hb_1k, hb_1n, hb_1o⟩ := shp_a (W9 x hLx) hkx 27 14 7 rfl (by decide)
  refine g_lo (is := [0, 1]) (lo2 := [(0, .ref x), (1, .int a0)]) rfl ?_
  refine g_aload_n C 0 dX12_orderAt_0 rfl rfl ?_
  refine g_iconst C (v := 0) dX12_orderAt_1 (by decide) ?_
  refine h_putI C K hLx hkx f_12_82 p_12_0 dX12_orderAt_2 (fun I_2 hI_2 => ?_)
  have hU_3 := iw_put W9 hU hI_2 (ro_o hkx (by decide)) (lo := (-2147483648)) (hi := 2147483647) (rfl) (rg_all _) rfl
  have hF_4 := fq_puto hF hI_2 hkx (by decide) (by decide)
  refine g_iload_n C 1 dX12_orderAt_5 rfl rfl ?_
  refine g_iconst C (v := 0) dX12_orderAt_6 (by decide) ?_
  refine g_aload_n C 0 dX12_orderAt_7 rfl rfl ?_
  obtain ⟨x_5, hx_5, rx_5⟩ := ex_getw (I := I_2) (a := x) (j := 29) (lo := 0) (hi := 7) hU_3.1 hLx (ro_o hkx (by decide)) rfl
  refine g_getI C K hLx hkx f_12_315 (v := x_5) hx_5 dX12_orderAt_8 ?_
  refine g_iconst C (v := 1) dX12_orderAt_11 (by decide) ?_
  obtain ⟨x_6, hx_6, rx_6, tx_6⟩ := ex_sub (-1) 6 rx_5 rc_1 (by decide) (by decide) (by decide) (by decide)
  refine g_isub C (v := x_6) dX12_orderAt_12 hx_6 ?_
  refine g_callSI C K (c_X12_isIn W9 a0 0 x_6 (rg_w rc_0 (by decide) (by decide)) (rg_w rx_6 (by decide) (by decide)) hU_3) s_12_149 rfl ⟨rfl, rfl⟩ ⟨Nat.le_of_ble_eq_true rfl, Nat.le_of_ble_eq_true rfl⟩ (Nat.le_of_ble_eq_true rfl) ⟨Nat.le_of_ble_eq_true rfl, Nat.le_of_ble_eq_true rfl⟩ dX12_orderAt_13 rfl (st := []) (fun x_7 I_8 J_9 h_10 => ?_)
  obtain ⟨rfl, rfl, rx_7, ex_7⟩ := h_10
  refine g_if_eq C (tgt := 28) dX12_orderAt_16 (by decide) (fun h_11 => ?_) (fun h_11 => ?_)
  · skip
    have r_12 := (⟨(rx_7).1, (eq_rg (h_11) rc_0).2⟩ : Rg 0 0 x_7)
    refine g_iconst C (v := (-1)) dX12_orderAt_28 (by decide) ?_
    exact g_zret (ty := .int) (r := (-1)) B K rfl (rfl) ⟨hU_3, hF_4, hG, rg_all _⟩ dX12_orderAt_29
  · skip
    have n_13 : ¬ x_7 = 0 := h_11
    have r_14 := ne_lo (lo := 1) n_13 rx_7 rc_0 rfl (by decide)
    have r_15 := le_r (((ex_7.1) n_13)) rc_0 (rg_all a0)
    have r_16 := le_l (((ex_7.2) n_13)) r_15 rx_6
    have r_17 := le_r (((ex_7.2) n_13)) r_15 rx_6
    have r_18 := rg_der (k := (-1)) (lo := 1) (hi := 7) (ti_s tx_6 rc_1 (by decide)) r_17 rx_5 (by decide) (by decide)
    refine g_aload_n C 0 dX12_orderAt_19 rfl rfl ?_
    refine g_getR C K hLx hkx f_12_45 hb_1 dX12_orderAt_20 ?_
    refine g_iload_n C 1 dX12_orderAt_23 rfl rfl ?_
    obtain ⟨x_19, hx_19, rx_19⟩ := ex_any (z0 := I_2 b_1 (a0.toNatClampNeg))
    refine h_iald C K hb_1L hb_1k (v := x_19) (a0.toNatClampNeg) (rfl) (ix_0 r_16 (by decide)) (ix_lt r_16 (by decide) hb_1n (by decide)) hx_19 dX12_orderAt_24 ?_
    refine g_goto C (tgt := 29) dX12_orderAt_25 (by decide) ?_
    exact g_zret (ty := .int) (r := x_19) B K rfl (rfl) ⟨hU_3, hF_4, hG, rx_19⟩ dX12_orderAt_29
set_option maxRecDepth 100000 in
set_option maxHeartbeats 8000000 in
theorem c_X12_seatAt {l : Launch} {D : va_G} {cy : Nat → ClassId} {L : List Nat} {κ ln : Nat → Nat} {R : Nat → Nat → Option Nat} {I : Nat → Nat → Int32} {J : Nat → Nat → Int64} {ow : Nat → Nat × Nat} (W9 : ∀ a ∈ L, Shp L κ ln R ow a) {x : Nat} (hLx : x ∈ L) (hkx : κ x = 12) (a0 : Int32) (hU : Iw L κ R ow I) : CtI l yX12_seatAt cX12_seatAt 2 (some .int) { frames := 1, cells := 0, slots := 0, locals := 22 } D cy L κ ln R I J [.ref x, .int a0] (fun r I2 J2 => Iw L κ R ow I2 ∧ Fq L κ ow [1200] I I2 ∧ Fq L κ ow [] J J2 ∧ Rg (-2147483648) 2147483647 r) := by
  refine CtI.of (by decide +kernel) (Nat.le_of_ble_eq_true rfl) ?_
  intro p e s m below meth c B K
  have C := B.1
  have hF : Fq L κ ow [1200] I I := fq_rf
  have hG : Fq L κ ow [] J J := fq_rf
  obtain ⟨b_1, hb_1, hb_1L, hb_1k, hb_1n, hb_1o⟩ := shp_a (W9 x hLx) hkx 36 14 7 rfl (by decide)
  refine g_lo (is := [0, 1]) (lo2 := [(0, .ref x), (1, .int a0)]) rfl ?_
  refine g_aload_n C 0 dX12_seatAt_0 rfl rfl ?_
  refine g_iconst C (v := 0) dX12_seatAt_1 (by decide) ?_
  refine h_putI C K hLx hkx f_12_82 p_12_0 dX12_seatAt_2 (fun I_2 hI_2 => ?_)
  have hU_3 := iw_put W9 hU hI_2 (ro_o hkx (by decide)) (lo := (-2147483648)) (hi := 2147483647) (rfl) (rg_all _) rfl
  have hF_4 := fq_puto hF hI_2 hkx (by decide) (by decide)
  refine g_iload_n C 1 dX12_seatAt_5 rfl rfl ?_
  refine g_iconst C (v := 0) dX12_seatAt_6 (by decide) ?_
  refine g_aload_n C 0 dX12_seatAt_7 rfl rfl ?_
  obtain ⟨x_5, hx_5, rx_5⟩ := ex_getw (I := I_2) (a := x) (j := 37) (lo := 0) (hi := 7) hU_3.1 hLx (ro_o hkx (by decide)) rfl
  refine g_getI C K hLx hkx f_12_326 (v := x_5) hx_5 dX12_seatAt_8 ?_
  refine g_iconst C (v := 1) dX12_seatAt_11 (by decide) ?_
  obtain ⟨x_6, hx_6, rx_6, tx_6⟩ := ex_sub (-1) 6 rx_5 rc_1 (by decide) (by decide) (by decide) (by decide)
  refine g_isub C (v := x_6) dX12_seatAt_12 hx_6 ?_
  refine g_callSI C K (c_X12_isIn W9 a0 0 x_6 (rg_w rc_0 (by decide) (by decide)) (rg_w rx_6 (by decide) (by decide)) hU_3) s_12_149 rfl ⟨rfl, rfl⟩ ⟨Nat.le_of_ble_eq_true rfl, Nat.le_of_ble_eq_true rfl⟩ (Nat.le_of_ble_eq_true rfl) ⟨Nat.le_of_ble_eq_true rfl, Nat.le_of_ble_eq_true rfl⟩ dX12_seatAt_13 rfl (st := []) (fun x_7 I_8 J_9 h_10 => ?_)
  obtain ⟨rfl, rfl, rx_7, ex_7⟩ := h_10
  refine g_if_eq C (tgt := 28) dX12_seatAt_16 (by decide) (fun h_11 => ?_) (fun h_11 => ?_)
  · skip
    have r_12 := (⟨(rx_7).1, (eq_rg (h_11) rc_0).2⟩ : Rg 0 0 x_7)
    refine g_iconst C (v := (-1)) dX12_seatAt_28 (by decide) ?_
    exact g_zret (ty := .int) (r := (-1)) B K rfl (rfl) ⟨hU_3, hF_4, hG, rg_all _⟩ dX12_seatAt_29
  · skip
    have n_13 : ¬ x_7 = 0 := h_11
    have r_14 := ne_lo (lo := 1) n_13 rx_7 rc_0 rfl (by decide)
    have r_15 := le_r (((ex_7.1) n_13)) rc_0 (rg_all a0)
    have r_16 := le_l (((ex_7.2) n_13)) r_15 rx_6
    have r_17 := le_r (((ex_7.2) n_13)) r_15 rx_6
    have r_18 := rg_der (k := (-1)) (lo := 1) (hi := 7) (ti_s tx_6 rc_1 (by decide)) r_17 rx_5 (by decide) (by decide)
    refine g_aload_n C 0 dX12_seatAt_19 rfl rfl ?_
    refine g_getR C K hLx hkx f_12_67 hb_1 dX12_seatAt_20 ?_
    refine g_iload_n C 1 dX12_seatAt_23 rfl rfl ?_
    obtain ⟨x_19, hx_19, rx_19⟩ := ex_any (z0 := I_2 b_1 (a0.toNatClampNeg))
    refine h_iald C K hb_1L hb_1k (v := x_19) (a0.toNatClampNeg) (rfl) (ix_0 r_16 (by decide)) (ix_lt r_16 (by decide) hb_1n (by decide)) hx_19 dX12_seatAt_24 ?_
    refine g_goto C (tgt := 29) dX12_seatAt_25 (by decide) ?_
    exact g_zret (ty := .int) (r := x_19) B K rfl (rfl) ⟨hU_3, hF_4, hG, rx_19⟩ dX12_seatAt_29
set_option maxRecDepth 100000 in
set_option maxHeartbeats 8000000 in
theorem c_X12_byteAt {l : Launch} {D : va_G} {cy : Nat → ClassId} {L : List Nat} {κ ln : Nat → Nat} {R : Nat → Nat → Option Nat} {I : Nat → Nat → Int32} {J : Nat → Nat → Int64} {ow : Nat → Nat × Nat} (W9 : ∀ a ∈ L, Shp L κ ln R ow a) {x : Nat} (hLx : x ∈ L) (hkx : κ x = 12) (a0 : Int32) (hU : Iw L κ R ow I) : CtI l yX12_byteAt cX12_byteAt 2 (some .int) { frames := 1, cells := 0, slots := 0, locals := 22 } D cy L κ ln R I J [.ref x, .int a0] (fun r I2 J2 => Iw L κ R ow I2 ∧ Fq L κ ow [1200] I I2 ∧ Fq L κ ow [] J J2 ∧ Rg (-2147483648) 2147483647 r) := by
  refine CtI.of (by decide +kernel) (Nat.le_of_ble_eq_true rfl) ?_
  intro p e s m below meth c B K
  have C := B.1
  have hF : Fq L κ ow [1200] I I := fq_rf
  have hG : Fq L κ ow [] J J := fq_rf
  obtain ⟨b_1, hb_1, hb_1L, hb_1k, hb_1n, hb_1o⟩ := shp_a (W9 x hLx) hkx 39 14 64 rfl (by decide)
  refine g_lo (is := [0, 1]) (lo2 := [(0, .ref x), (1, .int a0)]) rfl ?_
  refine g_aload_n C 0 dX12_byteAt_0 rfl rfl ?_
  refine g_iconst C (v := 0) dX12_byteAt_1 (by decide) ?_
  refine h_putI C K hLx hkx f_12_82 p_12_0 dX12_byteAt_2 (fun I_2 hI_2 => ?_)
  have hU_3 := iw_put W9 hU hI_2 (ro_o hkx (by decide)) (lo := (-2147483648)) (hi := 2147483647) (rfl) (rg_all _) rfl
  have hF_4 := fq_puto hF hI_2 hkx (by decide) (by decide)
  refine g_iload_n C 1 dX12_byteAt_5 rfl rfl ?_
  refine g_iconst C (v := 0) dX12_byteAt_6 (by decide) ?_
  refine g_aload_n C 0 dX12_byteAt_7 rfl rfl ?_
  obtain ⟨x_5, hx_5, rx_5⟩ := ex_getw (I := I_2) (a := x) (j := 40) (lo := 0) (hi := 64) hU_3.1 hLx (ro_o hkx (by decide)) rfl
  refine g_getI C K hLx hkx f_12_335 (v := x_5) hx_5 dX12_byteAt_8 ?_
  refine g_iconst C (v := 1) dX12_byteAt_11 (by decide) ?_
  obtain ⟨x_6, hx_6, rx_6, tx_6⟩ := ex_sub (-1) 63 rx_5 rc_1 (by decide) (by decide) (by decide) (by decide)
  refine g_isub C (v := x_6) dX12_byteAt_12 hx_6 ?_
  refine g_callSI C K (c_X12_isIn W9 a0 0 x_6 (rg_w rc_0 (by decide) (by decide)) (rg_w rx_6 (by decide) (by decide)) hU_3) s_12_149 rfl ⟨rfl, rfl⟩ ⟨Nat.le_of_ble_eq_true rfl, Nat.le_of_ble_eq_true rfl⟩ (Nat.le_of_ble_eq_true rfl) ⟨Nat.le_of_ble_eq_true rfl, Nat.le_of_ble_eq_true rfl⟩ dX12_byteAt_13 rfl (st := []) (fun x_7 I_8 J_9 h_10 => ?_)
  obtain ⟨rfl, rfl, rx_7, ex_7⟩ := h_10
  refine g_if_eq C (tgt := 28) dX12_byteAt_16 (by decide) (fun h_11 => ?_) (fun h_11 => ?_)
  · skip
    have r_12 := (⟨(rx_7).1, (eq_rg (h_11) rc_0).2⟩ : Rg 0 0 x_7)
    refine g_iconst C (v := (-1)) dX12_byteAt_28 (by decide) ?_
    exact g_zret (ty := .int) (r := (-1)) B K rfl (rfl) ⟨hU_3, hF_4, hG, rg_all _⟩ dX12_byteAt_29
  · skip
    have n_13 : ¬ x_7 = 0 := h_11
    have r_14 := ne_lo (lo := 1) n_13 rx_7 rc_0 rfl (by decide)
    have r_15 := le_r (((ex_7.1) n_13)) rc_0 (rg_all a0)
    have r_16 := le_l (((ex_7.2) n_13)) r_15 rx_6
    have r_17 := le_r (((ex_7.2) n_13)) r_15 rx_6
    have r_18 := rg_der (k := (-1)) (lo := 1) (hi := 64) (ti_s tx_6 rc_1 (by decide)) r_17 rx_5 (by decide) (by decide)
    refine g_aload_n C 0 dX12_byteAt_19 rfl rfl ?_
    refine g_getR C K hLx hkx f_12_70 hb_1 dX12_byteAt_20 ?_
    refine g_iload_n C 1 dX12_byteAt_23 rfl rfl ?_
    obtain ⟨x_19, hx_19, rx_19⟩ := ex_any (z0 := I_2 b_1 (a0.toNatClampNeg))
    refine h_iald C K hb_1L hb_1k (v := x_19) (a0.toNatClampNeg) (rfl) (ix_0 r_16 (by decide)) (ix_lt r_16 (by decide) hb_1n (by decide)) hx_19 dX12_byteAt_24 ?_
    refine g_goto C (tgt := 29) dX12_byteAt_25 (by decide) ?_
    exact g_zret (ty := .int) (r := x_19) B K rfl (rfl) ⟨hU_3, hF_4, hG, rx_19⟩ dX12_byteAt_29
set_option maxRecDepth 100000 in
set_option maxHeartbeats 8000000 in
theorem c_X12_told {l : Launch} {D : va_G} {cy : Nat → ClassId} {L : List Nat} {κ ln : Nat → Nat} {R : Nat → Nat → Option Nat} {I : Nat → Nat → Int32} {J : Nat → Nat → Int64} {ow : Nat → Nat × Nat} (W9 : ∀ a ∈ L, Shp L κ ln R ow a) {x : Nat} (hLx : x ∈ L) (hkx : κ x = 12) (a0 : Int32) (hU : Iw L κ R ow I) : CtI l yX12_told cX12_told 2 (some .int) { frames := 1, cells := 0, slots := 0, locals := 22 } D cy L κ ln R I J [.ref x, .int a0] (fun r I2 J2 => Iw L κ R ow I2 ∧ Fq L κ ow [1200] I I2 ∧ Fq L κ ow [] J J2 ∧ Rg (-2147483648) 2147483647 r) := by
  refine CtI.of (by decide +kernel) (Nat.le_of_ble_eq_true rfl) ?_
  intro p e s m below meth c B K
  have C := B.1
  have hF : Fq L κ ow [1200] I I := fq_rf
  have hG : Fq L κ ow [] J J := fq_rf
  obtain ⟨b_1, hb_1, hb_1L, hb_1k, hb_1n, hb_1o⟩ := shp_a (W9 x hLx) hkx 43 14 4 rfl (by decide)
  refine g_lo (is := [0, 1]) (lo2 := [(0, .ref x), (1, .int a0)]) rfl ?_
  refine g_aload_n C 0 dX12_told_0 rfl rfl ?_
  refine g_iconst C (v := 0) dX12_told_1 (by decide) ?_
  refine h_putI C K hLx hkx f_12_82 p_12_0 dX12_told_2 (fun I_2 hI_2 => ?_)
  have hU_3 := iw_put W9 hU hI_2 (ro_o hkx (by decide)) (lo := (-2147483648)) (hi := 2147483647) (rfl) (rg_all _) rfl
  have hF_4 := fq_puto hF hI_2 hkx (by decide) (by decide)
  refine g_aload_n C 0 dX12_told_5 rfl rfl ?_
  obtain ⟨x_5, hx_5, rx_5⟩ := ex_getw (I := I_2) (a := x) (j := 45) (lo := 0) (hi := 1) hU_3.1 hLx (ro_o hkx (by decide)) rfl
  refine g_getI C K hLx hkx f_12_373 (v := x_5) hx_5 dX12_told_6 ?_
  refine g_if_eq C (tgt := 30) dX12_told_9 (by decide) (fun h_6 => ?_) (fun h_6 => ?_)
  · skip
    have r_7 := (⟨(rx_5).1, (eq_rg (h_6) rc_0).2⟩ : Rg 0 0 x_5)
    refine g_iconst C (v := (-1)) dX12_told_30 (by decide) ?_
    exact g_zret (ty := .int) (r := (-1)) B K rfl (rfl) ⟨hU_3, hF_4, hG, rg_all _⟩ dX12_told_31
  · skip
    have n_8 : ¬ x_5 = 0 := h_6
    have r_9 := ne_lo (lo := 1) n_8 rx_5 rc_0 rfl (by decide)
    refine g_iload_n C 1 dX12_told_12 rfl rfl ?_
    refine g_iconst C (v := 0) dX12_told_13 (by decide) ?_
    refine g_iconst C (v := 3) dX12_told_14 (by decide) ?_
    refine g_callSI C K (c_X12_isIn W9 a0 0 3 (rg_w rc_0 (by decide) (by decide)) (rg_w rc_3 (by decide) (by decide)) hU_3) s_12_149 rfl ⟨rfl, rfl⟩ ⟨Nat.le_of_ble_eq_true rfl, Nat.le_of_ble_eq_true rfl⟩ (Nat.le_of_ble_eq_true rfl) ⟨Nat.le_of_ble_eq_true rfl, Nat.le_of_ble_eq_true rfl⟩ dX12_told_15 rfl (st := []) (fun x_10 I_11 J_12 h_13 => ?_)
    obtain ⟨rfl, rfl, rx_10, ex_10⟩ := h_13
    refine g_if_eq C (tgt := 30) dX12_told_18 (by decide) (fun h_14 => ?_) (fun h_14 => ?_)
    · skip
      have r_15 := (⟨(rx_10).1, (eq_rg (h_14) rc_0).2⟩ : Rg 0 0 x_10)
      refine g_iconst C (v := (-1)) dX12_told_30 (by decide) ?_
      exact g_zret (ty := .int) (r := (-1)) B K rfl (rfl) ⟨hU_3, hF_4, hG, rg_all _⟩ dX12_told_31
    · skip
      have n_16 : ¬ x_10 = 0 := h_14
      have r_17 := ne_lo (lo := 1) n_16 rx_10 rc_0 rfl (by decide)
      have r_18 := le_r (((ex_10.1) n_16)) rc_0 (rg_all a0)
      have r_19 := le_l (((ex_10.2) n_16)) r_18 rc_3
      refine g_aload_n C 0 dX12_told_21 rfl rfl ?_
      refine g_getR C K hLx hkx f_12_76 hb_1 dX12_told_22 ?_
      refine g_iload_n C 1 dX12_told_25 rfl rfl ?_
      obtain ⟨x_20, hx_20, rx_20⟩ := ex_any (z0 := I_2 b_1 (a0.toNatClampNeg))
      refine h_iald C K hb_1L hb_1k (v := x_20) (a0.toNatClampNeg) (rfl) (ix_0 r_19 (by decide)) (ix_lt r_19 (by decide) hb_1n (by decide)) hx_20 dX12_told_26 ?_
      refine g_goto C (tgt := 31) dX12_told_27 (by decide) ?_
      exact g_zret (ty := .int) (r := x_20) B K rfl (rfl) ⟨hU_3, hF_4, hG, rx_20⟩ dX12_told_31
set_option maxRecDepth 100000 in
set_option maxHeartbeats 8000000 in
theorem c_X12_count {l : Launch} {D : va_G} {cy : Nat → ClassId} {L : List Nat} {κ ln : Nat → Nat} {R : Nat → Nat → Option Nat} {I : Nat → Nat → Int32} {J : Nat → Nat → Int64} {ow : Nat → Nat × Nat} (W9 : ∀ a ∈ L, Shp L κ ln R ow a) {x : Nat} (hLx : x ∈ L) (hkx : κ x = 12) (a0 : Int32) (hU : Iw L κ R ow I) : CtI l yX12_count cX12_count 2 (some .int) { frames := 0, cells := 0, slots := 0, locals := 0 } D cy L κ ln R I J [.ref x, .int a0] (fun r I2 J2 => Iw L κ R ow I2 ∧ Fq L κ ow [1200] I I2 ∧ Fq L κ ow [] J J2 ∧ Rg (-2147483648) 2147483647 r) := by
  refine CtI.of (by decide +kernel) (Nat.le_of_ble_eq_true rfl) ?_
  intro p e s m below meth c B K
  have C := B.1
  have hF : Fq L κ ow [1200] I I := fq_rf
  have hG : Fq L κ ow [] J J := fq_rf
  obtain ⟨b_1, hb_1, hb_1L, hb_1k, hb_1n, hb_1o⟩ := shp_a (W9 x hLx) hkx 14 14 389 rfl (by decide)
  refine g_lo (is := [0, 1]) (lo2 := [(0, .ref x), (1, .int a0)]) rfl ?_
  refine g_aload_n C 0 dX12_count_0 rfl rfl ?_
  refine g_iconst C (v := 0) dX12_count_1 (by decide) ?_
  refine h_putI C K hLx hkx f_12_82 p_12_0 dX12_count_2 (fun I_2 hI_2 => ?_)
  have hU_3 := iw_put W9 hU hI_2 (ro_o hkx (by decide)) (lo := (-2147483648)) (hi := 2147483647) (rfl) (rg_all _) rfl
  have hF_4 := fq_puto hF hI_2 hkx (by decide) (by decide)
  refine g_iload_n C 1 dX12_count_5 rfl rfl ?_
  by_cases c_5 : a0.toInt = 0
  · skip
    have r_6 := rg_of (a := 0) (b := 0) 0 c_5 (by decide) (by decide)
    refine g_tableIn C (tgt := 40) dX12_count_6 (by omega) (by omega) (off := 34) (by rw [c_5]; rfl) (by decide) ?_
    refine g_aload_n C 0 dX12_count_40 rfl rfl ?_
    refine g_getR C K hLx hkx f_12_13 hb_1 dX12_count_41 ?_
    refine g_iconst C (v := 0) dX12_count_44 (by decide) ?_
    obtain ⟨x_7, hx_7, rx_7⟩ := ex_getw (I := I_2) (a := b_1) (j := 0) (lo := 0) (hi := 7) hU_3.1 hb_1L (ro_a hb_1k (by decide) hb_1o hkx rfl) (by decide)
    refine h_iald C K hb_1L hb_1k (v := x_7) (0) (by decide) (by decide) (by rw [hb_1n]; decide) hx_7 dX12_count_45 ?_
    exact g_zret (ty := .int) (r := x_7) B K rfl (rfl) ⟨hU_3, hF_4, hG, rg_all _⟩ dX12_count_46
  by_cases c_8 : a0.toInt = 1
  · skip
    have r_9 := rg_of (a := 1) (b := 1) 1 c_8 (by decide) (by decide)
    refine g_tableIn C (tgt := 47) dX12_count_6 (by omega) (by omega) (off := 41) (by rw [c_8]; rfl) (by decide) ?_
    refine g_aload_n C 0 dX12_count_47 rfl rfl ?_
    refine g_getR C K hLx hkx f_12_13 hb_1 dX12_count_48 ?_
    refine g_iconst C (v := 1) dX12_count_51 (by decide) ?_
    obtain ⟨x_10, hx_10, rx_10⟩ := ex_getw (I := I_2) (a := b_1) (j := 1) (lo := 0) (hi := 6) hU_3.1 hb_1L (ro_a hb_1k (by decide) hb_1o hkx rfl) (by decide)
    refine h_iald C K hb_1L hb_1k (v := x_10) (1) (by decide) (by decide) (by rw [hb_1n]; decide) hx_10 dX12_count_52 ?_
    exact g_zret (ty := .int) (r := x_10) B K rfl (rfl) ⟨hU_3, hF_4, hG, rg_all _⟩ dX12_count_53
  by_cases c_11 : a0.toInt = 2
  · skip
    have r_12 := rg_of (a := 2) (b := 2) 2 c_11 (by decide) (by decide)
    refine g_tableIn C (tgt := 54) dX12_count_6 (by omega) (by omega) (off := 48) (by rw [c_11]; rfl) (by decide) ?_
    refine g_aload_n C 0 dX12_count_54 rfl rfl ?_
    refine g_getR C K hLx hkx f_12_13 hb_1 dX12_count_55 ?_
    refine g_iconst C (v := 2) dX12_count_58 (by decide) ?_
    obtain ⟨x_13, hx_13, rx_13⟩ := ex_any (z0 := I_2 b_1 (2))
    refine h_iald C K hb_1L hb_1k (v := x_13) (2) (by decide) (by decide) (by rw [hb_1n]; decide) hx_13 dX12_count_59 ?_
    exact g_zret (ty := .int) (r := x_13) B K rfl (rfl) ⟨hU_3, hF_4, hG, rx_13⟩ dX12_count_60
  by_cases c_14 : a0.toInt = 3
  · skip
    have r_15 := rg_of (a := 3) (b := 3) 3 c_14 (by decide) (by decide)
    refine g_tableIn C (tgt := 61) dX12_count_6 (by omega) (by omega) (off := 55) (by rw [c_14]; rfl) (by decide) ?_
    refine g_aload_n C 0 dX12_count_61 rfl rfl ?_
    refine g_getR C K hLx hkx f_12_13 hb_1 dX12_count_62 ?_
    refine g_iconst C (v := 3) dX12_count_65 (by decide) ?_
    obtain ⟨x_16, hx_16, rx_16⟩ := ex_getw (I := I_2) (a := b_1) (j := 3) (lo := 0) (hi := 9) hU_3.1 hb_1L (ro_a hb_1k (by decide) hb_1o hkx rfl) (by decide)
    refine h_iald C K hb_1L hb_1k (v := x_16) (3) (by decide) (by decide) (by rw [hb_1n]; decide) hx_16 dX12_count_66 ?_
    exact g_zret (ty := .int) (r := x_16) B K rfl (rfl) ⟨hU_3, hF_4, hG, rg_all _⟩ dX12_count_67
  by_cases c_17 : a0.toInt = 4
  · skip
    have r_18 := rg_of (a := 4) (b := 4) 4 c_17 (by decide) (by decide)
    refine g_tableIn C (tgt := 68) dX12_count_6 (by omega) (by omega) (off := 62) (by rw [c_17]; rfl) (by decide) ?_
    refine g_aload_n C 0 dX12_count_68 rfl rfl ?_
    obtain ⟨x_19, hx_19, rx_19⟩ := ex_getw (I := I_2) (a := x) (j := 2) (lo := 0) (hi := 940) hU_3.1 hLx (ro_o hkx (by decide)) rfl
    refine g_getI C K hLx hkx f_12_85 (v := x_19) hx_19 dX12_count_69 ?_
    exact g_zret (ty := .int) (r := x_19) B K rfl (rfl) ⟨hU_3, hF_4, hG, rg_all _⟩ dX12_count_72
  have n_21 : ¬ a0 = 0 := (fun q => c_5 (by rw [q]; decide))
  have n_22 : ¬ a0 = 1 := (fun q => c_8 (by rw [q]; decide))
  have n_23 : ¬ a0 = 2 := (fun q => c_11 (by rw [q]; decide))
  have n_24 : ¬ a0 = 3 := (fun q => c_14 (by rw [q]; decide))
  have n_25 : ¬ a0 = 4 := (fun q => c_17 (by rw [q]; decide))
  obtain ⟨q_201, q_202⟩ := id ((rg_all a0))
  refine g_tableOut C (tgt := 73) dX12_count_6 (by omega) (by decide) ?_
  refine g_iconst C (v := (-1)) dX12_count_73 (by decide) ?_
  exact g_zret (ty := .int) (r := (-1)) B K rfl (rfl) ⟨hU_3, hF_4, hG, rg_all _⟩ dX12_count_74
set_option maxRecDepth 100000 in
set_option maxHeartbeats 8000000 in
theorem c_X12_sumOf_84 {l : Launch} {D : va_G} {cy : Nat → ClassId} {L : List Nat} {κ ln : Nat → Nat} {R : Nat → Nat → Option Nat} {I : Nat → Nat → Int32} {J : Nat → Nat → Int64} {ow : Nat → Nat × Nat} (W9 : ∀ a ∈ L, Shp L κ ln R ow a) {x : Nat} (hLx : x ∈ L) (hkx : κ x = 12) (hU : Iw L κ R ow I) : CtI l yX12_sumOf cX12_sumOf 4 (some .int) { frames := 0, cells := 0, slots := 0, locals := 0 } D cy L κ ln R I J [.ref x, .int 84] (fun r I2 J2 => I = I2 ∧ J = J2 ∧ Rg (-2147483648) 2147483647 r) := by
  refine CtI.of (by decide +kernel) (Nat.le_of_ble_eq_true rfl) ?_
  intro p e s m below meth c B K
  have C := B.1
  obtain ⟨b_1, hb_1, hb_1L, hb_1k, hb_1n, hb_1o⟩ := shp_a (W9 x hLx) hkx 14 14 389 rfl (by decide)
  refine g_lo (is := [0, 1]) (lo2 := [(0, .ref x), (1, .int 84)]) rfl ?_
  have l_4 : ∀ (n_4 : Nat) (v_2 : Int32) (v_3 : Int32) (rv_3 : Rg 0 7 v_3) (hm_4 : 7 < (v_3 : Int32).toInt + (n_4 : Int)), WG p l e { frames := 0, cells := 0, slots := 0, locals := 0 } s m ([.ref x, .int 84] : List Value).toArray below meth c 4 0 0 (MQ below (Qi_ D cy L κ ln R (fun r I2 J2 => I = I2 ∧ J = J2 ∧ Rg (-2147483648) 2147483647 r)) ([.ref x, .int 84] : List Value).toArray s 0 0 (Al_ L)) D cy (Al_ L) s.heap L κ ln R I J 4 [(0, .ref x), (1, .int 84), (2, .int v_2), (3, .int v_3)] [] := by
    intro n_4
    induction n_4 with
    | zero =>
      intro v_2 v_3 rv_3 hm_4
      exact ms_0 rv_3 hm_4
    | succ n_4 ih_4 =>
      intro v_2 v_3 rv_3 hm_4
      refine g_iload_n C 3 dX12_sumOf_4 rfl rfl ?_
      refine g_aload_n C 0 dX12_sumOf_5 rfl rfl ?_
      refine g_getR C K hLx hkx f_12_13 hb_1 dX12_sumOf_6 ?_
      refine g_iconst C (v := 0) dX12_sumOf_9 (by decide) ?_
      obtain ⟨x_5, hx_5, rx_5⟩ := ex_getw (I := I) (a := b_1) (j := 0) (lo := 0) (hi := 7) hU.1 hb_1L (ro_a hb_1k (by decide) hb_1o hkx rfl) (by decide)
      refine h_iald C K hb_1L hb_1k (v := x_5) (0) (by decide) (by decide) (by rw [hb_1n]; decide) hx_5 dX12_sumOf_10 ?_
      refine g_icmp_ge C (tgt := 31) dX12_sumOf_11 (by decide) (fun h_6 => ?_) (fun h_6 => ?_)
      · skip
        refine g_iload_n C 2 dX12_sumOf_31 rfl rfl ?_
        exact g_zret (ty := .int) (r := v_2) B K rfl (rfl) ⟨rfl, rfl, (rg_all v_2)⟩ dX12_sumOf_32
      · skip
        have r_7 := lt_l (hi := 6) (nle h_6) rv_3 rx_5 (by decide)
        have r_8 := lt_r (lo := 1) (nle h_6) rv_3 rx_5 (by decide)
        refine g_iload_n C 2 dX12_sumOf_14 rfl rfl ?_
        refine g_aload_n C 0 dX12_sumOf_15 rfl rfl ?_
        refine g_getR C K hLx hkx f_12_13 hb_1 dX12_sumOf_16 ?_
        refine g_iload_n C 1 dX12_sumOf_19 rfl rfl ?_
        refine g_iload_n C 3 dX12_sumOf_20 rfl rfl ?_
        obtain ⟨x_9, hx_9, rx_9, tx_9⟩ := ex_add 84 90 rc_84 r_7 (by decide) (by decide) (by decide) (by decide)
        refine g_iadd C (v := x_9) dX12_sumOf_21 hx_9 ?_
        obtain ⟨x_10, hx_10, rx_10⟩ := ex_any (z0 := I b_1 (x_9.toNatClampNeg))
        refine h_iald C K hb_1L hb_1k (v := x_10) (x_9.toNatClampNeg) (rfl) (ix_0 rx_9 (by decide)) (ix_lt rx_9 (by decide) hb_1n (by decide)) hx_10 dX12_sumOf_22 ?_
        obtain ⟨x_11, hx_11, rx_11⟩ := ex_any (z0 := v_2 + x_10)
        refine g_iadd C (v := x_11) dX12_sumOf_23 hx_11 ?_
        refine g_istore_n C dX12_sumOf_24 rfl (by decide) (lo2 := [(2, .int x_11), (0, .ref x), (1, .int 84), (3, .int v_3)]) rfl ?_
        obtain ⟨x_12, hx_12, rx_12, tx_12⟩ := ex_add (y := 1) 1 7 r_7 rc_1 (by decide) (by decide) (by decide) (by decide)
        refine g_iinc C dX12_sumOf_25 (k := 3) (v := x_12) rfl hx_12 (by decide) (lo2 := [(3, .int x_12), (2, .int x_11), (0, .ref x), (1, .int 84)]) rfl ?_
        refine g_goto C (tgt := 4) dX12_sumOf_28 (by decide) ?_
        refine g_lo (is := [2, 3, 1, 0]) (lo2 := [(0, .ref x), (1, .int 84), (2, .int x_11), (3, .int x_12)]) rfl ?_
        exact ih_4 x_11 x_12 (rg_w rx_12 (by decide) (by decide)) (ms_1 hm_4 (ti_k tx_12 rc_1) (by decide))
  refine g_iconst C (v := 0) dX12_sumOf_0 (by decide) ?_
  refine g_istore_n C dX12_sumOf_1 rfl (by decide) (lo2 := [(2, .int 0), (0, .ref x), (1, .int 84)]) rfl ?_
  refine g_iconst C (v := 0) dX12_sumOf_2 (by decide) ?_
  refine g_istore_n C dX12_sumOf_3 rfl (by decide) (lo2 := [(3, .int 0), (2, .int 0), (0, .ref x), (1, .int 84)]) rfl ?_
  refine g_lo (is := [2, 3, 1, 0]) (lo2 := [(0, .ref x), (1, .int 84), (2, .int 0), (3, .int 0)]) rfl ?_
  exact l_4 8 0 0 (rg_w rc_0 (by decide) (by decide)) (ms_s (a := 0) (b := 7) (N := 8) (rg_w rc_0 (by decide) (by decide)) (by decide))
set_option maxRecDepth 100000 in
set_option maxHeartbeats 8000000 in
theorem c_X12_sumOf_98 {l : Launch} {D : va_G} {cy : Nat → ClassId} {L : List Nat} {κ ln : Nat → Nat} {R : Nat → Nat → Option Nat} {I : Nat → Nat → Int32} {J : Nat → Nat → Int64} {ow : Nat → Nat × Nat} (W9 : ∀ a ∈ L, Shp L κ ln R ow a) {x : Nat} (hLx : x ∈ L) (hkx : κ x = 12) (hU : Iw L κ R ow I) : CtI l yX12_sumOf cX12_sumOf 4 (some .int) { frames := 0, cells := 0, slots := 0, locals := 0 } D cy L κ ln R I J [.ref x, .int 98] (fun r I2 J2 => I = I2 ∧ J = J2 ∧ Rg (-2147483648) 2147483647 r) := by
  refine CtI.of (by decide +kernel) (Nat.le_of_ble_eq_true rfl) ?_
  intro p e s m below meth c B K
  have C := B.1
  obtain ⟨b_1, hb_1, hb_1L, hb_1k, hb_1n, hb_1o⟩ := shp_a (W9 x hLx) hkx 14 14 389 rfl (by decide)
  refine g_lo (is := [0, 1]) (lo2 := [(0, .ref x), (1, .int 98)]) rfl ?_
  have l_4 : ∀ (n_4 : Nat) (v_2 : Int32) (v_3 : Int32) (rv_3 : Rg 0 7 v_3) (hm_4 : 7 < (v_3 : Int32).toInt + (n_4 : Int)), WG p l e { frames := 0, cells := 0, slots := 0, locals := 0 } s m ([.ref x, .int 98] : List Value).toArray below meth c 4 0 0 (MQ below (Qi_ D cy L κ ln R (fun r I2 J2 => I = I2 ∧ J = J2 ∧ Rg (-2147483648) 2147483647 r)) ([.ref x, .int 98] : List Value).toArray s 0 0 (Al_ L)) D cy (Al_ L) s.heap L κ ln R I J 4 [(0, .ref x), (1, .int 98), (2, .int v_2), (3, .int v_3)] [] := by
    intro n_4
    induction n_4 with
    | zero =>
      intro v_2 v_3 rv_3 hm_4
      exact ms_0 rv_3 hm_4
    | succ n_4 ih_4 =>
      intro v_2 v_3 rv_3 hm_4
      refine g_iload_n C 3 dX12_sumOf_4 rfl rfl ?_
      refine g_aload_n C 0 dX12_sumOf_5 rfl rfl ?_
      refine g_getR C K hLx hkx f_12_13 hb_1 dX12_sumOf_6 ?_
      refine g_iconst C (v := 0) dX12_sumOf_9 (by decide) ?_
      obtain ⟨x_5, hx_5, rx_5⟩ := ex_getw (I := I) (a := b_1) (j := 0) (lo := 0) (hi := 7) hU.1 hb_1L (ro_a hb_1k (by decide) hb_1o hkx rfl) (by decide)
      refine h_iald C K hb_1L hb_1k (v := x_5) (0) (by decide) (by decide) (by rw [hb_1n]; decide) hx_5 dX12_sumOf_10 ?_
      refine g_icmp_ge C (tgt := 31) dX12_sumOf_11 (by decide) (fun h_6 => ?_) (fun h_6 => ?_)
      · skip
        refine g_iload_n C 2 dX12_sumOf_31 rfl rfl ?_
        exact g_zret (ty := .int) (r := v_2) B K rfl (rfl) ⟨rfl, rfl, (rg_all v_2)⟩ dX12_sumOf_32
      · skip
        have r_7 := lt_l (hi := 6) (nle h_6) rv_3 rx_5 (by decide)
        have r_8 := lt_r (lo := 1) (nle h_6) rv_3 rx_5 (by decide)
        refine g_iload_n C 2 dX12_sumOf_14 rfl rfl ?_
        refine g_aload_n C 0 dX12_sumOf_15 rfl rfl ?_
        refine g_getR C K hLx hkx f_12_13 hb_1 dX12_sumOf_16 ?_
        refine g_iload_n C 1 dX12_sumOf_19 rfl rfl ?_
        refine g_iload_n C 3 dX12_sumOf_20 rfl rfl ?_
        obtain ⟨x_9, hx_9, rx_9, tx_9⟩ := ex_add 98 104 rc_98 r_7 (by decide) (by decide) (by decide) (by decide)
        refine g_iadd C (v := x_9) dX12_sumOf_21 hx_9 ?_
        obtain ⟨x_10, hx_10, rx_10⟩ := ex_any (z0 := I b_1 (x_9.toNatClampNeg))
        refine h_iald C K hb_1L hb_1k (v := x_10) (x_9.toNatClampNeg) (rfl) (ix_0 rx_9 (by decide)) (ix_lt rx_9 (by decide) hb_1n (by decide)) hx_10 dX12_sumOf_22 ?_
        obtain ⟨x_11, hx_11, rx_11⟩ := ex_any (z0 := v_2 + x_10)
        refine g_iadd C (v := x_11) dX12_sumOf_23 hx_11 ?_
        refine g_istore_n C dX12_sumOf_24 rfl (by decide) (lo2 := [(2, .int x_11), (0, .ref x), (1, .int 98), (3, .int v_3)]) rfl ?_
        obtain ⟨x_12, hx_12, rx_12, tx_12⟩ := ex_add (y := 1) 1 7 r_7 rc_1 (by decide) (by decide) (by decide) (by decide)
        refine g_iinc C dX12_sumOf_25 (k := 3) (v := x_12) rfl hx_12 (by decide) (lo2 := [(3, .int x_12), (2, .int x_11), (0, .ref x), (1, .int 98)]) rfl ?_
        refine g_goto C (tgt := 4) dX12_sumOf_28 (by decide) ?_
        refine g_lo (is := [2, 3, 1, 0]) (lo2 := [(0, .ref x), (1, .int 98), (2, .int x_11), (3, .int x_12)]) rfl ?_
        exact ih_4 x_11 x_12 (rg_w rx_12 (by decide) (by decide)) (ms_1 hm_4 (ti_k tx_12 rc_1) (by decide))
  refine g_iconst C (v := 0) dX12_sumOf_0 (by decide) ?_
  refine g_istore_n C dX12_sumOf_1 rfl (by decide) (lo2 := [(2, .int 0), (0, .ref x), (1, .int 98)]) rfl ?_
  refine g_iconst C (v := 0) dX12_sumOf_2 (by decide) ?_
  refine g_istore_n C dX12_sumOf_3 rfl (by decide) (lo2 := [(3, .int 0), (2, .int 0), (0, .ref x), (1, .int 98)]) rfl ?_
  refine g_lo (is := [2, 3, 1, 0]) (lo2 := [(0, .ref x), (1, .int 98), (2, .int 0), (3, .int 0)]) rfl ?_
  exact l_4 8 0 0 (rg_w rc_0 (by decide) (by decide)) (ms_s (a := 0) (b := 7) (N := 8) (rg_w rc_0 (by decide) (by decide)) (by decide))
set_option maxRecDepth 100000 in
set_option maxHeartbeats 8000000 in
theorem c_X12_now {l : Launch} {D : va_G} {cy : Nat → ClassId} {L : List Nat} {κ ln : Nat → Nat} {R : Nat → Nat → Option Nat} {I : Nat → Nat → Int32} {J : Nat → Nat → Int64} {ow : Nat → Nat × Nat} (W9 : ∀ a ∈ L, Shp L κ ln R ow a) {x : Nat} (hLx : x ∈ L) (hkx : κ x = 12) (a0 : Int32) (hU : Iw L κ R ow I) : CtI l yX12_now cX12_now 2 (some .int) { frames := 1, cells := 0, slots := 0, locals := 23 } D cy L κ ln R I J [.ref x, .int a0] (fun r I2 J2 => Iw L κ R ow I2 ∧ Fq L κ ow [1200] I I2 ∧ Fq L κ ow [] J J2 ∧ Rg (-2147483648) 2147483647 r) := by
  refine CtI.of (by decide +kernel) (Nat.le_of_ble_eq_true rfl) ?_
  intro p e s m below meth c B K
  have C := B.1
  have hF : Fq L κ ow [1200] I I := fq_rf
  have hG : Fq L κ ow [] J J := fq_rf
  obtain ⟨b_1, hb_1, hb_1L, hb_1k, hb_1n, hb_1o⟩ := shp_a (W9 x hLx) hkx 14 14 389 rfl (by decide)
  refine g_lo (is := [0, 1]) (lo2 := [(0, .ref x), (1, .int a0)]) rfl ?_
  refine g_aload_n C 0 dX12_now_0 rfl rfl ?_
  refine g_iconst C (v := 0) dX12_now_1 (by decide) ?_
  refine h_putI C K hLx hkx f_12_82 p_12_0 dX12_now_2 (fun I_2 hI_2 => ?_)
  have hU_3 := iw_put W9 hU hI_2 (ro_o hkx (by decide)) (lo := (-2147483648)) (hi := 2147483647) (rfl) (rg_all _) rfl
  have hF_4 := fq_puto hF hI_2 hkx (by decide) (by decide)
  refine g_iload_n C 1 dX12_now_5 rfl rfl ?_
  by_cases c_5 : a0.toInt = 0
  · skip
    have r_6 := rg_of (a := 0) (b := 0) 0 c_5 (by decide) (by decide)
    refine g_tableIn C (tgt := 52) dX12_now_6 (by omega) (by omega) (off := 46) (by rw [c_5]; rfl) (by decide) ?_
    refine g_aload_n C 0 dX12_now_52 rfl rfl ?_
    refine g_getR C K hLx hkx f_12_13 hb_1 dX12_now_53 ?_
    refine g_bipush C (v := 72) dX12_now_56 (by decide) ?_
    obtain ⟨x_7, hx_7, rx_7⟩ := ex_any (z0 := I_2 b_1 (72))
    refine h_iald C K hb_1L hb_1k (v := x_7) (72) (by decide) (by decide) (by rw [hb_1n]; decide) hx_7 dX12_now_58 ?_
    exact g_zret (ty := .int) (r := x_7) B K rfl (rfl) ⟨hU_3, hF_4, hG, rx_7⟩ dX12_now_59
  by_cases c_8 : a0.toInt = 1
  · skip
    have r_9 := rg_of (a := 1) (b := 1) 1 c_8 (by decide) (by decide)
    refine g_tableIn C (tgt := 60) dX12_now_6 (by omega) (by omega) (off := 54) (by rw [c_8]; rfl) (by decide) ?_
    refine g_aload_n C 0 dX12_now_60 rfl rfl ?_
    refine g_getR C K hLx hkx f_12_13 hb_1 dX12_now_61 ?_
    refine g_bipush C (v := 73) dX12_now_64 (by decide) ?_
    obtain ⟨x_10, hx_10, rx_10⟩ := ex_any (z0 := I_2 b_1 (73))
    refine h_iald C K hb_1L hb_1k (v := x_10) (73) (by decide) (by decide) (by rw [hb_1n]; decide) hx_10 dX12_now_66 ?_
    exact g_zret (ty := .int) (r := x_10) B K rfl (rfl) ⟨hU_3, hF_4, hG, rx_10⟩ dX12_now_67
  by_cases c_11 : a0.toInt = 2
  · skip
    have r_12 := rg_of (a := 2) (b := 2) 2 c_11 (by decide) (by decide)
    refine g_tableIn C (tgt := 68) dX12_now_6 (by omega) (by omega) (off := 62) (by rw [c_11]; rfl) (by decide) ?_
    refine g_aload_n C 0 dX12_now_68 rfl rfl ?_
    refine g_getR C K hLx hkx f_12_13 hb_1 dX12_now_69 ?_
    refine g_bipush C (v := 74) dX12_now_72 (by decide) ?_
    obtain ⟨x_13, hx_13, rx_13⟩ := ex_any (z0 := I_2 b_1 (74))
    refine h_iald C K hb_1L hb_1k (v := x_13) (74) (by decide) (by decide) (by rw [hb_1n]; decide) hx_13 dX12_now_74 ?_
    exact g_zret (ty := .int) (r := x_13) B K rfl (rfl) ⟨hU_3, hF_4, hG, rx_13⟩ dX12_now_75
  by_cases c_14 : a0.toInt = 3
  · skip
    have r_15 := rg_of (a := 3) (b := 3) 3 c_14 (by decide) (by decide)
    refine g_tableIn C (tgt := 76) dX12_now_6 (by omega) (by omega) (off := 70) (by rw [c_14]; rfl) (by decide) ?_
    refine g_aload_n C 0 dX12_now_76 rfl rfl ?_
    refine g_getR C K hLx hkx f_12_13 hb_1 dX12_now_77 ?_
    refine g_bipush C (v := 75) dX12_now_80 (by decide) ?_
    obtain ⟨x_16, hx_16, rx_16⟩ := ex_any (z0 := I_2 b_1 (75))
    refine h_iald C K hb_1L hb_1k (v := x_16) (75) (by decide) (by decide) (by rw [hb_1n]; decide) hx_16 dX12_now_82 ?_
    exact g_zret (ty := .int) (r := x_16) B K rfl (rfl) ⟨hU_3, hF_4, hG, rx_16⟩ dX12_now_83
  by_cases c_17 : a0.toInt = 4
  · skip
    have r_18 := rg_of (a := 4) (b := 4) 4 c_17 (by decide) (by decide)
    refine g_tableIn C (tgt := 84) dX12_now_6 (by omega) (by omega) (off := 78) (by rw [c_17]; rfl) (by decide) ?_
    refine g_aload_n C 0 dX12_now_84 rfl rfl ?_
    refine g_getR C K hLx hkx f_12_13 hb_1 dX12_now_85 ?_
    refine g_bipush C (v := 76) dX12_now_88 (by decide) ?_
    obtain ⟨x_19, hx_19, rx_19⟩ := ex_any (z0 := I_2 b_1 (76))
    refine h_iald C K hb_1L hb_1k (v := x_19) (76) (by decide) (by decide) (by rw [hb_1n]; decide) hx_19 dX12_now_90 ?_
    exact g_zret (ty := .int) (r := x_19) B K rfl (rfl) ⟨hU_3, hF_4, hG, rx_19⟩ dX12_now_91
  by_cases c_20 : a0.toInt = 5
  · skip
    have r_21 := rg_of (a := 5) (b := 5) 5 c_20 (by decide) (by decide)
    refine g_tableIn C (tgt := 92) dX12_now_6 (by omega) (by omega) (off := 86) (by rw [c_20]; rfl) (by decide) ?_
    refine g_aload_n C 0 dX12_now_92 rfl rfl ?_
    refine g_bipush C (v := 84) dX12_now_93 (by decide) ?_
    refine g_callVI C K (c_X12_sumOf_84 W9 hLx hkx   hU_3) hLx hkx (by decide) rfl v_12_253 rfl ⟨rfl, rfl⟩ ⟨Nat.le_of_ble_eq_true rfl, Nat.le_of_ble_eq_true rfl⟩ (Nat.le_of_ble_eq_true rfl) ⟨Nat.le_of_ble_eq_true rfl, Nat.le_of_ble_eq_true rfl⟩ dX12_now_95 rfl (st := []) (fun x_22 I_23 J_24 h_25 => ?_)
    obtain ⟨rfl, rfl, rx_22⟩ := h_25
    exact g_zret (ty := .int) (r := x_22) B K rfl (rfl) ⟨hU_3, hF_4, hG, rx_22⟩ dX12_now_98
  by_cases c_26 : a0.toInt = 6
  · skip
    have r_27 := rg_of (a := 6) (b := 6) 6 c_26 (by decide) (by decide)
    refine g_tableIn C (tgt := 99) dX12_now_6 (by omega) (by omega) (off := 93) (by rw [c_26]; rfl) (by decide) ?_
    refine g_aload_n C 0 dX12_now_99 rfl rfl ?_
    refine g_bipush C (v := 98) dX12_now_100 (by decide) ?_
    refine g_callVI C K (c_X12_sumOf_98 W9 hLx hkx   hU_3) hLx hkx (by decide) rfl v_12_253 rfl ⟨rfl, rfl⟩ ⟨Nat.le_of_ble_eq_true rfl, Nat.le_of_ble_eq_true rfl⟩ (Nat.le_of_ble_eq_true rfl) ⟨Nat.le_of_ble_eq_true rfl, Nat.le_of_ble_eq_true rfl⟩ dX12_now_102 rfl (st := []) (fun x_28 I_29 J_30 h_31 => ?_)
    obtain ⟨rfl, rfl, rx_28⟩ := h_31
    exact g_zret (ty := .int) (r := x_28) B K rfl (rfl) ⟨hU_3, hF_4, hG, rx_28⟩ dX12_now_105
  by_cases c_32 : a0.toInt = 7
  · skip
    have r_33 := rg_of (a := 7) (b := 7) 7 c_32 (by decide) (by decide)
    refine g_tableIn C (tgt := 106) dX12_now_6 (by omega) (by omega) (off := 100) (by rw [c_32]; rfl) (by decide) ?_
    refine g_aload_n C 0 dX12_now_106 rfl rfl ?_
    refine g_getR C K hLx hkx f_12_13 hb_1 dX12_now_107 ?_
    refine g_bipush C (v := 77) dX12_now_110 (by decide) ?_
    obtain ⟨x_34, hx_34, rx_34⟩ := ex_any (z0 := I_2 b_1 (77))
    refine h_iald C K hb_1L hb_1k (v := x_34) (77) (by decide) (by decide) (by rw [hb_1n]; decide) hx_34 dX12_now_112 ?_
    exact g_zret (ty := .int) (r := x_34) B K rfl (rfl) ⟨hU_3, hF_4, hG, rx_34⟩ dX12_now_113
  have n_36 : ¬ a0 = 0 := (fun q => c_5 (by rw [q]; decide))
  have n_37 : ¬ a0 = 1 := (fun q => c_8 (by rw [q]; decide))
  have n_38 : ¬ a0 = 2 := (fun q => c_11 (by rw [q]; decide))
  have n_39 : ¬ a0 = 3 := (fun q => c_14 (by rw [q]; decide))
  have n_40 : ¬ a0 = 4 := (fun q => c_17 (by rw [q]; decide))
  have n_41 : ¬ a0 = 5 := (fun q => c_20 (by rw [q]; decide))
  have n_42 : ¬ a0 = 6 := (fun q => c_26 (by rw [q]; decide))
  have n_43 : ¬ a0 = 7 := (fun q => c_32 (by rw [q]; decide))
  obtain ⟨q_351, q_352⟩ := id ((rg_all a0))
  refine g_tableOut C (tgt := 114) dX12_now_6 (by omega) (by decide) ?_
  refine g_iconst C (v := (-1)) dX12_now_114 (by decide) ?_
  exact g_zret (ty := .int) (r := (-1)) B K rfl (rfl) ⟨hU_3, hF_4, hG, rg_all _⟩ dX12_now_115
set_option maxRecDepth 100000 in
set_option maxHeartbeats 8000000 in
theorem c_X12_isDish {l : Launch} {D : va_G} {cy : Nat → ClassId} {L : List Nat} {κ ln : Nat → Nat} {R : Nat → Nat → Option Nat} {I : Nat → Nat → Int32} {J : Nat → Nat → Int64} {ow : Nat → Nat × Nat} (W9 : ∀ a ∈ L, Shp L κ ln R ow a) {x : Nat} (hLx : x ∈ L) (hkx : κ x = 12) (a0 : Int32) (hU : Iw L κ R ow I) : CtI l yX12_isDish cX12_isDish 2 (some .boolean) { frames := 1, cells := 0, slots := 0, locals := 22 } D cy L κ ln R I J [.ref x, .int a0] (fun r I2 J2 => I = I2 ∧ J = J2 ∧ Rg 0 1 r ∧ (¬ r = 0 → Rg 0 5 a0)) := by
  refine CtI.of (by decide +kernel) (Nat.le_of_ble_eq_true rfl) ?_
  intro p e s m below meth c B K
  have C := B.1
  obtain ⟨b_1, hb_1, hb_1L, hb_1k, hb_1n, hb_1o⟩ := shp_a (W9 x hLx) hkx 14 14 389 rfl (by decide)
  refine g_lo (is := [0, 1]) (lo2 := [(0, .ref x), (1, .int a0)]) rfl ?_
  refine g_iload_n C 1 dX12_isDish_0 rfl rfl ?_
  refine g_iconst C (v := 0) dX12_isDish_1 (by decide) ?_
  refine g_aload_n C 0 dX12_isDish_2 rfl rfl ?_
  refine g_getR C K hLx hkx f_12_13 hb_1 dX12_isDish_3 ?_
  refine g_iconst C (v := 1) dX12_isDish_6 (by decide) ?_
  obtain ⟨x_2, hx_2, rx_2⟩ := ex_getw (I := I) (a := b_1) (j := 1) (lo := 0) (hi := 6) hU.1 hb_1L (ro_a hb_1k (by decide) hb_1o hkx rfl) (by decide)
  refine h_iald C K hb_1L hb_1k (v := x_2) (1) (by decide) (by decide) (by rw [hb_1n]; decide) hx_2 dX12_isDish_7 ?_
  refine g_iconst C (v := 1) dX12_isDish_8 (by decide) ?_
  obtain ⟨x_3, hx_3, rx_3, tx_3⟩ := ex_sub (-1) 5 rx_2 rc_1 (by decide) (by decide) (by decide) (by decide)
  refine g_isub C (v := x_3) dX12_isDish_9 hx_3 ?_
  refine g_callSI C K (c_X12_isIn W9 a0 0 x_3 (rg_w rc_0 (by decide) (by decide)) (rg_w rx_3 (by decide) (by decide)) hU) s_12_149 rfl ⟨rfl, rfl⟩ ⟨Nat.le_of_ble_eq_true rfl, Nat.le_of_ble_eq_true rfl⟩ (Nat.le_of_ble_eq_true rfl) ⟨Nat.le_of_ble_eq_true rfl, Nat.le_of_ble_eq_true rfl⟩ dX12_isDish_10 rfl (st := []) (fun x_4 I_5 J_6 h_7 => ?_)
  obtain ⟨rfl, rfl, rx_4, ex_4⟩ := h_7
  exact g_zret (ty := .boolean) (r := x_4) B K rfl (nar_z (rx_4)) ⟨rfl, rfl, rx_4, (fun hq => by have n_8 : ¬ x_4 = 0 := hq; have r_9 := ne_lo (lo := 1) n_8 rx_4 rc_0 rfl (by decide); have r_10 := le_r (((ex_4.1) n_8)) rc_0 (rg_all a0); have r_11 := le_l (((ex_4.2) n_8)) r_10 rx_3; have r_12 := le_r (((ex_4.2) n_8)) r_10 rx_3; have r_13 := rg_der (k := (-1)) (lo := 1) (hi := 6) (ti_s tx_3 rc_1 (by decide)) r_12 rx_2 (by decide) (by decide); exact r_11)⟩ dX12_isDish_13
set_option maxRecDepth 100000 in
set_option maxHeartbeats 8000000 in
theorem c_X12_isPerson {l : Launch} {D : va_G} {cy : Nat → ClassId} {L : List Nat} {κ ln : Nat → Nat} {R : Nat → Nat → Option Nat} {I : Nat → Nat → Int32} {J : Nat → Nat → Int64} {ow : Nat → Nat × Nat} (W9 : ∀ a ∈ L, Shp L κ ln R ow a) {x : Nat} (hLx : x ∈ L) (hkx : κ x = 12) (a0 : Int32) (hU : Iw L κ R ow I) : CtI l yX12_isPerson cX12_isPerson 2 (some .boolean) { frames := 1, cells := 0, slots := 0, locals := 22 } D cy L κ ln R I J [.ref x, .int a0] (fun r I2 J2 => I = I2 ∧ J = J2 ∧ Rg 0 1 r ∧ (¬ r = 0 → Rg 0 6 a0)) := by
  refine CtI.of (by decide +kernel) (Nat.le_of_ble_eq_true rfl) ?_
  intro p e s m below meth c B K
  have C := B.1
  obtain ⟨b_1, hb_1, hb_1L, hb_1k, hb_1n, hb_1o⟩ := shp_a (W9 x hLx) hkx 14 14 389 rfl (by decide)
  refine g_lo (is := [0, 1]) (lo2 := [(0, .ref x), (1, .int a0)]) rfl ?_
  refine g_iload_n C 1 dX12_isPerson_0 rfl rfl ?_
  refine g_iconst C (v := 0) dX12_isPerson_1 (by decide) ?_
  refine g_aload_n C 0 dX12_isPerson_2 rfl rfl ?_
  refine g_getR C K hLx hkx f_12_13 hb_1 dX12_isPerson_3 ?_
  refine g_iconst C (v := 0) dX12_isPerson_6 (by decide) ?_
  obtain ⟨x_2, hx_2, rx_2⟩ := ex_getw (I := I) (a := b_1) (j := 0) (lo := 0) (hi := 7) hU.1 hb_1L (ro_a hb_1k (by decide) hb_1o hkx rfl) (by decide)
  refine h_iald C K hb_1L hb_1k (v := x_2) (0) (by decide) (by decide) (by rw [hb_1n]; decide) hx_2 dX12_isPerson_7 ?_
  refine g_iconst C (v := 1) dX12_isPerson_8 (by decide) ?_
  obtain ⟨x_3, hx_3, rx_3, tx_3⟩ := ex_sub (-1) 6 rx_2 rc_1 (by decide) (by decide) (by decide) (by decide)
  refine g_isub C (v := x_3) dX12_isPerson_9 hx_3 ?_
  refine g_callSI C K (c_X12_isIn W9 a0 0 x_3 (rg_w rc_0 (by decide) (by decide)) (rg_w rx_3 (by decide) (by decide)) hU) s_12_149 rfl ⟨rfl, rfl⟩ ⟨Nat.le_of_ble_eq_true rfl, Nat.le_of_ble_eq_true rfl⟩ (Nat.le_of_ble_eq_true rfl) ⟨Nat.le_of_ble_eq_true rfl, Nat.le_of_ble_eq_true rfl⟩ dX12_isPerson_10 rfl (st := []) (fun x_4 I_5 J_6 h_7 => ?_)
  obtain ⟨rfl, rfl, rx_4, ex_4⟩ := h_7
  exact g_zret (ty := .boolean) (r := x_4) B K rfl (nar_z (rx_4)) ⟨rfl, rfl, rx_4, (fun hq => by have n_8 : ¬ x_4 = 0 := hq; have r_9 := ne_lo (lo := 1) n_8 rx_4 rc_0 rfl (by decide); have r_10 := le_r (((ex_4.1) n_8)) rc_0 (rg_all a0); have r_11 := le_l (((ex_4.2) n_8)) r_10 rx_3; have r_12 := le_r (((ex_4.2) n_8)) r_10 rx_3; have r_13 := rg_der (k := (-1)) (lo := 1) (hi := 7) (ti_s tx_3 rc_1 (by decide)) r_12 rx_2 (by decide) (by decide); exact r_11)⟩ dX12_isPerson_13
