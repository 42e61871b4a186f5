theorem dJ6_bitCount_0f7a4_0 : decode cJ6_bitCount_0f7a4 0 = .ok (.iload_n 0, 1) := by decide +kernel
theorem dJ6_bitCount_0f7a4_1 : decode cJ6_bitCount_0f7a4 1 = .ok (.iload_n 0, 1) := by decide +kernel
theorem dJ6_bitCount_0f7a4_2 : decode cJ6_bitCount_0f7a4 2 = .ok (.iconst 1, 1) := by decide +kernel
theorem dJ6_bitCount_0f7a4_3 : decode cJ6_bitCount_0f7a4 3 = .ok (.iushr, 1) := by decide +kernel
theorem dJ6_bitCount_0f7a4_4 : decode cJ6_bitCount_0f7a4 4 = .ok (.ldc_w 265, 3) := by decide +kernel
theorem dJ6_bitCount_0f7a4_7 : decode cJ6_bitCount_0f7a4 7 = .ok (.iand, 1) := by decide +kernel
theorem dJ6_bitCount_0f7a4_8 : decode cJ6_bitCount_0f7a4 8 = .ok (.isub, 1) := by decide +kernel
theorem dJ6_bitCount_0f7a4_9 : decode cJ6_bitCount_0f7a4 9 = .ok (.istore_n 0, 1) := by decide +kernel
theorem dJ6_bitCount_0f7a4_10 : decode cJ6_bitCount_0f7a4 10 = .ok (.iload_n 0, 1) := by decide +kernel
theorem dJ6_bitCount_0f7a4_11 : decode cJ6_bitCount_0f7a4 11 = .ok (.ldc_w 266, 3) := by decide +kernel
theorem dJ6_bitCount_0f7a4_14 : decode cJ6_bitCount_0f7a4 14 = .ok (.iand, 1) := by decide +kernel
theorem dJ6_bitCount_0f7a4_15 : decode cJ6_bitCount_0f7a4 15 = .ok (.iload_n 0, 1) := by decide +kernel
theorem dJ6_bitCount_0f7a4_16 : decode cJ6_bitCount_0f7a4 16 = .ok (.iconst 2, 1) := by decide +kernel
theorem dJ6_bitCount_0f7a4_17 : decode cJ6_bitCount_0f7a4 17 = .ok (.iushr, 1) := by decide +kernel
theorem dJ6_bitCount_0f7a4_18 : decode cJ6_bitCount_0f7a4 18 = .ok (.ldc_w 266, 3) := by decide +kernel
theorem dJ6_bitCount_0f7a4_21 : decode cJ6_bitCount_0f7a4 21 = .ok (.iand, 1) := by decide +kernel
theorem dJ6_bitCount_0f7a4_22 : decode cJ6_bitCount_0f7a4 22 = .ok (.iadd, 1) := by decide +kernel
theorem dJ6_bitCount_0f7a4_23 : decode cJ6_bitCount_0f7a4 23 = .ok (.istore_n 0, 1) := by decide +kernel
theorem dJ6_bitCount_0f7a4_24 : decode cJ6_bitCount_0f7a4 24 = .ok (.iload_n 0, 1) := by decide +kernel
theorem dJ6_bitCount_0f7a4_25 : decode cJ6_bitCount_0f7a4 25 = .ok (.iload_n 0, 1) := by decide +kernel
theorem dJ6_bitCount_0f7a4_26 : decode cJ6_bitCount_0f7a4 26 = .ok (.iconst 4, 1) := by decide +kernel
theorem dJ6_bitCount_0f7a4_27 : decode cJ6_bitCount_0f7a4 27 = .ok (.iushr, 1) := by decide +kernel
theorem dJ6_bitCount_0f7a4_28 : decode cJ6_bitCount_0f7a4 28 = .ok (.iadd, 1) := by decide +kernel
theorem dJ6_bitCount_0f7a4_29 : decode cJ6_bitCount_0f7a4 29 = .ok (.ldc_w 267, 3) := by decide +kernel
theorem dJ6_bitCount_0f7a4_32 : decode cJ6_bitCount_0f7a4 32 = .ok (.iand, 1) := by decide +kernel
theorem dJ6_bitCount_0f7a4_33 : decode cJ6_bitCount_0f7a4 33 = .ok (.istore_n 0, 1) := by decide +kernel
theorem dJ6_bitCount_0f7a4_34 : decode cJ6_bitCount_0f7a4 34 = .ok (.iload_n 0, 1) := by decide +kernel
theorem dJ6_bitCount_0f7a4_35 : decode cJ6_bitCount_0f7a4 35 = .ok (.iload_n 0, 1) := by decide +kernel
theorem dJ6_bitCount_0f7a4_36 : decode cJ6_bitCount_0f7a4 36 = .ok (.bipush 8, 2) := by decide +kernel
theorem dJ6_bitCount_0f7a4_38 : decode cJ6_bitCount_0f7a4 38 = .ok (.iushr, 1) := by decide +kernel
theorem dJ6_bitCount_0f7a4_39 : decode cJ6_bitCount_0f7a4 39 = .ok (.iadd, 1) := by decide +kernel
theorem dJ6_bitCount_0f7a4_40 : decode cJ6_bitCount_0f7a4 40 = .ok (.istore_n 0, 1) := by decide +kernel
theorem dJ6_bitCount_0f7a4_41 : decode cJ6_bitCount_0f7a4 41 = .ok (.iload_n 0, 1) := by decide +kernel
theorem dJ6_bitCount_0f7a4_42 : decode cJ6_bitCount_0f7a4 42 = .ok (.iload_n 0, 1) := by decide +kernel
theorem dJ6_bitCount_0f7a4_43 : decode cJ6_bitCount_0f7a4 43 = .ok (.bipush 16, 2) := by decide +kernel
theorem dJ6_bitCount_0f7a4_45 : decode cJ6_bitCount_0f7a4 45 = .ok (.iushr, 1) := by decide +kernel
theorem dJ6_bitCount_0f7a4_46 : decode cJ6_bitCount_0f7a4 46 = .ok (.iadd, 1) := by decide +kernel
theorem dJ6_bitCount_0f7a4_47 : decode cJ6_bitCount_0f7a4 47 = .ok (.istore_n 0, 1) := by decide +kernel
theorem dJ6_bitCount_0f7a4_48 : decode cJ6_bitCount_0f7a4 48 = .ok (.iload_n 0, 1) := by decide +kernel
theorem dJ6_bitCount_0f7a4_49 : decode cJ6_bitCount_0f7a4 49 = .ok (.bipush 63, 2) := by decide +kernel
theorem dJ6_bitCount_0f7a4_51 : decode cJ6_bitCount_0f7a4 51 = .ok (.iand, 1) := by decide +kernel
theorem dJ6_bitCount_0f7a4_52 : decode cJ6_bitCount_0f7a4 52 = .ok (.ireturn, 1) := by decide +kernel
theorem dX1_become_0 : decode cX1_become 0 = .ok (.aload_n 1, 1) := by decide +kernel
theorem dX1_become_1 : decode cX1_become 1 = .ok (.getfield 9, 3) := by decide +kernel
theorem dX1_become_4 : decode cX1_become 4 = .ok (.iconst 0, 1) := by decide +kernel
theorem dX1_become_5 : decode cX1_become 5 = .ok (.aload_n 0, 1) := by decide +kernel
theorem dX1_become_6 : decode cX1_become 6 = .ok (.getfield 9, 3) := by decide +kernel
theorem dX1_become_9 : decode cX1_become 9 = .ok (.iconst 0, 1) := by decide +kernel
theorem dX1_become_10 : decode cX1_become 10 = .ok (.bipush 6, 2) := by decide +kernel
theorem dX1_become_12 : decode cX1_become 12 = .ok (.invokestatic 56, 3) := by decide +kernel
theorem dX1_become_15 : decode cX1_become 15 = .ok (.aload_n 1, 1) := by decide +kernel
theorem dX1_become_16 : decode cX1_become 16 = .ok (.getfield 15, 3) := by decide +kernel
theorem dX1_become_19 : decode cX1_become 19 = .ok (.iconst 0, 1) := by decide +kernel
theorem dX1_become_20 : decode cX1_become 20 = .ok (.aload_n 0, 1) := by decide +kernel
theorem dX1_become_21 : decode cX1_become 21 = .ok (.getfield 15, 3) := by decide +kernel
theorem dX1_become_24 : decode cX1_become 24 = .ok (.iconst 0, 1) := by decide +kernel
theorem dX1_become_25 : decode cX1_become 25 = .ok (.bipush 42, 2) := by decide +kernel
theorem dX1_become_27 : decode cX1_become 27 = .ok (.invokestatic 56, 3) := by decide +kernel
theorem dX1_become_30 : decode cX1_become 30 = .ok (.aload_n 1, 1) := by decide +kernel
theorem dX1_become_31 : decode cX1_become 31 = .ok (.getfield 18, 3) := by decide +kernel
theorem dX1_become_34 : decode cX1_become 34 = .ok (.iconst 0, 1) := by decide +kernel
theorem dX1_become_35 : decode cX1_become 35 = .ok (.aload_n 0, 1) := by decide +kernel
theorem dX1_become_36 : decode cX1_become 36 = .ok (.getfield 18, 3) := by decide +kernel
theorem dX1_become_39 : decode cX1_become 39 = .ok (.iconst 0, 1) := by decide +kernel
theorem dX1_become_40 : decode cX1_become 40 = .ok (.bipush 7, 2) := by decide +kernel
theorem dX1_become_42 : decode cX1_become 42 = .ok (.invokestatic 56, 3) := by decide +kernel
theorem dX1_become_45 : decode cX1_become 45 = .ok (.aload_n 1, 1) := by decide +kernel
theorem dX1_become_46 : decode cX1_become 46 = .ok (.getfield 21, 3) := by decide +kernel
theorem dX1_become_49 : decode cX1_become 49 = .ok (.iconst 0, 1) := by decide +kernel
theorem dX1_become_50 : decode cX1_become 50 = .ok (.aload_n 0, 1) := by decide +kernel
theorem dX1_become_51 : decode cX1_become 51 = .ok (.getfield 21, 3) := by decide +kernel
theorem dX1_become_54 : decode cX1_become 54 = .ok (.iconst 0, 1) := by decide +kernel
theorem dX1_become_55 : decode cX1_become 55 = .ok (.bipush 7, 2) := by decide +kernel
theorem dX1_become_57 : decode cX1_become 57 = .ok (.invokestatic 56, 3) := by decide +kernel
theorem dX1_become_60 : decode cX1_become 60 = .ok (.aload_n 1, 1) := by decide +kernel
theorem dX1_become_61 : decode cX1_become 61 = .ok (.getfield 24, 3) := by decide +kernel
theorem dX1_become_64 : decode cX1_become 64 = .ok (.iconst 0, 1) := by decide +kernel
theorem dX1_become_65 : decode cX1_become 65 = .ok (.aload_n 0, 1) := by decide +kernel
theorem dX1_become_66 : decode cX1_become 66 = .ok (.getfield 24, 3) := by decide +kernel
theorem dX1_become_69 : decode cX1_become 69 = .ok (.iconst 0, 1) := by decide +kernel
theorem dX1_become_70 : decode cX1_become 70 = .ok (.bipush 7, 2) := by decide +kernel
theorem dX1_become_72 : decode cX1_become 72 = .ok (.invokestatic 56, 3) := by decide +kernel
theorem dX1_become_75 : decode cX1_become 75 = .ok (.aload_n 1, 1) := by decide +kernel
theorem dX1_become_76 : decode cX1_become 76 = .ok (.getfield 27, 3) := by decide +kernel
theorem dX1_become_79 : decode cX1_become 79 = .ok (.iconst 0, 1) := by decide +kernel
theorem dX1_become_80 : decode cX1_become 80 = .ok (.aload_n 0, 1) := by decide +kernel
theorem dX1_become_81 : decode cX1_become 81 = .ok (.getfield 27, 3) := by decide +kernel
theorem dX1_become_84 : decode cX1_become 84 = .ok (.iconst 0, 1) := by decide +kernel
theorem dX1_become_85 : decode cX1_become 85 = .ok (.bipush 7, 2) := by decide +kernel
theorem dX1_become_87 : decode cX1_become 87 = .ok (.invokestatic 56, 3) := by decide +kernel
theorem dX1_become_90 : decode cX1_become 90 = .ok (.aload_n 0, 1) := by decide +kernel
theorem dX1_become_91 : decode cX1_become 91 = .ok (.aload_n 1, 1) := by decide +kernel
theorem dX1_become_92 : decode cX1_become 92 = .ok (.getfield 30, 3) := by decide +kernel
theorem dX1_become_95 : decode cX1_become 95 = .ok (.putfield 30, 3) := by decide +kernel
theorem dX1_become_98 : decode cX1_become 98 = .ok (.aload_n 0, 1) := by decide +kernel
theorem dX1_become_99 : decode cX1_become 99 = .ok (.aload_n 1, 1) := by decide +kernel
theorem dX1_become_100 : decode cX1_become 100 = .ok (.getfield 34, 3) := by decide +kernel
theorem dX1_become_103 : decode cX1_become 103 = .ok (.putfield 34, 3) := by decide +kernel
theorem dX1_become_106 : decode cX1_become 106 = .ok (.aload_n 0, 1) := by decide +kernel
theorem dX1_become_107 : decode cX1_become 107 = .ok (.aload_n 1, 1) := by decide +kernel
theorem dX1_become_108 : decode cX1_become 108 = .ok (.getfield 37, 3) := by decide +kernel
theorem dX1_become_111 : decode cX1_become 111 = .ok (.putfield 37, 3) := by decide +kernel
theorem dX1_become_114 : decode cX1_become 114 = .ok (.aload_n 0, 1) := by decide +kernel
theorem dX1_become_115 : decode cX1_become 115 = .ok (.aload_n 1, 1) := by decide +kernel
theorem dX1_become_116 : decode cX1_become 116 = .ok (.getfield 40, 3) := by decide +kernel
theorem dX1_become_119 : decode cX1_become 119 = .ok (.putfield 40, 3) := by decide +kernel
theorem dX1_become_122 : decode cX1_become 122 = .ok (.aload_n 0, 1) := by decide +kernel
theorem dX1_become_123 : decode cX1_become 123 = .ok (.aload_n 1, 1) := by decide +kernel
theorem dX1_become_124 : decode cX1_become 124 = .ok (.getfield 43, 3) := by decide +kernel
theorem dX1_become_127 : decode cX1_become 127 = .ok (.putfield 43, 3) := by decide +kernel
theorem dX1_become_130 : decode cX1_become 130 = .ok (.aload_n 0, 1) := by decide +kernel
theorem dX1_become_131 : decode cX1_become 131 = .ok (.aload_n 1, 1) := by decide +kernel
theorem dX1_become_132 : decode cX1_become 132 = .ok (.getfield 46, 3) := by decide +kernel
theorem dX1_become_135 : decode cX1_become 135 = .ok (.putfield 46, 3) := by decide +kernel
theorem dX1_become_138 : decode cX1_become 138 = .ok (.return_, 1) := by decide +kernel
theorem dX1_forget_0 : decode cX1_forget 0 = .ok (.iconst 0, 1) := by decide +kernel
theorem dX1_forget_1 : decode cX1_forget 1 = .ok (.istore_n 1, 1) := by decide +kernel
theorem dX1_forget_2 : decode cX1_forget 2 = .ok (.iload_n 1, 1) := by decide +kernel
theorem dX1_forget_3 : decode cX1_forget 3 = .ok (.bipush 6, 2) := by decide +kernel
theorem dX1_forget_5 : decode cX1_forget 5 = .ok (.if_icmp .ge 16, 3) := by decide +kernel
theorem dX1_forget_8 : decode cX1_forget 8 = .ok (.aload_n 0, 1) := by decide +kernel
theorem dX1_forget_9 : decode cX1_forget 9 = .ok (.getfield 9, 3) := by decide +kernel
theorem dX1_forget_12 : decode cX1_forget 12 = .ok (.iload_n 1, 1) := by decide +kernel
theorem dX1_forget_13 : decode cX1_forget 13 = .ok (.iconst 0, 1) := by decide +kernel
theorem dX1_forget_14 : decode cX1_forget 14 = .ok (.iastore, 1) := by decide +kernel
theorem dX1_forget_15 : decode cX1_forget 15 = .ok (.iinc 1 1, 3) := by decide +kernel
theorem dX1_forget_18 : decode cX1_forget 18 = .ok (.goto (-16), 3) := by decide +kernel
theorem dX1_forget_21 : decode cX1_forget 21 = .ok (.iconst 0, 1) := by decide +kernel
theorem dX1_forget_22 : decode cX1_forget 22 = .ok (.istore_n 1, 1) := by decide +kernel
theorem dX1_forget_23 : decode cX1_forget 23 = .ok (.iload_n 1, 1) := by decide +kernel
theorem dX1_forget_24 : decode cX1_forget 24 = .ok (.bipush 42, 2) := by decide +kernel
theorem dX1_forget_26 : decode cX1_forget 26 = .ok (.if_icmp .ge 16, 3) := by decide +kernel
theorem dX1_forget_29 : decode cX1_forget 29 = .ok (.aload_n 0, 1) := by decide +kernel
theorem dX1_forget_30 : decode cX1_forget 30 = .ok (.getfield 15, 3) := by decide +kernel
theorem dX1_forget_33 : decode cX1_forget 33 = .ok (.iload_n 1, 1) := by decide +kernel
theorem dX1_forget_34 : decode cX1_forget 34 = .ok (.iconst 0, 1) := by decide +kernel
theorem dX1_forget_35 : decode cX1_forget 35 = .ok (.iastore, 1) := by decide +kernel
theorem dX1_forget_36 : decode cX1_forget 36 = .ok (.iinc 1 1, 3) := by decide +kernel
theorem dX1_forget_39 : decode cX1_forget 39 = .ok (.goto (-16), 3) := by decide +kernel
theorem dX1_forget_42 : decode cX1_forget 42 = .ok (.iconst 0, 1) := by decide +kernel
theorem dX1_forget_43 : decode cX1_forget 43 = .ok (.istore_n 1, 1) := by decide +kernel
theorem dX1_forget_44 : decode cX1_forget 44 = .ok (.iload_n 1, 1) := by decide +kernel
theorem dX1_forget_45 : decode cX1_forget 45 = .ok (.bipush 7, 2) := by decide +kernel
theorem dX1_forget_47 : decode cX1_forget 47 = .ok (.if_icmp .ge 37, 3) := by decide +kernel
theorem dX1_forget_50 : decode cX1_forget 50 = .ok (.aload_n 0, 1) := by decide +kernel
theorem dX1_forget_51 : decode cX1_forget 51 = .ok (.getfield 18, 3) := by decide +kernel
theorem dX1_forget_54 : decode cX1_forget 54 = .ok (.iload_n 1, 1) := by decide +kernel
theorem dX1_forget_55 : decode cX1_forget 55 = .ok (.iconst 0, 1) := by decide +kernel
theorem dX1_forget_56 : decode cX1_forget 56 = .ok (.iastore, 1) := by decide +kernel
theorem dX1_forget_57 : decode cX1_forget 57 = .ok (.aload_n 0, 1) := by decide +kernel
theorem dX1_forget_58 : decode cX1_forget 58 = .ok (.getfield 21, 3) := by decide +kernel
theorem dX1_forget_61 : decode cX1_forget 61 = .ok (.iload_n 1, 1) := by decide +kernel
theorem dX1_forget_62 : decode cX1_forget 62 = .ok (.iconst 0, 1) := by decide +kernel
theorem dX1_forget_63 : decode cX1_forget 63 = .ok (.iastore, 1) := by decide +kernel
theorem dX1_forget_64 : decode cX1_forget 64 = .ok (.aload_n 0, 1) := by decide +kernel
theorem dX1_forget_65 : decode cX1_forget 65 = .ok (.getfield 24, 3) := by decide +kernel
theorem dX1_forget_68 : decode cX1_forget 68 = .ok (.iload_n 1, 1) := by decide +kernel
theorem dX1_forget_69 : decode cX1_forget 69 = .ok (.iconst 0, 1) := by decide +kernel
theorem dX1_forget_70 : decode cX1_forget 70 = .ok (.iastore, 1) := by decide +kernel
theorem dX1_forget_71 : decode cX1_forget 71 = .ok (.aload_n 0, 1) := by decide +kernel
theorem dX1_forget_72 : decode cX1_forget 72 = .ok (.getfield 27, 3) := by decide +kernel
theorem dX1_forget_75 : decode cX1_forget 75 = .ok (.iload_n 1, 1) := by decide +kernel
theorem dX1_forget_76 : decode cX1_forget 76 = .ok (.iconst 0, 1) := by decide +kernel
theorem dX1_forget_77 : decode cX1_forget 77 = .ok (.iastore, 1) := by decide +kernel
theorem dX1_forget_78 : decode cX1_forget 78 = .ok (.iinc 1 1, 3) := by decide +kernel
theorem dX1_forget_81 : decode cX1_forget 81 = .ok (.goto (-37), 3) := by decide +kernel
theorem dX1_forget_84 : decode cX1_forget 84 = .ok (.aload_n 0, 1) := by decide +kernel
theorem dX1_forget_85 : decode cX1_forget 85 = .ok (.iconst 0, 1) := by decide +kernel
theorem dX1_forget_86 : decode cX1_forget 86 = .ok (.putfield 30, 3) := by decide +kernel
theorem dX1_forget_89 : decode cX1_forget 89 = .ok (.aload_n 0, 1) := by decide +kernel
theorem dX1_forget_90 : decode cX1_forget 90 = .ok (.iconst 0, 1) := by decide +kernel
theorem dX1_forget_91 : decode cX1_forget 91 = .ok (.putfield 34, 3) := by decide +kernel
theorem dX1_forget_94 : decode cX1_forget 94 = .ok (.aload_n 0, 1) := by decide +kernel
theorem dX1_forget_95 : decode cX1_forget 95 = .ok (.iconst 0, 1) := by decide +kernel
theorem dX1_forget_96 : decode cX1_forget 96 = .ok (.putfield 37, 3) := by decide +kernel
theorem dX1_forget_99 : decode cX1_forget 99 = .ok (.aload_n 0, 1) := by decide +kernel
theorem dX1_forget_100 : decode cX1_forget 100 = .ok (.iconst 0, 1) := by decide +kernel
theorem dX1_forget_101 : decode cX1_forget 101 = .ok (.putfield 40, 3) := by decide +kernel
theorem dX1_forget_104 : decode cX1_forget 104 = .ok (.aload_n 0, 1) := by decide +kernel
theorem dX1_forget_105 : decode cX1_forget 105 = .ok (.iconst 0, 1) := by decide +kernel
theorem dX1_forget_106 : decode cX1_forget 106 = .ok (.putfield 43, 3) := by decide +kernel
theorem dX1_forget_109 : decode cX1_forget 109 = .ok (.aload_n 0, 1) := by decide +kernel
theorem dX1_forget_110 : decode cX1_forget 110 = .ok (.iconst 0, 1) := by decide +kernel
theorem dX1_forget_111 : decode cX1_forget 111 = .ok (.putfield 46, 3) := by decide +kernel
theorem dX1_forget_114 : decode cX1_forget 114 = .ok (.return_, 1) := by decide +kernel
theorem dX8_become_0 : decode cX8_become 0 = .ok (.aload_n 1, 1) := by decide +kernel
theorem dX8_become_1 : decode cX8_become 1 = .ok (.getfield 9, 3) := by decide +kernel
theorem dX8_become_4 : decode cX8_become 4 = .ok (.iconst 0, 1) := by decide +kernel
theorem dX8_become_5 : decode cX8_become 5 = .ok (.aload_n 0, 1) := by decide +kernel
theorem dX8_become_6 : decode cX8_become 6 = .ok (.getfield 9, 3) := by decide +kernel
theorem dX8_become_9 : decode cX8_become 9 = .ok (.iconst 0, 1) := by decide +kernel
theorem dX8_become_10 : decode cX8_become 10 = .ok (.bipush 7, 2) := by decide +kernel
theorem dX8_become_12 : decode cX8_become 12 = .ok (.invokestatic 41, 3) := by decide +kernel
theorem dX8_become_15 : decode cX8_become 15 = .ok (.aload_n 1, 1) := by decide +kernel
theorem dX8_become_16 : decode cX8_become 16 = .ok (.getfield 15, 3) := by decide +kernel
theorem dX8_become_19 : decode cX8_become 19 = .ok (.iconst 0, 1) := by decide +kernel
theorem dX8_become_20 : decode cX8_become 20 = .ok (.aload_n 0, 1) := by decide +kernel
theorem dX8_become_21 : decode cX8_become 21 = .ok (.getfield 15, 3) := by decide +kernel
theorem dX8_become_24 : decode cX8_become 24 = .ok (.iconst 0, 1) := by decide +kernel
theorem dX8_become_25 : decode cX8_become 25 = .ok (.bipush 7, 2) := by decide +kernel
theorem dX8_become_27 : decode cX8_become 27 = .ok (.invokestatic 41, 3) := by decide +kernel
theorem dX8_become_30 : decode cX8_become 30 = .ok (.aload_n 1, 1) := by decide +kernel
theorem dX8_become_31 : decode cX8_become 31 = .ok (.getfield 19, 3) := by decide +kernel
theorem dX8_become_34 : decode cX8_become 34 = .ok (.iconst 0, 1) := by decide +kernel
theorem dX8_become_35 : decode cX8_become 35 = .ok (.aload_n 0, 1) := by decide +kernel
theorem dX8_become_36 : decode cX8_become 36 = .ok (.getfield 19, 3) := by decide +kernel
theorem dX8_become_39 : decode cX8_become 39 = .ok (.iconst 0, 1) := by decide +kernel
theorem dX8_become_40 : decode cX8_become 40 = .ok (.bipush 7, 2) := by decide +kernel
theorem dX8_become_42 : decode cX8_become 42 = .ok (.invokestatic 41, 3) := by decide +kernel
theorem dX8_become_45 : decode cX8_become 45 = .ok (.aload_n 1, 1) := by decide +kernel
theorem dX8_become_46 : decode cX8_become 46 = .ok (.getfield 22, 3) := by decide +kernel
theorem dX8_become_49 : decode cX8_become 49 = .ok (.iconst 0, 1) := by decide +kernel
theorem dX8_become_50 : decode cX8_become 50 = .ok (.aload_n 0, 1) := by decide +kernel
theorem dX8_become_51 : decode cX8_become 51 = .ok (.getfield 22, 3) := by decide +kernel
theorem dX8_become_54 : decode cX8_become 54 = .ok (.iconst 0, 1) := by decide +kernel
theorem dX8_become_55 : decode cX8_become 55 = .ok (.bipush 6, 2) := by decide +kernel
theorem dX8_become_57 : decode cX8_become 57 = .ok (.invokestatic 41, 3) := by decide +kernel
theorem dX8_become_60 : decode cX8_become 60 = .ok (.aload_n 1, 1) := by decide +kernel
theorem dX8_become_61 : decode cX8_become 61 = .ok (.getfield 25, 3) := by decide +kernel
theorem dX8_become_64 : decode cX8_become 64 = .ok (.iconst 0, 1) := by decide +kernel
theorem dX8_become_65 : decode cX8_become 65 = .ok (.aload_n 0, 1) := by decide +kernel
theorem dX8_become_66 : decode cX8_become 66 = .ok (.getfield 25, 3) := by decide +kernel
theorem dX8_become_69 : decode cX8_become 69 = .ok (.iconst 0, 1) := by decide +kernel
theorem dX8_become_70 : decode cX8_become 70 = .ok (.bipush 6, 2) := by decide +kernel
theorem dX8_become_72 : decode cX8_become 72 = .ok (.invokestatic 41, 3) := by decide +kernel
theorem dX8_become_75 : decode cX8_become 75 = .ok (.aload_n 0, 1) := by decide +kernel
theorem dX8_become_76 : decode cX8_become 76 = .ok (.aload_n 1, 1) := by decide +kernel
theorem dX8_become_77 : decode cX8_become 77 = .ok (.getfield 28, 3) := by decide +kernel
theorem dX8_become_80 : decode cX8_become 80 = .ok (.putfield 28, 3) := by decide +kernel
theorem dX8_become_83 : decode cX8_become 83 = .ok (.aload_n 0, 1) := by decide +kernel
theorem dX8_become_84 : decode cX8_become 84 = .ok (.aload_n 1, 1) := by decide +kernel
theorem dX8_become_85 : decode cX8_become 85 = .ok (.getfield 32, 3) := by decide +kernel
theorem dX8_become_88 : decode cX8_become 88 = .ok (.putfield 32, 3) := by decide +kernel
theorem dX8_become_91 : decode cX8_become 91 = .ok (.aload_n 0, 1) := by decide +kernel
theorem dX8_become_92 : decode cX8_become 92 = .ok (.aload_n 1, 1) := by decide +kernel
theorem dX8_become_93 : decode cX8_become 93 = .ok (.getfield 35, 3) := by decide +kernel
theorem dX8_become_96 : decode cX8_become 96 = .ok (.putfield 35, 3) := by decide +kernel
theorem dX8_become_99 : decode cX8_become 99 = .ok (.aload_n 0, 1) := by decide +kernel
theorem dX8_become_100 : decode cX8_become 100 = .ok (.aload_n 1, 1) := by decide +kernel
theorem dX8_become_101 : decode cX8_become 101 = .ok (.getfield 38, 3) := by decide +kernel
theorem dX8_become_104 : decode cX8_become 104 = .ok (.putfield 38, 3) := by decide +kernel
theorem dX8_become_107 : decode cX8_become 107 = .ok (.return_, 1) := by decide +kernel
theorem dX8_everybody_0 : decode cX8_everybody 0 = .ok (.iconst 1, 1) := by decide +kernel
theorem dX8_everybody_1 : decode cX8_everybody 1 = .ok (.aload_n 0, 1) := by decide +kernel
theorem dX8_everybody_2 : decode cX8_everybody 2 = .ok (.getfield 28, 3) := by decide +kernel
theorem dX8_everybody_5 : decode cX8_everybody 5 = .ok (.ishl, 1) := by decide +kernel
theorem dX8_everybody_6 : decode cX8_everybody 6 = .ok (.iconst 1, 1) := by decide +kernel
theorem dX8_everybody_7 : decode cX8_everybody 7 = .ok (.isub, 1) := by decide +kernel
theorem dX8_everybody_8 : decode cX8_everybody 8 = .ok (.ireturn, 1) := by decide +kernel
theorem dX8_forget_0 : decode cX8_forget 0 = .ok (.aload_n 0, 1) := by decide +kernel
theorem dX8_forget_1 : decode cX8_forget 1 = .ok (.iconst 0, 1) := by decide +kernel
theorem dX8_forget_2 : decode cX8_forget 2 = .ok (.putfield 28, 3) := by decide +kernel
theorem dX8_forget_5 : decode cX8_forget 5 = .ok (.aload_n 0, 1) := by decide +kernel
theorem dX8_forget_6 : decode cX8_forget 6 = .ok (.iconst 0, 1) := by decide +kernel
theorem dX8_forget_7 : decode cX8_forget 7 = .ok (.putfield 32, 3) := by decide +kernel
theorem dX8_forget_10 : decode cX8_forget 10 = .ok (.aload_n 0, 1) := by decide +kernel
theorem dX8_forget_11 : decode cX8_forget 11 = .ok (.iconst 0, 1) := by decide +kernel
theorem dX8_forget_12 : decode cX8_forget 12 = .ok (.putfield 35, 3) := by decide +kernel
theorem dX8_forget_15 : decode cX8_forget 15 = .ok (.aload_n 0, 1) := by decide +kernel
theorem dX8_forget_16 : decode cX8_forget 16 = .ok (.iconst 0, 1) := by decide +kernel
theorem dX8_forget_17 : decode cX8_forget 17 = .ok (.putfield 38, 3) := by decide +kernel
theorem dX8_forget_20 : decode cX8_forget 20 = .ok (.return_, 1) := by decide +kernel
set_option maxRecDepth 100000 in
set_option maxHeartbeats 4000000 in
theorem c_bitCount0 {l : Launch} {D : va_G} {cy : Nat → ClassId} {L : List Nat} {κ ln : Nat → Nat} {R : Nat → Nat → Option Nat} {I : Nat → Nat → Int32} {J : Nat → Nat → Int64}  : CtI l yJ6_bitCount_0f7a4 cJ6_bitCount_0f7a4 1 (some .int) { frames := 0, cells := 0, slots := 0, locals := 0 } D cy L κ ln R I J [.int 0] (fun r I2 J2 => I = I2 ∧ J = J2 ∧ r = 0) := by
  refine CtI.of (by decide +kernel) (Nat.le_of_ble_eq_true rfl) ?_
  intro p e s m below meth c B K
  have C := B.1
  refine g_lo (is := [0]) (lo2 := [(0, .int 0)]) rfl ?_
  refine g_iload_n C 0 dJ6_bitCount_0f7a4_0 rfl rfl ?_
  refine g_iload_n C 0 dJ6_bitCount_0f7a4_1 rfl rfl ?_
  refine g_iconst C (v := 1) dJ6_bitCount_0f7a4_2 (by decide) ?_
  refine g_iushr C (v := 0) dJ6_bitCount_0f7a4_3 (by decide) ?_
  refine g_ldcw C k_Integer_265 dJ6_bitCount_0f7a4_4 ?_
  refine g_iand C (v := 0) dJ6_bitCount_0f7a4_7 (by decide) ?_
  refine g_isub C (v := 0) dJ6_bitCount_0f7a4_8 (by decide) ?_
  refine g_istore_n C dJ6_bitCount_0f7a4_9 rfl (by decide) (lo2 := [(0, .int 0)]) rfl ?_
  refine g_iload_n C 0 dJ6_bitCount_0f7a4_10 rfl rfl ?_
  refine g_ldcw C k_Integer_266 dJ6_bitCount_0f7a4_11 ?_
  refine g_iand C (v := 0) dJ6_bitCount_0f7a4_14 (by decide) ?_
  refine g_iload_n C 0 dJ6_bitCount_0f7a4_15 rfl rfl ?_
  refine g_iconst C (v := 2) dJ6_bitCount_0f7a4_16 (by decide) ?_
  refine g_iushr C (v := 0) dJ6_bitCount_0f7a4_17 (by decide) ?_
  refine g_ldcw C k_Integer_266 dJ6_bitCount_0f7a4_18 ?_
  refine g_iand C (v := 0) dJ6_bitCount_0f7a4_21 (by decide) ?_
  refine g_iadd C (v := 0) dJ6_bitCount_0f7a4_22 (by decide) ?_
  refine g_istore_n C dJ6_bitCount_0f7a4_23 rfl (by decide) (lo2 := [(0, .int 0)]) rfl ?_
  refine g_iload_n C 0 dJ6_bitCount_0f7a4_24 rfl rfl ?_
  refine g_iload_n C 0 dJ6_bitCount_0f7a4_25 rfl rfl ?_
  refine g_iconst C (v := 4) dJ6_bitCount_0f7a4_26 (by decide) ?_
  refine g_iushr C (v := 0) dJ6_bitCount_0f7a4_27 (by decide) ?_
  refine g_iadd C (v := 0) dJ6_bitCount_0f7a4_28 (by decide) ?_
  refine g_ldcw C k_Integer_267 dJ6_bitCount_0f7a4_29 ?_
  refine g_iand C (v := 0) dJ6_bitCount_0f7a4_32 (by decide) ?_
  refine g_istore_n C dJ6_bitCount_0f7a4_33 rfl (by decide) (lo2 := [(0, .int 0)]) rfl ?_
  refine g_iload_n C 0 dJ6_bitCount_0f7a4_34 rfl rfl ?_
  refine g_iload_n C 0 dJ6_bitCount_0f7a4_35 rfl rfl ?_
  refine g_bipush C (v := 8) dJ6_bitCount_0f7a4_36 (by decide) ?_
  refine g_iushr C (v := 0) dJ6_bitCount_0f7a4_38 (by decide) ?_
  refine g_iadd C (v := 0) dJ6_bitCount_0f7a4_39 (by decide) ?_
  refine g_istore_n C dJ6_bitCount_0f7a4_40 rfl (by decide) (lo2 := [(0, .int 0)]) rfl ?_
  refine g_iload_n C 0 dJ6_bitCount_0f7a4_41 rfl rfl ?_
  refine g_iload_n C 0 dJ6_bitCount_0f7a4_42 rfl rfl ?_
  refine g_bipush C (v := 16) dJ6_bitCount_0f7a4_43 (by decide) ?_
  refine g_iushr C (v := 0) dJ6_bitCount_0f7a4_45 (by decide) ?_
  refine g_iadd C (v := 0) dJ6_bitCount_0f7a4_46 (by decide) ?_
  refine g_istore_n C dJ6_bitCount_0f7a4_47 rfl (by decide) (lo2 := [(0, .int 0)]) rfl ?_
  refine g_iload_n C 0 dJ6_bitCount_0f7a4_48 rfl rfl ?_
  refine g_bipush C (v := 63) dJ6_bitCount_0f7a4_49 (by decide) ?_
  refine g_iand C (v := 0) dJ6_bitCount_0f7a4_51 (by decide) ?_
  exact g_zret (ty := .int) (r := 0) B K rfl rfl (⟨rfl, rfl, rfl⟩) dJ6_bitCount_0f7a4_52
set_option maxRecDepth 100000 in
set_option maxHeartbeats 4000000 in
theorem c_Table_everybody0 {l : Launch} {D : va_G} {cy : Nat → ClassId} {L : List Nat} {κ ln : Nat → Nat} {R : Nat → Nat → Option Nat} {I : Nat → Nat → Int32} {J : Nat → Nat → Int64} {a : Nat} (hLa : a ∈ L) (hka : κ a = 8) (h5 : I a 5 = 0) : CtI l yX8_everybody cX8_everybody 1 (some .int) { frames := 0, cells := 0, slots := 0, locals := 0 } D cy L κ ln R I J [.ref a] (fun r I2 J2 => I = I2 ∧ J = J2 ∧ r = 0) := by
  refine CtI.of (by decide +kernel) (Nat.le_of_ble_eq_true rfl) ?_
  intro p e s m below meth c B K
  have C := B.1
  refine g_lo (is := [0]) (lo2 := [(0, .ref a)]) rfl ?_
  refine g_iconst C (v := 1) dX8_everybody_0 (by decide) ?_
  refine g_aload_n C 0 dX8_everybody_1 rfl rfl ?_
  refine g_getI C K hLa hka f_8_28 (v := 0) (h5) dX8_everybody_2 ?_
  refine g_ishl C (v := 1) dX8_everybody_5 (by decide) ?_
  refine g_iconst C (v := 1) dX8_everybody_6 (by decide) ?_
  refine g_isub C (v := 0) dX8_everybody_7 (by decide) ?_
  exact g_zret (ty := .int) (r := 0) B K rfl rfl (⟨rfl, rfl, rfl⟩) dX8_everybody_8
set_option maxRecDepth 100000 in
set_option maxHeartbeats 4000000 in
theorem c_Table_forget {l : Launch} {D : va_G} {cy : Nat → ClassId} {L : List Nat} {κ ln : Nat → Nat} {R : Nat → Nat → Option Nat} {I : Nat → Nat → Int32} {J : Nat → Nat → Int64} {a : Nat} (hLa : a ∈ L) (hka : κ a = 8) (Z8 : Zk L κ 8 I) : CtV l yX8_forget cX8_forget 1 none { frames := 0, cells := 0, slots := 0, locals := 0 } D cy L κ ln R I J [.ref a] (fun I2 J2 => J = J2 ∧ Fk κ [8] I I2 ∧ Zk L κ 8 I2) := by
  refine CtV.of (by decide +kernel) (Nat.le_of_ble_eq_true rfl) ?_
  intro p e s m below meth c B K
  have C := B.1
  refine g_lo (is := [0]) (lo2 := [(0, .ref a)]) rfl ?_
  refine g_aload_n C 0 dX8_forget_0 rfl rfl ?_
  refine g_iconst C (v := 0) dX8_forget_1 (by decide) ?_
  refine h_putI C K hLa hka f_8_28 p_8_5 dX8_forget_2 (fun I_29 hI_29 => ?_)
  refine g_aload_n C 0 dX8_forget_5 rfl rfl ?_
  refine g_iconst C (v := 0) dX8_forget_6 (by decide) ?_
  refine h_putI C K hLa hka f_8_32 p_8_6 dX8_forget_7 (fun I_30 hI_30 => ?_)
  refine g_aload_n C 0 dX8_forget_10 rfl rfl ?_
  refine g_iconst C (v := 0) dX8_forget_11 (by decide) ?_
  refine h_putI C K hLa hka f_8_35 p_8_7 dX8_forget_12 (fun I_31 hI_31 => ?_)
  refine g_aload_n C 0 dX8_forget_15 rfl rfl ?_
  refine g_iconst C (v := 0) dX8_forget_16 (by decide) ?_
  refine h_putI C K hLa hka f_8_38 p_8_8 dX8_forget_17 (fun I_32 hI_32 => ?_)
  exact g_vret B K rfl (⟨rfl, ((((Fk.rf).u2 hI_29 hka (by decide)).u2 hI_30 hka (by decide)).u2 hI_31 hka (by decide)).u2 hI_32 hka (by decide), ((((Z8).u2 hI_29 rfl).u2 hI_30 rfl).u2 hI_31 rfl).u2 hI_32 rfl⟩) dX8_forget_20
set_option maxRecDepth 100000 in
set_option maxHeartbeats 4000000 in
theorem c_Table_become {l : Launch} {D : va_G} {cy : Nat → ClassId} {L : List Nat} {κ ln : Nat → Nat} {R : Nat → Nat → Option Nat} {I : Nat → Nat → Int32} {J : Nat → Nat → Int64} {ow : Nat → Nat × Nat} (W9 : ∀ a ∈ L, Shp L κ ln R ow a) {a : Nat} (hLa : a ∈ L) (hka : κ a = 8) {b : Nat} (hLb : b ∈ L) (hkb : κ b = 8) (Z8 : Zk L κ 8 I) : CtV l yX8_become cX8_become 2 none { frames := 1, cells := 0, slots := 0, locals := 100 } D cy L κ ln R I J [.ref a, .ref b] (fun I2 J2 => Fj κ [15] J J2 ∧ Fk κ [8, 14] I I2 ∧ Zk L κ 8 I2) := by
  refine CtV.of (by decide +kernel) (Nat.le_of_ble_eq_true rfl) ?_
  intro p e s m below meth c B K
  have C := B.1
  refine g_lo (is := [0, 1]) (lo2 := [(0, .ref a), (1, .ref b)]) rfl ?_
  refine g_aload_n C 1 dX8_become_0 rfl rfl ?_
  obtain ⟨b_33, hb_33, hb_33L, hb_33k, hb_33n, hb_33o⟩ := shp_a (W9 b hLb) hkb 0 15 7 rfl (by decide)
  refine g_getR C K hLb hkb f_8_9 hb_33 dX8_become_1 ?_
  refine g_iconst C (v := 0) dX8_become_4 (by decide) ?_
  refine g_aload_n C 0 dX8_become_5 rfl rfl ?_
  obtain ⟨b_34, hb_34, hb_34L, hb_34k, hb_34n, hb_34o⟩ := shp_a (W9 a hLa) hka 0 15 7 rfl (by decide)
  refine g_getR C K hLa hka f_8_9 hb_34 dX8_become_6 ?_
  refine g_iconst C (v := 0) dX8_become_9 (by decide) ?_
  refine g_bipush C (v := 7) dX8_become_10 (by decide) ?_
  refine h_copyJ C K hb_34L hb_34k hb_33L hb_33k ac_8_41 7 (by decide) (by decide) (by rw [hb_33n]; decide) (by rw [hb_34n]; decide) w_cp (Nat.le_of_ble_eq_true rfl) (Nat.le_of_ble_eq_true rfl) dX8_become_12 (fun J_35 hJ_35 => ?_)
  refine g_aload_n C 1 dX8_become_15 rfl rfl ?_
  obtain ⟨b_36, hb_36, hb_36L, hb_36k, hb_36n, hb_36o⟩ := shp_a (W9 b hLb) hkb 1 14 7 rfl (by decide)
  refine g_getR C K hLb hkb f_8_15 hb_36 dX8_become_16 ?_
  refine g_iconst C (v := 0) dX8_become_19 (by decide) ?_
  refine g_aload_n C 0 dX8_become_20 rfl rfl ?_
  obtain ⟨b_37, hb_37, hb_37L, hb_37k, hb_37n, hb_37o⟩ := shp_a (W9 a hLa) hka 1 14 7 rfl (by decide)
  refine g_getR C K hLa hka f_8_15 hb_37 dX8_become_21 ?_
  refine g_iconst C (v := 0) dX8_become_24 (by decide) ?_
  refine g_bipush C (v := 7) dX8_become_25 (by decide) ?_
  refine h_copyI C K hb_37L hb_37k hb_36L hb_36k ac_8_41 7 (by decide) (by decide) (by rw [hb_36n]; decide) (by rw [hb_37n]; decide) w_cp (Nat.le_of_ble_eq_true rfl) (Nat.le_of_ble_eq_true rfl) dX8_become_27 (fun I_38 hI_38 => ?_)
  refine g_aload_n C 1 dX8_become_30 rfl rfl ?_
  obtain ⟨b_39, hb_39, hb_39L, hb_39k, hb_39n, hb_39o⟩ := shp_a (W9 b hLb) hkb 2 14 7 rfl (by decide)
  refine g_getR C K hLb hkb f_8_19 hb_39 dX8_become_31 ?_
  refine g_iconst C (v := 0) dX8_become_34 (by decide) ?_
  refine g_aload_n C 0 dX8_become_35 rfl rfl ?_
  obtain ⟨b_40, hb_40, hb_40L, hb_40k, hb_40n, hb_40o⟩ := shp_a (W9 a hLa) hka 2 14 7 rfl (by decide)
  refine g_getR C K hLa hka f_8_19 hb_40 dX8_become_36 ?_
  refine g_iconst C (v := 0) dX8_become_39 (by decide) ?_
  refine g_bipush C (v := 7) dX8_become_40 (by decide) ?_
  refine h_copyI C K hb_40L hb_40k hb_39L hb_39k ac_8_41 7 (by decide) (by decide) (by rw [hb_39n]; decide) (by rw [hb_40n]; decide) w_cp (Nat.le_of_ble_eq_true rfl) (Nat.le_of_ble_eq_true rfl) dX8_become_42 (fun I_41 hI_41 => ?_)
  refine g_aload_n C 1 dX8_become_45 rfl rfl ?_
  obtain ⟨b_42, hb_42, hb_42L, hb_42k, hb_42n, hb_42o⟩ := shp_a (W9 b hLb) hkb 3 15 6 rfl (by decide)
  refine g_getR C K hLb hkb f_8_22 hb_42 dX8_become_46 ?_
  refine g_iconst C (v := 0) dX8_become_49 (by decide) ?_
  refine g_aload_n C 0 dX8_become_50 rfl rfl ?_
  obtain ⟨b_43, hb_43, hb_43L, hb_43k, hb_43n, hb_43o⟩ := shp_a (W9 a hLa) hka 3 15 6 rfl (by decide)
  refine g_getR C K hLa hka f_8_22 hb_43 dX8_become_51 ?_
  refine g_iconst C (v := 0) dX8_become_54 (by decide) ?_
  refine g_bipush C (v := 6) dX8_become_55 (by decide) ?_
  refine h_copyJ C K hb_43L hb_43k hb_42L hb_42k ac_8_41 6 (by decide) (by decide) (by rw [hb_42n]; decide) (by rw [hb_43n]; decide) w_cp (Nat.le_of_ble_eq_true rfl) (Nat.le_of_ble_eq_true rfl) dX8_become_57 (fun J_44 hJ_44 => ?_)
  refine g_aload_n C 1 dX8_become_60 rfl rfl ?_
  obtain ⟨b_45, hb_45, hb_45L, hb_45k, hb_45n, hb_45o⟩ := shp_a (W9 b hLb) hkb 4 14 6 rfl (by decide)
  refine g_getR C K hLb hkb f_8_25 hb_45 dX8_become_61 ?_
  refine g_iconst C (v := 0) dX8_become_64 (by decide) ?_
  refine g_aload_n C 0 dX8_become_65 rfl rfl ?_
  obtain ⟨b_46, hb_46, hb_46L, hb_46k, hb_46n, hb_46o⟩ := shp_a (W9 a hLa) hka 4 14 6 rfl (by decide)
  refine g_getR C K hLa hka f_8_25 hb_46 dX8_become_66 ?_
  refine g_iconst C (v := 0) dX8_become_69 (by decide) ?_
  refine g_bipush C (v := 6) dX8_become_70 (by decide) ?_
  refine h_copyI C K hb_46L hb_46k hb_45L hb_45k ac_8_41 6 (by decide) (by decide) (by rw [hb_45n]; decide) (by rw [hb_46n]; decide) w_cp (Nat.le_of_ble_eq_true rfl) (Nat.le_of_ble_eq_true rfl) dX8_become_72 (fun I_47 hI_47 => ?_)
  refine g_aload_n C 0 dX8_become_75 rfl rfl ?_
  refine g_aload_n C 1 dX8_become_76 rfl rfl ?_
  refine g_getI C K hLb hkb f_8_28 (v := 0) (by rw [hI_47, k2_k (κ := κ) (by rw [hkb, hb_46k]; decide), hI_41, k2_k (κ := κ) (by rw [hkb, hb_40k]; decide), hI_38, k2_k (κ := κ) (by rw [hkb, hb_37k]; decide)]; exact Z8 b hLb hkb 5) dX8_become_77 ?_
  refine h_putI C K hLa hka f_8_28 p_8_5 dX8_become_80 (fun I_48 hI_48 => ?_)
  refine g_aload_n C 0 dX8_become_83 rfl rfl ?_
  refine g_aload_n C 1 dX8_become_84 rfl rfl ?_
  refine g_getI C K hLb hkb f_8_32 (v := 0) (by rw [hI_48, u2_j (by decide), hI_47, k2_k (κ := κ) (by rw [hkb, hb_46k]; decide), hI_41, k2_k (κ := κ) (by rw [hkb, hb_40k]; decide), hI_38, k2_k (κ := κ) (by rw [hkb, hb_37k]; decide)]; exact Z8 b hLb hkb 6) dX8_become_85 ?_
  refine h_putI C K hLa hka f_8_32 p_8_6 dX8_become_88 (fun I_49 hI_49 => ?_)
  refine g_aload_n C 0 dX8_become_91 rfl rfl ?_
  refine g_aload_n C 1 dX8_become_92 rfl rfl ?_
  refine g_getI C K hLb hkb f_8_35 (v := 0) (by rw [hI_49, u2_j (by decide), hI_48, u2_j (by decide), hI_47, k2_k (κ := κ) (by rw [hkb, hb_46k]; decide), hI_41, k2_k (κ := κ) (by rw [hkb, hb_40k]; decide), hI_38, k2_k (κ := κ) (by rw [hkb, hb_37k]; decide)]; exact Z8 b hLb hkb 7) dX8_become_93 ?_
  refine h_putI C K hLa hka f_8_35 p_8_7 dX8_become_96 (fun I_50 hI_50 => ?_)
  refine g_aload_n C 0 dX8_become_99 rfl rfl ?_
  refine g_aload_n C 1 dX8_become_100 rfl rfl ?_
  refine g_getI C K hLb hkb f_8_38 (v := 0) (by rw [hI_50, u2_j (by decide), hI_49, u2_j (by decide), hI_48, u2_j (by decide), hI_47, k2_k (κ := κ) (by rw [hkb, hb_46k]; decide), hI_41, k2_k (κ := κ) (by rw [hkb, hb_40k]; decide), hI_38, k2_k (κ := κ) (by rw [hkb, hb_37k]; decide)]; exact Z8 b hLb hkb 8) dX8_become_101 ?_
  refine h_putI C K hLa hka f_8_38 p_8_8 dX8_become_104 (fun I_51 hI_51 => ?_)
  exact g_vret B K rfl (⟨((Fj.rf).k2 hJ_35 hb_34k (by decide)).k2 hJ_44 hb_43k (by decide), (((((((Fk.rf).k2 hI_38 hb_37k (by decide)).k2 hI_41 hb_40k (by decide)).k2 hI_47 hb_46k (by decide)).u2 hI_48 hka (by decide)).u2 hI_49 hka (by decide)).u2 hI_50 hka (by decide)).u2 hI_51 hka (by decide), (((((((Z8).k2k hI_38 hb_37k (by decide)).k2k hI_41 hb_40k (by decide)).k2k hI_47 hb_46k (by decide)).u2 hI_48 rfl).u2 hI_49 rfl).u2 hI_50 rfl).u2 hI_51 rfl⟩) dX8_become_107
set_option maxRecDepth 100000 in
set_option maxHeartbeats 4000000 in
theorem c_Course_become {l : Launch} {D : va_G} {cy : Nat → ClassId} {L : List Nat} {κ ln : Nat → Nat} {R : Nat → Nat → Option Nat} {I : Nat → Nat → Int32} {J : Nat → Nat → Int64} {ow : Nat → Nat × Nat} (W9 : ∀ a ∈ L, Shp L κ ln R ow a) {a : Nat} (hLa : a ∈ L) (hka : κ a = 1) {b : Nat} (hLb : b ∈ L) (hkb : κ b = 1) (Z1 : Zk L κ 1 I) : CtV l yX1_become cX1_become 2 none { frames := 1, cells := 0, slots := 0, locals := 100 } D cy L κ ln R I J [.ref a, .ref b] (fun I2 J2 => J = J2 ∧ Fk κ [1, 14] I I2 ∧ Zk L κ 1 I2) := by
  refine CtV.of (by decide +kernel) (Nat.le_of_ble_eq_true rfl) ?_
  intro p e s m below meth c B K
  have C := B.1
  refine g_lo (is := [0, 1]) (lo2 := [(0, .ref a), (1, .ref b)]) rfl ?_
  refine g_aload_n C 1 dX1_become_0 rfl rfl ?_
  obtain ⟨b_52, hb_52, hb_52L, hb_52k, hb_52n, hb_52o⟩ := shp_a (W9 b hLb) hkb 1 14 6 rfl (by decide)
  refine g_getR C K hLb hkb f_1_9 hb_52 dX1_become_1 ?_
  refine g_iconst C (v := 0) dX1_become_4 (by decide) ?_
  refine g_aload_n C 0 dX1_become_5 rfl rfl ?_
  obtain ⟨b_53, hb_53, hb_53L, hb_53k, hb_53n, hb_53o⟩ := shp_a (W9 a hLa) hka 1 14 6 rfl (by decide)
  refine g_getR C K hLa hka f_1_9 hb_53 dX1_become_6 ?_
  refine g_iconst C (v := 0) dX1_become_9 (by decide) ?_
  refine g_bipush C (v := 6) dX1_become_10 (by decide) ?_
  refine h_copyI C K hb_53L hb_53k hb_52L hb_52k ac_1_56 6 (by decide) (by decide) (by rw [hb_52n]; decide) (by rw [hb_53n]; decide) w_cp (Nat.le_of_ble_eq_true rfl) (Nat.le_of_ble_eq_true rfl) dX1_become_12 (fun I_54 hI_54 => ?_)
  refine g_aload_n C 1 dX1_become_15 rfl rfl ?_
  obtain ⟨b_55, hb_55, hb_55L, hb_55k, hb_55n, hb_55o⟩ := shp_a (W9 b hLb) hkb 2 14 42 rfl (by decide)
  refine g_getR C K hLb hkb f_1_15 hb_55 dX1_become_16 ?_
  refine g_iconst C (v := 0) dX1_become_19 (by decide) ?_
  refine g_aload_n C 0 dX1_become_20 rfl rfl ?_
  obtain ⟨b_56, hb_56, hb_56L, hb_56k, hb_56n, hb_56o⟩ := shp_a (W9 a hLa) hka 2 14 42 rfl (by decide)
  refine g_getR C K hLa hka f_1_15 hb_56 dX1_become_21 ?_
  refine g_iconst C (v := 0) dX1_become_24 (by decide) ?_
  refine g_bipush C (v := 42) dX1_become_25 (by decide) ?_
  refine h_copyI C K hb_56L hb_56k hb_55L hb_55k ac_1_56 42 (by decide) (by decide) (by rw [hb_55n]; decide) (by rw [hb_56n]; decide) w_cp (Nat.le_of_ble_eq_true rfl) (Nat.le_of_ble_eq_true rfl) dX1_become_27 (fun I_57 hI_57 => ?_)
  refine g_aload_n C 1 dX1_become_30 rfl rfl ?_
  obtain ⟨b_58, hb_58, hb_58L, hb_58k, hb_58n, hb_58o⟩ := shp_a (W9 b hLb) hkb 3 14 7 rfl (by decide)
  refine g_getR C K hLb hkb f_1_18 hb_58 dX1_become_31 ?_
  refine g_iconst C (v := 0) dX1_become_34 (by decide) ?_
  refine g_aload_n C 0 dX1_become_35 rfl rfl ?_
  obtain ⟨b_59, hb_59, hb_59L, hb_59k, hb_59n, hb_59o⟩ := shp_a (W9 a hLa) hka 3 14 7 rfl (by decide)
  refine g_getR C K hLa hka f_1_18 hb_59 dX1_become_36 ?_
  refine g_iconst C (v := 0) dX1_become_39 (by decide) ?_
  refine g_bipush C (v := 7) dX1_become_40 (by decide) ?_
  refine h_copyI C K hb_59L hb_59k hb_58L hb_58k ac_1_56 7 (by decide) (by decide) (by rw [hb_58n]; decide) (by rw [hb_59n]; decide) w_cp (Nat.le_of_ble_eq_true rfl) (Nat.le_of_ble_eq_true rfl) dX1_become_42 (fun I_60 hI_60 => ?_)
  refine g_aload_n C 1 dX1_become_45 rfl rfl ?_
  obtain ⟨b_61, hb_61, hb_61L, hb_61k, hb_61n, hb_61o⟩ := shp_a (W9 b hLb) hkb 4 14 7 rfl (by decide)
  refine g_getR C K hLb hkb f_1_21 hb_61 dX1_become_46 ?_
  refine g_iconst C (v := 0) dX1_become_49 (by decide) ?_
  refine g_aload_n C 0 dX1_become_50 rfl rfl ?_
  obtain ⟨b_62, hb_62, hb_62L, hb_62k, hb_62n, hb_62o⟩ := shp_a (W9 a hLa) hka 4 14 7 rfl (by decide)
  refine g_getR C K hLa hka f_1_21 hb_62 dX1_become_51 ?_
  refine g_iconst C (v := 0) dX1_become_54 (by decide) ?_
  refine g_bipush C (v := 7) dX1_become_55 (by decide) ?_
  refine h_copyI C K hb_62L hb_62k hb_61L hb_61k ac_1_56 7 (by decide) (by decide) (by rw [hb_61n]; decide) (by rw [hb_62n]; decide) w_cp (Nat.le_of_ble_eq_true rfl) (Nat.le_of_ble_eq_true rfl) dX1_become_57 (fun I_63 hI_63 => ?_)
  refine g_aload_n C 1 dX1_become_60 rfl rfl ?_
  obtain ⟨b_64, hb_64, hb_64L, hb_64k, hb_64n, hb_64o⟩ := shp_a (W9 b hLb) hkb 5 14 7 rfl (by decide)
  refine g_getR C K hLb hkb f_1_24 hb_64 dX1_become_61 ?_
  refine g_iconst C (v := 0) dX1_become_64 (by decide) ?_
  refine g_aload_n C 0 dX1_become_65 rfl rfl ?_
  obtain ⟨b_65, hb_65, hb_65L, hb_65k, hb_65n, hb_65o⟩ := shp_a (W9 a hLa) hka 5 14 7 rfl (by decide)
  refine g_getR C K hLa hka f_1_24 hb_65 dX1_become_66 ?_
  refine g_iconst C (v := 0) dX1_become_69 (by decide) ?_
  refine g_bipush C (v := 7) dX1_become_70 (by decide) ?_
  refine h_copyI C K hb_65L hb_65k hb_64L hb_64k ac_1_56 7 (by decide) (by decide) (by rw [hb_64n]; decide) (by rw [hb_65n]; decide) w_cp (Nat.le_of_ble_eq_true rfl) (Nat.le_of_ble_eq_true rfl) dX1_become_72 (fun I_66 hI_66 => ?_)
  refine g_aload_n C 1 dX1_become_75 rfl rfl ?_
  obtain ⟨b_67, hb_67, hb_67L, hb_67k, hb_67n, hb_67o⟩ := shp_a (W9 b hLb) hkb 6 14 7 rfl (by decide)
  refine g_getR C K hLb hkb f_1_27 hb_67 dX1_become_76 ?_
  refine g_iconst C (v := 0) dX1_become_79 (by decide) ?_
  refine g_aload_n C 0 dX1_become_80 rfl rfl ?_
  obtain ⟨b_68, hb_68, hb_68L, hb_68k, hb_68n, hb_68o⟩ := shp_a (W9 a hLa) hka 6 14 7 rfl (by decide)
  refine g_getR C K hLa hka f_1_27 hb_68 dX1_become_81 ?_
  refine g_iconst C (v := 0) dX1_become_84 (by decide) ?_
  refine g_bipush C (v := 7) dX1_become_85 (by decide) ?_
  refine h_copyI C K hb_68L hb_68k hb_67L hb_67k ac_1_56 7 (by decide) (by decide) (by rw [hb_67n]; decide) (by rw [hb_68n]; decide) w_cp (Nat.le_of_ble_eq_true rfl) (Nat.le_of_ble_eq_true rfl) dX1_become_87 (fun I_69 hI_69 => ?_)
  refine g_aload_n C 0 dX1_become_90 rfl rfl ?_
  refine g_aload_n C 1 dX1_become_91 rfl rfl ?_
  refine g_getI C K hLb hkb f_1_30 (v := 0) (by rw [hI_69, k2_k (κ := κ) (by rw [hkb, hb_68k]; decide), hI_66, k2_k (κ := κ) (by rw [hkb, hb_65k]; decide), hI_63, k2_k (κ := κ) (by rw [hkb, hb_62k]; decide), hI_60, k2_k (κ := κ) (by rw [hkb, hb_59k]; decide), hI_57, k2_k (κ := κ) (by rw [hkb, hb_56k]; decide), hI_54, k2_k (κ := κ) (by rw [hkb, hb_53k]; decide)]; exact Z1 b hLb hkb 7) dX1_become_92 ?_
  refine h_putI C K hLa hka f_1_30 p_1_7 dX1_become_95 (fun I_70 hI_70 => ?_)
  refine g_aload_n C 0 dX1_become_98 rfl rfl ?_
  refine g_aload_n C 1 dX1_become_99 rfl rfl ?_
  refine g_getI C K hLb hkb f_1_34 (v := 0) (by rw [hI_70, u2_j (by decide), hI_69, k2_k (κ := κ) (by rw [hkb, hb_68k]; decide), hI_66, k2_k (κ := κ) (by rw [hkb, hb_65k]; decide), hI_63, k2_k (κ := κ) (by rw [hkb, hb_62k]; decide), hI_60, k2_k (κ := κ) (by rw [hkb, hb_59k]; decide), hI_57, k2_k (κ := κ) (by rw [hkb, hb_56k]; decide), hI_54, k2_k (κ := κ) (by rw [hkb, hb_53k]; decide)]; exact Z1 b hLb hkb 8) dX1_become_100 ?_
  refine h_putI C K hLa hka f_1_34 p_1_8 dX1_become_103 (fun I_71 hI_71 => ?_)
  refine g_aload_n C 0 dX1_become_106 rfl rfl ?_
  refine g_aload_n C 1 dX1_become_107 rfl rfl ?_
  refine g_getI C K hLb hkb f_1_37 (v := 0) (by rw [hI_71, u2_j (by decide), hI_70, u2_j (by decide), hI_69, k2_k (κ := κ) (by rw [hkb, hb_68k]; decide), hI_66, k2_k (κ := κ) (by rw [hkb, hb_65k]; decide), hI_63, k2_k (κ := κ) (by rw [hkb, hb_62k]; decide), hI_60, k2_k (κ := κ) (by rw [hkb, hb_59k]; decide), hI_57, k2_k (κ := κ) (by rw [hkb, hb_56k]; decide), hI_54, k2_k (κ := κ) (by rw [hkb, hb_53k]; decide)]; exact Z1 b hLb hkb 9) dX1_become_108 ?_
  refine h_putI C K hLa hka f_1_37 p_1_9 dX1_become_111 (fun I_72 hI_72 => ?_)
  refine g_aload_n C 0 dX1_become_114 rfl rfl ?_
  refine g_aload_n C 1 dX1_become_115 rfl rfl ?_
  refine g_getI C K hLb hkb f_1_40 (v := 0) (by rw [hI_72, u2_j (by decide), hI_71, u2_j (by decide), hI_70, u2_j (by decide), hI_69, k2_k (κ := κ) (by rw [hkb, hb_68k]; decide), hI_66, k2_k (κ := κ) (by rw [hkb, hb_65k]; decide), hI_63, k2_k (κ := κ) (by rw [hkb, hb_62k]; decide), hI_60, k2_k (κ := κ) (by rw [hkb, hb_59k]; decide), hI_57, k2_k (κ := κ) (by rw [hkb, hb_56k]; decide), hI_54, k2_k (κ := κ) (by rw [hkb, hb_53k]; decide)]; exact Z1 b hLb hkb 10) dX1_become_116 ?_
  refine h_putI C K hLa hka f_1_40 p_1_10 dX1_become_119 (fun I_73 hI_73 => ?_)
  refine g_aload_n C 0 dX1_become_122 rfl rfl ?_
  refine g_aload_n C 1 dX1_become_123 rfl rfl ?_
  refine g_getI C K hLb hkb f_1_43 (v := 0) (by rw [hI_73, u2_j (by decide), hI_72, u2_j (by decide), hI_71, u2_j (by decide), hI_70, u2_j (by decide), hI_69, k2_k (κ := κ) (by rw [hkb, hb_68k]; decide), hI_66, k2_k (κ := κ) (by rw [hkb, hb_65k]; decide), hI_63, k2_k (κ := κ) (by rw [hkb, hb_62k]; decide), hI_60, k2_k (κ := κ) (by rw [hkb, hb_59k]; decide), hI_57, k2_k (κ := κ) (by rw [hkb, hb_56k]; decide), hI_54, k2_k (κ := κ) (by rw [hkb, hb_53k]; decide)]; exact Z1 b hLb hkb 11) dX1_become_124 ?_
  refine h_putI C K hLa hka f_1_43 p_1_11 dX1_become_127 (fun I_74 hI_74 => ?_)
  refine g_aload_n C 0 dX1_become_130 rfl rfl ?_
  refine g_aload_n C 1 dX1_become_131 rfl rfl ?_
  refine g_getI C K hLb hkb f_1_46 (v := 0) (by rw [hI_74, u2_j (by decide), hI_73, u2_j (by decide), hI_72, u2_j (by decide), hI_71, u2_j (by decide), hI_70, u2_j (by decide), hI_69, k2_k (κ := κ) (by rw [hkb, hb_68k]; decide), hI_66, k2_k (κ := κ) (by rw [hkb, hb_65k]; decide), hI_63, k2_k (κ := κ) (by rw [hkb, hb_62k]; decide), hI_60, k2_k (κ := κ) (by rw [hkb, hb_59k]; decide), hI_57, k2_k (κ := κ) (by rw [hkb, hb_56k]; decide), hI_54, k2_k (κ := κ) (by rw [hkb, hb_53k]; decide)]; exact Z1 b hLb hkb 12) dX1_become_132 ?_
  refine h_putI C K hLa hka f_1_46 p_1_12 dX1_become_135 (fun I_75 hI_75 => ?_)
  exact g_vret B K rfl (⟨rfl, ((((((((((((Fk.rf).k2 hI_54 hb_53k (by decide)).k2 hI_57 hb_56k (by decide)).k2 hI_60 hb_59k (by decide)).k2 hI_63 hb_62k (by decide)).k2 hI_66 hb_65k (by decide)).k2 hI_69 hb_68k (by decide)).u2 hI_70 hka (by decide)).u2 hI_71 hka (by decide)).u2 hI_72 hka (by decide)).u2 hI_73 hka (by decide)).u2 hI_74 hka (by decide)).u2 hI_75 hka (by decide), ((((((((((((Z1).k2k hI_54 hb_53k (by decide)).k2k hI_57 hb_56k (by decide)).k2k hI_60 hb_59k (by decide)).k2k hI_63 hb_62k (by decide)).k2k hI_66 hb_65k (by decide)).k2k hI_69 hb_68k (by decide)).u2 hI_70 rfl).u2 hI_71 rfl).u2 hI_72 rfl).u2 hI_73 rfl).u2 hI_74 rfl).u2 hI_75 rfl⟩) dX1_become_138
set_option maxRecDepth 100000 in
set_option maxHeartbeats 4000000 in
theorem c_Course_forget {l : Launch} {D : va_G} {cy : Nat → ClassId} {L : List Nat} {κ ln : Nat → Nat} {R : Nat → Nat → Option Nat} {I : Nat → Nat → Int32} {J : Nat → Nat → Int64} {ow : Nat → Nat × Nat} (W9 : ∀ a ∈ L, Shp L κ ln R ow a) {a : Nat} (hLa : a ∈ L) (hka : κ a = 1) (Z1 : Zk L κ 1 I) : CtV l yX1_forget cX1_forget 2 none { frames := 0, cells := 0, slots := 0, locals := 0 } D cy L κ ln R I J [.ref a] (fun I2 J2 => J = J2 ∧ Fk κ [1, 14] I I2 ∧ Zk L κ 1 I2) := by
  refine CtV.of (by decide +kernel) (Nat.le_of_ble_eq_true rfl) ?_
  intro p e s m below meth c B K
  have C := B.1
  refine g_lo (is := [0]) (lo2 := [(0, .ref a)]) rfl ?_
  refine g_iconst C (v := 0) dX1_forget_0 (by decide) ?_
  refine g_istore_n C dX1_forget_1 rfl (by decide) (lo2 := [(1, .int 0), (0, .ref a)]) rfl ?_
  have lp_83 : ∀ (n_79 i_78 : Nat) (I_76 : Nat → Nat → Int32) (J_77 : Nat → Nat → Int64), i_78 + n_79 = 6 → J = J_77 → Fk κ [14] I I_76 → WG p l e { frames := 0, cells := 0, slots := 0, locals := 0 } s m ([.ref a] : List Value).toArray below meth c 2 0 0 (MQ below (Qv_ D cy L κ ln R (fun I2 J2 => J = J2 ∧ Fk κ [1, 14] I I2 ∧ Zk L κ 1 I2)) ([.ref a] : List Value).toArray s 0 0 (Al_ L)) D cy (Al_ L) s.heap L κ ln R I_76 J_77 2 [(1, .int (nI i_78)), (0, .ref a)] [] := by
    intro n_79
    induction n_79 with
    | zero =>
      intro i_78 I_76 J_77 hi_82 e9 F_80
      subst e9
      refine g_iload_n C 0 dX1_forget_2 rfl rfl ?_
      refine g_bipush C (v := 6) dX1_forget_3 (by decide) ?_
      refine t_icmp_ge C (tgt := 21) (lt_ge (n := i_78) (k := 6) (by omega) (by omega)) dX1_forget_5 (by decide) ?_
      refine g_iconst C (v := 0) dX1_forget_21 (by decide) ?_
      refine g_istore_n C dX1_forget_22 rfl (by decide) (lo2 := [(1, .int 0), (0, .ref a)]) rfl ?_
      have lp_91 : ∀ (n_87 i_86 : Nat) (I_84 : Nat → Nat → Int32) (J_85 : Nat → Nat → Int64), i_86 + n_87 = 42 → J = J_85 → Fk κ [14] I_76 I_84 → WG p l e { frames := 0, cells := 0, slots := 0, locals := 0 } s m ([.ref a] : List Value).toArray below meth c 2 0 0 (MQ below (Qv_ D cy L κ ln R (fun I2 J2 => J = J2 ∧ Fk κ [1, 14] I I2 ∧ Zk L κ 1 I2)) ([.ref a] : List Value).toArray s 0 0 (Al_ L)) D cy (Al_ L) s.heap L κ ln R I_84 J_85 23 [(1, .int (nI i_86)), (0, .ref a)] [] := by
        intro n_87
        induction n_87 with
        | zero =>
          intro i_86 I_84 J_85 hi_90 e9 F_88
          subst e9
          refine g_iload_n C 0 dX1_forget_23 rfl rfl ?_
          refine g_bipush C (v := 42) dX1_forget_24 (by decide) ?_
          refine t_icmp_ge C (tgt := 42) (lt_ge (n := i_86) (k := 42) (by omega) (by omega)) dX1_forget_26 (by decide) ?_
          refine g_iconst C (v := 0) dX1_forget_42 (by decide) ?_
          refine g_istore_n C dX1_forget_43 rfl (by decide) (lo2 := [(1, .int 0), (0, .ref a)]) rfl ?_
          have lp_99 : ∀ (n_95 i_94 : Nat) (I_92 : Nat → Nat → Int32) (J_93 : Nat → Nat → Int64), i_94 + n_95 = 7 → J = J_93 → Fk κ [14] I_84 I_92 → WG p l e { frames := 0, cells := 0, slots := 0, locals := 0 } s m ([.ref a] : List Value).toArray below meth c 2 0 0 (MQ below (Qv_ D cy L κ ln R (fun I2 J2 => J = J2 ∧ Fk κ [1, 14] I I2 ∧ Zk L κ 1 I2)) ([.ref a] : List Value).toArray s 0 0 (Al_ L)) D cy (Al_ L) s.heap L κ ln R I_92 J_93 44 [(1, .int (nI i_94)), (0, .ref a)] [] := by
            intro n_95
            induction n_95 with
            | zero =>
              intro i_94 I_92 J_93 hi_98 e9 F_96
              subst e9
              refine g_iload_n C 0 dX1_forget_44 rfl rfl ?_
              refine g_bipush C (v := 7) dX1_forget_45 (by decide) ?_
              refine t_icmp_ge C (tgt := 84) (lt_ge (n := i_94) (k := 7) (by omega) (by omega)) dX1_forget_47 (by decide) ?_
              refine g_aload_n C 1 dX1_forget_84 rfl rfl ?_
              refine g_iconst C (v := 0) dX1_forget_85 (by decide) ?_
              refine h_putI C K hLa hka f_1_30 p_1_7 dX1_forget_86 (fun I_100 hI_100 => ?_)
              refine g_aload_n C 1 dX1_forget_89 rfl rfl ?_
              refine g_iconst C (v := 0) dX1_forget_90 (by decide) ?_
              refine h_putI C K hLa hka f_1_34 p_1_8 dX1_forget_91 (fun I_101 hI_101 => ?_)
              refine g_aload_n C 1 dX1_forget_94 rfl rfl ?_
              refine g_iconst C (v := 0) dX1_forget_95 (by decide) ?_
              refine h_putI C K hLa hka f_1_37 p_1_9 dX1_forget_96 (fun I_102 hI_102 => ?_)
              refine g_aload_n C 1 dX1_forget_99 rfl rfl ?_
              refine g_iconst C (v := 0) dX1_forget_100 (by decide) ?_
              refine h_putI C K hLa hka f_1_40 p_1_10 dX1_forget_101 (fun I_103 hI_103 => ?_)
              refine g_aload_n C 1 dX1_forget_104 rfl rfl ?_
              refine g_iconst C (v := 0) dX1_forget_105 (by decide) ?_
              refine h_putI C K hLa hka f_1_43 p_1_11 dX1_forget_106 (fun I_104 hI_104 => ?_)
              refine g_aload_n C 1 dX1_forget_109 rfl rfl ?_
              refine g_iconst C (v := 0) dX1_forget_110 (by decide) ?_
              refine h_putI C K hLa hka f_1_46 p_1_12 dX1_forget_111 (fun I_105 hI_105 => ?_)
              exact g_vret B K rfl (⟨rfl, (((((((((Fk.rf).tr F_80 (by decide)).tr F_88 (by decide)).tr F_96 (by decide)).u2 hI_100 hka (by decide)).u2 hI_101 hka (by decide)).u2 hI_102 hka (by decide)).u2 hI_103 hka (by decide)).u2 hI_104 hka (by decide)).u2 hI_105 hka (by decide), (((((((((Z1).fk F_80 (by decide)).fk F_88 (by decide)).fk F_96 (by decide)).u2 hI_100 rfl).u2 hI_101 rfl).u2 hI_102 rfl).u2 hI_103 rfl).u2 hI_104 rfl).u2 hI_105 rfl⟩) dX1_forget_114
            | succ n_95 ihn_95 =>
              intro i_94 I_92 J_93 hi_98 e9 F_96
              subst e9
              refine g_iload_n C 0 dX1_forget_44 rfl rfl ?_
              refine g_bipush C (v := 7) dX1_forget_45 (by decide) ?_
              refine n_icmp_ge C (tgt := 84) (ln_ge (n := i_94) (k := 7) (by omega) (by omega)) dX1_forget_47 (by decide) ?_
              refine g_aload_n C 1 dX1_forget_50 rfl rfl ?_
              obtain ⟨b_106, hb_106, hb_106L, hb_106k, hb_106n, hb_106o⟩ := shp_a (W9 a hLa) hka 3 14 7 rfl (by decide)
              refine g_getR C K hLa hka f_1_18 hb_106 dX1_forget_51 ?_
              refine g_iload_n C 0 dX1_forget_54 rfl rfl ?_
              refine g_iconst C (v := 0) dX1_forget_55 (by decide) ?_
              refine h_iast C K hb_106L hb_106k (i_94) (nI_clamp (by omega)) (nI_pos (by omega)) (by rw [hb_106n]; omega) dX1_forget_56 (fun I_107 hI_107 => ?_)
              refine g_aload_n C 1 dX1_forget_57 rfl rfl ?_
              obtain ⟨b_108, hb_108, hb_108L, hb_108k, hb_108n, hb_108o⟩ := shp_a (W9 a hLa) hka 4 14 7 rfl (by decide)
              refine g_getR C K hLa hka f_1_21 hb_108 dX1_forget_58 ?_
              refine g_iload_n C 0 dX1_forget_61 rfl rfl ?_
              refine g_iconst C (v := 0) dX1_forget_62 (by decide) ?_
              refine h_iast C K hb_108L hb_108k (i_94) (nI_clamp (by omega)) (nI_pos (by omega)) (by rw [hb_108n]; omega) dX1_forget_63 (fun I_109 hI_109 => ?_)
              refine g_aload_n C 1 dX1_forget_64 rfl rfl ?_
              obtain ⟨b_110, hb_110, hb_110L, hb_110k, hb_110n, hb_110o⟩ := shp_a (W9 a hLa) hka 5 14 7 rfl (by decide)
              refine g_getR C K hLa hka f_1_24 hb_110 dX1_forget_65 ?_
              refine g_iload_n C 0 dX1_forget_68 rfl rfl ?_
              refine g_iconst C (v := 0) dX1_forget_69 (by decide) ?_
              refine h_iast C K hb_110L hb_110k (i_94) (nI_clamp (by omega)) (nI_pos (by omega)) (by rw [hb_110n]; omega) dX1_forget_70 (fun I_111 hI_111 => ?_)
              refine g_aload_n C 1 dX1_forget_71 rfl rfl ?_
              obtain ⟨b_112, hb_112, hb_112L, hb_112k, hb_112n, hb_112o⟩ := shp_a (W9 a hLa) hka 6 14 7 rfl (by decide)
              refine g_getR C K hLa hka f_1_27 hb_112 dX1_forget_72 ?_
              refine g_iload_n C 0 dX1_forget_75 rfl rfl ?_
              refine g_iconst C (v := 0) dX1_forget_76 (by decide) ?_
              refine h_iast C K hb_112L hb_112k (i_94) (nI_clamp (by omega)) (nI_pos (by omega)) (by rw [hb_112n]; omega) dX1_forget_77 (fun I_113 hI_113 => ?_)
              refine g_iinc C dX1_forget_78 (k := 0) (v := nI (i_94 + 1)) rfl (nI_1 (i_94)) (by decide) (lo2 := [(1, .int (nI (i_94 + 1))), (0, .ref a)]) rfl ?_
              refine g_goto C (tgt := 44) dX1_forget_81 (by decide) ?_
              refine g_lo (is := [0, 1]) (lo2 := [(1, .int (nI (i_94 + 1))), (0, .ref a)]) rfl ?_
              exact ihn_95 (i_94 + 1) I_113 J (by omega) rfl (((((F_96).u2 hI_107 hb_106k (by decide)).u2 hI_109 hb_108k (by decide)).u2 hI_111 hb_110k (by decide)).u2 hI_113 hb_112k (by decide))
          exact lp_99 (7 - 0) 0 I_84 J (by omega) rfl Fk.rf
        | succ n_87 ihn_87 =>
          intro i_86 I_84 J_85 hi_90 e9 F_88
          subst e9
          refine g_iload_n C 0 dX1_forget_23 rfl rfl ?_
          refine g_bipush C (v := 42) dX1_forget_24 (by decide) ?_
          refine n_icmp_ge C (tgt := 42) (ln_ge (n := i_86) (k := 42) (by omega) (by omega)) dX1_forget_26 (by decide) ?_
          refine g_aload_n C 1 dX1_forget_29 rfl rfl ?_
          obtain ⟨b_114, hb_114, hb_114L, hb_114k, hb_114n, hb_114o⟩ := shp_a (W9 a hLa) hka 2 14 42 rfl (by decide)
          refine g_getR C K hLa hka f_1_15 hb_114 dX1_forget_30 ?_
          refine g_iload_n C 0 dX1_forget_33 rfl rfl ?_
          refine g_iconst C (v := 0) dX1_forget_34 (by decide) ?_
          refine h_iast C K hb_114L hb_114k (i_86) (nI_clamp (by omega)) (nI_pos (by omega)) (by rw [hb_114n]; omega) dX1_forget_35 (fun I_115 hI_115 => ?_)
          refine g_iinc C dX1_forget_36 (k := 0) (v := nI (i_86 + 1)) rfl (nI_1 (i_86)) (by decide) (lo2 := [(1, .int (nI (i_86 + 1))), (0, .ref a)]) rfl ?_
          refine g_goto C (tgt := 23) dX1_forget_39 (by decide) ?_
          refine g_lo (is := [0, 1]) (lo2 := [(1, .int (nI (i_86 + 1))), (0, .ref a)]) rfl ?_
          exact ihn_87 (i_86 + 1) I_115 J (by omega) rfl ((F_88).u2 hI_115 hb_114k (by decide))
      exact lp_91 (42 - 0) 0 I_76 J (by omega) rfl Fk.rf
    | succ n_79 ihn_79 =>
      intro i_78 I_76 J_77 hi_82 e9 F_80
      subst e9
      refine g_iload_n C 0 dX1_forget_2 rfl rfl ?_
      refine g_bipush C (v := 6) dX1_forget_3 (by decide) ?_
      refine n_icmp_ge C (tgt := 21) (ln_ge (n := i_78) (k := 6) (by omega) (by omega)) dX1_forget_5 (by decide) ?_
      refine g_aload_n C 1 dX1_forget_8 rfl rfl ?_
      obtain ⟨b_116, hb_116, hb_116L, hb_116k, hb_116n, hb_116o⟩ := shp_a (W9 a hLa) hka 1 14 6 rfl (by decide)
      refine g_getR C K hLa hka f_1_9 hb_116 dX1_forget_9 ?_
      refine g_iload_n C 0 dX1_forget_12 rfl rfl ?_
      refine g_iconst C (v := 0) dX1_forget_13 (by decide) ?_
      refine h_iast C K hb_116L hb_116k (i_78) (nI_clamp (by omega)) (nI_pos (by omega)) (by rw [hb_116n]; omega) dX1_forget_14 (fun I_117 hI_117 => ?_)
      refine g_iinc C dX1_forget_15 (k := 0) (v := nI (i_78 + 1)) rfl (nI_1 (i_78)) (by decide) (lo2 := [(1, .int (nI (i_78 + 1))), (0, .ref a)]) rfl ?_
      refine g_goto C (tgt := 2) dX1_forget_18 (by decide) ?_
      refine g_lo (is := [0, 1]) (lo2 := [(1, .int (nI (i_78 + 1))), (0, .ref a)]) rfl ?_
      exact ihn_79 (i_78 + 1) I_117 J (by omega) rfl ((F_80).u2 hI_117 hb_116k (by decide))
  exact lp_83 (6 - 0) 0 I J (by omega) rfl Fk.rf
